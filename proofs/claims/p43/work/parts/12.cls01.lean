def f_X4_isRopeCut_0 (S : Mem) (d0_0 : Nat) (x1 : Int32) (x2 : Int32) : Option (Int32) := ck (inb ((x1 * (5 : Int32)) + x2) 25) (ck (isb (S d0_0 (8 + (((x1 * (5 : Int32)) + x2)).toNatClampNeg))) (some (S d0_0 (8 + (((x1 * (5 : Int32)) + x2)).toNatClampNeg))))
def g_X4_isRopeCut (S : Mem) (d0_0 : Nat) (x1 : Int32) (x2 : Int32) : Option (Int32) := f_X4_isRopeCut_0 S d0_0 x1 x2
set_option maxHeartbeats 4000000 in
set_option maxRecDepth 100000 in
theorem b_X4_isRopeCut_0 {v : EV} {p : Program} {l : Launch} {e : Env} {s : State} {m : MethodId} {args : Array Value} {below : List Frame} {meth : Method} {c : Code} (hC : Cx v p l e s m args meth c RX4 cX4_isRopeCut 3 (some .boolean)) {S : Mem} {d0_0 : Nat} {x1 : Int32} {x2 : Int32} (h0 : d0_0 < 11) {r : Int32} (hf : f_X4_isRopeCut_0 S d0_0 x1 x2 = some r) : Mj v p l e (rmF 1 12) s m args below meth c 3 (MQ below (Qc v (some (.int r)) S) args s 0 0 (eG v)) 0 S 0 [(0, .ref (eA v (pR d0_0))), (1, .int x1), (2, .int x2)] [] := by
  refine i_aload_n hC dX4_isRopeCut_0 rfl ?_
  refine i_getR hC fl_X4_17 (pl_R h0) (lay_R h0) rfl dX4_isRopeCut_1 ?_
  refine i_iload_n hC dX4_isRopeCut_4 rfl ?_
  refine i_iconst hC dX4_isRopeCut_5 li_5 ?_
  refine i_imul hC dX4_isRopeCut_6 ?_
  refine i_iload_n hC dX4_isRopeCut_7 rfl ?_
  refine i_iadd hC dX4_isRopeCut_8 ?_
  obtain ⟨k1, hf⟩ := ck_of hf
  refine i_zald hC (j0 := (8 + (((x1 * (5 : Int32)) + x2)).toNatClampNeg)) (pl_AZ h0) (lay_AZ h0) (inb_in k1) rfl dX4_isRopeCut_9 ?_
  obtain ⟨k2, hf⟩ := ck_of hf
  obtain rfl := Option.some.inj hf
  exact i_zret hC dX4_isRopeCut_10 (isb_z k2).1
theorem c_X4_isRopeCut {v : EV} {l : Launch} (hst : Stb v) {S : Mem} {d0_0 : Nat} {x1 x2 : Int32} (h0 : d0_0 < 11) {r : Int32} (hf : g_X4_isRopeCut S d0_0 x1 x2 = some r) : Con v l yX4_isRopeCut cX4_isRopeCut 3 (some .boolean) 1 12 [.ref (eA v (pR d0_0)), .int x1, .int x2] S (some (.int r)) S := con_of (by decide) hst (Nat.le_of_ble_eq_true rfl) (fun p e s m args below meth c hC => b_X4_isRopeCut_0 hC h0 hf)
def f_X4_letVote_62 (S : Mem)  : Option (Int32 × Mem) := some ((0 : Int32), S)
def f_X4_letVote_47 (S : Mem) (d0_0 : Nat) (d1_0 : Nat) (d1_1 : Nat) (x2 : Int32) (d3_0 : Nat) (d3_1 : Nat) (xt0 : Int32) : Option (Int32 × Mem) := (if xt0 = 0 then f_X4_letVote_62 S else bd1 (g_X2_hasLongerTaleThan S d1_0 d1_1 d3_0 d3_1) (fun r5 => (if r5 = 0 then some ((1 : Int32), (up (up (up S d1_0 (33 + 34 * d1_1 + 4) x2) d1_0 (33 + 34 * d1_1 + 3) (0 : Int32)) d0_0 7 (((up (up S d1_0 (33 + 34 * d1_1 + 4) x2) d1_0 (33 + 34 * d1_1 + 3) (0 : Int32)) d0_0 7) + (1 : Int32)))) else f_X4_letVote_62 S)))
def f_X4_letVote_42 (S : Mem) (d0_0 : Nat) (d1_0 : Nat) (d1_1 : Nat) (x2 : Int32) (d3_0 : Nat) (d3_1 : Nat) : Option (Int32 × Mem) := f_X4_letVote_47 S d0_0 d1_0 d1_1 x2 d3_0 d3_1 (1 : Int32)
def f_X4_letVote_26 (S : Mem) (d0_0 : Nat) (d1_0 : Nat) (d1_1 : Nat) (x2 : Int32) (d3_0 : Nat) (d3_1 : Nat) : Option (Int32 × Mem) := (if (S d1_0 (33 + 34 * d1_1 + 4)) = (-1 : Int32) then f_X4_letVote_42 S d0_0 d1_0 d1_1 x2 d3_0 d3_1 else (if (S d1_0 (33 + 34 * d1_1 + 4)) = x2 then f_X4_letVote_42 S d0_0 d1_0 d1_1 x2 d3_0 d3_1 else f_X4_letVote_47 S d0_0 d1_0 d1_1 x2 d3_0 d3_1 (0 : Int32)))
def f_X4_letVote_0 (S : Mem) (d0_0 : Nat) (d1_0 : Nat) (d1_1 : Nat) (x2 : Int32) : Option (Int32 × Mem) := ck (inb x2 5) ((if (S d0_0 (33 + 34 * (x2).toNatClampNeg + 1)) ≤ (S d1_0 (33 + 34 * d1_1 + 1)) then f_X4_letVote_26 S d0_0 d1_0 d1_1 x2 d0_0 (x2).toNatClampNeg else bd1 (g_X2_takeOver S d1_0 d1_1 (S d0_0 (33 + 34 * (x2).toNatClampNeg + 1))) (fun S8 => f_X4_letVote_26 S8 d0_0 d1_0 d1_1 x2 d0_0 (x2).toNatClampNeg)))
def g_X4_letVote (S : Mem) (d0_0 : Nat) (d1_0 : Nat) (d1_1 : Nat) (x2 : Int32) : Option (Int32 × Mem) := f_X4_letVote_0 S d0_0 d1_0 d1_1 x2
set_option maxHeartbeats 4000000 in
set_option maxRecDepth 100000 in
theorem b_X4_letVote_62 {v : EV} {p : Program} {l : Launch} {e : Env} {s : State} {m : MethodId} {args : Array Value} {below : List Frame} {meth : Method} {c : Code} (hC : Cx v p l e s m args meth c RX4 cX4_letVote 5 (some .int)) {S : Mem}  {r : Int32 × Mem} (hf : f_X4_letVote_62 S = some r) : Mj v p l e (rmF 2 35) s m args below meth c 5 (MQ below (Qc v (some (.int r.1)) r.2) args s 0 0 (eG v)) 0 S 62 [] [] := by
  refine i_iconst hC dX4_letVote_62 li_0 ?_
  obtain rfl := Option.some.inj hf
  exact i_iret hC dX4_letVote_63
set_option maxHeartbeats 4000000 in
set_option maxRecDepth 100000 in
theorem b_X4_letVote_47 {v : EV} {p : Program} {l : Launch} {e : Env} {s : State} {m : MethodId} {args : Array Value} {below : List Frame} {meth : Method} {c : Code} (hC : Cx v p l e s m args meth c RX4 cX4_letVote 5 (some .int)) {S : Mem} {d0_0 : Nat} {d1_0 : Nat} {d1_1 : Nat} {x2 : Int32} {d3_0 : Nat} {d3_1 : Nat} {xt0 : Int32} (h0 : d0_0 < 11) (h1 : d1_0 < 11 ∧ d1_1 < 5) (h3 : d3_0 < 11 ∧ d3_1 < 5) {r : Int32 × Mem} (hf : f_X4_letVote_47 S d0_0 d1_0 d1_1 x2 d3_0 d3_1 xt0 = some r) : Mj v p l e (rmF 2 35) s m args below meth c 5 (MQ below (Qc v (some (.int r.1)) r.2) args s 0 0 (eG v)) 0 S 47 [(0, .ref (eA v (pR d0_0))), (1, .ref (eA v (pD d1_0 d1_1))), (2, .int x2), (3, .ref (eA v (pD d3_0 d3_1)))] [.int xt0] := by
  refine i_istore hC dX4_letVote_47 (by decide) ?_
  refine i_iload hC dX4_letVote_49 rfl ?_
  refine i_if_eq hC (tgt := 62) dX4_letVote_51 (by decide) (fun c4 => ?_) (fun c4 => ?_)
  · replace hf := (if_pos c4).symm.trans hf
    exact Mj.to (b_X4_letVote_62 hC  hf) trivial
  · replace hf := (if_neg c4).symm.trans hf
    refine i_aload_n hC dX4_letVote_54 rfl ?_
    refine i_aload_n hC dX4_letVote_55 rfl ?_
    obtain ⟨r5, hc5, hf⟩ := bd1_of hf
    refine i_callVi hC mv_X4_105 (c_X2_hasLongerTaleThan hC.2.2.2.2.2.2.2.1 h1 h3 hc5) (pl_D h1) (lay_D h1) rfl rfl rfl rfl ⟨Nat.le_of_ble_eq_true rfl, Nat.le_of_ble_eq_true rfl⟩ (Nat.le_of_ble_eq_true rfl) dX4_letVote_56 ?_
    refine i_if_eq hC (tgt := 64) dX4_letVote_59 (by decide) (fun c6 => ?_) (fun c6 => ?_)
    · replace hf := (if_pos c6).symm.trans hf
      refine i_aload_n hC dX4_letVote_64 rfl ?_
      refine i_iload_n hC dX4_letVote_65 rfl ?_
      refine i_putI hC fl_X4_96 (pl_D h1) (lay_D h1) rfl (bk_k (h1).1) (nf_int _) dX4_letVote_66 ?_
      refine i_aload_n hC dX4_letVote_69 rfl ?_
      refine i_iconst hC dX4_letVote_70 li_0 ?_
      refine i_putI hC fl_X4_99 (pl_D h1) (lay_D h1) rfl (bk_k (h1).1) (nf_int _) dX4_letVote_71 ?_
      refine i_aload_n hC dX4_letVote_74 rfl ?_
      refine i_dup hC dX4_letVote_75 rfl ?_
      refine i_getI hC fl_X4_44 (pl_R h0) (lay_R h0) rfl dX4_letVote_76 ?_
      refine i_iconst hC dX4_letVote_79 li_1 ?_
      refine i_iadd hC dX4_letVote_80 ?_
      refine i_putI hC fl_X4_44 (pl_R h0) (lay_R h0) rfl (bk_k h0) (nf_int _) dX4_letVote_81 ?_
      refine i_iconst hC dX4_letVote_84 li_1 ?_
      obtain rfl := Option.some.inj hf
      exact i_iret hC dX4_letVote_85
    · replace hf := (if_neg c6).symm.trans hf
      exact Mj.to (b_X4_letVote_62 hC  hf) trivial
set_option maxHeartbeats 4000000 in
set_option maxRecDepth 100000 in
theorem b_X4_letVote_42 {v : EV} {p : Program} {l : Launch} {e : Env} {s : State} {m : MethodId} {args : Array Value} {below : List Frame} {meth : Method} {c : Code} (hC : Cx v p l e s m args meth c RX4 cX4_letVote 5 (some .int)) {S : Mem} {d0_0 : Nat} {d1_0 : Nat} {d1_1 : Nat} {x2 : Int32} {d3_0 : Nat} {d3_1 : Nat} (h0 : d0_0 < 11) (h1 : d1_0 < 11 ∧ d1_1 < 5) (h3 : d3_0 < 11 ∧ d3_1 < 5) {r : Int32 × Mem} (hf : f_X4_letVote_42 S d0_0 d1_0 d1_1 x2 d3_0 d3_1 = some r) : Mj v p l e (rmF 2 35) s m args below meth c 5 (MQ below (Qc v (some (.int r.1)) r.2) args s 0 0 (eG v)) 0 S 42 [(0, .ref (eA v (pR d0_0))), (1, .ref (eA v (pD d1_0 d1_1))), (2, .int x2), (3, .ref (eA v (pD d3_0 d3_1)))] [] := by
  refine i_iconst hC dX4_letVote_42 li_1 ?_
  refine i_goto hC (tgt := 47) dX4_letVote_43 (by decide) ?_
  exact Mj.to (b_X4_letVote_47 hC h0 h1 h3 hf) ⟨rfl, rfl, rfl, rfl, trivial⟩
set_option maxHeartbeats 4000000 in
set_option maxRecDepth 100000 in
theorem b_X4_letVote_26 {v : EV} {p : Program} {l : Launch} {e : Env} {s : State} {m : MethodId} {args : Array Value} {below : List Frame} {meth : Method} {c : Code} (hC : Cx v p l e s m args meth c RX4 cX4_letVote 5 (some .int)) {S : Mem} {d0_0 : Nat} {d1_0 : Nat} {d1_1 : Nat} {x2 : Int32} {d3_0 : Nat} {d3_1 : Nat} (h0 : d0_0 < 11) (h1 : d1_0 < 11 ∧ d1_1 < 5) (h3 : d3_0 < 11 ∧ d3_1 < 5) {r : Int32 × Mem} (hf : f_X4_letVote_26 S d0_0 d1_0 d1_1 x2 d3_0 d3_1 = some r) : Mj v p l e (rmF 2 35) s m args below meth c 5 (MQ below (Qc v (some (.int r.1)) r.2) args s 0 0 (eG v)) 0 S 26 [(0, .ref (eA v (pR d0_0))), (1, .ref (eA v (pD d1_0 d1_1))), (2, .int x2), (3, .ref (eA v (pD d3_0 d3_1)))] [] := by
  refine i_aload_n hC dX4_letVote_26 rfl ?_
  refine i_getI hC fl_X4_96 (pl_D h1) (lay_D h1) rfl dX4_letVote_27 ?_
  refine i_iconst hC dX4_letVote_30 li_m1 ?_
  refine i_icmp_eq hC (tgt := 42) dX4_letVote_31 (by decide) (fun c3 => ?_) (fun c3 => ?_)
  · replace hf := (if_pos c3).symm.trans hf
    exact Mj.to (b_X4_letVote_42 hC h0 h1 h3 hf) ⟨rfl, rfl, rfl, rfl, trivial⟩
  · replace hf := (if_neg c3).symm.trans hf
    refine i_aload_n hC dX4_letVote_34 rfl ?_
    refine i_getI hC fl_X4_96 (pl_D h1) (lay_D h1) rfl dX4_letVote_35 ?_
    refine i_iload_n hC dX4_letVote_38 rfl ?_
    refine i_icmp_ne hC (tgt := 46) dX4_letVote_39 (by decide) (fun c7 => ?_) (fun c7 => ?_)
    · replace hf := (if_neg c7).symm.trans hf
      refine i_iconst hC dX4_letVote_46 li_0 ?_
      exact Mj.to (b_X4_letVote_47 hC h0 h1 h3 hf) ⟨rfl, rfl, rfl, rfl, trivial⟩
    · replace hf := (if_pos c7).symm.trans hf
      exact Mj.to (b_X4_letVote_42 hC h0 h1 h3 hf) ⟨rfl, rfl, rfl, rfl, trivial⟩
set_option maxHeartbeats 4000000 in
set_option maxRecDepth 100000 in
theorem b_X4_letVote_0 {v : EV} {p : Program} {l : Launch} {e : Env} {s : State} {m : MethodId} {args : Array Value} {below : List Frame} {meth : Method} {c : Code} (hC : Cx v p l e s m args meth c RX4 cX4_letVote 5 (some .int)) {S : Mem} {d0_0 : Nat} {d1_0 : Nat} {d1_1 : Nat} {x2 : Int32} (h0 : d0_0 < 11) (h1 : d1_0 < 11 ∧ d1_1 < 5) {r : Int32 × Mem} (hf : f_X4_letVote_0 S d0_0 d1_0 d1_1 x2 = some r) : Mj v p l e (rmF 2 35) s m args below meth c 5 (MQ below (Qc v (some (.int r.1)) r.2) args s 0 0 (eG v)) 0 S 0 [(0, .ref (eA v (pR d0_0))), (1, .ref (eA v (pD d1_0 d1_1))), (2, .int x2)] [] := by
  refine i_aload_n hC dX4_letVote_0 rfl ?_
  refine i_getR hC fl_X4_11 (pl_R h0) (lay_R h0) rfl dX4_letVote_1 ?_
  refine i_iload_n hC dX4_letVote_4 rfl ?_
  obtain ⟨k1, hf⟩ := ck_of hf
  refine i_aald hC (pl_AD h0) (lay_AD h0) (by decide) (inb_in k1) dX4_letVote_5 ?_
  refine i_astore_n hC dX4_letVote_6 (by decide) ?_
  refine i_aload_n hC dX4_letVote_7 rfl ?_
  refine i_getI hC fl_X4_77 (pl_D h1) (lay_D h1) rfl dX4_letVote_8 ?_
  refine i_aload_n hC dX4_letVote_11 rfl ?_
  refine i_getI hC fl_X4_77 (pl_D ⟨h0, inb_lt k1⟩) (lay_D ⟨h0, inb_lt k1⟩) rfl dX4_letVote_12 ?_
  refine i_icmp_ge hC (tgt := 26) dX4_letVote_15 (by decide) (fun c2 => ?_) (fun c2 => ?_)
  · replace hf := (if_pos c2).symm.trans hf
    exact Mj.to (b_X4_letVote_26 hC h0 h1 ⟨h0, inb_lt k1⟩ hf) ⟨rfl, rfl, rfl, rfl, trivial⟩
  · replace hf := (if_neg c2).symm.trans hf
    refine i_aload_n hC dX4_letVote_18 rfl ?_
    refine i_aload_n hC dX4_letVote_19 rfl ?_
    refine i_getI hC fl_X4_77 (pl_D ⟨h0, inb_lt k1⟩) (lay_D ⟨h0, inb_lt k1⟩) rfl dX4_letVote_20 ?_
    obtain ⟨S8, hc8, hf⟩ := bd1_of hf
    refine i_callVv hC mv_X4_80 (c_X2_takeOver hC.2.2.2.2.2.2.2.1 h1 hc8) (pl_D h1) (lay_D h1) rfl rfl rfl rfl ⟨Nat.le_of_ble_eq_true rfl, Nat.le_of_ble_eq_true rfl⟩ (Nat.le_of_ble_eq_true rfl) dX4_letVote_23 ?_
    exact Mj.to (b_X4_letVote_26 hC h0 h1 ⟨h0, inb_lt k1⟩ hf) ⟨rfl, rfl, rfl, rfl, trivial⟩
theorem c_X4_letVote {v : EV} {l : Launch} (hst : Stb v) {S : Mem} {d0_0 d1_0 d1_1 : Nat} {x2 : Int32} (h0 : d0_0 < 11) (h1 : d1_0 < 11 ∧ d1_1 < 5) {r : Int32 × Mem} (hf : g_X4_letVote S d0_0 d1_0 d1_1 x2 = some r) : Con v l yX4_letVote cX4_letVote 5 (some .int) 2 35 [.ref (eA v (pR d0_0)), .ref (eA v (pD d1_0 d1_1)), .int x2] S (some (.int r.1)) r.2 := con_of (by decide) hst (Nat.le_of_ble_eq_true rfl) (fun p e s m args below meth c hC => b_X4_letVote_0 hC h0 h1 hf)
def f_X4_isMajority_15 (S : Mem) (xt0 : Int32) : Option (Int32) := ck (isb xt0) (some xt0)
def f_X4_isMajority_0 (S : Mem) (d0_0 : Nat) (x1 : Int32) : Option (Int32) := (if x1 ≤ ((S d0_0 1) / (2 : Int32)) then f_X4_isMajority_15 S (0 : Int32) else f_X4_isMajority_15 S (1 : Int32))
def g_X4_isMajority (S : Mem) (d0_0 : Nat) (x1 : Int32) : Option (Int32) := f_X4_isMajority_0 S d0_0 x1
set_option maxHeartbeats 4000000 in
set_option maxRecDepth 100000 in
theorem b_X4_isMajority_15 {v : EV} {p : Program} {l : Launch} {e : Env} {s : State} {m : MethodId} {args : Array Value} {below : List Frame} {meth : Method} {c : Code} (hC : Cx v p l e s m args meth c RX4 cX4_isMajority 2 (some .boolean)) {S : Mem} {xt0 : Int32}  {r : Int32} (hf : f_X4_isMajority_15 S xt0 = some r) : Mj v p l e (rmF 1 12) s m args below meth c 2 (MQ below (Qc v (some (.int r)) S) args s 0 0 (eG v)) 0 S 15 [] [.int xt0] := by
  obtain ⟨k2, hf⟩ := ck_of hf
  obtain rfl := Option.some.inj hf
  exact i_zret hC dX4_isMajority_15 (isb_z k2).1
set_option maxHeartbeats 4000000 in
set_option maxRecDepth 100000 in
theorem b_X4_isMajority_0 {v : EV} {p : Program} {l : Launch} {e : Env} {s : State} {m : MethodId} {args : Array Value} {below : List Frame} {meth : Method} {c : Code} (hC : Cx v p l e s m args meth c RX4 cX4_isMajority 2 (some .boolean)) {S : Mem} {d0_0 : Nat} {x1 : Int32} (h0 : d0_0 < 11) {r : Int32} (hf : f_X4_isMajority_0 S d0_0 x1 = some r) : Mj v p l e (rmF 1 12) s m args below meth c 2 (MQ below (Qc v (some (.int r)) S) args s 0 0 (eG v)) 0 S 0 [(0, .ref (eA v (pR d0_0))), (1, .int x1)] [] := by
  refine i_iload_n hC dX4_isMajority_0 rfl ?_
  refine i_aload_n hC dX4_isMajority_1 rfl ?_
  refine i_getI hC fl_X4_22 (pl_R h0) (lay_R h0) rfl dX4_isMajority_2 ?_
  refine i_iconst hC dX4_isMajority_5 li_2 ?_
  refine i_idiv hC dX4_isMajority_6 (by decide) ?_
  refine i_icmp_le hC (tgt := 14) dX4_isMajority_7 (by decide) (fun c1 => ?_) (fun c1 => ?_)
  · replace hf := (if_pos c1).symm.trans hf
    refine i_iconst hC dX4_isMajority_14 li_0 ?_
    exact Mj.to (b_X4_isMajority_15 hC  hf) trivial
  · replace hf := (if_neg c1).symm.trans hf
    refine i_iconst hC dX4_isMajority_10 li_1 ?_
    refine i_goto hC (tgt := 15) dX4_isMajority_11 (by decide) ?_
    exact Mj.to (b_X4_isMajority_15 hC  hf) trivial
theorem c_X4_isMajority {v : EV} {l : Launch} (hst : Stb v) {S : Mem} {d0_0 : Nat} {x1 : Int32} (h0 : d0_0 < 11) {r : Int32} (hf : g_X4_isMajority S d0_0 x1 = some r) : Con v l yX4_isMajority cX4_isMajority 2 (some .boolean) 1 12 [.ref (eA v (pR d0_0)), .int x1] S (some (.int r)) S := con_of (by decide) hst (Nat.le_of_ble_eq_true rfl) (fun p e s m args below meth c hC => b_X4_isMajority_0 hC h0 hf)
def f_X4_countAboard_27 (ih4 : (Int32 × Int32) → Option (Int32)) (S : Mem) (d0_0 : Nat) (x1 : Int32) (x2 : Int32) : Option (Int32) := ih4 (x1, (x2 + (1 : Int32)))
def f_X4_countAboard_4_b (ih4 : (Int32 × Int32) → Option (Int32)) (S : Mem) (d0_0 : Nat) (x1 : Int32) (x2 : Int32) : Option (Int32) := (if (S d0_0 1) ≤ x2 then some x1 else ck (inb x2 5) ((if (S d0_0 (33 + 34 * (x2).toNatClampNeg + 7)) = 0 then f_X4_countAboard_27 ih4 S d0_0 x1 x2 else f_X4_countAboard_27 ih4 S d0_0 (x1 + (1 : Int32)) x2)))
def f_X4_countAboard_4 (S : Mem) (d0_0 : Nat) (x1 : Int32) (x2 : Int32) : Option (Int32) := lp (fun ih4 s9 => f_X4_countAboard_4_b ih4 S d0_0 s9.1 s9.2) 2000 (x1, x2)
def f_X4_countAboard_0 (S : Mem) (d0_0 : Nat) : Option (Int32) := f_X4_countAboard_4 S d0_0 (0 : Int32) (0 : Int32)
def g_X4_countAboard (S : Mem) (d0_0 : Nat) : Option (Int32) := f_X4_countAboard_0 S d0_0
set_option maxHeartbeats 4000000 in
set_option maxRecDepth 100000 in
theorem b_X4_countAboard_27 {v : EV} {p : Program} {l : Launch} {e : Env} {s : State} {m : MethodId} {args : Array Value} {below : List Frame} {meth : Method} {c : Code} (hC : Cx v p l e s m args meth c RX4 cX4_countAboard 3 (some .int)) {S : Mem} {d0_0 : Nat} {x1 : Int32} {x2 : Int32} (h0 : d0_0 < 11) {r : Int32} {ih4 : (Int32 × Int32) → Option (Int32)} (hih4 : ∀ s9 : (Int32 × Int32), ih4 s9 = some r → Mj v p l e (rmF 1 12) s m args below meth c 3 (MQ below (Qc v (some (.int r)) S) args s 0 0 (eG v)) 0 S 4 [(0, .ref (eA v (pR d0_0))), (1, .int (s9.1)), (2, .int (s9.2))] []) (hf : f_X4_countAboard_27 ih4 S d0_0 x1 x2 = some r) : Mj v p l e (rmF 1 12) s m args below meth c 3 (MQ below (Qc v (some (.int r)) S) args s 0 0 (eG v)) 0 S 27 [(0, .ref (eA v (pR d0_0))), (1, .int x1), (2, .int x2)] [] := by
  refine i_iinc hC dX4_countAboard_27 rfl li_1 (by decide) ?_
  refine i_goto hC (tgt := 4) dX4_countAboard_30 (by decide) ?_
  exact Mj.to (hih4 _ hf) ⟨rfl, rfl, rfl, trivial⟩
set_option maxHeartbeats 4000000 in
set_option maxRecDepth 100000 in
theorem b_X4_countAboard_4_b {v : EV} {p : Program} {l : Launch} {e : Env} {s : State} {m : MethodId} {args : Array Value} {below : List Frame} {meth : Method} {c : Code} (hC : Cx v p l e s m args meth c RX4 cX4_countAboard 3 (some .int)) {S : Mem} {d0_0 : Nat} {x1 : Int32} {x2 : Int32} (h0 : d0_0 < 11) {r : Int32} {ih4 : (Int32 × Int32) → Option (Int32)} (hih4 : ∀ s9 : (Int32 × Int32), ih4 s9 = some r → Mj v p l e (rmF 1 12) s m args below meth c 3 (MQ below (Qc v (some (.int r)) S) args s 0 0 (eG v)) 0 S 4 [(0, .ref (eA v (pR d0_0))), (1, .int (s9.1)), (2, .int (s9.2))] []) (hf : f_X4_countAboard_4_b ih4 S d0_0 x1 x2 = some r) : Mj v p l e (rmF 1 12) s m args below meth c 3 (MQ below (Qc v (some (.int r)) S) args s 0 0 (eG v)) 0 S 4 [(0, .ref (eA v (pR d0_0))), (1, .int x1), (2, .int x2)] [] := by
  refine i_iload_n hC dX4_countAboard_4 rfl ?_
  refine i_aload_n hC dX4_countAboard_5 rfl ?_
  refine i_getI hC fl_X4_22 (pl_R h0) (lay_R h0) rfl dX4_countAboard_6 ?_
  refine i_icmp_ge hC (tgt := 33) dX4_countAboard_9 (by decide) (fun c1 => ?_) (fun c1 => ?_)
  · replace hf := (if_pos c1).symm.trans hf
    refine i_iload_n hC dX4_countAboard_33 rfl ?_
    obtain rfl := Option.some.inj hf
    exact i_iret hC dX4_countAboard_34
  · replace hf := (if_neg c1).symm.trans hf
    refine i_aload_n hC dX4_countAboard_12 rfl ?_
    refine i_getR hC fl_X4_11 (pl_R h0) (lay_R h0) rfl dX4_countAboard_13 ?_
    refine i_iload_n hC dX4_countAboard_16 rfl ?_
    obtain ⟨k2, hf⟩ := ck_of hf
    refine i_aald hC (pl_AD h0) (lay_AD h0) (by decide) (inb_in k2) dX4_countAboard_17 ?_
    refine i_getI hC fl_X4_62 (pl_D ⟨h0, inb_lt k2⟩) (lay_D ⟨h0, inb_lt k2⟩) rfl dX4_countAboard_18 ?_
    refine i_if_eq hC (tgt := 27) dX4_countAboard_21 (by decide) (fun c3 => ?_) (fun c3 => ?_)
    · replace hf := (if_pos c3).symm.trans hf
      exact Mj.to (b_X4_countAboard_27 hC h0 hih4 hf) ⟨rfl, rfl, rfl, trivial⟩
    · replace hf := (if_neg c3).symm.trans hf
      refine i_iinc hC dX4_countAboard_24 rfl li_1 (by decide) ?_
      exact Mj.to (b_X4_countAboard_27 hC h0 hih4 hf) ⟨rfl, rfl, rfl, trivial⟩
theorem b_X4_countAboard_4 {v : EV} {p : Program} {l : Launch} {e : Env} {s : State} {m : MethodId} {args : Array Value} {below : List Frame} {meth : Method} {c : Code} (hC : Cx v p l e s m args meth c RX4 cX4_countAboard 3 (some .int)) {S : Mem} {d0_0 : Nat} {x1 : Int32} {x2 : Int32} (h0 : d0_0 < 11) {r : Int32} (hf : f_X4_countAboard_4 S d0_0 x1 x2 = some r) : Mj v p l e (rmF 1 12) s m args below meth c 3 (MQ below (Qc v (some (.int r)) S) args s 0 0 (eG v)) 0 S 4 [(0, .ref (eA v (pR d0_0))), (1, .int x1), (2, .int x2)] [] :=
  lp_ind (P := fun s9 : (Int32 × Int32) => Mj v p l e (rmF 1 12) s m args below meth c 3 (MQ below (Qc v (some (.int r)) S) args s 0 0 (eG v)) 0 S 4 [(0, .ref (eA v (pR d0_0))), (1, .int (s9.1)), (2, .int (s9.2))] []) (fun ih s9 hih hf => b_X4_countAboard_4_b hC h0  hih hf) _ _ hf
set_option maxHeartbeats 4000000 in
set_option maxRecDepth 100000 in
theorem b_X4_countAboard_0 {v : EV} {p : Program} {l : Launch} {e : Env} {s : State} {m : MethodId} {args : Array Value} {below : List Frame} {meth : Method} {c : Code} (hC : Cx v p l e s m args meth c RX4 cX4_countAboard 3 (some .int)) {S : Mem} {d0_0 : Nat} (h0 : d0_0 < 11) {r : Int32} (hf : f_X4_countAboard_0 S d0_0 = some r) : Mj v p l e (rmF 1 12) s m args below meth c 3 (MQ below (Qc v (some (.int r)) S) args s 0 0 (eG v)) 0 S 0 [(0, .ref (eA v (pR d0_0)))] [] := by
  refine i_iconst hC dX4_countAboard_0 li_0 ?_
  refine i_istore_n hC dX4_countAboard_1 (by decide) ?_
  refine i_iconst hC dX4_countAboard_2 li_0 ?_
  refine i_istore_n hC dX4_countAboard_3 (by decide) ?_
  exact Mj.to (b_X4_countAboard_4 hC h0 hf) ⟨rfl, rfl, rfl, trivial⟩
theorem c_X4_countAboard {v : EV} {l : Launch} (hst : Stb v) {S : Mem} {d0_0 : Nat} (h0 : d0_0 < 11) {r : Int32} (hf : g_X4_countAboard S d0_0 = some r) : Con v l yX4_countAboard cX4_countAboard 3 (some .int) 1 12 [.ref (eA v (pR d0_0))] S (some (.int r)) S := con_of (by decide) hst (Nat.le_of_ble_eq_true rfl) (fun p e s m args below meth c hC => b_X4_countAboard_0 hC h0 hf)
def f_X4_setRope_0 (S : Mem) (d0_0 : Nat) (x1 : Int32) (x2 : Int32) (x3 : Int32) : Option (Mem) := ck (inb ((x1 * (5 : Int32)) + x2) 25) (ck (inb ((x2 * (5 : Int32)) + x1) 25) (some (up (up S d0_0 (8 + (((x1 * (5 : Int32)) + x2)).toNatClampNeg) (vp_nar .boolean x3)) d0_0 (8 + (((x2 * (5 : Int32)) + x1)).toNatClampNeg) (vp_nar .boolean x3))))
def g_X4_setRope (S : Mem) (d0_0 : Nat) (x1 : Int32) (x2 : Int32) (x3 : Int32) : Option (Mem) := f_X4_setRope_0 S d0_0 x1 x2 x3
set_option maxHeartbeats 4000000 in
set_option maxRecDepth 100000 in
theorem b_X4_setRope_0 {v : EV} {p : Program} {l : Launch} {e : Env} {s : State} {m : MethodId} {args : Array Value} {below : List Frame} {meth : Method} {c : Code} (hC : Cx v p l e s m args meth c RX4 cX4_setRope 4 none) {S : Mem} {d0_0 : Nat} {x1 : Int32} {x2 : Int32} {x3 : Int32} (h0 : d0_0 < 11) {r : Mem} (hf : f_X4_setRope_0 S d0_0 x1 x2 x3 = some r) : Mj v p l e (rmF 1 12) s m args below meth c 4 (MQ below (Qc v (none) r) args s 0 0 (eG v)) 0 S 0 [(0, .ref (eA v (pR d0_0))), (1, .int x1), (2, .int x2), (3, .int x3)] [] := by
  refine i_aload_n hC dX4_setRope_0 rfl ?_
  refine i_getR hC fl_X4_17 (pl_R h0) (lay_R h0) rfl dX4_setRope_1 ?_
  refine i_iload_n hC dX4_setRope_4 rfl ?_
  refine i_iconst hC dX4_setRope_5 li_5 ?_
  refine i_imul hC dX4_setRope_6 ?_
  refine i_iload_n hC dX4_setRope_7 rfl ?_
  refine i_iadd hC dX4_setRope_8 ?_
  refine i_iload_n hC dX4_setRope_9 rfl ?_
  obtain ⟨k1, hf⟩ := ck_of hf
  refine i_zast hC (j0 := (8 + (((x1 * (5 : Int32)) + x2)).toNatClampNeg)) (pl_AZ h0) (lay_AZ h0) (bk_k h0) (inb_in k1) rfl dX4_setRope_10 ?_
  refine i_aload_n hC dX4_setRope_11 rfl ?_
  refine i_getR hC fl_X4_17 (pl_R h0) (lay_R h0) rfl dX4_setRope_12 ?_
  refine i_iload_n hC dX4_setRope_15 rfl ?_
  refine i_iconst hC dX4_setRope_16 li_5 ?_
  refine i_imul hC dX4_setRope_17 ?_
  refine i_iload_n hC dX4_setRope_18 rfl ?_
  refine i_iadd hC dX4_setRope_19 ?_
  refine i_iload_n hC dX4_setRope_20 rfl ?_
  obtain ⟨k2, hf⟩ := ck_of hf
  refine i_zast hC (j0 := (8 + (((x2 * (5 : Int32)) + x1)).toNatClampNeg)) (pl_AZ h0) (lay_AZ h0) (bk_k h0) (inb_in k2) rfl dX4_setRope_21 ?_
  obtain rfl := Option.some.inj hf
  exact i_vret hC dX4_setRope_22
theorem c_X4_setRope {v : EV} {l : Launch} (hst : Stb v) {S : Mem} {d0_0 : Nat} {x1 x2 x3 : Int32} (h0 : d0_0 < 11) {r : Mem} (hf : g_X4_setRope S d0_0 x1 x2 x3 = some r) : Con v l yX4_setRope cX4_setRope 4 none 1 12 [.ref (eA v (pR d0_0)), .int x1, .int x2, .int x3] S (none) r := con_of (by decide) hst (Nat.le_of_ble_eq_true rfl) (fun p e s m args below meth c hC => b_X4_setRope_0 hC h0 hf)
def f_X4_countCutRopes_25 (ih4 : (Int32 × Int32) → Option (Int32)) (S : Mem) (d0_0 : Nat) (x1 : Int32) (x2 : Int32) : Option (Int32) := ih4 (x1, (x2 + (1 : Int32)))
def f_X4_countCutRopes_4_b (ih4 : (Int32 × Int32) → Option (Int32)) (S : Mem) (d0_0 : Nat) (x1 : Int32) (x2 : Int32) : Option (Int32) := (if (25 : Int32) ≤ x2 then some (x1 / (2 : Int32)) else ck (inb x2 25) ((if (S d0_0 (8 + (x2).toNatClampNeg)) = 0 then f_X4_countCutRopes_25 ih4 S d0_0 x1 x2 else f_X4_countCutRopes_25 ih4 S d0_0 (x1 + (1 : Int32)) x2)))
def f_X4_countCutRopes_4 (S : Mem) (d0_0 : Nat) (x1 : Int32) (x2 : Int32) : Option (Int32) := lp (fun ih4 s9 => f_X4_countCutRopes_4_b ih4 S d0_0 s9.1 s9.2) 2000 (x1, x2)
def f_X4_countCutRopes_0 (S : Mem) (d0_0 : Nat) : Option (Int32) := f_X4_countCutRopes_4 S d0_0 (0 : Int32) (0 : Int32)
def g_X4_countCutRopes (S : Mem) (d0_0 : Nat) : Option (Int32) := f_X4_countCutRopes_0 S d0_0
set_option maxHeartbeats 4000000 in
set_option maxRecDepth 100000 in
theorem b_X4_countCutRopes_25 {v : EV} {p : Program} {l : Launch} {e : Env} {s : State} {m : MethodId} {args : Array Value} {below : List Frame} {meth : Method} {c : Code} (hC : Cx v p l e s m args meth c RX4 cX4_countCutRopes 3 (some .int)) {S : Mem} {d0_0 : Nat} {x1 : Int32} {x2 : Int32} (h0 : d0_0 < 11) {r : Int32} {ih4 : (Int32 × Int32) → Option (Int32)} (hih4 : ∀ s9 : (Int32 × Int32), ih4 s9 = some r → Mj v p l e (rmF 1 12) s m args below meth c 3 (MQ below (Qc v (some (.int r)) S) args s 0 0 (eG v)) 0 S 4 [(0, .ref (eA v (pR d0_0))), (1, .int (s9.1)), (2, .int (s9.2))] []) (hf : f_X4_countCutRopes_25 ih4 S d0_0 x1 x2 = some r) : Mj v p l e (rmF 1 12) s m args below meth c 3 (MQ below (Qc v (some (.int r)) S) args s 0 0 (eG v)) 0 S 25 [(0, .ref (eA v (pR d0_0))), (1, .int x1), (2, .int x2)] [] := by
  refine i_iinc hC dX4_countCutRopes_25 rfl li_1 (by decide) ?_
  refine i_goto hC (tgt := 4) dX4_countCutRopes_28 (by decide) ?_
  exact Mj.to (hih4 _ hf) ⟨rfl, rfl, rfl, trivial⟩
set_option maxHeartbeats 4000000 in
set_option maxRecDepth 100000 in
theorem b_X4_countCutRopes_4_b {v : EV} {p : Program} {l : Launch} {e : Env} {s : State} {m : MethodId} {args : Array Value} {below : List Frame} {meth : Method} {c : Code} (hC : Cx v p l e s m args meth c RX4 cX4_countCutRopes 3 (some .int)) {S : Mem} {d0_0 : Nat} {x1 : Int32} {x2 : Int32} (h0 : d0_0 < 11) {r : Int32} {ih4 : (Int32 × Int32) → Option (Int32)} (hih4 : ∀ s9 : (Int32 × Int32), ih4 s9 = some r → Mj v p l e (rmF 1 12) s m args below meth c 3 (MQ below (Qc v (some (.int r)) S) args s 0 0 (eG v)) 0 S 4 [(0, .ref (eA v (pR d0_0))), (1, .int (s9.1)), (2, .int (s9.2))] []) (hf : f_X4_countCutRopes_4_b ih4 S d0_0 x1 x2 = some r) : Mj v p l e (rmF 1 12) s m args below meth c 3 (MQ below (Qc v (some (.int r)) S) args s 0 0 (eG v)) 0 S 4 [(0, .ref (eA v (pR d0_0))), (1, .int x1), (2, .int x2)] [] := by
  refine i_iload_n hC dX4_countCutRopes_4 rfl ?_
  refine i_aload_n hC dX4_countCutRopes_5 rfl ?_
  refine i_getR hC fl_X4_17 (pl_R h0) (lay_R h0) rfl dX4_countCutRopes_6 ?_
  refine i_alen hC (z := (25 : Int32)) (pl_AZ h0) (lay_AZ h0) (by decide) (by decide) dX4_countCutRopes_9 ?_
  refine i_icmp_ge hC (tgt := 31) dX4_countCutRopes_10 (by decide) (fun c1 => ?_) (fun c1 => ?_)
  · replace hf := (if_pos c1).symm.trans hf
    refine i_iload_n hC dX4_countCutRopes_31 rfl ?_
    refine i_iconst hC dX4_countCutRopes_32 li_2 ?_
    refine i_idiv hC dX4_countCutRopes_33 (by decide) ?_
    obtain rfl := Option.some.inj hf
    exact i_iret hC dX4_countCutRopes_34
  · replace hf := (if_neg c1).symm.trans hf
    refine i_aload_n hC dX4_countCutRopes_13 rfl ?_
    refine i_getR hC fl_X4_17 (pl_R h0) (lay_R h0) rfl dX4_countCutRopes_14 ?_
    refine i_iload_n hC dX4_countCutRopes_17 rfl ?_
    obtain ⟨k2, hf⟩ := ck_of hf
    refine i_zald hC (j0 := (8 + (x2).toNatClampNeg)) (pl_AZ h0) (lay_AZ h0) (inb_in k2) rfl dX4_countCutRopes_18 ?_
    refine i_if_eq hC (tgt := 25) dX4_countCutRopes_19 (by decide) (fun c3 => ?_) (fun c3 => ?_)
    · replace hf := (if_pos c3).symm.trans hf
      exact Mj.to (b_X4_countCutRopes_25 hC h0 hih4 hf) ⟨rfl, rfl, rfl, trivial⟩
    · replace hf := (if_neg c3).symm.trans hf
      refine i_iinc hC dX4_countCutRopes_22 rfl li_1 (by decide) ?_
      exact Mj.to (b_X4_countCutRopes_25 hC h0 hih4 hf) ⟨rfl, rfl, rfl, trivial⟩
theorem b_X4_countCutRopes_4 {v : EV} {p : Program} {l : Launch} {e : Env} {s : State} {m : MethodId} {args : Array Value} {below : List Frame} {meth : Method} {c : Code} (hC : Cx v p l e s m args meth c RX4 cX4_countCutRopes 3 (some .int)) {S : Mem} {d0_0 : Nat} {x1 : Int32} {x2 : Int32} (h0 : d0_0 < 11) {r : Int32} (hf : f_X4_countCutRopes_4 S d0_0 x1 x2 = some r) : Mj v p l e (rmF 1 12) s m args below meth c 3 (MQ below (Qc v (some (.int r)) S) args s 0 0 (eG v)) 0 S 4 [(0, .ref (eA v (pR d0_0))), (1, .int x1), (2, .int x2)] [] :=
  lp_ind (P := fun s9 : (Int32 × Int32) => Mj v p l e (rmF 1 12) s m args below meth c 3 (MQ below (Qc v (some (.int r)) S) args s 0 0 (eG v)) 0 S 4 [(0, .ref (eA v (pR d0_0))), (1, .int (s9.1)), (2, .int (s9.2))] []) (fun ih s9 hih hf => b_X4_countCutRopes_4_b hC h0  hih hf) _ _ hf
set_option maxHeartbeats 4000000 in
set_option maxRecDepth 100000 in
theorem b_X4_countCutRopes_0 {v : EV} {p : Program} {l : Launch} {e : Env} {s : State} {m : MethodId} {args : Array Value} {below : List Frame} {meth : Method} {c : Code} (hC : Cx v p l e s m args meth c RX4 cX4_countCutRopes 3 (some .int)) {S : Mem} {d0_0 : Nat} (h0 : d0_0 < 11) {r : Int32} (hf : f_X4_countCutRopes_0 S d0_0 = some r) : Mj v p l e (rmF 1 12) s m args below meth c 3 (MQ below (Qc v (some (.int r)) S) args s 0 0 (eG v)) 0 S 0 [(0, .ref (eA v (pR d0_0)))] [] := by
  refine i_iconst hC dX4_countCutRopes_0 li_0 ?_
  refine i_istore_n hC dX4_countCutRopes_1 (by decide) ?_
  refine i_iconst hC dX4_countCutRopes_2 li_0 ?_
  refine i_istore_n hC dX4_countCutRopes_3 (by decide) ?_
  exact Mj.to (b_X4_countCutRopes_4 hC h0 hf) ⟨rfl, rfl, rfl, trivial⟩
theorem c_X4_countCutRopes {v : EV} {l : Launch} (hst : Stb v) {S : Mem} {d0_0 : Nat} (h0 : d0_0 < 11) {r : Int32} (hf : g_X4_countCutRopes S d0_0 = some r) : Con v l yX4_countCutRopes cX4_countCutRopes 3 (some .int) 1 12 [.ref (eA v (pR d0_0))] S (some (.int r)) S := con_of (by decide) hst (Nat.le_of_ble_eq_true rfl) (fun p e s m args below meth c hC => b_X4_countCutRopes_0 hC h0 hf)
def f_X4_wouldGrantVote_42 (S : Mem)  : Option (Int32) := some (0 : Int32)
def f_X4_wouldGrantVote_74 (S : Mem) (xt0 : Int32) : Option (Int32) := ck (isb xt0) (some xt0)
def f_X4_wouldGrantVote_69 (S : Mem)  : Option (Int32) := f_X4_wouldGrantVote_74 S (1 : Int32)
def f_X4_wouldGrantVote_0 (S : Mem) (d0_0 : Nat) (x1 : Int32) (x2 : Int32) : Option (Int32) := ck (inb x1 5) (ck (inb x2 5) ((if ((S d0_0 (33 + 34 * (x2).toNatClampNeg + 1)) + (1 : Int32)) < (S d0_0 (33 + 34 * (x1).toNatClampNeg + 1)) then f_X4_wouldGrantVote_42 S else bd1 (g_X2_hasLongerTaleThan S d0_0 (x1).toNatClampNeg d0_0 (x2).toNatClampNeg) (fun r4 => (if r4 = 0 then (if (S d0_0 (33 + 34 * (x1).toNatClampNeg + 1)) < ((S d0_0 (33 + 34 * (x2).toNatClampNeg + 1)) + (1 : Int32)) then f_X4_wouldGrantVote_69 S else (if (S d0_0 (33 + 34 * (x1).toNatClampNeg + 4)) = (-1 : Int32) then f_X4_wouldGrantVote_69 S else (if (S d0_0 (33 + 34 * (x1).toNatClampNeg + 4)) = x2 then f_X4_wouldGrantVote_69 S else f_X4_wouldGrantVote_74 S (0 : Int32)))) else f_X4_wouldGrantVote_42 S)))))
def g_X4_wouldGrantVote (S : Mem) (d0_0 : Nat) (x1 : Int32) (x2 : Int32) : Option (Int32) := f_X4_wouldGrantVote_0 S d0_0 x1 x2
set_option maxHeartbeats 4000000 in
set_option maxRecDepth 100000 in
theorem b_X4_wouldGrantVote_42 {v : EV} {p : Program} {l : Launch} {e : Env} {s : State} {m : MethodId} {args : Array Value} {below : List Frame} {meth : Method} {c : Code} (hC : Cx v p l e s m args meth c RX4 cX4_wouldGrantVote 6 (some .boolean)) {S : Mem}  {r : Int32} (hf : f_X4_wouldGrantVote_42 S = some r) : Mj v p l e (rmF 2 35) s m args below meth c 6 (MQ below (Qc v (some (.int r)) S) args s 0 0 (eG v)) 0 S 42 [] [] := by
  refine i_iconst hC dX4_wouldGrantVote_42 li_0 ?_
  obtain rfl := Option.some.inj hf
  exact i_zret hC dX4_wouldGrantVote_43 (isb_z (x := (0 : Int32)) (by decide)).1
set_option maxHeartbeats 4000000 in
set_option maxRecDepth 100000 in
theorem b_X4_wouldGrantVote_74 {v : EV} {p : Program} {l : Launch} {e : Env} {s : State} {m : MethodId} {args : Array Value} {below : List Frame} {meth : Method} {c : Code} (hC : Cx v p l e s m args meth c RX4 cX4_wouldGrantVote 6 (some .boolean)) {S : Mem} {xt0 : Int32}  {r : Int32} (hf : f_X4_wouldGrantVote_74 S xt0 = some r) : Mj v p l e (rmF 2 35) s m args below meth c 6 (MQ below (Qc v (some (.int r)) S) args s 0 0 (eG v)) 0 S 74 [] [.int xt0] := by
  obtain ⟨k7, hf⟩ := ck_of hf
  obtain rfl := Option.some.inj hf
  exact i_zret hC dX4_wouldGrantVote_74 (isb_z k7).1
set_option maxHeartbeats 4000000 in
set_option maxRecDepth 100000 in
theorem b_X4_wouldGrantVote_69 {v : EV} {p : Program} {l : Launch} {e : Env} {s : State} {m : MethodId} {args : Array Value} {below : List Frame} {meth : Method} {c : Code} (hC : Cx v p l e s m args meth c RX4 cX4_wouldGrantVote 6 (some .boolean)) {S : Mem}  {r : Int32} (hf : f_X4_wouldGrantVote_69 S = some r) : Mj v p l e (rmF 2 35) s m args below meth c 6 (MQ below (Qc v (some (.int r)) S) args s 0 0 (eG v)) 0 S 69 [] [] := by
  refine i_iconst hC dX4_wouldGrantVote_69 li_1 ?_
  refine i_goto hC (tgt := 74) dX4_wouldGrantVote_70 (by decide) ?_
  exact Mj.to (b_X4_wouldGrantVote_74 hC  hf) trivial
set_option maxHeartbeats 4000000 in
set_option maxRecDepth 100000 in
theorem b_X4_wouldGrantVote_0 {v : EV} {p : Program} {l : Launch} {e : Env} {s : State} {m : MethodId} {args : Array Value} {below : List Frame} {meth : Method} {c : Code} (hC : Cx v p l e s m args meth c RX4 cX4_wouldGrantVote 6 (some .boolean)) {S : Mem} {d0_0 : Nat} {x1 : Int32} {x2 : Int32} (h0 : d0_0 < 11) {r : Int32} (hf : f_X4_wouldGrantVote_0 S d0_0 x1 x2 = some r) : Mj v p l e (rmF 2 35) s m args below meth c 6 (MQ below (Qc v (some (.int r)) S) args s 0 0 (eG v)) 0 S 0 [(0, .ref (eA v (pR d0_0))), (1, .int x1), (2, .int x2)] [] := by
  refine i_aload_n hC dX4_wouldGrantVote_0 rfl ?_
  refine i_getR hC fl_X4_11 (pl_R h0) (lay_R h0) rfl dX4_wouldGrantVote_1 ?_
  refine i_iload_n hC dX4_wouldGrantVote_4 rfl ?_
  obtain ⟨k1, hf⟩ := ck_of hf
  refine i_aald hC (pl_AD h0) (lay_AD h0) (by decide) (inb_in k1) dX4_wouldGrantVote_5 ?_
  refine i_astore_n hC dX4_wouldGrantVote_6 (by decide) ?_
  refine i_aload_n hC dX4_wouldGrantVote_7 rfl ?_
  refine i_getR hC fl_X4_11 (pl_R h0) (lay_R h0) rfl dX4_wouldGrantVote_8 ?_
  refine i_iload_n hC dX4_wouldGrantVote_11 rfl ?_
  obtain ⟨k2, hf⟩ := ck_of hf
  refine i_aald hC (pl_AD h0) (lay_AD h0) (by decide) (inb_in k2) dX4_wouldGrantVote_12 ?_
  refine i_astore hC dX4_wouldGrantVote_13 (by decide) ?_
  refine i_aload hC dX4_wouldGrantVote_15 rfl ?_
  refine i_getI hC fl_X4_77 (pl_D ⟨h0, inb_lt k2⟩) (lay_D ⟨h0, inb_lt k2⟩) rfl dX4_wouldGrantVote_17 ?_
  refine i_iconst hC dX4_wouldGrantVote_20 li_1 ?_
  refine i_iadd hC dX4_wouldGrantVote_21 ?_
  refine i_istore hC dX4_wouldGrantVote_22 (by decide) ?_
  refine i_aload_n hC dX4_wouldGrantVote_24 rfl ?_
  refine i_getI hC fl_X4_77 (pl_D ⟨h0, inb_lt k1⟩) (lay_D ⟨h0, inb_lt k1⟩) rfl dX4_wouldGrantVote_25 ?_
  refine i_iload hC dX4_wouldGrantVote_28 rfl ?_
  refine i_icmp_gt hC (tgt := 42) dX4_wouldGrantVote_30 (by decide) (fun c3 => ?_) (fun c3 => ?_)
  · replace hf := (if_pos c3).symm.trans hf
    exact Mj.to (b_X4_wouldGrantVote_42 hC  hf) trivial
  · replace hf := (if_neg c3).symm.trans hf
    refine i_aload_n hC dX4_wouldGrantVote_33 rfl ?_
    refine i_aload hC dX4_wouldGrantVote_34 rfl ?_
    obtain ⟨r4, hc4, hf⟩ := bd1_of hf
    refine i_callVi hC mv_X4_105 (c_X2_hasLongerTaleThan hC.2.2.2.2.2.2.2.1 ⟨h0, inb_lt k1⟩ ⟨h0, inb_lt k2⟩ hc4) (pl_D ⟨h0, inb_lt k1⟩) (lay_D ⟨h0, inb_lt k1⟩) rfl rfl rfl rfl ⟨Nat.le_of_ble_eq_true rfl, Nat.le_of_ble_eq_true rfl⟩ (Nat.le_of_ble_eq_true rfl) dX4_wouldGrantVote_36 ?_
    refine i_if_eq hC (tgt := 44) dX4_wouldGrantVote_39 (by decide) (fun c5 => ?_) (fun c5 => ?_)
    · replace hf := (if_pos c5).symm.trans hf
      refine i_aload_n hC dX4_wouldGrantVote_44 rfl ?_
      refine i_getI hC fl_X4_77 (pl_D ⟨h0, inb_lt k1⟩) (lay_D ⟨h0, inb_lt k1⟩) rfl dX4_wouldGrantVote_45 ?_
      refine i_iload hC dX4_wouldGrantVote_48 rfl ?_
      refine i_icmp_lt hC (tgt := 69) dX4_wouldGrantVote_50 (by decide) (fun c6 => ?_) (fun c6 => ?_)
      · replace hf := (if_pos c6).symm.trans hf
        exact Mj.to (b_X4_wouldGrantVote_69 hC  hf) trivial
      · replace hf := (if_neg c6).symm.trans hf
        refine i_aload_n hC dX4_wouldGrantVote_53 rfl ?_
        refine i_getI hC fl_X4_96 (pl_D ⟨h0, inb_lt k1⟩) (lay_D ⟨h0, inb_lt k1⟩) rfl dX4_wouldGrantVote_54 ?_
        refine i_iconst hC dX4_wouldGrantVote_57 li_m1 ?_
        refine i_icmp_eq hC (tgt := 69) dX4_wouldGrantVote_58 (by decide) (fun c8 => ?_) (fun c8 => ?_)
        · replace hf := (if_pos c8).symm.trans hf
          exact Mj.to (b_X4_wouldGrantVote_69 hC  hf) trivial
        · replace hf := (if_neg c8).symm.trans hf
          refine i_aload_n hC dX4_wouldGrantVote_61 rfl ?_
          refine i_getI hC fl_X4_96 (pl_D ⟨h0, inb_lt k1⟩) (lay_D ⟨h0, inb_lt k1⟩) rfl dX4_wouldGrantVote_62 ?_
          refine i_iload_n hC dX4_wouldGrantVote_65 rfl ?_
          refine i_icmp_ne hC (tgt := 73) dX4_wouldGrantVote_66 (by decide) (fun c9 => ?_) (fun c9 => ?_)
          · replace hf := (if_neg c9).symm.trans hf
            refine i_iconst hC dX4_wouldGrantVote_73 li_0 ?_
            exact Mj.to (b_X4_wouldGrantVote_74 hC  hf) trivial
          · replace hf := (if_pos c9).symm.trans hf
            exact Mj.to (b_X4_wouldGrantVote_69 hC  hf) trivial
    · replace hf := (if_neg c5).symm.trans hf
      exact Mj.to (b_X4_wouldGrantVote_42 hC  hf) trivial
theorem c_X4_wouldGrantVote {v : EV} {l : Launch} (hst : Stb v) {S : Mem} {d0_0 : Nat} {x1 x2 : Int32} (h0 : d0_0 < 11) {r : Int32} (hf : g_X4_wouldGrantVote S d0_0 x1 x2 = some r) : Con v l yX4_wouldGrantVote cX4_wouldGrantVote 6 (some .boolean) 2 35 [.ref (eA v (pR d0_0)), .int x1, .int x2] S (some (.int r)) S := con_of (by decide) hst (Nat.le_of_ble_eq_true rfl) (fun p e s m args below meth c hC => b_X4_wouldGrantVote_0 hC h0 hf)
def f_X4_isConflict_46 (S : Mem) (xt0 : Int32) : Option (Int32) := ck (isb xt0) (some xt0)
def f_X4_isConflict_0 (S : Mem) (d0_0 : Nat) (x1 : Int32) (x2 : Int32) : Option (Int32) := ck (inb x1 5) (ck (inb x2 5) (ck (inb x1 5) (ck (inb x2 5) (bd1 (g_X2_countSameLines S d0_0 (x1).toNatClampNeg d0_0 (x2).toNatClampNeg) (fun r5 => (if (mn (S d0_0 (33 + 34 * (x1).toNatClampNeg + 5)) (S d0_0 (33 + 34 * (x2).toNatClampNeg + 5))) ≤ r5 then f_X4_isConflict_46 S (0 : Int32) else f_X4_isConflict_46 S (1 : Int32)))))))
def g_X4_isConflict (S : Mem) (d0_0 : Nat) (x1 : Int32) (x2 : Int32) : Option (Int32) := f_X4_isConflict_0 S d0_0 x1 x2
set_option maxHeartbeats 4000000 in
set_option maxRecDepth 100000 in
theorem b_X4_isConflict_46 {v : EV} {p : Program} {l : Launch} {e : Env} {s : State} {m : MethodId} {args : Array Value} {below : List Frame} {meth : Method} {c : Code} (hC : Cx v p l e s m args meth c RX4 cX4_isConflict 4 (some .boolean)) {S : Mem} {xt0 : Int32}  {r : Int32} (hf : f_X4_isConflict_46 S xt0 = some r) : Mj v p l e (rmF 2 44) s m args below meth c 4 (MQ below (Qc v (some (.int r)) S) args s 0 0 (eG v)) 0 S 46 [] [.int xt0] := by
  obtain ⟨k7, hf⟩ := ck_of hf
  obtain rfl := Option.some.inj hf
  exact i_zret hC dX4_isConflict_46 (isb_z k7).1
set_option maxHeartbeats 4000000 in
set_option maxRecDepth 100000 in
theorem b_X4_isConflict_0 {v : EV} {p : Program} {l : Launch} {e : Env} {s : State} {m : MethodId} {args : Array Value} {below : List Frame} {meth : Method} {c : Code} (hC : Cx v p l e s m args meth c RX4 cX4_isConflict 4 (some .boolean)) {S : Mem} {d0_0 : Nat} {x1 : Int32} {x2 : Int32} (h0 : d0_0 < 11) {r : Int32} (hf : f_X4_isConflict_0 S d0_0 x1 x2 = some r) : Mj v p l e (rmF 2 44) s m args below meth c 4 (MQ below (Qc v (some (.int r)) S) args s 0 0 (eG v)) 0 S 0 [(0, .ref (eA v (pR d0_0))), (1, .int x1), (2, .int x2)] [] := by
  refine i_aload_n hC dX4_isConflict_0 rfl ?_
  refine i_getR hC fl_X4_11 (pl_R h0) (lay_R h0) rfl dX4_isConflict_1 ?_
  refine i_iload_n hC dX4_isConflict_4 rfl ?_
  obtain ⟨k1, hf⟩ := ck_of hf
  refine i_aald hC (pl_AD h0) (lay_AD h0) (by decide) (inb_in k1) dX4_isConflict_5 ?_
  refine i_getI hC fl_X4_55 (pl_D ⟨h0, inb_lt k1⟩) (lay_D ⟨h0, inb_lt k1⟩) rfl dX4_isConflict_6 ?_
  refine i_aload_n hC dX4_isConflict_9 rfl ?_
  refine i_getR hC fl_X4_11 (pl_R h0) (lay_R h0) rfl dX4_isConflict_10 ?_
  refine i_iload_n hC dX4_isConflict_13 rfl ?_
  obtain ⟨k2, hf⟩ := ck_of hf
  refine i_aald hC (pl_AD h0) (lay_AD h0) (by decide) (inb_in k2) dX4_isConflict_14 ?_
  refine i_getI hC fl_X4_55 (pl_D ⟨h0, inb_lt k2⟩) (lay_D ⟨h0, inb_lt k2⟩) rfl dX4_isConflict_15 ?_
  refine i_mmin hC mw_272 mw_161 mw_40 mw_162 ⟨Nat.le_of_ble_eq_true rfl, Nat.le_of_ble_eq_true rfl⟩ dX4_isConflict_18 ?_
  refine i_istore_n hC dX4_isConflict_21 (by decide) ?_
  refine i_aload_n hC dX4_isConflict_22 rfl ?_
  refine i_getR hC fl_X4_11 (pl_R h0) (lay_R h0) rfl dX4_isConflict_23 ?_
  refine i_iload_n hC dX4_isConflict_26 rfl ?_
  obtain ⟨k3, hf⟩ := ck_of hf
  refine i_aald hC (pl_AD h0) (lay_AD h0) (by decide) (inb_in k3) dX4_isConflict_27 ?_
  refine i_aload_n hC dX4_isConflict_28 rfl ?_
  refine i_getR hC fl_X4_11 (pl_R h0) (lay_R h0) rfl dX4_isConflict_29 ?_
  refine i_iload_n hC dX4_isConflict_32 rfl ?_
  obtain ⟨k4, hf⟩ := ck_of hf
  refine i_aald hC (pl_AD h0) (lay_AD h0) (by decide) (inb_in k4) dX4_isConflict_33 ?_
  obtain ⟨r5, hc5, hf⟩ := bd1_of hf
  refine i_callVi hC mv_X4_139 (c_X2_countSameLines hC.2.2.2.2.2.2.2.1 ⟨h0, inb_lt k3⟩ ⟨h0, inb_lt k4⟩ hc5) (pl_D ⟨h0, inb_lt k3⟩) (lay_D ⟨h0, inb_lt k3⟩) rfl rfl rfl rfl ⟨Nat.le_of_ble_eq_true rfl, Nat.le_of_ble_eq_true rfl⟩ (Nat.le_of_ble_eq_true rfl) dX4_isConflict_34 ?_
  refine i_iload_n hC dX4_isConflict_37 rfl ?_
  refine i_icmp_ge hC (tgt := 45) dX4_isConflict_38 (by decide) (fun c6 => ?_) (fun c6 => ?_)
  · replace hf := (if_pos c6).symm.trans hf
    refine i_iconst hC dX4_isConflict_45 li_0 ?_
    exact Mj.to (b_X4_isConflict_46 hC  hf) trivial
  · replace hf := (if_neg c6).symm.trans hf
    refine i_iconst hC dX4_isConflict_41 li_1 ?_
    refine i_goto hC (tgt := 46) dX4_isConflict_42 (by decide) ?_
    exact Mj.to (b_X4_isConflict_46 hC  hf) trivial
theorem c_X4_isConflict {v : EV} {l : Launch} (hst : Stb v) {S : Mem} {d0_0 : Nat} {x1 x2 : Int32} (h0 : d0_0 < 11) {r : Int32} (hf : g_X4_isConflict S d0_0 x1 x2 = some r) : Con v l yX4_isConflict cX4_isConflict 4 (some .boolean) 2 44 [.ref (eA v (pR d0_0)), .int x1, .int x2] S (some (.int r)) S := con_of (by decide) hst (Nat.le_of_ble_eq_true rfl) (fun p e s m args below meth c hC => b_X4_isConflict_0 hC h0 hf)
def f_X4_greatestTerm_4_b (ih4 : (Int32 × Int32) → Option (Int32)) (S : Mem) (d0_0 : Nat) (x1 : Int32) (x2 : Int32) : Option (Int32) := (if (S d0_0 1) ≤ x2 then some x1 else ck (inb x2 5) (ih4 ((mx x1 (S d0_0 (33 + 34 * (x2).toNatClampNeg + 1))), (x2 + (1 : Int32)))))
def f_X4_greatestTerm_4 (S : Mem) (d0_0 : Nat) (x1 : Int32) (x2 : Int32) : Option (Int32) := lp (fun ih4 s9 => f_X4_greatestTerm_4_b ih4 S d0_0 s9.1 s9.2) 2000 (x1, x2)
def f_X4_greatestTerm_0 (S : Mem) (d0_0 : Nat) : Option (Int32) := f_X4_greatestTerm_4 S d0_0 (0 : Int32) (0 : Int32)
def g_X4_greatestTerm (S : Mem) (d0_0 : Nat) : Option (Int32) := f_X4_greatestTerm_0 S d0_0
set_option maxHeartbeats 4000000 in
set_option maxRecDepth 100000 in
theorem b_X4_greatestTerm_4_b {v : EV} {p : Program} {l : Launch} {e : Env} {s : State} {m : MethodId} {args : Array Value} {below : List Frame} {meth : Method} {c : Code} (hC : Cx v p l e s m args meth c RX4 cX4_greatestTerm 3 (some .int)) {S : Mem} {d0_0 : Nat} {x1 : Int32} {x2 : Int32} (h0 : d0_0 < 11) {r : Int32} {ih4 : (Int32 × Int32) → Option (Int32)} (hih4 : ∀ s9 : (Int32 × Int32), ih4 s9 = some r → Mj v p l e (rmF 1 21) s m args below meth c 3 (MQ below (Qc v (some (.int r)) S) args s 0 0 (eG v)) 0 S 4 [(0, .ref (eA v (pR d0_0))), (1, .int (s9.1)), (2, .int (s9.2))] []) (hf : f_X4_greatestTerm_4_b ih4 S d0_0 x1 x2 = some r) : Mj v p l e (rmF 1 21) s m args below meth c 3 (MQ below (Qc v (some (.int r)) S) args s 0 0 (eG v)) 0 S 4 [(0, .ref (eA v (pR d0_0))), (1, .int x1), (2, .int x2)] [] := by
  refine i_iload_n hC dX4_greatestTerm_4 rfl ?_
  refine i_aload_n hC dX4_greatestTerm_5 rfl ?_
  refine i_getI hC fl_X4_22 (pl_R h0) (lay_R h0) rfl dX4_greatestTerm_6 ?_
  refine i_icmp_ge hC (tgt := 32) dX4_greatestTerm_9 (by decide) (fun c1 => ?_) (fun c1 => ?_)
  · replace hf := (if_pos c1).symm.trans hf
    refine i_iload_n hC dX4_greatestTerm_32 rfl ?_
    obtain rfl := Option.some.inj hf
    exact i_iret hC dX4_greatestTerm_33
  · replace hf := (if_neg c1).symm.trans hf
    refine i_iload_n hC dX4_greatestTerm_12 rfl ?_
    refine i_aload_n hC dX4_greatestTerm_13 rfl ?_
    refine i_getR hC fl_X4_11 (pl_R h0) (lay_R h0) rfl dX4_greatestTerm_14 ?_
    refine i_iload_n hC dX4_greatestTerm_17 rfl ?_
    obtain ⟨k2, hf⟩ := ck_of hf
    refine i_aald hC (pl_AD h0) (lay_AD h0) (by decide) (inb_in k2) dX4_greatestTerm_18 ?_
    refine i_getI hC fl_X4_77 (pl_D ⟨h0, inb_lt k2⟩) (lay_D ⟨h0, inb_lt k2⟩) rfl dX4_greatestTerm_19 ?_
    refine i_mmax hC mw_286 mw_164 mw_40 mw_165 ⟨Nat.le_of_ble_eq_true rfl, Nat.le_of_ble_eq_true rfl⟩ dX4_greatestTerm_22 ?_
    refine i_istore_n hC dX4_greatestTerm_25 (by decide) ?_
    refine i_iinc hC dX4_greatestTerm_26 rfl li_1 (by decide) ?_
    refine i_goto hC (tgt := 4) dX4_greatestTerm_29 (by decide) ?_
    exact Mj.to (hih4 _ hf) ⟨rfl, rfl, rfl, trivial⟩
theorem b_X4_greatestTerm_4 {v : EV} {p : Program} {l : Launch} {e : Env} {s : State} {m : MethodId} {args : Array Value} {below : List Frame} {meth : Method} {c : Code} (hC : Cx v p l e s m args meth c RX4 cX4_greatestTerm 3 (some .int)) {S : Mem} {d0_0 : Nat} {x1 : Int32} {x2 : Int32} (h0 : d0_0 < 11) {r : Int32} (hf : f_X4_greatestTerm_4 S d0_0 x1 x2 = some r) : Mj v p l e (rmF 1 21) s m args below meth c 3 (MQ below (Qc v (some (.int r)) S) args s 0 0 (eG v)) 0 S 4 [(0, .ref (eA v (pR d0_0))), (1, .int x1), (2, .int x2)] [] :=
  lp_ind (P := fun s9 : (Int32 × Int32) => Mj v p l e (rmF 1 21) s m args below meth c 3 (MQ below (Qc v (some (.int r)) S) args s 0 0 (eG v)) 0 S 4 [(0, .ref (eA v (pR d0_0))), (1, .int (s9.1)), (2, .int (s9.2))] []) (fun ih s9 hih hf => b_X4_greatestTerm_4_b hC h0  hih hf) _ _ hf
set_option maxHeartbeats 4000000 in
set_option maxRecDepth 100000 in
theorem b_X4_greatestTerm_0 {v : EV} {p : Program} {l : Launch} {e : Env} {s : State} {m : MethodId} {args : Array Value} {below : List Frame} {meth : Method} {c : Code} (hC : Cx v p l e s m args meth c RX4 cX4_greatestTerm 3 (some .int)) {S : Mem} {d0_0 : Nat} (h0 : d0_0 < 11) {r : Int32} (hf : f_X4_greatestTerm_0 S d0_0 = some r) : Mj v p l e (rmF 1 21) s m args below meth c 3 (MQ below (Qc v (some (.int r)) S) args s 0 0 (eG v)) 0 S 0 [(0, .ref (eA v (pR d0_0)))] [] := by
  refine i_iconst hC dX4_greatestTerm_0 li_0 ?_
  refine i_istore_n hC dX4_greatestTerm_1 (by decide) ?_
  refine i_iconst hC dX4_greatestTerm_2 li_0 ?_
  refine i_istore_n hC dX4_greatestTerm_3 (by decide) ?_
  exact Mj.to (b_X4_greatestTerm_4 hC h0 hf) ⟨rfl, rfl, rfl, trivial⟩
theorem c_X4_greatestTerm {v : EV} {l : Launch} (hst : Stb v) {S : Mem} {d0_0 : Nat} (h0 : d0_0 < 11) {r : Int32} (hf : g_X4_greatestTerm S d0_0 = some r) : Con v l yX4_greatestTerm cX4_greatestTerm 3 (some .int) 1 21 [.ref (eA v (pR d0_0))] S (some (.int r)) S := con_of (by decide) hst (Nat.le_of_ble_eq_true rfl) (fun p e s m args below meth c hC => b_X4_greatestTerm_0 hC h0 hf)
def f_X4_hasLine_31 (S : Mem) (xt0 : Int32) : Option (Int32) := ck (isb xt0) (some xt0)
def f_X4_hasLine_30 (S : Mem)  : Option (Int32) := f_X4_hasLine_31 S (0 : Int32)
def f_X4_hasLine_0 (S : Mem) (d0_0 : Nat) (x1 : Int32) (x2 : Int32) : Option (Int32) := bd1 (g_X4_has S d0_0 x1) (fun r1 => (if r1 = 0 then f_X4_hasLine_30 S else (if x2 < (1 : Int32) then f_X4_hasLine_30 S else ck (inb x1 5) ((if (S d0_0 (33 + 34 * (x1).toNatClampNeg + 5)) < x2 then f_X4_hasLine_30 S else f_X4_hasLine_31 S (1 : Int32))))))
def g_X4_hasLine (S : Mem) (d0_0 : Nat) (x1 : Int32) (x2 : Int32) : Option (Int32) := f_X4_hasLine_0 S d0_0 x1 x2
set_option maxHeartbeats 4000000 in
set_option maxRecDepth 100000 in
theorem b_X4_hasLine_31 {v : EV} {p : Program} {l : Launch} {e : Env} {s : State} {m : MethodId} {args : Array Value} {below : List Frame} {meth : Method} {c : Code} (hC : Cx v p l e s m args meth c RX4 cX4_hasLine 3 (some .boolean)) {S : Mem} {xt0 : Int32}  {r : Int32} (hf : f_X4_hasLine_31 S xt0 = some r) : Mj v p l e (rmF 2 33) s m args below meth c 3 (MQ below (Qc v (some (.int r)) S) args s 0 0 (eG v)) 0 S 31 [] [.int xt0] := by
  obtain ⟨k3, hf⟩ := ck_of hf
  obtain rfl := Option.some.inj hf
  exact i_zret hC dX4_hasLine_31 (isb_z k3).1
set_option maxHeartbeats 4000000 in
set_option maxRecDepth 100000 in
theorem b_X4_hasLine_30 {v : EV} {p : Program} {l : Launch} {e : Env} {s : State} {m : MethodId} {args : Array Value} {below : List Frame} {meth : Method} {c : Code} (hC : Cx v p l e s m args meth c RX4 cX4_hasLine 3 (some .boolean)) {S : Mem}  {r : Int32} (hf : f_X4_hasLine_30 S = some r) : Mj v p l e (rmF 2 33) s m args below meth c 3 (MQ below (Qc v (some (.int r)) S) args s 0 0 (eG v)) 0 S 30 [] [] := by
  refine i_iconst hC dX4_hasLine_30 li_0 ?_
  exact Mj.to (b_X4_hasLine_31 hC  hf) trivial
set_option maxHeartbeats 4000000 in
set_option maxRecDepth 100000 in
theorem b_X4_hasLine_0 {v : EV} {p : Program} {l : Launch} {e : Env} {s : State} {m : MethodId} {args : Array Value} {below : List Frame} {meth : Method} {c : Code} (hC : Cx v p l e s m args meth c RX4 cX4_hasLine 3 (some .boolean)) {S : Mem} {d0_0 : Nat} {x1 : Int32} {x2 : Int32} (h0 : d0_0 < 11) {r : Int32} (hf : f_X4_hasLine_0 S d0_0 x1 x2 = some r) : Mj v p l e (rmF 2 33) s m args below meth c 3 (MQ below (Qc v (some (.int r)) S) args s 0 0 (eG v)) 0 S 0 [(0, .ref (eA v (pR d0_0))), (1, .int x1), (2, .int x2)] [] := by
  refine i_aload_n hC dX4_hasLine_0 rfl ?_
  refine i_iload_n hC dX4_hasLine_1 rfl ?_
  obtain ⟨r1, hc1, hf⟩ := bd1_of hf
  refine i_callVi hC mv_X4_51 (c_X4_has hC.2.2.2.2.2.2.2.1 h0 hc1) (pl_R h0) (lay_R h0) rfl rfl rfl rfl ⟨Nat.le_of_ble_eq_true rfl, Nat.le_of_ble_eq_true rfl⟩ (Nat.le_of_ble_eq_true rfl) dX4_hasLine_2 ?_
  refine i_if_eq hC (tgt := 30) dX4_hasLine_5 (by decide) (fun c2 => ?_) (fun c2 => ?_)
  · replace hf := (if_pos c2).symm.trans hf
    exact Mj.to (b_X4_hasLine_30 hC  hf) trivial
  · replace hf := (if_neg c2).symm.trans hf
    refine i_iload_n hC dX4_hasLine_8 rfl ?_
    refine i_iconst hC dX4_hasLine_9 li_1 ?_
    refine i_icmp_lt hC (tgt := 30) dX4_hasLine_10 (by decide) (fun c4 => ?_) (fun c4 => ?_)
    · replace hf := (if_pos c4).symm.trans hf
      exact Mj.to (b_X4_hasLine_30 hC  hf) trivial
    · replace hf := (if_neg c4).symm.trans hf
      refine i_iload_n hC dX4_hasLine_13 rfl ?_
      refine i_aload_n hC dX4_hasLine_14 rfl ?_
      refine i_getR hC fl_X4_11 (pl_R h0) (lay_R h0) rfl dX4_hasLine_15 ?_
      refine i_iload_n hC dX4_hasLine_18 rfl ?_
      obtain ⟨k5, hf⟩ := ck_of hf
      refine i_aald hC (pl_AD h0) (lay_AD h0) (by decide) (inb_in k5) dX4_hasLine_19 ?_
      refine i_getI hC fl_X4_55 (pl_D ⟨h0, inb_lt k5⟩) (lay_D ⟨h0, inb_lt k5⟩) rfl dX4_hasLine_20 ?_
      refine i_icmp_gt hC (tgt := 30) dX4_hasLine_23 (by decide) (fun c6 => ?_) (fun c6 => ?_)
      · replace hf := (if_pos c6).symm.trans hf
        exact Mj.to (b_X4_hasLine_30 hC  hf) trivial
      · replace hf := (if_neg c6).symm.trans hf
        refine i_iconst hC dX4_hasLine_26 li_1 ?_
        refine i_goto hC (tgt := 31) dX4_hasLine_27 (by decide) ?_
        exact Mj.to (b_X4_hasLine_31 hC  hf) trivial
theorem c_X4_hasLine {v : EV} {l : Launch} (hst : Stb v) {S : Mem} {d0_0 : Nat} {x1 x2 : Int32} (h0 : d0_0 < 11) {r : Int32} (hf : g_X4_hasLine S d0_0 x1 x2 = some r) : Con v l yX4_hasLine cX4_hasLine 3 (some .boolean) 2 33 [.ref (eA v (pR d0_0)), .int x1, .int x2] S (some (.int r)) S := con_of (by decide) hst (Nat.le_of_ble_eq_true rfl) (fun p e s m args below meth c hC => b_X4_hasLine_0 hC h0 hf)
def f_X3_forget_0 (S : Mem)  : Option (Mem) := some (up S 11 3 (0 : Int32))
def g_X3_forget (S : Mem)  : Option (Mem) := f_X3_forget_0 S
set_option maxHeartbeats 4000000 in
set_option maxRecDepth 100000 in
theorem b_X3_forget_0 {v : EV} {p : Program} {l : Launch} {e : Env} {s : State} {m : MethodId} {args : Array Value} {below : List Frame} {meth : Method} {c : Code} (hC : Cx v p l e s m args meth c RX3 cX3_forget 1 none) {S : Mem}  {r : Mem} (hf : f_X3_forget_0 S = some r) : Mj v p l e (rmF 1 12) s m args below meth c 1 (MQ below (Qc v (none) r) args s 0 0 (eG v)) 0 S 0 [(0, .ref (eA v (199)))] [] := by
  refine i_aload_n hC dX3_forget_0 rfl ?_
  refine i_iconst hC dX3_forget_1 li_0 ?_
  refine i_putI hC fl_X3_26 (pln rfl) (lay_p199) rfl (bk_l ⟨rfl, rfl, rfl, rfl⟩) (nf_int _) dX3_forget_2 ?_
  obtain rfl := Option.some.inj hf
  exact i_vret hC dX3_forget_5
theorem c_X3_forget {v : EV} {l : Launch} (hst : Stb v) {S : Mem}  {r : Mem} (hf : g_X3_forget S = some r) : Con v l yX3_forget cX3_forget 1 none 1 12 [.ref (eA v (199))] S (none) r := con_of (by decide) hst (Nat.le_of_ble_eq_true rfl) (fun p e s m args below meth c hC => b_X3_forget_0 hC  hf)
def f_X5_put_0 (S : Mem) (x1 : Int32) (x2 : Int32) : Option (Mem) := some (up (up (up (up S 11 4 x1) 11 5 x2) 11 6 (0 : Int32)) 11 7 (0 : Int32))
def g_X5_put (S : Mem) (x1 : Int32) (x2 : Int32) : Option (Mem) := f_X5_put_0 S x1 x2
set_option maxHeartbeats 4000000 in
set_option maxRecDepth 100000 in
theorem b_X5_put_0 {v : EV} {p : Program} {l : Launch} {e : Env} {s : State} {m : MethodId} {args : Array Value} {below : List Frame} {meth : Method} {c : Code} (hC : Cx v p l e s m args meth c RX5 cX5_put 3 none) {S : Mem} {x1 : Int32} {x2 : Int32}  {r : Mem} (hf : f_X5_put_0 S x1 x2 = some r) : Mj v p l e (rmF 1 12) s m args below meth c 3 (MQ below (Qc v (none) r) args s 0 0 (eG v)) 0 S 0 [(0, .ref (eA v (201))), (1, .int x1), (2, .int x2)] [] := by
  refine i_aload_n hC dX5_put_0 rfl ?_
  refine i_iload_n hC dX5_put_1 rfl ?_
  refine i_putI hC fl_X5_7 (pln rfl) (lay_p201) rfl (bk_l ⟨rfl, rfl, rfl, rfl⟩) (nf_int _) dX5_put_2 ?_
  refine i_aload_n hC dX5_put_5 rfl ?_
  refine i_iload_n hC dX5_put_6 rfl ?_
  refine i_putI hC fl_X5_13 (pln rfl) (lay_p201) rfl (bk_l ⟨rfl, rfl, rfl, rfl⟩) (nf_int _) dX5_put_7 ?_
  refine i_aload_n hC dX5_put_10 rfl ?_
  refine i_iconst hC dX5_put_11 li_0 ?_
  refine i_putI hC fl_X5_16 (pln rfl) (lay_p201) rfl (bk_l ⟨rfl, rfl, rfl, rfl⟩) (nf_int _) dX5_put_12 ?_
  refine i_aload_n hC dX5_put_15 rfl ?_
  refine i_iconst hC dX5_put_16 li_0 ?_
  refine i_putI hC fl_X5_19 (pln rfl) (lay_p201) rfl (bk_l ⟨rfl, rfl, rfl, rfl⟩) (nf_int _) dX5_put_17 ?_
  obtain rfl := Option.some.inj hf
  exact i_vret hC dX5_put_20
theorem c_X5_put {v : EV} {l : Launch} (hst : Stb v) {S : Mem} {x1 x2 : Int32}  {r : Mem} (hf : g_X5_put S x1 x2 = some r) : Con v l yX5_put cX5_put 3 none 1 12 [.ref (eA v (201)), .int x1, .int x2] S (none) r := con_of (by decide) hst (Nat.le_of_ble_eq_true rfl) (fun p e s m args below meth c hC => b_X5_put_0 hC  hf)
def f_X5_putAhead_0 (S : Mem) (x1 : Int32) (x2 : Int32) : Option (Mem) := some (up (up (up (up S 11 6 (S 11 4)) 11 7 ((up S 11 6 (S 11 4)) 11 5)) 11 4 x1) 11 5 x2)
def g_X5_putAhead (S : Mem) (x1 : Int32) (x2 : Int32) : Option (Mem) := f_X5_putAhead_0 S x1 x2
set_option maxHeartbeats 4000000 in
set_option maxRecDepth 100000 in
theorem b_X5_putAhead_0 {v : EV} {p : Program} {l : Launch} {e : Env} {s : State} {m : MethodId} {args : Array Value} {below : List Frame} {meth : Method} {c : Code} (hC : Cx v p l e s m args meth c RX5 cX5_putAhead 3 none) {S : Mem} {x1 : Int32} {x2 : Int32}  {r : Mem} (hf : f_X5_putAhead_0 S x1 x2 = some r) : Mj v p l e (rmF 1 12) s m args below meth c 3 (MQ below (Qc v (none) r) args s 0 0 (eG v)) 0 S 0 [(0, .ref (eA v (201))), (1, .int x1), (2, .int x2)] [] := by
  refine i_aload_n hC dX5_putAhead_0 rfl ?_
  refine i_aload_n hC dX5_putAhead_1 rfl ?_
  refine i_getI hC fl_X5_7 (pln rfl) (lay_p201) rfl dX5_putAhead_2 ?_
  refine i_putI hC fl_X5_16 (pln rfl) (lay_p201) rfl (bk_l ⟨rfl, rfl, rfl, rfl⟩) (nf_int _) dX5_putAhead_5 ?_
  refine i_aload_n hC dX5_putAhead_8 rfl ?_
  refine i_aload_n hC dX5_putAhead_9 rfl ?_
  refine i_getI hC fl_X5_13 (pln rfl) (lay_p201) rfl dX5_putAhead_10 ?_
  refine i_putI hC fl_X5_19 (pln rfl) (lay_p201) rfl (bk_l ⟨rfl, rfl, rfl, rfl⟩) (nf_int _) dX5_putAhead_13 ?_
  refine i_aload_n hC dX5_putAhead_16 rfl ?_
  refine i_iload_n hC dX5_putAhead_17 rfl ?_
  refine i_putI hC fl_X5_7 (pln rfl) (lay_p201) rfl (bk_l ⟨rfl, rfl, rfl, rfl⟩) (nf_int _) dX5_putAhead_18 ?_
  refine i_aload_n hC dX5_putAhead_21 rfl ?_
  refine i_iload_n hC dX5_putAhead_22 rfl ?_
  refine i_putI hC fl_X5_13 (pln rfl) (lay_p201) rfl (bk_l ⟨rfl, rfl, rfl, rfl⟩) (nf_int _) dX5_putAhead_23 ?_
  obtain rfl := Option.some.inj hf
  exact i_vret hC dX5_putAhead_26
theorem c_X5_putAhead {v : EV} {l : Launch} (hst : Stb v) {S : Mem} {x1 x2 : Int32}  {r : Mem} (hf : g_X5_putAhead S x1 x2 = some r) : Con v l yX5_putAhead cX5_putAhead 3 none 1 12 [.ref (eA v (201)), .int x1, .int x2] S (none) r := con_of (by decide) hst (Nat.le_of_ble_eq_true rfl) (fun p e s m args below meth c hC => b_X5_putAhead_0 hC  hf)
def f_X8_refuse_0 (S : Mem) (x1 : Int32) (x2 : Int32) : Option (Int32 × Mem) := bd1 (g_X5_put S x1 x2) (fun S1 => some ((-3 : Int32), S1))
def g_X8_refuse (S : Mem) (x1 : Int32) (x2 : Int32) : Option (Int32 × Mem) := f_X8_refuse_0 S x1 x2
set_option maxHeartbeats 4000000 in
set_option maxRecDepth 100000 in
theorem b_X8_refuse_0 {v : EV} {p : Program} {l : Launch} {e : Env} {s : State} {m : MethodId} {args : Array Value} {below : List Frame} {meth : Method} {c : Code} (hC : Cx v p l e s m args meth c RX8 cX8_refuse 3 (some .int)) {S : Mem} {x1 : Int32} {x2 : Int32}  {r : Int32 × Mem} (hf : f_X8_refuse_0 S x1 x2 = some r) : Mj v p l e (rmF 2 34) s m args below meth c 3 (MQ below (Qc v (some (.int r.1)) r.2) args s 0 0 (eG v)) 0 S 0 [(0, .ref (eA v (198))), (1, .int x1), (2, .int x2)] [] := by
  refine i_aload_n hC dX8_refuse_0 rfl ?_
  refine i_getR hC fl_X8_32 (pln rfl) (lay_p198) rfl dX8_refuse_1 ?_
  refine i_iload_n hC dX8_refuse_4 rfl ?_
  refine i_iload_n hC dX8_refuse_5 rfl ?_
  obtain ⟨S1, hc1, hf⟩ := bd1_of hf
  refine i_callVv hC mv_X8_245 (c_X5_put hC.2.2.2.2.2.2.2.1 hc1) (pln rfl) (lay_p201) rfl rfl rfl rfl ⟨Nat.le_of_ble_eq_true rfl, Nat.le_of_ble_eq_true rfl⟩ (Nat.le_of_ble_eq_true rfl) dX8_refuse_6 ?_
  refine i_bipush hC dX8_refuse_9 lb_m3 ?_
  obtain rfl := Option.some.inj hf
  exact i_iret hC dX8_refuse_11
theorem c_X8_refuse {v : EV} {l : Launch} (hst : Stb v) {S : Mem} {x1 x2 : Int32}  {r : Int32 × Mem} (hf : g_X8_refuse S x1 x2 = some r) : Con v l yX8_refuse cX8_refuse 3 (some .int) 2 34 [.ref (eA v (198)), .int x1, .int x2] S (some (.int r.1)) r.2 := con_of (by decide) hst (Nat.le_of_ble_eq_true rfl) (fun p e s m args below meth c hC => b_X8_refuse_0 hC  hf)
def f_X8_letShout_25 (S : Mem)  : Option (Int32 × Mem) := some ((-2 : Int32), S)
def f_X8_letShout_0 (S : Mem) (x1 : Int32) (x2 : Int32) : Option (Int32 × Mem) := bd1 (g_X4_has S 0 x1) (fun r1 => (if r1 = 0 then some ((-1 : Int32), S) else (if x2 < (97 : Int32) then f_X8_letShout_25 S else (if x2 ≤ (122 : Int32) then ck (inb x1 5) ((if (S 0 (33 + 34 * (x1).toNatClampNeg + 7)) = 0 then bd2 (g_X8_refuse S (2 : Int32) x1) (fun r12 S12 => some (r12, S12)) else (if (S 0 (33 + 34 * (x1).toNatClampNeg)) = (2 : Int32) then (if (S 0 (33 + 34 * (x1).toNatClampNeg + 5)) < (12 : Int32) then bd1 (g_X2_write (up S 0 4 ((S 0 4) + (1 : Int32))) 0 (x1).toNatClampNeg ((up S 0 4 ((S 0 4) + (1 : Int32))) 0 (33 + 34 * (x1).toNatClampNeg + 1)) ((x2.toUInt32 % 65536).toInt32)) (fun S9 => some ((S9 0 (33 + 34 * (x1).toNatClampNeg + 5)), S9)) else bd2 (g_X8_refuse S (1 : Int32) (12 : Int32)) (fun r10 S10 => some (r10, S10))) else bd2 (g_X8_refuse S (4 : Int32) (S 0 (33 + 34 * (x1).toNatClampNeg + 1))) (fun r11 S11 => some (r11, S11))))) else f_X8_letShout_25 S))))
def g_X8_letShout (S : Mem) (x1 : Int32) (x2 : Int32) : Option (Int32 × Mem) := f_X8_letShout_0 S x1 x2
set_option maxHeartbeats 4000000 in
set_option maxRecDepth 100000 in
theorem b_X8_letShout_25 {v : EV} {p : Program} {l : Launch} {e : Env} {s : State} {m : MethodId} {args : Array Value} {below : List Frame} {meth : Method} {c : Code} (hC : Cx v p l e s m args meth c RX8 cX8_letShout 4 (some .int)) {S : Mem}  {r : Int32 × Mem} (hf : f_X8_letShout_25 S = some r) : Mj v p l e (rmF 3 56) s m args below meth c 4 (MQ below (Qc v (some (.int r.1)) r.2) args s 0 0 (eG v)) 0 S 25 [] [] := by
  refine i_bipush hC dX8_letShout_25 lb_m2 ?_
  obtain rfl := Option.some.inj hf
  exact i_iret hC dX8_letShout_27
set_option maxHeartbeats 4000000 in
set_option maxRecDepth 100000 in
theorem b_X8_letShout_0 {v : EV} {p : Program} {l : Launch} {e : Env} {s : State} {m : MethodId} {args : Array Value} {below : List Frame} {meth : Method} {c : Code} (hC : Cx v p l e s m args meth c RX8 cX8_letShout 4 (some .int)) {S : Mem} {x1 : Int32} {x2 : Int32}  {r : Int32 × Mem} (hf : f_X8_letShout_0 S x1 x2 = some r) : Mj v p l e (rmF 3 56) s m args below meth c 4 (MQ below (Qc v (some (.int r.1)) r.2) args s 0 0 (eG v)) 0 S 0 [(0, .ref (eA v (198))), (1, .int x1), (2, .int x2)] [] := by
  refine i_aload_n hC dX8_letShout_0 rfl ?_
  refine i_getR (x := pR 0) hC fl_X8_12 (pln rfl) (lay_p198) rfl dX8_letShout_1 ?_
  refine i_iload_n hC dX8_letShout_4 rfl ?_
  obtain ⟨r1, hc1, hf⟩ := bd1_of hf
  refine i_callVi hC mv_X8_187 (c_X4_has hC.2.2.2.2.2.2.2.1 (by decide) hc1) (pl_R (by decide)) (lay_R (by decide)) rfl rfl rfl rfl ⟨Nat.le_of_ble_eq_true rfl, Nat.le_of_ble_eq_true rfl⟩ (Nat.le_of_ble_eq_true rfl) dX8_letShout_5 ?_
  refine i_if_ne hC (tgt := 13) dX8_letShout_8 (by decide) (fun c2 => ?_) (fun c2 => ?_)
  · replace hf := (if_neg c2).symm.trans hf
    refine i_iload_n hC dX8_letShout_13 rfl ?_
    refine i_bipush hC dX8_letShout_14 lb_97 ?_
    refine i_icmp_lt hC (tgt := 25) dX8_letShout_16 (by decide) (fun c3 => ?_) (fun c3 => ?_)
    · replace hf := (if_pos c3).symm.trans hf
      exact Mj.to (b_X8_letShout_25 hC  hf) trivial
    · replace hf := (if_neg c3).symm.trans hf
      refine i_iload_n hC dX8_letShout_19 rfl ?_
      refine i_bipush hC dX8_letShout_20 lb_122 ?_
      refine i_icmp_le hC (tgt := 28) dX8_letShout_22 (by decide) (fun c4 => ?_) (fun c4 => ?_)
      · replace hf := (if_pos c4).symm.trans hf
        refine i_aload_n hC dX8_letShout_28 rfl ?_
        refine i_getR (x := pR 0) hC fl_X8_12 (pln rfl) (lay_p198) rfl dX8_letShout_29 ?_
        refine i_getR hC fl_X8_191 (pl_R (by decide)) (lay_R (by decide)) rfl dX8_letShout_32 ?_
        refine i_iload_n hC dX8_letShout_35 rfl ?_
        obtain ⟨k5, hf⟩ := ck_of hf
        refine i_aald hC (pl_AD (by decide)) (lay_AD (by decide)) (by decide) (inb_in k5) dX8_letShout_36 ?_
        refine i_astore_n hC dX8_letShout_37 (by decide) ?_
        refine i_aload_n hC dX8_letShout_38 rfl ?_
        refine i_getI hC fl_X8_195 (pl_D ⟨(by decide), inb_lt k5⟩) (lay_D ⟨(by decide), inb_lt k5⟩) rfl dX8_letShout_39 ?_
        refine i_if_ne hC (tgt := 52) dX8_letShout_42 (by decide) (fun c6 => ?_) (fun c6 => ?_)
        · replace hf := (if_neg c6).symm.trans hf
          refine i_aload_n hC dX8_letShout_52 rfl ?_
          refine i_getI hC fl_X8_201 (pl_D ⟨(by decide), inb_lt k5⟩) (lay_D ⟨(by decide), inb_lt k5⟩) rfl dX8_letShout_53 ?_
          refine i_iconst hC dX8_letShout_56 li_2 ?_
          refine i_icmp_eq hC (tgt := 70) dX8_letShout_57 (by decide) (fun c7 => ?_) (fun c7 => ?_)
          · replace hf := (if_pos c7).symm.trans hf
            refine i_aload_n hC dX8_letShout_70 rfl ?_
            refine i_getI hC fl_X8_213 (pl_D ⟨(by decide), inb_lt k5⟩) (lay_D ⟨(by decide), inb_lt k5⟩) rfl dX8_letShout_71 ?_
            refine i_bipush hC dX8_letShout_74 lb_12 ?_
            refine i_icmp_lt hC (tgt := 87) dX8_letShout_76 (by decide) (fun c8 => ?_) (fun c8 => ?_)
            · replace hf := (if_pos c8).symm.trans hf
              refine i_aload_n hC dX8_letShout_87 rfl ?_
              refine i_getR (x := pR 0) hC fl_X8_12 (pln rfl) (lay_p198) rfl dX8_letShout_88 ?_
              refine i_dup hC dX8_letShout_91 rfl ?_
              refine i_getI hC fl_X8_216 (pl_R (by decide)) (lay_R (by decide)) rfl dX8_letShout_92 ?_
              refine i_iconst hC dX8_letShout_95 li_1 ?_
              refine i_iadd hC dX8_letShout_96 ?_
              refine i_putI hC fl_X8_216 (pl_R (by decide)) (lay_R (by decide)) rfl (bk_k (by decide)) (nf_int _) dX8_letShout_97 ?_
              refine i_aload_n hC dX8_letShout_100 rfl ?_
              refine i_aload_n hC dX8_letShout_101 rfl ?_
              refine i_getI hC fl_X8_204 (pl_D ⟨(by decide), inb_lt k5⟩) (lay_D ⟨(by decide), inb_lt k5⟩) rfl dX8_letShout_102 ?_
              refine i_iload_n hC dX8_letShout_105 rfl ?_
              refine i_i2c hC dX8_letShout_106 ?_
              obtain ⟨S9, hc9, hf⟩ := bd1_of hf
              refine i_callVv hC mv_X8_219 (c_X2_write hC.2.2.2.2.2.2.2.1 ⟨(by decide), inb_lt k5⟩ hc9) (pl_D ⟨(by decide), inb_lt k5⟩) (lay_D ⟨(by decide), inb_lt k5⟩) rfl rfl rfl rfl ⟨Nat.le_of_ble_eq_true rfl, Nat.le_of_ble_eq_true rfl⟩ (Nat.le_of_ble_eq_true rfl) dX8_letShout_107 ?_
              refine i_aload_n hC dX8_letShout_110 rfl ?_
              refine i_getI hC fl_X8_213 (pl_D ⟨(by decide), inb_lt k5⟩) (lay_D ⟨(by decide), inb_lt k5⟩) rfl dX8_letShout_111 ?_
              obtain rfl := Option.some.inj hf
              exact i_iret hC dX8_letShout_114
            · replace hf := (if_neg c8).symm.trans hf
              refine i_aload_n hC dX8_letShout_79 rfl ?_
              refine i_iconst hC dX8_letShout_80 li_1 ?_
              refine i_bipush hC dX8_letShout_81 lb_12 ?_
              obtain ⟨r10, S10, hc10, hf⟩ := bd2_of hf
              refine i_callVi hC mv_X8_181 (c_X8_refuse hC.2.2.2.2.2.2.2.1 hc10) (pln rfl) (lay_p198) rfl rfl rfl rfl ⟨Nat.le_of_ble_eq_true rfl, Nat.le_of_ble_eq_true rfl⟩ (Nat.le_of_ble_eq_true rfl) dX8_letShout_83 ?_
              obtain rfl := Option.some.inj hf
              exact i_iret hC dX8_letShout_86
          · replace hf := (if_neg c7).symm.trans hf
            refine i_aload_n hC dX8_letShout_60 rfl ?_
            refine i_iconst hC dX8_letShout_61 li_4 ?_
            refine i_aload_n hC dX8_letShout_62 rfl ?_
            refine i_getI hC fl_X8_204 (pl_D ⟨(by decide), inb_lt k5⟩) (lay_D ⟨(by decide), inb_lt k5⟩) rfl dX8_letShout_63 ?_
            obtain ⟨r11, S11, hc11, hf⟩ := bd2_of hf
            refine i_callVi hC mv_X8_181 (c_X8_refuse hC.2.2.2.2.2.2.2.1 hc11) (pln rfl) (lay_p198) rfl rfl rfl rfl ⟨Nat.le_of_ble_eq_true rfl, Nat.le_of_ble_eq_true rfl⟩ (Nat.le_of_ble_eq_true rfl) dX8_letShout_66 ?_
            obtain rfl := Option.some.inj hf
            exact i_iret hC dX8_letShout_69
        · replace hf := (if_pos c6).symm.trans hf
          refine i_aload_n hC dX8_letShout_45 rfl ?_
          refine i_iconst hC dX8_letShout_46 li_2 ?_
          refine i_iload_n hC dX8_letShout_47 rfl ?_
          obtain ⟨r12, S12, hc12, hf⟩ := bd2_of hf
          refine i_callVi hC mv_X8_181 (c_X8_refuse hC.2.2.2.2.2.2.2.1 hc12) (pln rfl) (lay_p198) rfl rfl rfl rfl ⟨Nat.le_of_ble_eq_true rfl, Nat.le_of_ble_eq_true rfl⟩ (Nat.le_of_ble_eq_true rfl) dX8_letShout_48 ?_
          obtain rfl := Option.some.inj hf
          exact i_iret hC dX8_letShout_51
      · replace hf := (if_neg c4).symm.trans hf
        exact Mj.to (b_X8_letShout_25 hC  hf) trivial
  · replace hf := (if_pos c2).symm.trans hf
    refine i_iconst hC dX8_letShout_11 li_m1 ?_
    obtain rfl := Option.some.inj hf
    exact i_iret hC dX8_letShout_12
theorem c_X8_letShout {v : EV} {l : Launch} (hst : Stb v) {S : Mem} {x1 x2 : Int32}  {r : Int32 × Mem} (hf : g_X8_letShout S x1 x2 = some r) : Con v l yX8_letShout cX8_letShout 4 (some .int) 3 56 [.ref (eA v (198)), .int x1, .int x2] S (some (.int r.1)) r.2 := con_of (by decide) hst (Nat.le_of_ble_eq_true rfl) (fun p e s m args below meth c hC => b_X8_letShout_0 hC  hf)
