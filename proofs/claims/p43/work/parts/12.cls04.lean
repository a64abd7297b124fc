def f_X2_followLeader_58 (S : Mem) (d0_0 : Nat) (d0_1 : Nat) (d1_0 : Nat) (d1_1 : Nat) (x3 : Int32) : Option (Int32 × Mem) := some (x3, (up S d0_0 (33 + 34 * d0_1 + 6) (mx (S d0_0 (33 + 34 * d0_1 + 6)) (mn (S d1_0 (33 + 34 * d1_1 + 6)) (S d0_0 (33 + 34 * d0_1 + 5))))))
def f_X2_followLeader_19 (S : Mem) (d0_0 : Nat) (d0_1 : Nat) (d1_0 : Nat) (d1_1 : Nat) : Option (Int32 × Mem) := bd1 (g_X2_countSameLines (up (up S d0_0 (33 + 34 * d0_1) (0 : Int32)) d0_0 (33 + 34 * d0_1 + 3) (0 : Int32)) d0_0 d0_1 d1_0 d1_1) (fun r2 => (if ((up (up S d0_0 (33 + 34 * d0_1) (0 : Int32)) d0_0 (33 + 34 * d0_1 + 3) (0 : Int32)) d1_0 (33 + 34 * d1_1 + 5)) ≤ r2 then f_X2_followLeader_58 (up (up S d0_0 (33 + 34 * d0_1) (0 : Int32)) d0_0 (33 + 34 * d0_1 + 3) (0 : Int32)) d0_0 d0_1 d1_0 d1_1 (0 : Int32) else bd1 (g_X2_copyLines (up (up S d0_0 (33 + 34 * d0_1) (0 : Int32)) d0_0 (33 + 34 * d0_1 + 3) (0 : Int32)) d0_0 d0_1 d1_0 d1_1 r2) (fun S4 => f_X2_followLeader_58 S4 d0_0 d0_1 d1_0 d1_1 (((up (up S d0_0 (33 + 34 * d0_1) (0 : Int32)) d0_0 (33 + 34 * d0_1 + 3) (0 : Int32)) d0_0 (33 + 34 * d0_1 + 5)) - r2))))
def f_X2_followLeader_0 (S : Mem) (d0_0 : Nat) (d0_1 : Nat) (d1_0 : Nat) (d1_1 : Nat) : Option (Int32 × Mem) := (if (S d1_0 (33 + 34 * d1_1 + 1)) ≤ (S d0_0 (33 + 34 * d0_1 + 1)) then f_X2_followLeader_19 S d0_0 d0_1 d1_0 d1_1 else bd1 (g_X2_takeOver S d0_0 d0_1 (S d1_0 (33 + 34 * d1_1 + 1))) (fun S5 => f_X2_followLeader_19 S5 d0_0 d0_1 d1_0 d1_1))
def g_X2_followLeader (S : Mem) (d0_0 : Nat) (d0_1 : Nat) (d1_0 : Nat) (d1_1 : Nat) : Option (Int32 × Mem) := f_X2_followLeader_0 S d0_0 d0_1 d1_0 d1_1
set_option maxHeartbeats 4000000 in
set_option maxRecDepth 100000 in
theorem b_X2_followLeader_58 {v : EV} {p : Program} {l : Launch} {e : Env} {s : State} {m : MethodId} {args : Array Value} {below : List Frame} {meth : Method} {c : Code} (hC : Cx v p l e s m args meth c RX2 cX2_followLeader 4 (some .int)) {S : Mem} {d0_0 : Nat} {d0_1 : Nat} {d1_0 : Nat} {d1_1 : Nat} {x3 : Int32} (h0 : d0_0 < 11 ∧ d0_1 < 5) (h1 : d1_0 < 11 ∧ d1_1 < 5) {r : Int32 × Mem} (hf : f_X2_followLeader_58 S d0_0 d0_1 d1_0 d1_1 x3 = some r) : Mj v p l e (rmF 2 44) s m args below meth c 4 (MQ below (Qc v (some (.int r.1)) r.2) args s 0 0 (eG v)) 0 S 58 [(0, .ref (eA v (pD d0_0 d0_1))), (1, .ref (eA v (pD d1_0 d1_1))), (3, .int x3)] [] := by
  refine i_aload_n hC dX2_followLeader_58 rfl ?_
  refine i_aload_n hC dX2_followLeader_59 rfl ?_
  refine i_getI hC fl_X2_38 (pl_D h0) (lay_D h0) rfl dX2_followLeader_60 ?_
  refine i_aload_n hC dX2_followLeader_63 rfl ?_
  refine i_getI hC fl_X2_38 (pl_D h1) (lay_D h1) rfl dX2_followLeader_64 ?_
  refine i_aload_n hC dX2_followLeader_67 rfl ?_
  refine i_getI hC fl_X2_35 (pl_D h0) (lay_D h0) rfl dX2_followLeader_68 ?_
  refine i_mmin hC mw_160 mw_161 mw_40 mw_162 ⟨Nat.le_of_ble_eq_true rfl, Nat.le_of_ble_eq_true rfl⟩ dX2_followLeader_71 ?_
  refine i_mmax hC mw_163 mw_164 mw_40 mw_165 ⟨Nat.le_of_ble_eq_true rfl, Nat.le_of_ble_eq_true rfl⟩ dX2_followLeader_74 ?_
  refine i_putI hC fl_X2_38 (pl_D h0) (lay_D h0) rfl (bk_k (h0).1) (nf_int _) dX2_followLeader_77 ?_
  refine i_iload_n hC dX2_followLeader_80 rfl ?_
  obtain rfl := Option.some.inj hf
  exact i_iret hC dX2_followLeader_81
set_option maxHeartbeats 4000000 in
set_option maxRecDepth 100000 in
theorem b_X2_followLeader_19 {v : EV} {p : Program} {l : Launch} {e : Env} {s : State} {m : MethodId} {args : Array Value} {below : List Frame} {meth : Method} {c : Code} (hC : Cx v p l e s m args meth c RX2 cX2_followLeader 4 (some .int)) {S : Mem} {d0_0 : Nat} {d0_1 : Nat} {d1_0 : Nat} {d1_1 : Nat} (h0 : d0_0 < 11 ∧ d0_1 < 5) (h1 : d1_0 < 11 ∧ d1_1 < 5) {r : Int32 × Mem} (hf : f_X2_followLeader_19 S d0_0 d0_1 d1_0 d1_1 = some r) : Mj v p l e (rmF 2 44) s m args below meth c 4 (MQ below (Qc v (some (.int r.1)) r.2) args s 0 0 (eG v)) 0 S 19 [(0, .ref (eA v (pD d0_0 d0_1))), (1, .ref (eA v (pD d1_0 d1_1)))] [] := by
  refine i_aload_n hC dX2_followLeader_19 rfl ?_
  refine i_iconst hC dX2_followLeader_20 li_0 ?_
  refine i_putI hC fl_X2_19 (pl_D h0) (lay_D h0) rfl (bk_k (h0).1) (nf_int _) dX2_followLeader_21 ?_
  refine i_aload_n hC dX2_followLeader_24 rfl ?_
  refine i_iconst hC dX2_followLeader_25 li_0 ?_
  refine i_putI hC fl_X2_29 (pl_D h0) (lay_D h0) rfl (bk_k (h0).1) (nf_int _) dX2_followLeader_26 ?_
  refine i_aload_n hC dX2_followLeader_29 rfl ?_
  refine i_aload_n hC dX2_followLeader_30 rfl ?_
  obtain ⟨r2, hc2, hf⟩ := bd1_of hf
  refine i_callVi hC mv_X2_65 (c_X2_countSameLines hC.2.2.2.2.2.2.2.1 h0 h1 hc2) (pl_D h0) (lay_D h0) rfl rfl rfl rfl ⟨Nat.le_of_ble_eq_true rfl, Nat.le_of_ble_eq_true rfl⟩ (Nat.le_of_ble_eq_true rfl) dX2_followLeader_31 ?_
  refine i_istore_n hC dX2_followLeader_34 (by decide) ?_
  refine i_iconst hC dX2_followLeader_35 li_0 ?_
  refine i_istore_n hC dX2_followLeader_36 (by decide) ?_
  refine i_aload_n hC dX2_followLeader_37 rfl ?_
  refine i_getI hC fl_X2_35 (pl_D h1) (lay_D h1) rfl dX2_followLeader_38 ?_
  refine i_iload_n hC dX2_followLeader_41 rfl ?_
  refine i_icmp_le hC (tgt := 58) dX2_followLeader_42 (by decide) (fun c3 => ?_) (fun c3 => ?_)
  · replace hf := (if_pos c3).symm.trans hf
    exact Mj.to (b_X2_followLeader_58 hC h0 h1 hf) ⟨rfl, rfl, rfl, trivial⟩
  · replace hf := (if_neg c3).symm.trans hf
    refine i_aload_n hC dX2_followLeader_45 rfl ?_
    refine i_getI hC fl_X2_35 (pl_D h0) (lay_D h0) rfl dX2_followLeader_46 ?_
    refine i_iload_n hC dX2_followLeader_49 rfl ?_
    refine i_isub hC dX2_followLeader_50 ?_
    refine i_istore_n hC dX2_followLeader_51 (by decide) ?_
    refine i_aload_n hC dX2_followLeader_52 rfl ?_
    refine i_aload_n hC dX2_followLeader_53 rfl ?_
    refine i_iload_n hC dX2_followLeader_54 rfl ?_
    obtain ⟨S4, hc4, hf⟩ := bd1_of hf
    refine i_callVv hC mv_X2_51 (c_X2_copyLines hC.2.2.2.2.2.2.2.1 h0 h1 hc4) (pl_D h0) (lay_D h0) rfl rfl rfl rfl ⟨Nat.le_of_ble_eq_true rfl, Nat.le_of_ble_eq_true rfl⟩ (Nat.le_of_ble_eq_true rfl) dX2_followLeader_55 ?_
    exact Mj.to (b_X2_followLeader_58 hC h0 h1 hf) ⟨rfl, rfl, rfl, trivial⟩
set_option maxHeartbeats 4000000 in
set_option maxRecDepth 100000 in
theorem b_X2_followLeader_0 {v : EV} {p : Program} {l : Launch} {e : Env} {s : State} {m : MethodId} {args : Array Value} {below : List Frame} {meth : Method} {c : Code} (hC : Cx v p l e s m args meth c RX2 cX2_followLeader 4 (some .int)) {S : Mem} {d0_0 : Nat} {d0_1 : Nat} {d1_0 : Nat} {d1_1 : Nat} (h0 : d0_0 < 11 ∧ d0_1 < 5) (h1 : d1_0 < 11 ∧ d1_1 < 5) {r : Int32 × Mem} (hf : f_X2_followLeader_0 S d0_0 d0_1 d1_0 d1_1 = some r) : Mj v p l e (rmF 2 44) s m args below meth c 4 (MQ below (Qc v (some (.int r.1)) r.2) args s 0 0 (eG v)) 0 S 0 [(0, .ref (eA v (pD d0_0 d0_1))), (1, .ref (eA v (pD d1_0 d1_1)))] [] := by
  refine i_aload_n hC dX2_followLeader_0 rfl ?_
  refine i_getI hC fl_X2_23 (pl_D h0) (lay_D h0) rfl dX2_followLeader_1 ?_
  refine i_aload_n hC dX2_followLeader_4 rfl ?_
  refine i_getI hC fl_X2_23 (pl_D h1) (lay_D h1) rfl dX2_followLeader_5 ?_
  refine i_icmp_ge hC (tgt := 19) dX2_followLeader_8 (by decide) (fun c1 => ?_) (fun c1 => ?_)
  · replace hf := (if_pos c1).symm.trans hf
    exact Mj.to (b_X2_followLeader_19 hC h0 h1 hf) ⟨rfl, rfl, trivial⟩
  · replace hf := (if_neg c1).symm.trans hf
    refine i_aload_n hC dX2_followLeader_11 rfl ?_
    refine i_aload_n hC dX2_followLeader_12 rfl ?_
    refine i_getI hC fl_X2_23 (pl_D h1) (lay_D h1) rfl dX2_followLeader_13 ?_
    obtain ⟨S5, hc5, hf⟩ := bd1_of hf
    refine i_callVv hC mv_X2_61 (c_X2_takeOver hC.2.2.2.2.2.2.2.1 h0 hc5) (pl_D h0) (lay_D h0) rfl rfl rfl rfl ⟨Nat.le_of_ble_eq_true rfl, Nat.le_of_ble_eq_true rfl⟩ (Nat.le_of_ble_eq_true rfl) dX2_followLeader_16 ?_
    exact Mj.to (b_X2_followLeader_19 hC h0 h1 hf) ⟨rfl, rfl, trivial⟩
theorem c_X2_followLeader {v : EV} {l : Launch} (hst : Stb v) {S : Mem} {d0_0 d0_1 d1_0 d1_1 : Nat} (h0 : d0_0 < 11 ∧ d0_1 < 5) (h1 : d1_0 < 11 ∧ d1_1 < 5) {r : Int32 × Mem} (hf : g_X2_followLeader S d0_0 d0_1 d1_0 d1_1 = some r) : Con v l yX2_followLeader cX2_followLeader 4 (some .int) 2 44 [.ref (eA v (pD d0_0 d0_1)), .ref (eA v (pD d1_0 d1_1))] S (some (.int r.1)) r.2 := con_of (by decide) hst (Nat.le_of_ble_eq_true rfl) (fun p e s m args below meth c hC => b_X2_followLeader_0 hC h0 h1 hf)
def f_X4_copyFrom_33_b (ih33 : (Mem × Int32) → Option (Mem)) (S : Mem) (d0_0 : Nat) (d1_0 : Nat) (x2 : Int32) : Option (Mem) := (if (25 : Int32) ≤ x2 then some (up (up (up (up (up (up (up (up S d0_0 1 (S d1_0 1)) d0_0 0 ((up S d0_0 1 (S d1_0 1)) d1_0 0)) d0_0 2 ((up (up S d0_0 1 (S d1_0 1)) d0_0 0 ((up S d0_0 1 (S d1_0 1)) d1_0 0)) d1_0 2)) d0_0 3 ((up (up (up S d0_0 1 (S d1_0 1)) d0_0 0 ((up S d0_0 1 (S d1_0 1)) d1_0 0)) d0_0 2 ((up (up S d0_0 1 (S d1_0 1)) d0_0 0 ((up S d0_0 1 (S d1_0 1)) d1_0 0)) d1_0 2)) d1_0 3)) d0_0 4 ((up (up (up (up S d0_0 1 (S d1_0 1)) d0_0 0 ((up S d0_0 1 (S d1_0 1)) d1_0 0)) d0_0 2 ((up (up S d0_0 1 (S d1_0 1)) d0_0 0 ((up S d0_0 1 (S d1_0 1)) d1_0 0)) d1_0 2)) d0_0 3 ((up (up (up S d0_0 1 (S d1_0 1)) d0_0 0 ((up S d0_0 1 (S d1_0 1)) d1_0 0)) d0_0 2 ((up (up S d0_0 1 (S d1_0 1)) d0_0 0 ((up S d0_0 1 (S d1_0 1)) d1_0 0)) d1_0 2)) d1_0 3)) d1_0 4)) d0_0 5 ((up (up (up (up (up S d0_0 1 (S d1_0 1)) d0_0 0 ((up S d0_0 1 (S d1_0 1)) d1_0 0)) d0_0 2 ((up (up S d0_0 1 (S d1_0 1)) d0_0 0 ((up S d0_0 1 (S d1_0 1)) d1_0 0)) d1_0 2)) d0_0 3 ((up (up (up S d0_0 1 (S d1_0 1)) d0_0 0 ((up S d0_0 1 (S d1_0 1)) d1_0 0)) d0_0 2 ((up (up S d0_0 1 (S d1_0 1)) d0_0 0 ((up S d0_0 1 (S d1_0 1)) d1_0 0)) d1_0 2)) d1_0 3)) d0_0 4 ((up (up (up (up S d0_0 1 (S d1_0 1)) d0_0 0 ((up S d0_0 1 (S d1_0 1)) d1_0 0)) d0_0 2 ((up (up S d0_0 1 (S d1_0 1)) d0_0 0 ((up S d0_0 1 (S d1_0 1)) d1_0 0)) d1_0 2)) d0_0 3 ((up (up (up S d0_0 1 (S d1_0 1)) d0_0 0 ((up S d0_0 1 (S d1_0 1)) d1_0 0)) d0_0 2 ((up (up S d0_0 1 (S d1_0 1)) d0_0 0 ((up S d0_0 1 (S d1_0 1)) d1_0 0)) d1_0 2)) d1_0 3)) d1_0 4)) d1_0 5)) d0_0 6 ((up (up (up (up (up (up S d0_0 1 (S d1_0 1)) d0_0 0 ((up S d0_0 1 (S d1_0 1)) d1_0 0)) d0_0 2 ((up (up S d0_0 1 (S d1_0 1)) d0_0 0 ((up S d0_0 1 (S d1_0 1)) d1_0 0)) d1_0 2)) d0_0 3 ((up (up (up S d0_0 1 (S d1_0 1)) d0_0 0 ((up S d0_0 1 (S d1_0 1)) d1_0 0)) d0_0 2 ((up (up S d0_0 1 (S d1_0 1)) d0_0 0 ((up S d0_0 1 (S d1_0 1)) d1_0 0)) d1_0 2)) d1_0 3)) d0_0 4 ((up (up (up (up S d0_0 1 (S d1_0 1)) d0_0 0 ((up S d0_0 1 (S d1_0 1)) d1_0 0)) d0_0 2 ((up (up S d0_0 1 (S d1_0 1)) d0_0 0 ((up S d0_0 1 (S d1_0 1)) d1_0 0)) d1_0 2)) d0_0 3 ((up (up (up S d0_0 1 (S d1_0 1)) d0_0 0 ((up S d0_0 1 (S d1_0 1)) d1_0 0)) d0_0 2 ((up (up S d0_0 1 (S d1_0 1)) d0_0 0 ((up S d0_0 1 (S d1_0 1)) d1_0 0)) d1_0 2)) d1_0 3)) d1_0 4)) d0_0 5 ((up (up (up (up (up S d0_0 1 (S d1_0 1)) d0_0 0 ((up S d0_0 1 (S d1_0 1)) d1_0 0)) d0_0 2 ((up (up S d0_0 1 (S d1_0 1)) d0_0 0 ((up S d0_0 1 (S d1_0 1)) d1_0 0)) d1_0 2)) d0_0 3 ((up (up (up S d0_0 1 (S d1_0 1)) d0_0 0 ((up S d0_0 1 (S d1_0 1)) d1_0 0)) d0_0 2 ((up (up S d0_0 1 (S d1_0 1)) d0_0 0 ((up S d0_0 1 (S d1_0 1)) d1_0 0)) d1_0 2)) d1_0 3)) d0_0 4 ((up (up (up (up S d0_0 1 (S d1_0 1)) d0_0 0 ((up S d0_0 1 (S d1_0 1)) d1_0 0)) d0_0 2 ((up (up S d0_0 1 (S d1_0 1)) d0_0 0 ((up S d0_0 1 (S d1_0 1)) d1_0 0)) d1_0 2)) d0_0 3 ((up (up (up S d0_0 1 (S d1_0 1)) d0_0 0 ((up S d0_0 1 (S d1_0 1)) d1_0 0)) d0_0 2 ((up (up S d0_0 1 (S d1_0 1)) d0_0 0 ((up S d0_0 1 (S d1_0 1)) d1_0 0)) d1_0 2)) d1_0 3)) d1_0 4)) d1_0 5)) d1_0 6)) d0_0 7 ((up (up (up (up (up (up (up S d0_0 1 (S d1_0 1)) d0_0 0 ((up S d0_0 1 (S d1_0 1)) d1_0 0)) d0_0 2 ((up (up S d0_0 1 (S d1_0 1)) d0_0 0 ((up S d0_0 1 (S d1_0 1)) d1_0 0)) d1_0 2)) d0_0 3 ((up (up (up S d0_0 1 (S d1_0 1)) d0_0 0 ((up S d0_0 1 (S d1_0 1)) d1_0 0)) d0_0 2 ((up (up S d0_0 1 (S d1_0 1)) d0_0 0 ((up S d0_0 1 (S d1_0 1)) d1_0 0)) d1_0 2)) d1_0 3)) d0_0 4 ((up (up (up (up S d0_0 1 (S d1_0 1)) d0_0 0 ((up S d0_0 1 (S d1_0 1)) d1_0 0)) d0_0 2 ((up (up S d0_0 1 (S d1_0 1)) d0_0 0 ((up S d0_0 1 (S d1_0 1)) d1_0 0)) d1_0 2)) d0_0 3 ((up (up (up S d0_0 1 (S d1_0 1)) d0_0 0 ((up S d0_0 1 (S d1_0 1)) d1_0 0)) d0_0 2 ((up (up S d0_0 1 (S d1_0 1)) d0_0 0 ((up S d0_0 1 (S d1_0 1)) d1_0 0)) d1_0 2)) d1_0 3)) d1_0 4)) d0_0 5 ((up (up (up (up (up S d0_0 1 (S d1_0 1)) d0_0 0 ((up S d0_0 1 (S d1_0 1)) d1_0 0)) d0_0 2 ((up (up S d0_0 1 (S d1_0 1)) d0_0 0 ((up S d0_0 1 (S d1_0 1)) d1_0 0)) d1_0 2)) d0_0 3 ((up (up (up S d0_0 1 (S d1_0 1)) d0_0 0 ((up S d0_0 1 (S d1_0 1)) d1_0 0)) d0_0 2 ((up (up S d0_0 1 (S d1_0 1)) d0_0 0 ((up S d0_0 1 (S d1_0 1)) d1_0 0)) d1_0 2)) d1_0 3)) d0_0 4 ((up (up (up (up S d0_0 1 (S d1_0 1)) d0_0 0 ((up S d0_0 1 (S d1_0 1)) d1_0 0)) d0_0 2 ((up (up S d0_0 1 (S d1_0 1)) d0_0 0 ((up S d0_0 1 (S d1_0 1)) d1_0 0)) d1_0 2)) d0_0 3 ((up (up (up S d0_0 1 (S d1_0 1)) d0_0 0 ((up S d0_0 1 (S d1_0 1)) d1_0 0)) d0_0 2 ((up (up S d0_0 1 (S d1_0 1)) d0_0 0 ((up S d0_0 1 (S d1_0 1)) d1_0 0)) d1_0 2)) d1_0 3)) d1_0 4)) d1_0 5)) d0_0 6 ((up (up (up (up (up (up S d0_0 1 (S d1_0 1)) d0_0 0 ((up S d0_0 1 (S d1_0 1)) d1_0 0)) d0_0 2 ((up (up S d0_0 1 (S d1_0 1)) d0_0 0 ((up S d0_0 1 (S d1_0 1)) d1_0 0)) d1_0 2)) d0_0 3 ((up (up (up S d0_0 1 (S d1_0 1)) d0_0 0 ((up S d0_0 1 (S d1_0 1)) d1_0 0)) d0_0 2 ((up (up S d0_0 1 (S d1_0 1)) d0_0 0 ((up S d0_0 1 (S d1_0 1)) d1_0 0)) d1_0 2)) d1_0 3)) d0_0 4 ((up (up (up (up S d0_0 1 (S d1_0 1)) d0_0 0 ((up S d0_0 1 (S d1_0 1)) d1_0 0)) d0_0 2 ((up (up S d0_0 1 (S d1_0 1)) d0_0 0 ((up S d0_0 1 (S d1_0 1)) d1_0 0)) d1_0 2)) d0_0 3 ((up (up (up S d0_0 1 (S d1_0 1)) d0_0 0 ((up S d0_0 1 (S d1_0 1)) d1_0 0)) d0_0 2 ((up (up S d0_0 1 (S d1_0 1)) d0_0 0 ((up S d0_0 1 (S d1_0 1)) d1_0 0)) d1_0 2)) d1_0 3)) d1_0 4)) d0_0 5 ((up (up (up (up (up S d0_0 1 (S d1_0 1)) d0_0 0 ((up S d0_0 1 (S d1_0 1)) d1_0 0)) d0_0 2 ((up (up S d0_0 1 (S d1_0 1)) d0_0 0 ((up S d0_0 1 (S d1_0 1)) d1_0 0)) d1_0 2)) d0_0 3 ((up (up (up S d0_0 1 (S d1_0 1)) d0_0 0 ((up S d0_0 1 (S d1_0 1)) d1_0 0)) d0_0 2 ((up (up S d0_0 1 (S d1_0 1)) d0_0 0 ((up S d0_0 1 (S d1_0 1)) d1_0 0)) d1_0 2)) d1_0 3)) d0_0 4 ((up (up (up (up S d0_0 1 (S d1_0 1)) d0_0 0 ((up S d0_0 1 (S d1_0 1)) d1_0 0)) d0_0 2 ((up (up S d0_0 1 (S d1_0 1)) d0_0 0 ((up S d0_0 1 (S d1_0 1)) d1_0 0)) d1_0 2)) d0_0 3 ((up (up (up S d0_0 1 (S d1_0 1)) d0_0 0 ((up S d0_0 1 (S d1_0 1)) d1_0 0)) d0_0 2 ((up (up S d0_0 1 (S d1_0 1)) d0_0 0 ((up S d0_0 1 (S d1_0 1)) d1_0 0)) d1_0 2)) d1_0 3)) d1_0 4)) d1_0 5)) d1_0 6)) d1_0 7)) else ck (inb x2 25) (ck (inb x2 25) (ih33 ((up S d0_0 (8 + (x2).toNatClampNeg) (vp_nar .boolean (S d1_0 (8 + (x2).toNatClampNeg)))), (x2 + (1 : Int32))))))
def f_X4_copyFrom_33 (S : Mem) (d0_0 : Nat) (d1_0 : Nat) (x2 : Int32) : Option (Mem) := lp (fun ih33 s9 => f_X4_copyFrom_33_b ih33 s9.1 d0_0 d1_0 s9.2) 2000 (S, x2)
def f_X4_copyFrom_2_b (ih2 : (Mem × Int32) → Option (Mem)) (S : Mem) (d0_0 : Nat) (d1_0 : Nat) (x2 : Int32) : Option (Mem) := (if (S d1_0 1) ≤ x2 then f_X4_copyFrom_33 S d0_0 d1_0 (0 : Int32) else ck (inb x2 5) (ck (inb x2 5) (bd1 (g_X2_copyFrom S d0_0 (x2).toNatClampNeg d1_0 (x2).toNatClampNeg) (fun S7 => ih2 (S7, (x2 + (1 : Int32)))))))
def f_X4_copyFrom_2 (S : Mem) (d0_0 : Nat) (d1_0 : Nat) (x2 : Int32) : Option (Mem) := lp (fun ih2 s9 => f_X4_copyFrom_2_b ih2 s9.1 d0_0 d1_0 s9.2) 2000 (S, x2)
def f_X4_copyFrom_0 (S : Mem) (d0_0 : Nat) (d1_0 : Nat) : Option (Mem) := f_X4_copyFrom_2 S d0_0 d1_0 (0 : Int32)
def g_X4_copyFrom (S : Mem) (d0_0 : Nat) (d1_0 : Nat) : Option (Mem) := f_X4_copyFrom_0 S d0_0 d1_0
set_option maxHeartbeats 4000000 in
set_option maxRecDepth 100000 in
theorem b_X4_copyFrom_33_b {v : EV} {p : Program} {l : Launch} {e : Env} {s : State} {m : MethodId} {args : Array Value} {below : List Frame} {meth : Method} {c : Code} (hC : Cx v p l e s m args meth c RX4 cX4_copyFrom 3 none) {S : Mem} {d0_0 : Nat} {d1_0 : Nat} {x2 : Int32} (h0 : d0_0 < 11) (h1 : d1_0 < 11) {r : Mem} {ih33 : (Mem × Int32) → Option (Mem)} (hih33 : ∀ s9 : (Mem × Int32), ih33 s9 = some r → Mj v p l e (rmF 3 56) s m args below meth c 3 (MQ below (Qc v (none) r) args s 0 0 (eG v)) 0 s9.1 33 [(0, .ref (eA v (pR d0_0))), (1, .ref (eA v (pR d1_0))), (2, .int (s9.2))] []) (hf : f_X4_copyFrom_33_b ih33 S d0_0 d1_0 x2 = some r) : Mj v p l e (rmF 3 56) s m args below meth c 3 (MQ below (Qc v (none) r) args s 0 0 (eG v)) 0 S 33 [(0, .ref (eA v (pR d0_0))), (1, .ref (eA v (pR d1_0))), (2, .int x2)] [] := by
  refine i_iload_n hC dX4_copyFrom_33 rfl ?_
  refine i_aload_n hC dX4_copyFrom_34 rfl ?_
  refine i_getR hC fl_X4_17 (pl_R h0) (lay_R h0) rfl dX4_copyFrom_35 ?_
  refine i_alen hC (z := (25 : Int32)) (pl_AZ h0) (lay_AZ h0) (by decide) (by decide) dX4_copyFrom_38 ?_
  refine i_icmp_ge hC (tgt := 60) dX4_copyFrom_39 (by decide) (fun c2 => ?_) (fun c2 => ?_)
  · replace hf := (if_pos c2).symm.trans hf
    refine i_aload_n hC dX4_copyFrom_60 rfl ?_
    refine i_aload_n hC dX4_copyFrom_61 rfl ?_
    refine i_getI hC fl_X4_22 (pl_R h1) (lay_R h1) rfl dX4_copyFrom_62 ?_
    refine i_putI hC fl_X4_22 (pl_R h0) (lay_R h0) rfl (bk_k h0) (nf_int _) dX4_copyFrom_65 ?_
    refine i_aload_n hC dX4_copyFrom_68 rfl ?_
    refine i_aload_n hC dX4_copyFrom_69 rfl ?_
    refine i_getI hC fl_X4_26 (pl_R h1) (lay_R h1) rfl dX4_copyFrom_70 ?_
    refine i_putI hC fl_X4_26 (pl_R h0) (lay_R h0) rfl (bk_k h0) (nf_int _) dX4_copyFrom_73 ?_
    refine i_aload_n hC dX4_copyFrom_76 rfl ?_
    refine i_aload_n hC dX4_copyFrom_77 rfl ?_
    refine i_getI hC fl_X4_29 (pl_R h1) (lay_R h1) rfl dX4_copyFrom_78 ?_
    refine i_putI hC fl_X4_29 (pl_R h0) (lay_R h0) rfl (bk_k h0) (nf_int _) dX4_copyFrom_81 ?_
    refine i_aload_n hC dX4_copyFrom_84 rfl ?_
    refine i_aload_n hC dX4_copyFrom_85 rfl ?_
    refine i_getI hC fl_X4_32 (pl_R h1) (lay_R h1) rfl dX4_copyFrom_86 ?_
    refine i_putI hC fl_X4_32 (pl_R h0) (lay_R h0) rfl (bk_k h0) (nf_int _) dX4_copyFrom_89 ?_
    refine i_aload_n hC dX4_copyFrom_92 rfl ?_
    refine i_aload_n hC dX4_copyFrom_93 rfl ?_
    refine i_getI hC fl_X4_35 (pl_R h1) (lay_R h1) rfl dX4_copyFrom_94 ?_
    refine i_putI hC fl_X4_35 (pl_R h0) (lay_R h0) rfl (bk_k h0) (nf_int _) dX4_copyFrom_97 ?_
    refine i_aload_n hC dX4_copyFrom_100 rfl ?_
    refine i_aload_n hC dX4_copyFrom_101 rfl ?_
    refine i_getI hC fl_X4_38 (pl_R h1) (lay_R h1) rfl dX4_copyFrom_102 ?_
    refine i_putI hC fl_X4_38 (pl_R h0) (lay_R h0) rfl (bk_k h0) (nf_int _) dX4_copyFrom_105 ?_
    refine i_aload_n hC dX4_copyFrom_108 rfl ?_
    refine i_aload_n hC dX4_copyFrom_109 rfl ?_
    refine i_getI hC fl_X4_41 (pl_R h1) (lay_R h1) rfl dX4_copyFrom_110 ?_
    refine i_putI hC fl_X4_41 (pl_R h0) (lay_R h0) rfl (bk_k h0) (nf_int _) dX4_copyFrom_113 ?_
    refine i_aload_n hC dX4_copyFrom_116 rfl ?_
    refine i_aload_n hC dX4_copyFrom_117 rfl ?_
    refine i_getI hC fl_X4_44 (pl_R h1) (lay_R h1) rfl dX4_copyFrom_118 ?_
    refine i_putI hC fl_X4_44 (pl_R h0) (lay_R h0) rfl (bk_k h0) (nf_int _) dX4_copyFrom_121 ?_
    obtain rfl := Option.some.inj hf
    exact i_vret hC dX4_copyFrom_124
  · replace hf := (if_neg c2).symm.trans hf
    refine i_aload_n hC dX4_copyFrom_42 rfl ?_
    refine i_getR hC fl_X4_17 (pl_R h0) (lay_R h0) rfl dX4_copyFrom_43 ?_
    refine i_iload_n hC dX4_copyFrom_46 rfl ?_
    refine i_aload_n hC dX4_copyFrom_47 rfl ?_
    refine i_getR hC fl_X4_17 (pl_R h1) (lay_R h1) rfl dX4_copyFrom_48 ?_
    refine i_iload_n hC dX4_copyFrom_51 rfl ?_
    obtain ⟨k3, hf⟩ := ck_of hf
    refine i_zald hC (j0 := (8 + (x2).toNatClampNeg)) (pl_AZ h1) (lay_AZ h1) (inb_in k3) rfl dX4_copyFrom_52 ?_
    obtain ⟨k4, hf⟩ := ck_of hf
    refine i_zast hC (j0 := (8 + (x2).toNatClampNeg)) (pl_AZ h0) (lay_AZ h0) (bk_k h0) (inb_in k4) rfl dX4_copyFrom_53 ?_
    refine i_iinc hC dX4_copyFrom_54 rfl li_1 (by decide) ?_
    refine i_goto hC (tgt := 33) dX4_copyFrom_57 (by decide) ?_
    exact Mj.to (hih33 _ hf) ⟨rfl, rfl, rfl, trivial⟩
theorem b_X4_copyFrom_33 {v : EV} {p : Program} {l : Launch} {e : Env} {s : State} {m : MethodId} {args : Array Value} {below : List Frame} {meth : Method} {c : Code} (hC : Cx v p l e s m args meth c RX4 cX4_copyFrom 3 none) {S : Mem} {d0_0 : Nat} {d1_0 : Nat} {x2 : Int32} (h0 : d0_0 < 11) (h1 : d1_0 < 11) {r : Mem} (hf : f_X4_copyFrom_33 S d0_0 d1_0 x2 = some r) : Mj v p l e (rmF 3 56) s m args below meth c 3 (MQ below (Qc v (none) r) args s 0 0 (eG v)) 0 S 33 [(0, .ref (eA v (pR d0_0))), (1, .ref (eA v (pR d1_0))), (2, .int x2)] [] :=
  lp_ind (P := fun s9 : (Mem × Int32) => Mj v p l e (rmF 3 56) s m args below meth c 3 (MQ below (Qc v (none) r) args s 0 0 (eG v)) 0 s9.1 33 [(0, .ref (eA v (pR d0_0))), (1, .ref (eA v (pR d1_0))), (2, .int (s9.2))] []) (fun ih s9 hih hf => b_X4_copyFrom_33_b hC h0 h1  hih hf) _ _ hf
set_option maxHeartbeats 4000000 in
set_option maxRecDepth 100000 in
theorem b_X4_copyFrom_2_b {v : EV} {p : Program} {l : Launch} {e : Env} {s : State} {m : MethodId} {args : Array Value} {below : List Frame} {meth : Method} {c : Code} (hC : Cx v p l e s m args meth c RX4 cX4_copyFrom 3 none) {S : Mem} {d0_0 : Nat} {d1_0 : Nat} {x2 : Int32} (h0 : d0_0 < 11) (h1 : d1_0 < 11) {r : Mem} {ih2 : (Mem × Int32) → Option (Mem)} (hih2 : ∀ s9 : (Mem × Int32), ih2 s9 = some r → Mj v p l e (rmF 3 56) s m args below meth c 3 (MQ below (Qc v (none) r) args s 0 0 (eG v)) 0 s9.1 2 [(0, .ref (eA v (pR d0_0))), (1, .ref (eA v (pR d1_0))), (2, .int (s9.2))] []) (hf : f_X4_copyFrom_2_b ih2 S d0_0 d1_0 x2 = some r) : Mj v p l e (rmF 3 56) s m args below meth c 3 (MQ below (Qc v (none) r) args s 0 0 (eG v)) 0 S 2 [(0, .ref (eA v (pR d0_0))), (1, .ref (eA v (pR d1_0))), (2, .int x2)] [] := by
  refine i_iload_n hC dX4_copyFrom_2 rfl ?_
  refine i_aload_n hC dX4_copyFrom_3 rfl ?_
  refine i_getI hC fl_X4_22 (pl_R h1) (lay_R h1) rfl dX4_copyFrom_4 ?_
  refine i_icmp_ge hC (tgt := 31) dX4_copyFrom_7 (by decide) (fun c1 => ?_) (fun c1 => ?_)
  · replace hf := (if_pos c1).symm.trans hf
    refine i_iconst hC dX4_copyFrom_31 li_0 ?_
    refine i_istore_n hC dX4_copyFrom_32 (by decide) ?_
    exact Mj.to (b_X4_copyFrom_33 hC h0 h1 hf) ⟨rfl, rfl, rfl, trivial⟩
  · replace hf := (if_neg c1).symm.trans hf
    refine i_aload_n hC dX4_copyFrom_10 rfl ?_
    refine i_getR hC fl_X4_11 (pl_R h0) (lay_R h0) rfl dX4_copyFrom_11 ?_
    refine i_iload_n hC dX4_copyFrom_14 rfl ?_
    obtain ⟨k5, hf⟩ := ck_of hf
    refine i_aald hC (pl_AD h0) (lay_AD h0) (by decide) (inb_in k5) dX4_copyFrom_15 ?_
    refine i_aload_n hC dX4_copyFrom_16 rfl ?_
    refine i_getR hC fl_X4_11 (pl_R h1) (lay_R h1) rfl dX4_copyFrom_17 ?_
    refine i_iload_n hC dX4_copyFrom_20 rfl ?_
    obtain ⟨k6, hf⟩ := ck_of hf
    refine i_aald hC (pl_AD h1) (lay_AD h1) (by decide) (inb_in k6) dX4_copyFrom_21 ?_
    obtain ⟨S7, hc7, hf⟩ := bd1_of hf
    refine i_callVv hC mv_X4_47 (c_X2_copyFrom hC.2.2.2.2.2.2.2.1 ⟨h0, inb_lt k5⟩ ⟨h1, inb_lt k6⟩ hc7) (pl_D ⟨h0, inb_lt k5⟩) (lay_D ⟨h0, inb_lt k5⟩) rfl rfl rfl rfl ⟨Nat.le_of_ble_eq_true rfl, Nat.le_of_ble_eq_true rfl⟩ (Nat.le_of_ble_eq_true rfl) dX4_copyFrom_22 ?_
    refine i_iinc hC dX4_copyFrom_25 rfl li_1 (by decide) ?_
    refine i_goto hC (tgt := 2) dX4_copyFrom_28 (by decide) ?_
    exact Mj.to (hih2 _ hf) ⟨rfl, rfl, rfl, trivial⟩
theorem b_X4_copyFrom_2 {v : EV} {p : Program} {l : Launch} {e : Env} {s : State} {m : MethodId} {args : Array Value} {below : List Frame} {meth : Method} {c : Code} (hC : Cx v p l e s m args meth c RX4 cX4_copyFrom 3 none) {S : Mem} {d0_0 : Nat} {d1_0 : Nat} {x2 : Int32} (h0 : d0_0 < 11) (h1 : d1_0 < 11) {r : Mem} (hf : f_X4_copyFrom_2 S d0_0 d1_0 x2 = some r) : Mj v p l e (rmF 3 56) s m args below meth c 3 (MQ below (Qc v (none) r) args s 0 0 (eG v)) 0 S 2 [(0, .ref (eA v (pR d0_0))), (1, .ref (eA v (pR d1_0))), (2, .int x2)] [] :=
  lp_ind (P := fun s9 : (Mem × Int32) => Mj v p l e (rmF 3 56) s m args below meth c 3 (MQ below (Qc v (none) r) args s 0 0 (eG v)) 0 s9.1 2 [(0, .ref (eA v (pR d0_0))), (1, .ref (eA v (pR d1_0))), (2, .int (s9.2))] []) (fun ih s9 hih hf => b_X4_copyFrom_2_b hC h0 h1  hih hf) _ _ hf
set_option maxHeartbeats 4000000 in
set_option maxRecDepth 100000 in
theorem b_X4_copyFrom_0 {v : EV} {p : Program} {l : Launch} {e : Env} {s : State} {m : MethodId} {args : Array Value} {below : List Frame} {meth : Method} {c : Code} (hC : Cx v p l e s m args meth c RX4 cX4_copyFrom 3 none) {S : Mem} {d0_0 : Nat} {d1_0 : Nat} (h0 : d0_0 < 11) (h1 : d1_0 < 11) {r : Mem} (hf : f_X4_copyFrom_0 S d0_0 d1_0 = some r) : Mj v p l e (rmF 3 56) s m args below meth c 3 (MQ below (Qc v (none) r) args s 0 0 (eG v)) 0 S 0 [(0, .ref (eA v (pR d0_0))), (1, .ref (eA v (pR d1_0)))] [] := by
  refine i_iconst hC dX4_copyFrom_0 li_0 ?_
  refine i_istore_n hC dX4_copyFrom_1 (by decide) ?_
  exact Mj.to (b_X4_copyFrom_2 hC h0 h1 hf) ⟨rfl, rfl, rfl, trivial⟩
theorem c_X4_copyFrom {v : EV} {l : Launch} (hst : Stb v) {S : Mem} {d0_0 d1_0 : Nat} (h0 : d0_0 < 11) (h1 : d1_0 < 11) {r : Mem} (hf : g_X4_copyFrom S d0_0 d1_0 = some r) : Con v l yX4_copyFrom cX4_copyFrom 3 none 3 56 [.ref (eA v (pR d0_0)), .ref (eA v (pR d1_0))] S (none) r := con_of (by decide) hst (Nat.le_of_ble_eq_true rfl) (fun p e s m args below meth c hC => b_X4_copyFrom_0 hC h0 h1 hf)
def f_X4_canReach_43 (S : Mem) (xt0 : Int32) : Option (Int32) := ck (isb xt0) (some xt0)
def f_X4_canReach_42 (S : Mem)  : Option (Int32) := f_X4_canReach_43 S (0 : Int32)
def f_X4_canReach_0 (S : Mem) (d0_0 : Nat) (x1 : Int32) (x2 : Int32) : Option (Int32) := (if x1 = x2 then f_X4_canReach_42 S else ck (inb x1 5) ((if (S d0_0 (33 + 34 * (x1).toNatClampNeg + 7)) = 0 then f_X4_canReach_42 S else ck (inb x2 5) ((if (S d0_0 (33 + 34 * (x2).toNatClampNeg + 7)) = 0 then f_X4_canReach_42 S else bd1 (g_X4_isRopeCut S d0_0 x1 x2) (fun r7 => (if r7 = 0 then f_X4_canReach_43 S (1 : Int32) else f_X4_canReach_42 S)))))))
def g_X4_canReach (S : Mem) (d0_0 : Nat) (x1 : Int32) (x2 : Int32) : Option (Int32) := f_X4_canReach_0 S d0_0 x1 x2
set_option maxHeartbeats 4000000 in
set_option maxRecDepth 100000 in
theorem b_X4_canReach_43 {v : EV} {p : Program} {l : Launch} {e : Env} {s : State} {m : MethodId} {args : Array Value} {below : List Frame} {meth : Method} {c : Code} (hC : Cx v p l e s m args meth c RX4 cX4_canReach 3 (some .boolean)) {S : Mem} {xt0 : Int32}  {r : Int32} (hf : f_X4_canReach_43 S xt0 = some r) : Mj v p l e (rmF 2 34) s m args below meth c 3 (MQ below (Qc v (some (.int r)) S) args s 0 0 (eG v)) 0 S 43 [] [.int xt0] := by
  obtain ⟨k2, hf⟩ := ck_of hf
  obtain rfl := Option.some.inj hf
  exact i_zret hC dX4_canReach_43 (isb_z k2).1
set_option maxHeartbeats 4000000 in
set_option maxRecDepth 100000 in
theorem b_X4_canReach_42 {v : EV} {p : Program} {l : Launch} {e : Env} {s : State} {m : MethodId} {args : Array Value} {below : List Frame} {meth : Method} {c : Code} (hC : Cx v p l e s m args meth c RX4 cX4_canReach 3 (some .boolean)) {S : Mem}  {r : Int32} (hf : f_X4_canReach_42 S = some r) : Mj v p l e (rmF 2 34) s m args below meth c 3 (MQ below (Qc v (some (.int r)) S) args s 0 0 (eG v)) 0 S 42 [] [] := by
  refine i_iconst hC dX4_canReach_42 li_0 ?_
  exact Mj.to (b_X4_canReach_43 hC  hf) trivial
set_option maxHeartbeats 4000000 in
set_option maxRecDepth 100000 in
theorem b_X4_canReach_0 {v : EV} {p : Program} {l : Launch} {e : Env} {s : State} {m : MethodId} {args : Array Value} {below : List Frame} {meth : Method} {c : Code} (hC : Cx v p l e s m args meth c RX4 cX4_canReach 3 (some .boolean)) {S : Mem} {d0_0 : Nat} {x1 : Int32} {x2 : Int32} (h0 : d0_0 < 11) {r : Int32} (hf : f_X4_canReach_0 S d0_0 x1 x2 = some r) : Mj v p l e (rmF 2 34) s m args below meth c 3 (MQ below (Qc v (some (.int r)) S) args s 0 0 (eG v)) 0 S 0 [(0, .ref (eA v (pR d0_0))), (1, .int x1), (2, .int x2)] [] := by
  refine i_iload_n hC dX4_canReach_0 rfl ?_
  refine i_iload_n hC dX4_canReach_1 rfl ?_
  refine i_icmp_eq hC (tgt := 42) dX4_canReach_2 (by decide) (fun c1 => ?_) (fun c1 => ?_)
  · replace hf := (if_pos c1).symm.trans hf
    exact Mj.to (b_X4_canReach_42 hC  hf) trivial
  · replace hf := (if_neg c1).symm.trans hf
    refine i_aload_n hC dX4_canReach_5 rfl ?_
    refine i_getR hC fl_X4_11 (pl_R h0) (lay_R h0) rfl dX4_canReach_6 ?_
    refine i_iload_n hC dX4_canReach_9 rfl ?_
    obtain ⟨k3, hf⟩ := ck_of hf
    refine i_aald hC (pl_AD h0) (lay_AD h0) (by decide) (inb_in k3) dX4_canReach_10 ?_
    refine i_getI hC fl_X4_62 (pl_D ⟨h0, inb_lt k3⟩) (lay_D ⟨h0, inb_lt k3⟩) rfl dX4_canReach_11 ?_
    refine i_if_eq hC (tgt := 42) dX4_canReach_14 (by decide) (fun c4 => ?_) (fun c4 => ?_)
    · replace hf := (if_pos c4).symm.trans hf
      exact Mj.to (b_X4_canReach_42 hC  hf) trivial
    · replace hf := (if_neg c4).symm.trans hf
      refine i_aload_n hC dX4_canReach_17 rfl ?_
      refine i_getR hC fl_X4_11 (pl_R h0) (lay_R h0) rfl dX4_canReach_18 ?_
      refine i_iload_n hC dX4_canReach_21 rfl ?_
      obtain ⟨k5, hf⟩ := ck_of hf
      refine i_aald hC (pl_AD h0) (lay_AD h0) (by decide) (inb_in k5) dX4_canReach_22 ?_
      refine i_getI hC fl_X4_62 (pl_D ⟨h0, inb_lt k5⟩) (lay_D ⟨h0, inb_lt k5⟩) rfl dX4_canReach_23 ?_
      refine i_if_eq hC (tgt := 42) dX4_canReach_26 (by decide) (fun c6 => ?_) (fun c6 => ?_)
      · replace hf := (if_pos c6).symm.trans hf
        exact Mj.to (b_X4_canReach_42 hC  hf) trivial
      · replace hf := (if_neg c6).symm.trans hf
        refine i_aload_n hC dX4_canReach_29 rfl ?_
        refine i_iload_n hC dX4_canReach_30 rfl ?_
        refine i_iload_n hC dX4_canReach_31 rfl ?_
        obtain ⟨r7, hc7, hf⟩ := bd1_of hf
        refine i_callVi hC mv_X4_66 (c_X4_isRopeCut hC.2.2.2.2.2.2.2.1 h0 hc7) (pl_R h0) (lay_R h0) rfl rfl rfl rfl ⟨Nat.le_of_ble_eq_true rfl, Nat.le_of_ble_eq_true rfl⟩ (Nat.le_of_ble_eq_true rfl) dX4_canReach_32 ?_
        refine i_if_ne hC (tgt := 42) dX4_canReach_35 (by decide) (fun c8 => ?_) (fun c8 => ?_)
        · replace hf := (if_neg c8).symm.trans hf
          exact Mj.to (b_X4_canReach_42 hC  hf) trivial
        · replace hf := (if_pos c8).symm.trans hf
          refine i_iconst hC dX4_canReach_38 li_1 ?_
          refine i_goto hC (tgt := 43) dX4_canReach_39 (by decide) ?_
          exact Mj.to (b_X4_canReach_43 hC  hf) trivial
theorem c_X4_canReach {v : EV} {l : Launch} (hst : Stb v) {S : Mem} {d0_0 : Nat} {x1 x2 : Int32} (h0 : d0_0 < 11) {r : Int32} (hf : g_X4_canReach S d0_0 x1 x2 = some r) : Con v l yX4_canReach cX4_canReach 3 (some .boolean) 2 34 [.ref (eA v (pR d0_0)), .int x1, .int x2] S (some (.int r)) S := con_of (by decide) hst (Nat.le_of_ble_eq_true rfl) (fun p e s m args below meth c hC => b_X4_canReach_0 hC h0 hf)
def f_X4_sendFrom_109 (S : Mem) (x3 : Int32) : Option (Int32 × Mem) := some (x3, S)
def f_X4_sendFrom_91 (ih22 : (Mem × Int32 × Int32) → Option (Int32 × Mem)) (S : Mem) (d0_0 : Nat) (x1 : Int32) (d2_0 : Nat) (d2_1 : Nat) (x3 : Int32) (x4 : Int32) : Option (Int32 × Mem) := ih22 (S, x3, (x4 + (1 : Int32)))
def f_X4_sendFrom_22_b (ih22 : (Mem × Int32 × Int32) → Option (Int32 × Mem)) (S : Mem) (d0_0 : Nat) (x1 : Int32) (d2_0 : Nat) (d2_1 : Nat) (x3 : Int32) (x4 : Int32) : Option (Int32 × Mem) := (if (S d0_0 1) ≤ x4 then bd1 (g_X4_isMajority S d0_0 x3) (fun r3 => (if r3 = 0 then f_X4_sendFrom_109 S x3 else bd1 (g_X2_agreeOwnLines S d2_0 d2_1) (fun S5 => f_X4_sendFrom_109 S5 x3))) else bd1 (g_X4_canReach S d0_0 x1 x4) (fun r6 => (if r6 = 0 then f_X4_sendFrom_91 ih22 S d0_0 x1 d2_0 d2_1 x3 x4 else ck (inb x4 5) ((if (S d0_0 (33 + 34 * (x4).toNatClampNeg + 1)) ≤ (S d2_0 (33 + 34 * d2_1 + 1)) then bd2 (g_X2_followLeader S d0_0 (x4).toNatClampNeg d2_0 d2_1) (fun r10 S10 => f_X4_sendFrom_91 ih22 (up S10 d0_0 5 ((S d0_0 5) + r10)) d0_0 x1 d2_0 d2_1 (x3 + (1 : Int32)) x4) else bd1 (g_X2_takeOver S d2_0 d2_1 (S d0_0 (33 + 34 * (x4).toNatClampNeg + 1))) (fun S11 => some ((0 : Int32), S11)))))))
def f_X4_sendFrom_22 (S : Mem) (d0_0 : Nat) (x1 : Int32) (d2_0 : Nat) (d2_1 : Nat) (x3 : Int32) (x4 : Int32) : Option (Int32 × Mem) := lp (fun ih22 s9 => f_X4_sendFrom_22_b ih22 s9.1 d0_0 x1 d2_0 d2_1 s9.2.1 s9.2.2) 2000 (S, x3, x4)
def f_X4_sendFrom_0 (S : Mem) (d0_0 : Nat) (x1 : Int32) : Option (Int32 × Mem) := ck (inb x1 5) (f_X4_sendFrom_22 (up S d0_0 6 ((S d0_0 6) + (1 : Int32))) d0_0 x1 d0_0 (x1).toNatClampNeg (1 : Int32) (0 : Int32))
def g_X4_sendFrom (S : Mem) (d0_0 : Nat) (x1 : Int32) : Option (Int32 × Mem) := f_X4_sendFrom_0 S d0_0 x1
set_option maxHeartbeats 4000000 in
set_option maxRecDepth 100000 in
theorem b_X4_sendFrom_109 {v : EV} {p : Program} {l : Launch} {e : Env} {s : State} {m : MethodId} {args : Array Value} {below : List Frame} {meth : Method} {c : Code} (hC : Cx v p l e s m args meth c RX4 cX4_sendFrom 6 (some .int)) {S : Mem} {x3 : Int32}  {r : Int32 × Mem} (hf : f_X4_sendFrom_109 S x3 = some r) : Mj v p l e (rmF 3 67) s m args below meth c 6 (MQ below (Qc v (some (.int r.1)) r.2) args s 0 0 (eG v)) 0 S 109 [(3, .int x3)] [] := by
  refine i_iload_n hC dX4_sendFrom_109 rfl ?_
  obtain rfl := Option.some.inj hf
  exact i_iret hC dX4_sendFrom_110
set_option maxHeartbeats 4000000 in
set_option maxRecDepth 100000 in
theorem b_X4_sendFrom_91 {v : EV} {p : Program} {l : Launch} {e : Env} {s : State} {m : MethodId} {args : Array Value} {below : List Frame} {meth : Method} {c : Code} (hC : Cx v p l e s m args meth c RX4 cX4_sendFrom 6 (some .int)) {S : Mem} {d0_0 : Nat} {x1 : Int32} {d2_0 : Nat} {d2_1 : Nat} {x3 : Int32} {x4 : Int32} (h0 : d0_0 < 11) (h2 : d2_0 < 11 ∧ d2_1 < 5) {r : Int32 × Mem} {ih22 : (Mem × Int32 × Int32) → Option (Int32 × Mem)} (hih22 : ∀ s9 : (Mem × Int32 × Int32), ih22 s9 = some r → Mj v p l e (rmF 3 67) s m args below meth c 6 (MQ below (Qc v (some (.int r.1)) r.2) args s 0 0 (eG v)) 0 s9.1 22 [(0, .ref (eA v (pR d0_0))), (1, .int x1), (2, .ref (eA v (pD d2_0 d2_1))), (3, .int (s9.2.1)), (4, .int (s9.2.2))] []) (hf : f_X4_sendFrom_91 ih22 S d0_0 x1 d2_0 d2_1 x3 x4 = some r) : Mj v p l e (rmF 3 67) s m args below meth c 6 (MQ below (Qc v (some (.int r.1)) r.2) args s 0 0 (eG v)) 0 S 91 [(0, .ref (eA v (pR d0_0))), (1, .int x1), (2, .ref (eA v (pD d2_0 d2_1))), (3, .int x3), (4, .int x4)] [] := by
  refine i_iinc hC dX4_sendFrom_91 rfl li_1 (by decide) ?_
  refine i_goto hC (tgt := 22) dX4_sendFrom_94 (by decide) ?_
  exact Mj.to (hih22 _ hf) ⟨rfl, rfl, rfl, rfl, rfl, trivial⟩
set_option maxHeartbeats 4000000 in
set_option maxRecDepth 100000 in
theorem b_X4_sendFrom_22_b {v : EV} {p : Program} {l : Launch} {e : Env} {s : State} {m : MethodId} {args : Array Value} {below : List Frame} {meth : Method} {c : Code} (hC : Cx v p l e s m args meth c RX4 cX4_sendFrom 6 (some .int)) {S : Mem} {d0_0 : Nat} {x1 : Int32} {d2_0 : Nat} {d2_1 : Nat} {x3 : Int32} {x4 : Int32} (h0 : d0_0 < 11) (h2 : d2_0 < 11 ∧ d2_1 < 5) {r : Int32 × Mem} {ih22 : (Mem × Int32 × Int32) → Option (Int32 × Mem)} (hih22 : ∀ s9 : (Mem × Int32 × Int32), ih22 s9 = some r → Mj v p l e (rmF 3 67) s m args below meth c 6 (MQ below (Qc v (some (.int r.1)) r.2) args s 0 0 (eG v)) 0 s9.1 22 [(0, .ref (eA v (pR d0_0))), (1, .int x1), (2, .ref (eA v (pD d2_0 d2_1))), (3, .int (s9.2.1)), (4, .int (s9.2.2))] []) (hf : f_X4_sendFrom_22_b ih22 S d0_0 x1 d2_0 d2_1 x3 x4 = some r) : Mj v p l e (rmF 3 67) s m args below meth c 6 (MQ below (Qc v (some (.int r.1)) r.2) args s 0 0 (eG v)) 0 S 22 [(0, .ref (eA v (pR d0_0))), (1, .int x1), (2, .ref (eA v (pD d2_0 d2_1))), (3, .int x3), (4, .int x4)] [] := by
  refine i_iload hC dX4_sendFrom_22 rfl ?_
  refine i_aload_n hC dX4_sendFrom_24 rfl ?_
  refine i_getI hC fl_X4_22 (pl_R h0) (lay_R h0) rfl dX4_sendFrom_25 ?_
  refine i_icmp_ge hC (tgt := 97) dX4_sendFrom_28 (by decide) (fun c2 => ?_) (fun c2 => ?_)
  · replace hf := (if_pos c2).symm.trans hf
    refine i_aload_n hC dX4_sendFrom_97 rfl ?_
    refine i_iload_n hC dX4_sendFrom_98 rfl ?_
    obtain ⟨r3, hc3, hf⟩ := bd1_of hf
    refine i_callVi hC mv_X4_87 (c_X4_isMajority hC.2.2.2.2.2.2.2.1 h0 hc3) (pl_R h0) (lay_R h0) rfl rfl rfl rfl ⟨Nat.le_of_ble_eq_true rfl, Nat.le_of_ble_eq_true rfl⟩ (Nat.le_of_ble_eq_true rfl) dX4_sendFrom_99 ?_
    refine i_if_eq hC (tgt := 109) dX4_sendFrom_102 (by decide) (fun c4 => ?_) (fun c4 => ?_)
    · replace hf := (if_pos c4).symm.trans hf
      exact Mj.to (b_X4_sendFrom_109 hC  hf) ⟨rfl, trivial⟩
    · replace hf := (if_neg c4).symm.trans hf
      refine i_aload_n hC dX4_sendFrom_105 rfl ?_
      obtain ⟨S5, hc5, hf⟩ := bd1_of hf
      refine i_callVv hC mv_X4_116 (c_X2_agreeOwnLines hC.2.2.2.2.2.2.2.1 h2 hc5) (pl_D h2) (lay_D h2) rfl rfl rfl rfl ⟨Nat.le_of_ble_eq_true rfl, Nat.le_of_ble_eq_true rfl⟩ (Nat.le_of_ble_eq_true rfl) dX4_sendFrom_106 ?_
      exact Mj.to (b_X4_sendFrom_109 hC  hf) ⟨rfl, trivial⟩
  · replace hf := (if_neg c2).symm.trans hf
    refine i_aload_n hC dX4_sendFrom_31 rfl ?_
    refine i_iload_n hC dX4_sendFrom_32 rfl ?_
    refine i_iload hC dX4_sendFrom_33 rfl ?_
    obtain ⟨r6, hc6, hf⟩ := bd1_of hf
    refine i_callVi hC mv_X4_70 (c_X4_canReach hC.2.2.2.2.2.2.2.1 h0 hc6) (pl_R h0) (lay_R h0) rfl rfl rfl rfl ⟨Nat.le_of_ble_eq_true rfl, Nat.le_of_ble_eq_true rfl⟩ (Nat.le_of_ble_eq_true rfl) dX4_sendFrom_35 ?_
    refine i_if_eq hC (tgt := 91) dX4_sendFrom_38 (by decide) (fun c7 => ?_) (fun c7 => ?_)
    · replace hf := (if_pos c7).symm.trans hf
      exact Mj.to (b_X4_sendFrom_91 hC h0 h2 hih22 hf) ⟨rfl, rfl, rfl, rfl, rfl, trivial⟩
    · replace hf := (if_neg c7).symm.trans hf
      refine i_aload_n hC dX4_sendFrom_41 rfl ?_
      refine i_getR hC fl_X4_11 (pl_R h0) (lay_R h0) rfl dX4_sendFrom_42 ?_
      refine i_iload hC dX4_sendFrom_45 rfl ?_
      obtain ⟨k8, hf⟩ := ck_of hf
      refine i_aald hC (pl_AD h0) (lay_AD h0) (by decide) (inb_in k8) dX4_sendFrom_47 ?_
      refine i_astore hC dX4_sendFrom_48 (by decide) ?_
      refine i_aload hC dX4_sendFrom_50 rfl ?_
      refine i_getI hC fl_X4_77 (pl_D ⟨h0, inb_lt k8⟩) (lay_D ⟨h0, inb_lt k8⟩) rfl dX4_sendFrom_52 ?_
      refine i_aload_n hC dX4_sendFrom_55 rfl ?_
      refine i_getI hC fl_X4_77 (pl_D h2) (lay_D h2) rfl dX4_sendFrom_56 ?_
      refine i_icmp_le hC (tgt := 73) dX4_sendFrom_59 (by decide) (fun c9 => ?_) (fun c9 => ?_)
      · replace hf := (if_pos c9).symm.trans hf
        refine i_aload_n hC dX4_sendFrom_73 rfl ?_
        refine i_dup hC dX4_sendFrom_74 rfl ?_
        refine i_getI hC fl_X4_38 (pl_R h0) (lay_R h0) rfl dX4_sendFrom_75 ?_
        refine i_aload hC dX4_sendFrom_78 rfl ?_
        refine i_aload_n hC dX4_sendFrom_80 rfl ?_
        obtain ⟨r10, S10, hc10, hf⟩ := bd2_of hf
        refine i_callVi hC mv_X4_112 (c_X2_followLeader hC.2.2.2.2.2.2.2.1 ⟨h0, inb_lt k8⟩ h2 hc10) (pl_D ⟨h0, inb_lt k8⟩) (lay_D ⟨h0, inb_lt k8⟩) rfl rfl rfl rfl ⟨Nat.le_of_ble_eq_true rfl, Nat.le_of_ble_eq_true rfl⟩ (Nat.le_of_ble_eq_true rfl) dX4_sendFrom_81 ?_
        refine i_iadd hC dX4_sendFrom_84 ?_
        refine i_putI hC fl_X4_38 (pl_R h0) (lay_R h0) rfl (bk_k h0) (nf_int _) dX4_sendFrom_85 ?_
        refine i_iinc hC dX4_sendFrom_88 rfl li_1 (by decide) ?_
        exact Mj.to (b_X4_sendFrom_91 hC h0 h2 hih22 hf) ⟨rfl, rfl, rfl, rfl, rfl, trivial⟩
      · replace hf := (if_neg c9).symm.trans hf
        refine i_aload_n hC dX4_sendFrom_62 rfl ?_
        refine i_aload hC dX4_sendFrom_63 rfl ?_
        refine i_getI hC fl_X4_77 (pl_D ⟨h0, inb_lt k8⟩) (lay_D ⟨h0, inb_lt k8⟩) rfl dX4_sendFrom_65 ?_
        obtain ⟨S11, hc11, hf⟩ := bd1_of hf
        refine i_callVv hC mv_X4_80 (c_X2_takeOver hC.2.2.2.2.2.2.2.1 h2 hc11) (pl_D h2) (lay_D h2) rfl rfl rfl rfl ⟨Nat.le_of_ble_eq_true rfl, Nat.le_of_ble_eq_true rfl⟩ (Nat.le_of_ble_eq_true rfl) dX4_sendFrom_68 ?_
        refine i_iconst hC dX4_sendFrom_71 li_0 ?_
        obtain rfl := Option.some.inj hf
        exact i_iret hC dX4_sendFrom_72
theorem b_X4_sendFrom_22 {v : EV} {p : Program} {l : Launch} {e : Env} {s : State} {m : MethodId} {args : Array Value} {below : List Frame} {meth : Method} {c : Code} (hC : Cx v p l e s m args meth c RX4 cX4_sendFrom 6 (some .int)) {S : Mem} {d0_0 : Nat} {x1 : Int32} {d2_0 : Nat} {d2_1 : Nat} {x3 : Int32} {x4 : Int32} (h0 : d0_0 < 11) (h2 : d2_0 < 11 ∧ d2_1 < 5) {r : Int32 × Mem} (hf : f_X4_sendFrom_22 S d0_0 x1 d2_0 d2_1 x3 x4 = some r) : Mj v p l e (rmF 3 67) s m args below meth c 6 (MQ below (Qc v (some (.int r.1)) r.2) args s 0 0 (eG v)) 0 S 22 [(0, .ref (eA v (pR d0_0))), (1, .int x1), (2, .ref (eA v (pD d2_0 d2_1))), (3, .int x3), (4, .int x4)] [] :=
  lp_ind (P := fun s9 : (Mem × Int32 × Int32) => Mj v p l e (rmF 3 67) s m args below meth c 6 (MQ below (Qc v (some (.int r.1)) r.2) args s 0 0 (eG v)) 0 s9.1 22 [(0, .ref (eA v (pR d0_0))), (1, .int x1), (2, .ref (eA v (pD d2_0 d2_1))), (3, .int (s9.2.1)), (4, .int (s9.2.2))] []) (fun ih s9 hih hf => b_X4_sendFrom_22_b hC h0 h2  hih hf) _ _ hf
set_option maxHeartbeats 4000000 in
set_option maxRecDepth 100000 in
theorem b_X4_sendFrom_0 {v : EV} {p : Program} {l : Launch} {e : Env} {s : State} {m : MethodId} {args : Array Value} {below : List Frame} {meth : Method} {c : Code} (hC : Cx v p l e s m args meth c RX4 cX4_sendFrom 6 (some .int)) {S : Mem} {d0_0 : Nat} {x1 : Int32} (h0 : d0_0 < 11) {r : Int32 × Mem} (hf : f_X4_sendFrom_0 S d0_0 x1 = some r) : Mj v p l e (rmF 3 67) s m args below meth c 6 (MQ below (Qc v (some (.int r.1)) r.2) args s 0 0 (eG v)) 0 S 0 [(0, .ref (eA v (pR d0_0))), (1, .int x1)] [] := by
  refine i_aload_n hC dX4_sendFrom_0 rfl ?_
  refine i_getR hC fl_X4_11 (pl_R h0) (lay_R h0) rfl dX4_sendFrom_1 ?_
  refine i_iload_n hC dX4_sendFrom_4 rfl ?_
  obtain ⟨k1, hf⟩ := ck_of hf
  refine i_aald hC (pl_AD h0) (lay_AD h0) (by decide) (inb_in k1) dX4_sendFrom_5 ?_
  refine i_astore_n hC dX4_sendFrom_6 (by decide) ?_
  refine i_aload_n hC dX4_sendFrom_7 rfl ?_
  refine i_dup hC dX4_sendFrom_8 rfl ?_
  refine i_getI hC fl_X4_41 (pl_R h0) (lay_R h0) rfl dX4_sendFrom_9 ?_
  refine i_iconst hC dX4_sendFrom_12 li_1 ?_
  refine i_iadd hC dX4_sendFrom_13 ?_
  refine i_putI hC fl_X4_41 (pl_R h0) (lay_R h0) rfl (bk_k h0) (nf_int _) dX4_sendFrom_14 ?_
  refine i_iconst hC dX4_sendFrom_17 li_1 ?_
  refine i_istore_n hC dX4_sendFrom_18 (by decide) ?_
  refine i_iconst hC dX4_sendFrom_19 li_0 ?_
  refine i_istore hC dX4_sendFrom_20 (by decide) ?_
  exact Mj.to (b_X4_sendFrom_22 hC h0 ⟨h0, inb_lt k1⟩ hf) ⟨rfl, rfl, rfl, rfl, rfl, trivial⟩
theorem c_X4_sendFrom {v : EV} {l : Launch} (hst : Stb v) {S : Mem} {d0_0 : Nat} {x1 : Int32} (h0 : d0_0 < 11) {r : Int32 × Mem} (hf : g_X4_sendFrom S d0_0 x1 = some r) : Con v l yX4_sendFrom cX4_sendFrom 6 (some .int) 3 67 [.ref (eA v (pR d0_0)), .int x1] S (some (.int r.1)) r.2 := con_of (by decide) hst (Nat.le_of_ble_eq_true rfl) (fun p e s m args below meth c hC => b_X4_sendFrom_0 hC h0 hf)
def f_X4_countReached_24 (ih4 : (Int32 × Int32) → Option (Int32)) (S : Mem) (d0_0 : Nat) (x1 : Int32) (x2 : Int32) (x3 : Int32) : Option (Int32) := ih4 (x2, (x3 + (1 : Int32)))
def f_X4_countReached_4_b (ih4 : (Int32 × Int32) → Option (Int32)) (S : Mem) (d0_0 : Nat) (x1 : Int32) (x2 : Int32) (x3 : Int32) : Option (Int32) := (if (S d0_0 1) ≤ x3 then some x2 else bd1 (g_X4_canReach S d0_0 x1 x3) (fun r2 => (if r2 = 0 then f_X4_countReached_24 ih4 S d0_0 x1 x2 x3 else f_X4_countReached_24 ih4 S d0_0 x1 (x2 + (1 : Int32)) x3)))
def f_X4_countReached_4 (S : Mem) (d0_0 : Nat) (x1 : Int32) (x2 : Int32) (x3 : Int32) : Option (Int32) := lp (fun ih4 s9 => f_X4_countReached_4_b ih4 S d0_0 x1 s9.1 s9.2) 2000 (x2, x3)
def f_X4_countReached_0 (S : Mem) (d0_0 : Nat) (x1 : Int32) : Option (Int32) := f_X4_countReached_4 S d0_0 x1 (0 : Int32) (0 : Int32)
def g_X4_countReached (S : Mem) (d0_0 : Nat) (x1 : Int32) : Option (Int32) := f_X4_countReached_0 S d0_0 x1
set_option maxHeartbeats 4000000 in
set_option maxRecDepth 100000 in
theorem b_X4_countReached_24 {v : EV} {p : Program} {l : Launch} {e : Env} {s : State} {m : MethodId} {args : Array Value} {below : List Frame} {meth : Method} {c : Code} (hC : Cx v p l e s m args meth c RX4 cX4_countReached 4 (some .int)) {S : Mem} {d0_0 : Nat} {x1 : Int32} {x2 : Int32} {x3 : Int32} (h0 : d0_0 < 11) {r : Int32} {ih4 : (Int32 × Int32) → Option (Int32)} (hih4 : ∀ s9 : (Int32 × Int32), ih4 s9 = some r → Mj v p l e (rmF 3 56) s m args below meth c 4 (MQ below (Qc v (some (.int r)) S) args s 0 0 (eG v)) 0 S 4 [(0, .ref (eA v (pR d0_0))), (1, .int x1), (2, .int (s9.1)), (3, .int (s9.2))] []) (hf : f_X4_countReached_24 ih4 S d0_0 x1 x2 x3 = some r) : Mj v p l e (rmF 3 56) s m args below meth c 4 (MQ below (Qc v (some (.int r)) S) args s 0 0 (eG v)) 0 S 24 [(0, .ref (eA v (pR d0_0))), (1, .int x1), (2, .int x2), (3, .int x3)] [] := by
  refine i_iinc hC dX4_countReached_24 rfl li_1 (by decide) ?_
  refine i_goto hC (tgt := 4) dX4_countReached_27 (by decide) ?_
  exact Mj.to (hih4 _ hf) ⟨rfl, rfl, rfl, rfl, trivial⟩
set_option maxHeartbeats 4000000 in
set_option maxRecDepth 100000 in
theorem b_X4_countReached_4_b {v : EV} {p : Program} {l : Launch} {e : Env} {s : State} {m : MethodId} {args : Array Value} {below : List Frame} {meth : Method} {c : Code} (hC : Cx v p l e s m args meth c RX4 cX4_countReached 4 (some .int)) {S : Mem} {d0_0 : Nat} {x1 : Int32} {x2 : Int32} {x3 : Int32} (h0 : d0_0 < 11) {r : Int32} {ih4 : (Int32 × Int32) → Option (Int32)} (hih4 : ∀ s9 : (Int32 × Int32), ih4 s9 = some r → Mj v p l e (rmF 3 56) s m args below meth c 4 (MQ below (Qc v (some (.int r)) S) args s 0 0 (eG v)) 0 S 4 [(0, .ref (eA v (pR d0_0))), (1, .int x1), (2, .int (s9.1)), (3, .int (s9.2))] []) (hf : f_X4_countReached_4_b ih4 S d0_0 x1 x2 x3 = some r) : Mj v p l e (rmF 3 56) s m args below meth c 4 (MQ below (Qc v (some (.int r)) S) args s 0 0 (eG v)) 0 S 4 [(0, .ref (eA v (pR d0_0))), (1, .int x1), (2, .int x2), (3, .int x3)] [] := by
  refine i_iload_n hC dX4_countReached_4 rfl ?_
  refine i_aload_n hC dX4_countReached_5 rfl ?_
  refine i_getI hC fl_X4_22 (pl_R h0) (lay_R h0) rfl dX4_countReached_6 ?_
  refine i_icmp_ge hC (tgt := 30) dX4_countReached_9 (by decide) (fun c1 => ?_) (fun c1 => ?_)
  · replace hf := (if_pos c1).symm.trans hf
    refine i_iload_n hC dX4_countReached_30 rfl ?_
    obtain rfl := Option.some.inj hf
    exact i_iret hC dX4_countReached_31
  · replace hf := (if_neg c1).symm.trans hf
    refine i_aload_n hC dX4_countReached_12 rfl ?_
    refine i_iload_n hC dX4_countReached_13 rfl ?_
    refine i_iload_n hC dX4_countReached_14 rfl ?_
    obtain ⟨r2, hc2, hf⟩ := bd1_of hf
    refine i_callVi hC mv_X4_70 (c_X4_canReach hC.2.2.2.2.2.2.2.1 h0 hc2) (pl_R h0) (lay_R h0) rfl rfl rfl rfl ⟨Nat.le_of_ble_eq_true rfl, Nat.le_of_ble_eq_true rfl⟩ (Nat.le_of_ble_eq_true rfl) dX4_countReached_15 ?_
    refine i_if_eq hC (tgt := 24) dX4_countReached_18 (by decide) (fun c3 => ?_) (fun c3 => ?_)
    · replace hf := (if_pos c3).symm.trans hf
      exact Mj.to (b_X4_countReached_24 hC h0 hih4 hf) ⟨rfl, rfl, rfl, rfl, trivial⟩
    · replace hf := (if_neg c3).symm.trans hf
      refine i_iinc hC dX4_countReached_21 rfl li_1 (by decide) ?_
      exact Mj.to (b_X4_countReached_24 hC h0 hih4 hf) ⟨rfl, rfl, rfl, rfl, trivial⟩
theorem b_X4_countReached_4 {v : EV} {p : Program} {l : Launch} {e : Env} {s : State} {m : MethodId} {args : Array Value} {below : List Frame} {meth : Method} {c : Code} (hC : Cx v p l e s m args meth c RX4 cX4_countReached 4 (some .int)) {S : Mem} {d0_0 : Nat} {x1 : Int32} {x2 : Int32} {x3 : Int32} (h0 : d0_0 < 11) {r : Int32} (hf : f_X4_countReached_4 S d0_0 x1 x2 x3 = some r) : Mj v p l e (rmF 3 56) s m args below meth c 4 (MQ below (Qc v (some (.int r)) S) args s 0 0 (eG v)) 0 S 4 [(0, .ref (eA v (pR d0_0))), (1, .int x1), (2, .int x2), (3, .int x3)] [] :=
  lp_ind (P := fun s9 : (Int32 × Int32) => Mj v p l e (rmF 3 56) s m args below meth c 4 (MQ below (Qc v (some (.int r)) S) args s 0 0 (eG v)) 0 S 4 [(0, .ref (eA v (pR d0_0))), (1, .int x1), (2, .int (s9.1)), (3, .int (s9.2))] []) (fun ih s9 hih hf => b_X4_countReached_4_b hC h0  hih hf) _ _ hf
set_option maxHeartbeats 4000000 in
set_option maxRecDepth 100000 in
theorem b_X4_countReached_0 {v : EV} {p : Program} {l : Launch} {e : Env} {s : State} {m : MethodId} {args : Array Value} {below : List Frame} {meth : Method} {c : Code} (hC : Cx v p l e s m args meth c RX4 cX4_countReached 4 (some .int)) {S : Mem} {d0_0 : Nat} {x1 : Int32} (h0 : d0_0 < 11) {r : Int32} (hf : f_X4_countReached_0 S d0_0 x1 = some r) : Mj v p l e (rmF 3 56) s m args below meth c 4 (MQ below (Qc v (some (.int r)) S) args s 0 0 (eG v)) 0 S 0 [(0, .ref (eA v (pR d0_0))), (1, .int x1)] [] := by
  refine i_iconst hC dX4_countReached_0 li_0 ?_
  refine i_istore_n hC dX4_countReached_1 (by decide) ?_
  refine i_iconst hC dX4_countReached_2 li_0 ?_
  refine i_istore_n hC dX4_countReached_3 (by decide) ?_
  exact Mj.to (b_X4_countReached_4 hC h0 hf) ⟨rfl, rfl, rfl, rfl, trivial⟩
theorem c_X4_countReached {v : EV} {l : Launch} (hst : Stb v) {S : Mem} {d0_0 : Nat} {x1 : Int32} (h0 : d0_0 < 11) {r : Int32} (hf : g_X4_countReached S d0_0 x1 = some r) : Con v l yX4_countReached cX4_countReached 4 (some .int) 3 56 [.ref (eA v (pR d0_0)), .int x1] S (some (.int r)) S := con_of (by decide) hst (Nat.le_of_ble_eq_true rfl) (fun p e s m args below meth c hC => b_X4_countReached_0 hC h0 hf)
def f_X4_votesToGet_65 (ih17 : (Int32 × Int32) → Option (Int32)) (S : Mem) (d0_0 : Nat) (x1 : Int32) (x2 : Int32) (x3 : Int32) (x4 : Int32) : Option (Int32) := ih17 (x3, (x4 + (1 : Int32)))
def f_X4_votesToGet_17_b (ih17 : (Int32 × Int32) → Option (Int32)) (S : Mem) (d0_0 : Nat) (x1 : Int32) (x2 : Int32) (x3 : Int32) (x4 : Int32) : Option (Int32) := (if (S d0_0 1) ≤ x4 then some x3 else bd1 (g_X4_canReach S d0_0 x1 x4) (fun r3 => (if r3 = 0 then f_X4_votesToGet_65 ih17 S d0_0 x1 x2 x3 x4 else ck (inb x4 5) ((if (S d0_0 (33 + 34 * (x4).toNatClampNeg + 1)) ≤ x2 then bd1 (g_X4_wouldGrantVote S d0_0 x4 x1) (fun r7 => (if r7 = 0 then f_X4_votesToGet_65 ih17 S d0_0 x1 x2 x3 x4 else f_X4_votesToGet_65 ih17 S d0_0 x1 x2 (x3 + (1 : Int32)) x4)) else some (0 : Int32))))))
def f_X4_votesToGet_17 (S : Mem) (d0_0 : Nat) (x1 : Int32) (x2 : Int32) (x3 : Int32) (x4 : Int32) : Option (Int32) := lp (fun ih17 s9 => f_X4_votesToGet_17_b ih17 S d0_0 x1 x2 s9.1 s9.2) 2000 (x3, x4)
def f_X4_votesToGet_0 (S : Mem) (d0_0 : Nat) (x1 : Int32) : Option (Int32) := ck (inb x1 5) (f_X4_votesToGet_17 S d0_0 x1 ((S d0_0 (33 + 34 * (x1).toNatClampNeg + 1)) + (1 : Int32)) (1 : Int32) (0 : Int32))
def g_X4_votesToGet (S : Mem) (d0_0 : Nat) (x1 : Int32) : Option (Int32) := f_X4_votesToGet_0 S d0_0 x1
set_option maxHeartbeats 4000000 in
set_option maxRecDepth 100000 in
theorem b_X4_votesToGet_65 {v : EV} {p : Program} {l : Launch} {e : Env} {s : State} {m : MethodId} {args : Array Value} {below : List Frame} {meth : Method} {c : Code} (hC : Cx v p l e s m args meth c RX4 cX4_votesToGet 5 (some .int)) {S : Mem} {d0_0 : Nat} {x1 : Int32} {x2 : Int32} {x3 : Int32} {x4 : Int32} (h0 : d0_0 < 11) {r : Int32} {ih17 : (Int32 × Int32) → Option (Int32)} (hih17 : ∀ s9 : (Int32 × Int32), ih17 s9 = some r → Mj v p l e (rmF 3 60) s m args below meth c 5 (MQ below (Qc v (some (.int r)) S) args s 0 0 (eG v)) 0 S 17 [(0, .ref (eA v (pR d0_0))), (1, .int x1), (2, .int x2), (3, .int (s9.1)), (4, .int (s9.2))] []) (hf : f_X4_votesToGet_65 ih17 S d0_0 x1 x2 x3 x4 = some r) : Mj v p l e (rmF 3 60) s m args below meth c 5 (MQ below (Qc v (some (.int r)) S) args s 0 0 (eG v)) 0 S 65 [(0, .ref (eA v (pR d0_0))), (1, .int x1), (2, .int x2), (3, .int x3), (4, .int x4)] [] := by
  refine i_iinc hC dX4_votesToGet_65 rfl li_1 (by decide) ?_
  refine i_goto hC (tgt := 17) dX4_votesToGet_68 (by decide) ?_
  exact Mj.to (hih17 _ hf) ⟨rfl, rfl, rfl, rfl, rfl, trivial⟩
set_option maxHeartbeats 4000000 in
set_option maxRecDepth 100000 in
theorem b_X4_votesToGet_17_b {v : EV} {p : Program} {l : Launch} {e : Env} {s : State} {m : MethodId} {args : Array Value} {below : List Frame} {meth : Method} {c : Code} (hC : Cx v p l e s m args meth c RX4 cX4_votesToGet 5 (some .int)) {S : Mem} {d0_0 : Nat} {x1 : Int32} {x2 : Int32} {x3 : Int32} {x4 : Int32} (h0 : d0_0 < 11) {r : Int32} {ih17 : (Int32 × Int32) → Option (Int32)} (hih17 : ∀ s9 : (Int32 × Int32), ih17 s9 = some r → Mj v p l e (rmF 3 60) s m args below meth c 5 (MQ below (Qc v (some (.int r)) S) args s 0 0 (eG v)) 0 S 17 [(0, .ref (eA v (pR d0_0))), (1, .int x1), (2, .int x2), (3, .int (s9.1)), (4, .int (s9.2))] []) (hf : f_X4_votesToGet_17_b ih17 S d0_0 x1 x2 x3 x4 = some r) : Mj v p l e (rmF 3 60) s m args below meth c 5 (MQ below (Qc v (some (.int r)) S) args s 0 0 (eG v)) 0 S 17 [(0, .ref (eA v (pR d0_0))), (1, .int x1), (2, .int x2), (3, .int x3), (4, .int x4)] [] := by
  refine i_iload hC dX4_votesToGet_17 rfl ?_
  refine i_aload_n hC dX4_votesToGet_19 rfl ?_
  refine i_getI hC fl_X4_22 (pl_R h0) (lay_R h0) rfl dX4_votesToGet_20 ?_
  refine i_icmp_ge hC (tgt := 71) dX4_votesToGet_23 (by decide) (fun c2 => ?_) (fun c2 => ?_)
  · replace hf := (if_pos c2).symm.trans hf
    refine i_iload_n hC dX4_votesToGet_71 rfl ?_
    obtain rfl := Option.some.inj hf
    exact i_iret hC dX4_votesToGet_72
  · replace hf := (if_neg c2).symm.trans hf
    refine i_aload_n hC dX4_votesToGet_26 rfl ?_
    refine i_iload_n hC dX4_votesToGet_27 rfl ?_
    refine i_iload hC dX4_votesToGet_28 rfl ?_
    obtain ⟨r3, hc3, hf⟩ := bd1_of hf
    refine i_callVi hC mv_X4_70 (c_X4_canReach hC.2.2.2.2.2.2.2.1 h0 hc3) (pl_R h0) (lay_R h0) rfl rfl rfl rfl ⟨Nat.le_of_ble_eq_true rfl, Nat.le_of_ble_eq_true rfl⟩ (Nat.le_of_ble_eq_true rfl) dX4_votesToGet_30 ?_
    refine i_if_eq hC (tgt := 65) dX4_votesToGet_33 (by decide) (fun c4 => ?_) (fun c4 => ?_)
    · replace hf := (if_pos c4).symm.trans hf
      exact Mj.to (b_X4_votesToGet_65 hC h0 hih17 hf) ⟨rfl, rfl, rfl, rfl, rfl, trivial⟩
    · replace hf := (if_neg c4).symm.trans hf
      refine i_aload_n hC dX4_votesToGet_36 rfl ?_
      refine i_getR hC fl_X4_11 (pl_R h0) (lay_R h0) rfl dX4_votesToGet_37 ?_
      refine i_iload hC dX4_votesToGet_40 rfl ?_
      obtain ⟨k5, hf⟩ := ck_of hf
      refine i_aald hC (pl_AD h0) (lay_AD h0) (by decide) (inb_in k5) dX4_votesToGet_42 ?_
      refine i_getI hC fl_X4_77 (pl_D ⟨h0, inb_lt k5⟩) (lay_D ⟨h0, inb_lt k5⟩) rfl dX4_votesToGet_43 ?_
      refine i_iload_n hC dX4_votesToGet_46 rfl ?_
      refine i_icmp_le hC (tgt := 52) dX4_votesToGet_47 (by decide) (fun c6 => ?_) (fun c6 => ?_)
      · replace hf := (if_pos c6).symm.trans hf
        refine i_aload_n hC dX4_votesToGet_52 rfl ?_
        refine i_iload hC dX4_votesToGet_53 rfl ?_
        refine i_iload_n hC dX4_votesToGet_55 rfl ?_
        obtain ⟨r7, hc7, hf⟩ := bd1_of hf
        refine i_callVi hC mv_X4_109 (c_X4_wouldGrantVote hC.2.2.2.2.2.2.2.1 h0 hc7) (pl_R h0) (lay_R h0) rfl rfl rfl rfl ⟨Nat.le_of_ble_eq_true rfl, Nat.le_of_ble_eq_true rfl⟩ (Nat.le_of_ble_eq_true rfl) dX4_votesToGet_56 ?_
        refine i_if_eq hC (tgt := 65) dX4_votesToGet_59 (by decide) (fun c8 => ?_) (fun c8 => ?_)
        · replace hf := (if_pos c8).symm.trans hf
          exact Mj.to (b_X4_votesToGet_65 hC h0 hih17 hf) ⟨rfl, rfl, rfl, rfl, rfl, trivial⟩
        · replace hf := (if_neg c8).symm.trans hf
          refine i_iinc hC dX4_votesToGet_62 rfl li_1 (by decide) ?_
          exact Mj.to (b_X4_votesToGet_65 hC h0 hih17 hf) ⟨rfl, rfl, rfl, rfl, rfl, trivial⟩
      · replace hf := (if_neg c6).symm.trans hf
        refine i_iconst hC dX4_votesToGet_50 li_0 ?_
        obtain rfl := Option.some.inj hf
        exact i_iret hC dX4_votesToGet_51
theorem b_X4_votesToGet_17 {v : EV} {p : Program} {l : Launch} {e : Env} {s : State} {m : MethodId} {args : Array Value} {below : List Frame} {meth : Method} {c : Code} (hC : Cx v p l e s m args meth c RX4 cX4_votesToGet 5 (some .int)) {S : Mem} {d0_0 : Nat} {x1 : Int32} {x2 : Int32} {x3 : Int32} {x4 : Int32} (h0 : d0_0 < 11) {r : Int32} (hf : f_X4_votesToGet_17 S d0_0 x1 x2 x3 x4 = some r) : Mj v p l e (rmF 3 60) s m args below meth c 5 (MQ below (Qc v (some (.int r)) S) args s 0 0 (eG v)) 0 S 17 [(0, .ref (eA v (pR d0_0))), (1, .int x1), (2, .int x2), (3, .int x3), (4, .int x4)] [] :=
  lp_ind (P := fun s9 : (Int32 × Int32) => Mj v p l e (rmF 3 60) s m args below meth c 5 (MQ below (Qc v (some (.int r)) S) args s 0 0 (eG v)) 0 S 17 [(0, .ref (eA v (pR d0_0))), (1, .int x1), (2, .int x2), (3, .int (s9.1)), (4, .int (s9.2))] []) (fun ih s9 hih hf => b_X4_votesToGet_17_b hC h0  hih hf) _ _ hf
set_option maxHeartbeats 4000000 in
set_option maxRecDepth 100000 in
theorem b_X4_votesToGet_0 {v : EV} {p : Program} {l : Launch} {e : Env} {s : State} {m : MethodId} {args : Array Value} {below : List Frame} {meth : Method} {c : Code} (hC : Cx v p l e s m args meth c RX4 cX4_votesToGet 5 (some .int)) {S : Mem} {d0_0 : Nat} {x1 : Int32} (h0 : d0_0 < 11) {r : Int32} (hf : f_X4_votesToGet_0 S d0_0 x1 = some r) : Mj v p l e (rmF 3 60) s m args below meth c 5 (MQ below (Qc v (some (.int r)) S) args s 0 0 (eG v)) 0 S 0 [(0, .ref (eA v (pR d0_0))), (1, .int x1)] [] := by
  refine i_aload_n hC dX4_votesToGet_0 rfl ?_
  refine i_getR hC fl_X4_11 (pl_R h0) (lay_R h0) rfl dX4_votesToGet_1 ?_
  refine i_iload_n hC dX4_votesToGet_4 rfl ?_
  obtain ⟨k1, hf⟩ := ck_of hf
  refine i_aald hC (pl_AD h0) (lay_AD h0) (by decide) (inb_in k1) dX4_votesToGet_5 ?_
  refine i_getI hC fl_X4_77 (pl_D ⟨h0, inb_lt k1⟩) (lay_D ⟨h0, inb_lt k1⟩) rfl dX4_votesToGet_6 ?_
  refine i_iconst hC dX4_votesToGet_9 li_1 ?_
  refine i_iadd hC dX4_votesToGet_10 ?_
  refine i_istore_n hC dX4_votesToGet_11 (by decide) ?_
  refine i_iconst hC dX4_votesToGet_12 li_1 ?_
  refine i_istore_n hC dX4_votesToGet_13 (by decide) ?_
  refine i_iconst hC dX4_votesToGet_14 li_0 ?_
  refine i_istore hC dX4_votesToGet_15 (by decide) ?_
  exact Mj.to (b_X4_votesToGet_17 hC h0 hf) ⟨rfl, rfl, rfl, rfl, rfl, trivial⟩
theorem c_X4_votesToGet {v : EV} {l : Launch} (hst : Stb v) {S : Mem} {d0_0 : Nat} {x1 : Int32} (h0 : d0_0 < 11) {r : Int32} (hf : g_X4_votesToGet S d0_0 x1 = some r) : Con v l yX4_votesToGet cX4_votesToGet 5 (some .int) 3 60 [.ref (eA v (pR d0_0)), .int x1] S (some (.int r)) S := con_of (by decide) hst (Nat.le_of_ble_eq_true rfl) (fun p e s m args below meth c hC => b_X4_votesToGet_0 hC h0 hf)
def f_X3_remember_0 (S : Mem) (d1_0 : Nat) : Option (Mem) := ck (inb (S 11 2) 8) (bd1 (g_X4_copyFrom S ((3 + ((S 11 2)).toNatClampNeg)) d1_0) (fun S2 => some (up (up S2 11 2 (((S2 11 2) + (1 : Int32)) - ((S2 11 2) + (1 : Int32)) / (8 : Int32) * (8 : Int32))) 11 3 (mn (((up S2 11 2 (((S2 11 2) + (1 : Int32)) - ((S2 11 2) + (1 : Int32)) / (8 : Int32) * (8 : Int32))) 11 3) + (1 : Int32)) (8 : Int32)))))
def g_X3_remember (S : Mem) (d1_0 : Nat) : Option (Mem) := f_X3_remember_0 S d1_0
set_option maxHeartbeats 4000000 in
set_option maxRecDepth 100000 in
theorem b_X3_remember_0 {v : EV} {p : Program} {l : Launch} {e : Env} {s : State} {m : MethodId} {args : Array Value} {below : List Frame} {meth : Method} {c : Code} (hC : Cx v p l e s m args meth c RX3 cX3_remember 2 none) {S : Mem} {d1_0 : Nat} (h1 : d1_0 < 11) {r : Mem} (hf : f_X3_remember_0 S d1_0 = some r) : Mj v p l e (rmF 4 78) s m args below meth c 2 (MQ below (Qc v (none) r) args s 0 0 (eG v)) 0 S 0 [(0, .ref (eA v (199))), (1, .ref (eA v (pR d1_0)))] [] := by
  refine i_aload_n hC dX3_remember_0 rfl ?_
  refine i_getR hC fl_X3_11 (pln rfl) (lay_p199) rfl dX3_remember_1 ?_
  refine i_aload_n hC dX3_remember_4 rfl ?_
  refine i_getI hC fl_X3_18 (pln rfl) (lay_p199) rfl dX3_remember_5 ?_
  obtain ⟨k1, hf⟩ := ck_of hf
  refine i_aald hC (pln rfl) (lay_p200) (by decide) (inb_in k1) dX3_remember_8 ?_
  rw [show 54 + 18 * ((S 11 2)).toNatClampNeg = pR (3 + ((S 11 2)).toNatClampNeg) by unfold pR; omega]
  refine i_aload_n hC dX3_remember_9 rfl ?_
  obtain ⟨S2, hc2, hf⟩ := bd1_of hf
  refine i_callVv hC mv_X3_22 (c_X4_copyFrom hC.2.2.2.2.2.2.2.1 (show 3 + ((S 11 2)).toNatClampNeg < 11 by have := inb_lt k1; omega) h1 hc2) (pl_R (show 3 + ((S 11 2)).toNatClampNeg < 11 by have := inb_lt k1; omega)) (lay_R (show 3 + ((S 11 2)).toNatClampNeg < 11 by have := inb_lt k1; omega)) rfl rfl rfl rfl ⟨Nat.le_of_ble_eq_true rfl, Nat.le_of_ble_eq_true rfl⟩ (Nat.le_of_ble_eq_true rfl) dX3_remember_10 ?_
  refine i_aload_n hC dX3_remember_13 rfl ?_
  refine i_aload_n hC dX3_remember_14 rfl ?_
  refine i_getI hC fl_X3_18 (pln rfl) (lay_p199) rfl dX3_remember_15 ?_
  refine i_iconst hC dX3_remember_18 li_1 ?_
  refine i_iadd hC dX3_remember_19 ?_
  refine i_bipush hC dX3_remember_20 lb_8 ?_
  refine i_irem hC dX3_remember_22 (by decide) ?_
  refine i_putI hC fl_X3_18 (pln rfl) (lay_p199) rfl (bk_l ⟨rfl, rfl, rfl, rfl⟩) (nf_int _) dX3_remember_23 ?_
  refine i_aload_n hC dX3_remember_26 rfl ?_
  refine i_aload_n hC dX3_remember_27 rfl ?_
  refine i_getI hC fl_X3_26 (pln rfl) (lay_p199) rfl dX3_remember_28 ?_
  refine i_iconst hC dX3_remember_31 li_1 ?_
  refine i_iadd hC dX3_remember_32 ?_
  refine i_bipush hC dX3_remember_33 lb_8 ?_
  refine i_mmin hC mw_223 mw_161 mw_40 mw_162 ⟨Nat.le_of_ble_eq_true rfl, Nat.le_of_ble_eq_true rfl⟩ dX3_remember_35 ?_
  refine i_putI hC fl_X3_26 (pln rfl) (lay_p199) rfl (bk_l ⟨rfl, rfl, rfl, rfl⟩) (nf_int _) dX3_remember_38 ?_
  obtain rfl := Option.some.inj hf
  exact i_vret hC dX3_remember_41
theorem c_X3_remember {v : EV} {l : Launch} (hst : Stb v) {S : Mem} {d1_0 : Nat} (h1 : d1_0 < 11) {r : Mem} (hf : g_X3_remember S d1_0 = some r) : Con v l yX3_remember cX3_remember 2 none 4 78 [.ref (eA v (199)), .ref (eA v (pR d1_0))] S (none) r := con_of (by decide) hst (Nat.le_of_ble_eq_true rfl) (fun p e s m args below meth c hC => b_X3_remember_0 hC h1 hf)
