def f_X8_letAsk_0 (S : Mem) (x1 : Int32) : Option (Int32 × Mem) := bd1 (g_X4_has S 0 x1) (fun r1 => (if r1 = 0 then some ((-1 : Int32), S) else ck (inb x1 5) ((if (S 0 (33 + 34 * (x1).toNatClampNeg + 7)) = 0 then bd2 (g_X8_refuse S (2 : Int32) x1) (fun r8 S8 => some (r8, S8)) else (if (S 0 (33 + 34 * (x1).toNatClampNeg)) = (2 : Int32) then bd2 (g_X8_refuse S (3 : Int32) (S 0 (33 + 34 * (x1).toNatClampNeg + 1))) (fun r7 S7 => some (r7, S7)) else bd2 (g_X4_gatherVotes S 0 x1) (fun r6 S6 => some (r6, S6)))))))
def g_X8_letAsk (S : Mem) (x1 : Int32) : Option (Int32 × Mem) := f_X8_letAsk_0 S x1
set_option maxHeartbeats 4000000 in
set_option maxRecDepth 100000 in
theorem b_X8_letAsk_0 {v : EV} {p : Program} {l : Launch} {e : Env} {s : State} {m : MethodId} {args : Array Value} {below : List Frame} {meth : Method} {c : Code} (hC : Cx v p l e s m args meth c RX8 cX8_letAsk 3 (some .int)) {S : Mem} {x1 : Int32}  {r : Int32 × Mem} (hf : f_X8_letAsk_0 S x1 = some r) : Mj v p l e (rmF 4 84) s m args below meth c 3 (MQ below (Qc v (some (.int r.1)) r.2) args s 0 0 (eG v)) 0 S 0 [(0, .ref (eA v (198))), (1, .int x1)] [] := by
  refine i_aload_n hC dX8_letAsk_0 rfl ?_
  refine i_getR (x := pR 0) hC fl_X8_12 (pln rfl) (lay_p198) rfl dX8_letAsk_1 ?_
  refine i_iload_n hC dX8_letAsk_4 rfl ?_
  obtain ⟨r1, hc1, hf⟩ := bd1_of hf
  refine i_callVi hC mv_X8_187 (c_X4_has hC.2.2.2.2.2.2.2.1 (by decide) hc1) (pl_R (by decide)) (lay_R (by decide)) rfl rfl rfl rfl ⟨Nat.le_of_ble_eq_true rfl, Nat.le_of_ble_eq_true rfl⟩ (Nat.le_of_ble_eq_true rfl) dX8_letAsk_5 ?_
  refine i_if_ne hC (tgt := 13) dX8_letAsk_8 (by decide) (fun c2 => ?_) (fun c2 => ?_)
  · replace hf := (if_neg c2).symm.trans hf
    refine i_aload_n hC dX8_letAsk_13 rfl ?_
    refine i_getR (x := pR 0) hC fl_X8_12 (pln rfl) (lay_p198) rfl dX8_letAsk_14 ?_
    refine i_getR hC fl_X8_191 (pl_R (by decide)) (lay_R (by decide)) rfl dX8_letAsk_17 ?_
    refine i_iload_n hC dX8_letAsk_20 rfl ?_
    obtain ⟨k3, hf⟩ := ck_of hf
    refine i_aald hC (pl_AD (by decide)) (lay_AD (by decide)) (by decide) (inb_in k3) dX8_letAsk_21 ?_
    refine i_astore_n hC dX8_letAsk_22 (by decide) ?_
    refine i_aload_n hC dX8_letAsk_23 rfl ?_
    refine i_getI hC fl_X8_195 (pl_D ⟨(by decide), inb_lt k3⟩) (lay_D ⟨(by decide), inb_lt k3⟩) rfl dX8_letAsk_24 ?_
    refine i_if_ne hC (tgt := 37) dX8_letAsk_27 (by decide) (fun c4 => ?_) (fun c4 => ?_)
    · replace hf := (if_neg c4).symm.trans hf
      refine i_aload_n hC dX8_letAsk_37 rfl ?_
      refine i_getI hC fl_X8_201 (pl_D ⟨(by decide), inb_lt k3⟩) (lay_D ⟨(by decide), inb_lt k3⟩) rfl dX8_letAsk_38 ?_
      refine i_iconst hC dX8_letAsk_41 li_2 ?_
      refine i_icmp_ne hC (tgt := 55) dX8_letAsk_42 (by decide) (fun c5 => ?_) (fun c5 => ?_)
      · replace hf := (if_neg c5).symm.trans hf
        refine i_aload_n hC dX8_letAsk_55 rfl ?_
        refine i_getR (x := pR 0) hC fl_X8_12 (pln rfl) (lay_p198) rfl dX8_letAsk_56 ?_
        refine i_iload_n hC dX8_letAsk_59 rfl ?_
        obtain ⟨r6, S6, hc6, hf⟩ := bd2_of hf
        refine i_callVi hC mv_X8_207 (c_X4_gatherVotes hC.2.2.2.2.2.2.2.1 (by decide) hc6) (pl_R (by decide)) (lay_R (by decide)) rfl rfl rfl rfl ⟨Nat.le_of_ble_eq_true rfl, Nat.le_of_ble_eq_true rfl⟩ (Nat.le_of_ble_eq_true rfl) dX8_letAsk_60 ?_
        obtain rfl := Option.some.inj hf
        exact i_iret hC dX8_letAsk_63
      · replace hf := (if_pos c5).symm.trans hf
        refine i_aload_n hC dX8_letAsk_45 rfl ?_
        refine i_iconst hC dX8_letAsk_46 li_3 ?_
        refine i_aload_n hC dX8_letAsk_47 rfl ?_
        refine i_getI hC fl_X8_204 (pl_D ⟨(by decide), inb_lt k3⟩) (lay_D ⟨(by decide), inb_lt k3⟩) rfl dX8_letAsk_48 ?_
        obtain ⟨r7, S7, hc7, hf⟩ := bd2_of hf
        refine i_callVi hC mv_X8_181 (c_X8_refuse hC.2.2.2.2.2.2.2.1 hc7) (pln rfl) (lay_p198) rfl rfl rfl rfl ⟨Nat.le_of_ble_eq_true rfl, Nat.le_of_ble_eq_true rfl⟩ (Nat.le_of_ble_eq_true rfl) dX8_letAsk_51 ?_
        obtain rfl := Option.some.inj hf
        exact i_iret hC dX8_letAsk_54
    · replace hf := (if_pos c4).symm.trans hf
      refine i_aload_n hC dX8_letAsk_30 rfl ?_
      refine i_iconst hC dX8_letAsk_31 li_2 ?_
      refine i_iload_n hC dX8_letAsk_32 rfl ?_
      obtain ⟨r8, S8, hc8, hf⟩ := bd2_of hf
      refine i_callVi hC mv_X8_181 (c_X8_refuse hC.2.2.2.2.2.2.2.1 hc8) (pln rfl) (lay_p198) rfl rfl rfl rfl ⟨Nat.le_of_ble_eq_true rfl, Nat.le_of_ble_eq_true rfl⟩ (Nat.le_of_ble_eq_true rfl) dX8_letAsk_33 ?_
      obtain rfl := Option.some.inj hf
      exact i_iret hC dX8_letAsk_36
  · replace hf := (if_pos c2).symm.trans hf
    refine i_iconst hC dX8_letAsk_11 li_m1 ?_
    obtain rfl := Option.some.inj hf
    exact i_iret hC dX8_letAsk_12
theorem c_X8_letAsk {v : EV} {l : Launch} (hst : Stb v) {S : Mem} {x1 : Int32}  {r : Int32 × Mem} (hf : g_X8_letAsk S x1 = some r) : Con v l yX8_letAsk cX8_letAsk 3 (some .int) 4 84 [.ref (eA v (198)), .int x1] S (some (.int r.1)) r.2 := con_of (by decide) hst (Nat.le_of_ble_eq_true rfl) (fun p e s m args below meth c hC => b_X8_letAsk_0 hC  hf)
def f_X8_couldLeadAgain_0 (S : Mem) (x1 : Int32) : Option (Int32 × Mem) := bd1 (g_X8_codeOfAsking S x1) (fun r1 => (if 0 ≤ r1 then bd1 (g_X4_copyFrom S 1 0) (fun S3 => bd2 (g_X4_gatherVotes S3 0 x1) (fun r4 S4 => bd1 (g_X4_copyFrom S4 0 1) (fun S5 => some (r4, S5)))) else some (r1, S)))
def g_X8_couldLeadAgain (S : Mem) (x1 : Int32) : Option (Int32 × Mem) := f_X8_couldLeadAgain_0 S x1
set_option maxHeartbeats 4000000 in
set_option maxRecDepth 100000 in
theorem b_X8_couldLeadAgain_0 {v : EV} {p : Program} {l : Launch} {e : Env} {s : State} {m : MethodId} {args : Array Value} {below : List Frame} {meth : Method} {c : Code} (hC : Cx v p l e s m args meth c RX8 cX8_couldLeadAgain 4 (some .int)) {S : Mem} {x1 : Int32}  {r : Int32 × Mem} (hf : f_X8_couldLeadAgain_0 S x1 = some r) : Mj v p l e (rmF 4 84) s m args below meth c 4 (MQ below (Qc v (some (.int r.1)) r.2) args s 0 0 (eG v)) 0 S 0 [(0, .ref (eA v (198))), (1, .int x1)] [] := by
  refine i_aload_n hC dX8_couldLeadAgain_0 rfl ?_
  refine i_iload_n hC dX8_couldLeadAgain_1 rfl ?_
  obtain ⟨r1, hc1, hf⟩ := bd1_of hf
  refine i_callVi hC mv_X8_301 (c_X8_codeOfAsking hC.2.2.2.2.2.2.2.1 hc1) (pln rfl) (lay_p198) rfl rfl rfl rfl ⟨Nat.le_of_ble_eq_true rfl, Nat.le_of_ble_eq_true rfl⟩ (Nat.le_of_ble_eq_true rfl) dX8_couldLeadAgain_2 ?_
  refine i_istore_n hC dX8_couldLeadAgain_5 (by decide) ?_
  refine i_iload_n hC dX8_couldLeadAgain_6 rfl ?_
  refine i_if_ge hC (tgt := 12) dX8_couldLeadAgain_7 (by decide) (fun c2 => ?_) (fun c2 => ?_)
  · replace hf := (if_pos c2).symm.trans hf
    refine i_aload_n hC dX8_couldLeadAgain_12 rfl ?_
    refine i_getR (x := pR 1) hC fl_X8_16 (pln rfl) (lay_p198) rfl dX8_couldLeadAgain_13 ?_
    refine i_aload_n hC dX8_couldLeadAgain_16 rfl ?_
    refine i_getR (x := pR 0) hC fl_X8_12 (pln rfl) (lay_p198) rfl dX8_couldLeadAgain_17 ?_
    obtain ⟨S3, hc3, hf⟩ := bd1_of hf
    refine i_callVv hC mv_X8_113 (c_X4_copyFrom hC.2.2.2.2.2.2.2.1 (by decide) (by decide) hc3) (pl_R (by decide)) (lay_R (by decide)) rfl rfl rfl rfl ⟨Nat.le_of_ble_eq_true rfl, Nat.le_of_ble_eq_true rfl⟩ (Nat.le_of_ble_eq_true rfl) dX8_couldLeadAgain_20 ?_
    refine i_aload_n hC dX8_couldLeadAgain_23 rfl ?_
    refine i_getR (x := pR 0) hC fl_X8_12 (pln rfl) (lay_p198) rfl dX8_couldLeadAgain_24 ?_
    refine i_iload_n hC dX8_couldLeadAgain_27 rfl ?_
    obtain ⟨r4, S4, hc4, hf⟩ := bd2_of hf
    refine i_callVi hC mv_X8_207 (c_X4_gatherVotes hC.2.2.2.2.2.2.2.1 (by decide) hc4) (pl_R (by decide)) (lay_R (by decide)) rfl rfl rfl rfl ⟨Nat.le_of_ble_eq_true rfl, Nat.le_of_ble_eq_true rfl⟩ (Nat.le_of_ble_eq_true rfl) dX8_couldLeadAgain_28 ?_
    refine i_istore_n hC dX8_couldLeadAgain_31 (by decide) ?_
    refine i_aload_n hC dX8_couldLeadAgain_32 rfl ?_
    refine i_getR (x := pR 0) hC fl_X8_12 (pln rfl) (lay_p198) rfl dX8_couldLeadAgain_33 ?_
    refine i_aload_n hC dX8_couldLeadAgain_36 rfl ?_
    refine i_getR (x := pR 1) hC fl_X8_16 (pln rfl) (lay_p198) rfl dX8_couldLeadAgain_37 ?_
    obtain ⟨S5, hc5, hf⟩ := bd1_of hf
    refine i_callVv hC mv_X8_113 (c_X4_copyFrom hC.2.2.2.2.2.2.2.1 (by decide) (by decide) hc5) (pl_R (by decide)) (lay_R (by decide)) rfl rfl rfl rfl ⟨Nat.le_of_ble_eq_true rfl, Nat.le_of_ble_eq_true rfl⟩ (Nat.le_of_ble_eq_true rfl) dX8_couldLeadAgain_40 ?_
    refine i_iload_n hC dX8_couldLeadAgain_43 rfl ?_
    obtain rfl := Option.some.inj hf
    exact i_iret hC dX8_couldLeadAgain_44
  · replace hf := (if_neg c2).symm.trans hf
    refine i_iload_n hC dX8_couldLeadAgain_10 rfl ?_
    obtain rfl := Option.some.inj hf
    exact i_iret hC dX8_couldLeadAgain_11
theorem c_X8_couldLeadAgain {v : EV} {l : Launch} (hst : Stb v) {S : Mem} {x1 : Int32}  {r : Int32 × Mem} (hf : g_X8_couldLeadAgain S x1 = some r) : Con v l yX8_couldLeadAgain cX8_couldLeadAgain 4 (some .int) 4 84 [.ref (eA v (198)), .int x1] S (some (.int r.1)) r.2 := con_of (by decide) hst (Nat.le_of_ble_eq_true rfl) (fun p e s m args below meth c hC => b_X8_couldLeadAgain_0 hC  hf)
def f_X8_quietBeats_13_b (ih13 : (Mem × Int32) → Option (Int32 × Mem)) (S : Mem) (x1 : Int32) : Option (Int32 × Mem) := (if (9 : Int32) < x1 then some ((-4 : Int32), S) else bd2 (g_X4_passBeats S 1 (1 : Int32)) (fun r3 S3 => (if r3 ≤ 0 then ih13 (S3, (x1 + (1 : Int32))) else some (x1, S3))))
def f_X8_quietBeats_13 (S : Mem) (x1 : Int32) : Option (Int32 × Mem) := lp (fun ih13 s9 => f_X8_quietBeats_13_b ih13 s9.1 s9.2) 2000 (S, x1)
def f_X8_quietBeats_0 (S : Mem)  : Option (Int32 × Mem) := bd1 (g_X4_copyFrom S 1 0) (fun S1 => f_X8_quietBeats_13 S1 (1 : Int32))
def g_X8_quietBeats (S : Mem)  : Option (Int32 × Mem) := f_X8_quietBeats_0 S
set_option maxHeartbeats 4000000 in
set_option maxRecDepth 100000 in
theorem b_X8_quietBeats_13_b {v : EV} {p : Program} {l : Launch} {e : Env} {s : State} {m : MethodId} {args : Array Value} {below : List Frame} {meth : Method} {c : Code} (hC : Cx v p l e s m args meth c RX8 cX8_quietBeats 2 (some .int)) {S : Mem} {x1 : Int32}  {r : Int32 × Mem} {ih13 : (Mem × Int32) → Option (Int32 × Mem)} (hih13 : ∀ s9 : (Mem × Int32), ih13 s9 = some r → Mj v p l e (rmF 5 116) s m args below meth c 2 (MQ below (Qc v (some (.int r.1)) r.2) args s 0 0 (eG v)) 0 s9.1 13 [(0, .ref (eA v (198))), (1, .int (s9.2))] []) (hf : f_X8_quietBeats_13_b ih13 S x1 = some r) : Mj v p l e (rmF 5 116) s m args below meth c 2 (MQ below (Qc v (some (.int r.1)) r.2) args s 0 0 (eG v)) 0 S 13 [(0, .ref (eA v (198))), (1, .int x1)] [] := by
  refine i_iload_n hC dX8_quietBeats_13 rfl ?_
  refine i_bipush hC dX8_quietBeats_14 lb_9 ?_
  refine i_icmp_gt hC (tgt := 38) dX8_quietBeats_16 (by decide) (fun c2 => ?_) (fun c2 => ?_)
  · replace hf := (if_pos c2).symm.trans hf
    refine i_bipush hC dX8_quietBeats_38 lb_m4 ?_
    obtain rfl := Option.some.inj hf
    exact i_iret hC dX8_quietBeats_40
  · replace hf := (if_neg c2).symm.trans hf
    refine i_aload_n hC dX8_quietBeats_19 rfl ?_
    refine i_getR (x := pR 1) hC fl_X8_16 (pln rfl) (lay_p198) rfl dX8_quietBeats_20 ?_
    refine i_iconst hC dX8_quietBeats_23 li_1 ?_
    obtain ⟨r3, S3, hc3, hf⟩ := bd2_of hf
    refine i_callVi hC mv_X8_175 (c_X4_passBeats hC.2.2.2.2.2.2.2.1 (by decide) hc3) (pl_R (by decide)) (lay_R (by decide)) rfl rfl rfl rfl ⟨Nat.le_of_ble_eq_true rfl, Nat.le_of_ble_eq_true rfl⟩ (Nat.le_of_ble_eq_true rfl) dX8_quietBeats_24 ?_
    refine i_if_le hC (tgt := 32) dX8_quietBeats_27 (by decide) (fun c4 => ?_) (fun c4 => ?_)
    · replace hf := (if_pos c4).symm.trans hf
      refine i_iinc hC dX8_quietBeats_32 rfl li_1 (by decide) ?_
      refine i_goto hC (tgt := 13) dX8_quietBeats_35 (by decide) ?_
      exact Mj.to (hih13 _ hf) ⟨rfl, rfl, trivial⟩
    · replace hf := (if_neg c4).symm.trans hf
      refine i_iload_n hC dX8_quietBeats_30 rfl ?_
      obtain rfl := Option.some.inj hf
      exact i_iret hC dX8_quietBeats_31
theorem b_X8_quietBeats_13 {v : EV} {p : Program} {l : Launch} {e : Env} {s : State} {m : MethodId} {args : Array Value} {below : List Frame} {meth : Method} {c : Code} (hC : Cx v p l e s m args meth c RX8 cX8_quietBeats 2 (some .int)) {S : Mem} {x1 : Int32}  {r : Int32 × Mem} (hf : f_X8_quietBeats_13 S x1 = some r) : Mj v p l e (rmF 5 116) s m args below meth c 2 (MQ below (Qc v (some (.int r.1)) r.2) args s 0 0 (eG v)) 0 S 13 [(0, .ref (eA v (198))), (1, .int x1)] [] :=
  lp_ind (P := fun s9 : (Mem × Int32) => Mj v p l e (rmF 5 116) s m args below meth c 2 (MQ below (Qc v (some (.int r.1)) r.2) args s 0 0 (eG v)) 0 s9.1 13 [(0, .ref (eA v (198))), (1, .int (s9.2))] []) (fun ih s9 hih hf => b_X8_quietBeats_13_b hC   hih hf) _ _ hf
set_option maxHeartbeats 4000000 in
set_option maxRecDepth 100000 in
theorem b_X8_quietBeats_0 {v : EV} {p : Program} {l : Launch} {e : Env} {s : State} {m : MethodId} {args : Array Value} {below : List Frame} {meth : Method} {c : Code} (hC : Cx v p l e s m args meth c RX8 cX8_quietBeats 2 (some .int)) {S : Mem}  {r : Int32 × Mem} (hf : f_X8_quietBeats_0 S = some r) : Mj v p l e (rmF 5 116) s m args below meth c 2 (MQ below (Qc v (some (.int r.1)) r.2) args s 0 0 (eG v)) 0 S 0 [(0, .ref (eA v (198)))] [] := by
  refine i_aload_n hC dX8_quietBeats_0 rfl ?_
  refine i_getR (x := pR 1) hC fl_X8_16 (pln rfl) (lay_p198) rfl dX8_quietBeats_1 ?_
  refine i_aload_n hC dX8_quietBeats_4 rfl ?_
  refine i_getR (x := pR 0) hC fl_X8_12 (pln rfl) (lay_p198) rfl dX8_quietBeats_5 ?_
  obtain ⟨S1, hc1, hf⟩ := bd1_of hf
  refine i_callVv hC mv_X8_113 (c_X4_copyFrom hC.2.2.2.2.2.2.2.1 (by decide) (by decide) hc1) (pl_R (by decide)) (lay_R (by decide)) rfl rfl rfl rfl ⟨Nat.le_of_ble_eq_true rfl, Nat.le_of_ble_eq_true rfl⟩ (Nat.le_of_ble_eq_true rfl) dX8_quietBeats_8 ?_
  refine i_iconst hC dX8_quietBeats_11 li_1 ?_
  refine i_istore_n hC dX8_quietBeats_12 (by decide) ?_
  exact Mj.to (b_X8_quietBeats_13 hC  hf) ⟨rfl, rfl, trivial⟩
theorem c_X8_quietBeats {v : EV} {l : Launch} (hst : Stb v) {S : Mem}  {r : Int32 × Mem} (hf : g_X8_quietBeats S = some r) : Con v l yX8_quietBeats cX8_quietBeats 2 (some .int) 5 116 [.ref (eA v (198))] S (some (.int r.1)) r.2 := con_of (by decide) hst (Nat.le_of_ble_eq_true rfl) (fun p e s m args below meth c hC => b_X8_quietBeats_0 hC  hf)
def f_X8_carryOut_137 (S : Mem) (xt0 : Int32) : Option (Int32 × Mem) := some (xt0, S)
def f_X8_carryOut_135 (S : Mem)  : Option (Int32 × Mem) := f_X8_carryOut_137 S (-2 : Int32)
def f_X8_carryOut_0 (S : Mem) (x1 : Int32) (x2 : Int32) (x3 : Int32) : Option (Int32 × Mem) := (if x1 = 0 then some ((-1 : Int32), S) else ck (isw x1) (ck (inb (x1 - (1 : Int32)) 9) ((if (Int32.ofNat (((x1 - (1 : Int32))).toNatClampNeg + 1)) = (1 : Int32) then bd2 (g_X8_letCome S x2) (fun r4 S4 => some (r4, S4)) else if (Int32.ofNat (((x1 - (1 : Int32))).toNatClampNeg + 1)) = (2 : Int32) then bd2 (g_X8_letAsk S x2) (fun r6 S6 => some (r6, S6)) else if (Int32.ofNat (((x1 - (1 : Int32))).toNatClampNeg + 1)) = (3 : Int32) then bd2 (g_X8_letSend S x2) (fun r8 S8 => some (r8, S8)) else if (Int32.ofNat (((x1 - (1 : Int32))).toNatClampNeg + 1)) = (4 : Int32) then bd2 (g_X8_letShout S x2 x3) (fun r10 S10 => some (r10, S10)) else if (Int32.ofNat (((x1 - (1 : Int32))).toNatClampNeg + 1)) = (5 : Int32) then bd2 (g_X8_washAway S x2) (fun r12 S12 => some (r12, S12)) else if (Int32.ofNat (((x1 - (1 : Int32))).toNatClampNeg + 1)) = (6 : Int32) then bd2 (g_X8_bringBack S x2) (fun r14 S14 => some (r14, S14)) else if (Int32.ofNat (((x1 - (1 : Int32))).toNatClampNeg + 1)) = (7 : Int32) then bd2 (g_X8_changeRope S x2 x3 (1 : Int32)) (fun r16 S16 => some (r16, S16)) else if (Int32.ofNat (((x1 - (1 : Int32))).toNatClampNeg + 1)) = (8 : Int32) then bd2 (g_X8_changeRope S x2 x3 (0 : Int32)) (fun r18 S18 => some (r18, S18)) else (if x2 < (1 : Int32) then f_X8_carryOut_135 S else (if (20 : Int32) < x2 then f_X8_carryOut_135 S else bd2 (g_X4_passBeats S 0 x2) (fun r22 S22 => f_X8_carryOut_137 S22 r22)))))))
def g_X8_carryOut (S : Mem) (x1 : Int32) (x2 : Int32) (x3 : Int32) : Option (Int32 × Mem) := f_X8_carryOut_0 S x1 x2 x3
set_option maxHeartbeats 4000000 in
set_option maxRecDepth 100000 in
theorem b_X8_carryOut_137 {v : EV} {p : Program} {l : Launch} {e : Env} {s : State} {m : MethodId} {args : Array Value} {below : List Frame} {meth : Method} {c : Code} (hC : Cx v p l e s m args meth c RX8 cX8_carryOut 4 (some .int)) {S : Mem} {xt0 : Int32}  {r : Int32 × Mem} (hf : f_X8_carryOut_137 S xt0 = some r) : Mj v p l e (rmF 5 116) s m args below meth c 4 (MQ below (Qc v (some (.int r.1)) r.2) args s 0 0 (eG v)) 0 S 137 [] [.int xt0] := by
  obtain rfl := Option.some.inj hf
  exact i_iret hC dX8_carryOut_137
set_option maxHeartbeats 4000000 in
set_option maxRecDepth 100000 in
theorem b_X8_carryOut_135 {v : EV} {p : Program} {l : Launch} {e : Env} {s : State} {m : MethodId} {args : Array Value} {below : List Frame} {meth : Method} {c : Code} (hC : Cx v p l e s m args meth c RX8 cX8_carryOut 4 (some .int)) {S : Mem}  {r : Int32 × Mem} (hf : f_X8_carryOut_135 S = some r) : Mj v p l e (rmF 5 116) s m args below meth c 4 (MQ below (Qc v (some (.int r.1)) r.2) args s 0 0 (eG v)) 0 S 135 [] [] := by
  refine i_bipush hC dX8_carryOut_135 lb_m2 ?_
  exact Mj.to (b_X8_carryOut_137 hC  hf) trivial
set_option maxHeartbeats 4000000 in
set_option maxRecDepth 100000 in
theorem b_X8_carryOut_0 {v : EV} {p : Program} {l : Launch} {e : Env} {s : State} {m : MethodId} {args : Array Value} {below : List Frame} {meth : Method} {c : Code} (hC : Cx v p l e s m args meth c RX8 cX8_carryOut 4 (some .int)) {S : Mem} {x1 : Int32} {x2 : Int32} {x3 : Int32}  {r : Int32 × Mem} (hf : f_X8_carryOut_0 S x1 x2 x3 = some r) : Mj v p l e (rmF 5 116) s m args below meth c 4 (MQ below (Qc v (some (.int r.1)) r.2) args s 0 0 (eG v)) 0 S 0 [(0, .ref (eA v (198))), (1, wv v x1), (2, .int x2), (3, .int x3)] [] := by
  refine i_aloadG_n hC (u := wv v x1) (wv_R v _) dX8_carryOut_0 (by repeat (first | rfl | refine lk_w (by first | rfl | exact isR_cat (wv_R v _) | exact isR_cat (by assumption)) (by decide) ?_)) ?_
  refine i_ifnonnullW hC (tgt := 6) dX8_carryOut_1 (by decide) (fun c1 => ?_) (fun c1 => ?_)
  · replace hf := (if_neg c1).symm.trans hf
    refine i_swm hC mw_74 dX8_carryOut_6 ?_
    refine i_aloadG_n hC (u := wv v x1) (wv_R v _) dX8_carryOut_9 (by repeat (first | rfl | refine lk_w (by first | rfl | exact isR_cat (wv_R v _) | exact isR_cat (by assumption)) (by decide) ?_)) ?_
    obtain ⟨k2, hf⟩ := ck_of hf
    refine i_ordinal hC k2 mw_1048 mo_X8_149 ⟨Nat.le_of_ble_eq_true rfl, Nat.le_of_ble_eq_true rfl⟩ (Nat.le_of_ble_eq_true rfl) dX8_carryOut_10 ?_
    obtain ⟨k3, hf⟩ := ck_of hf
    refine i_swmld hC (inb_in k3) dX8_carryOut_13 ?_
    by_cases c5 : (Int32.ofNat (((x1 - (1 : Int32))).toNatClampNeg + 1)) = (1 : Int32)
    · replace hf := (if_pos c5).symm.trans hf
      refine i_tabIn hC (tgt := 60) dX8_carryOut_14 c5 (show ((1 : Int32)).toInt = 1 by decide) (by decide) (by decide) rfl (by decide) ?_
      refine i_aload_n hC (x := (eA v (198))) dX8_carryOut_60 (by repeat (first | rfl | refine lk_w (by first | rfl | exact isR_cat (wv_R v _) | exact isR_cat (by assumption)) (by decide) ?_)) ?_
      refine i_iload_n hC (x := x2) dX8_carryOut_61 (by repeat (first | rfl | refine lk_w (by first | rfl | exact isR_cat (wv_R v _) | exact isR_cat (by assumption)) (by decide) ?_)) ?_
      obtain ⟨r4, S4, hc4, hf⟩ := bd2_of hf
      refine i_callVi hC mv_X8_152 (c_X8_letCome hC.2.2.2.2.2.2.2.1 hc4) (pln rfl) (lay_p198) rfl rfl rfl rfl ⟨Nat.le_of_ble_eq_true rfl, Nat.le_of_ble_eq_true rfl⟩ (Nat.le_of_ble_eq_true rfl) dX8_carryOut_62 ?_
      obtain rfl := Option.some.inj hf
      exact i_iret hC dX8_carryOut_65
    replace hf := (if_neg c5).symm.trans hf
    by_cases c7 : (Int32.ofNat (((x1 - (1 : Int32))).toNatClampNeg + 1)) = (2 : Int32)
    · replace hf := (if_pos c7).symm.trans hf
      refine i_tabIn hC (tgt := 66) dX8_carryOut_14 c7 (show ((2 : Int32)).toInt = 2 by decide) (by decide) (by decide) rfl (by decide) ?_
      refine i_aload_n hC (x := (eA v (198))) dX8_carryOut_66 (by repeat (first | rfl | refine lk_w (by first | rfl | exact isR_cat (wv_R v _) | exact isR_cat (by assumption)) (by decide) ?_)) ?_
      refine i_iload_n hC (x := x2) dX8_carryOut_67 (by repeat (first | rfl | refine lk_w (by first | rfl | exact isR_cat (wv_R v _) | exact isR_cat (by assumption)) (by decide) ?_)) ?_
      obtain ⟨r6, S6, hc6, hf⟩ := bd2_of hf
      refine i_callVi hC mv_X8_156 (c_X8_letAsk hC.2.2.2.2.2.2.2.1 hc6) (pln rfl) (lay_p198) rfl rfl rfl rfl ⟨Nat.le_of_ble_eq_true rfl, Nat.le_of_ble_eq_true rfl⟩ (Nat.le_of_ble_eq_true rfl) dX8_carryOut_68 ?_
      obtain rfl := Option.some.inj hf
      exact i_iret hC dX8_carryOut_71
    replace hf := (if_neg c7).symm.trans hf
    by_cases c9 : (Int32.ofNat (((x1 - (1 : Int32))).toNatClampNeg + 1)) = (3 : Int32)
    · replace hf := (if_pos c9).symm.trans hf
      refine i_tabIn hC (tgt := 72) dX8_carryOut_14 c9 (show ((3 : Int32)).toInt = 3 by decide) (by decide) (by decide) rfl (by decide) ?_
      refine i_aload_n hC (x := (eA v (198))) dX8_carryOut_72 (by repeat (first | rfl | refine lk_w (by first | rfl | exact isR_cat (wv_R v _) | exact isR_cat (by assumption)) (by decide) ?_)) ?_
      refine i_iload_n hC (x := x2) dX8_carryOut_73 (by repeat (first | rfl | refine lk_w (by first | rfl | exact isR_cat (wv_R v _) | exact isR_cat (by assumption)) (by decide) ?_)) ?_
      obtain ⟨r8, S8, hc8, hf⟩ := bd2_of hf
      refine i_callVi hC mv_X8_159 (c_X8_letSend hC.2.2.2.2.2.2.2.1 hc8) (pln rfl) (lay_p198) rfl rfl rfl rfl ⟨Nat.le_of_ble_eq_true rfl, Nat.le_of_ble_eq_true rfl⟩ (Nat.le_of_ble_eq_true rfl) dX8_carryOut_74 ?_
      obtain rfl := Option.some.inj hf
      exact i_iret hC dX8_carryOut_77
    replace hf := (if_neg c9).symm.trans hf
    by_cases c11 : (Int32.ofNat (((x1 - (1 : Int32))).toNatClampNeg + 1)) = (4 : Int32)
    · replace hf := (if_pos c11).symm.trans hf
      refine i_tabIn hC (tgt := 78) dX8_carryOut_14 c11 (show ((4 : Int32)).toInt = 4 by decide) (by decide) (by decide) rfl (by decide) ?_
      refine i_aload_n hC (x := (eA v (198))) dX8_carryOut_78 (by repeat (first | rfl | refine lk_w (by first | rfl | exact isR_cat (wv_R v _) | exact isR_cat (by assumption)) (by decide) ?_)) ?_
      refine i_iload_n hC (x := x2) dX8_carryOut_79 (by repeat (first | rfl | refine lk_w (by first | rfl | exact isR_cat (wv_R v _) | exact isR_cat (by assumption)) (by decide) ?_)) ?_
      refine i_iload_n hC (x := x3) dX8_carryOut_80 (by repeat (first | rfl | refine lk_w (by first | rfl | exact isR_cat (wv_R v _) | exact isR_cat (by assumption)) (by decide) ?_)) ?_
      obtain ⟨r10, S10, hc10, hf⟩ := bd2_of hf
      refine i_callVi hC mv_X8_162 (c_X8_letShout hC.2.2.2.2.2.2.2.1 hc10) (pln rfl) (lay_p198) rfl rfl rfl rfl ⟨Nat.le_of_ble_eq_true rfl, Nat.le_of_ble_eq_true rfl⟩ (Nat.le_of_ble_eq_true rfl) dX8_carryOut_81 ?_
      obtain rfl := Option.some.inj hf
      exact i_iret hC dX8_carryOut_84
    replace hf := (if_neg c11).symm.trans hf
    by_cases c13 : (Int32.ofNat (((x1 - (1 : Int32))).toNatClampNeg + 1)) = (5 : Int32)
    · replace hf := (if_pos c13).symm.trans hf
      refine i_tabIn hC (tgt := 85) dX8_carryOut_14 c13 (show ((5 : Int32)).toInt = 5 by decide) (by decide) (by decide) rfl (by decide) ?_
      refine i_aload_n hC (x := (eA v (198))) dX8_carryOut_85 (by repeat (first | rfl | refine lk_w (by first | rfl | exact isR_cat (wv_R v _) | exact isR_cat (by assumption)) (by decide) ?_)) ?_
      refine i_iload_n hC (x := x2) dX8_carryOut_86 (by repeat (first | rfl | refine lk_w (by first | rfl | exact isR_cat (wv_R v _) | exact isR_cat (by assumption)) (by decide) ?_)) ?_
      obtain ⟨r12, S12, hc12, hf⟩ := bd2_of hf
      refine i_callVi hC mv_X8_165 (c_X8_washAway hC.2.2.2.2.2.2.2.1 hc12) (pln rfl) (lay_p198) rfl rfl rfl rfl ⟨Nat.le_of_ble_eq_true rfl, Nat.le_of_ble_eq_true rfl⟩ (Nat.le_of_ble_eq_true rfl) dX8_carryOut_87 ?_
      obtain rfl := Option.some.inj hf
      exact i_iret hC dX8_carryOut_90
    replace hf := (if_neg c13).symm.trans hf
    by_cases c15 : (Int32.ofNat (((x1 - (1 : Int32))).toNatClampNeg + 1)) = (6 : Int32)
    · replace hf := (if_pos c15).symm.trans hf
      refine i_tabIn hC (tgt := 91) dX8_carryOut_14 c15 (show ((6 : Int32)).toInt = 6 by decide) (by decide) (by decide) rfl (by decide) ?_
      refine i_aload_n hC (x := (eA v (198))) dX8_carryOut_91 (by repeat (first | rfl | refine lk_w (by first | rfl | exact isR_cat (wv_R v _) | exact isR_cat (by assumption)) (by decide) ?_)) ?_
      refine i_iload_n hC (x := x2) dX8_carryOut_92 (by repeat (first | rfl | refine lk_w (by first | rfl | exact isR_cat (wv_R v _) | exact isR_cat (by assumption)) (by decide) ?_)) ?_
      obtain ⟨r14, S14, hc14, hf⟩ := bd2_of hf
      refine i_callVi hC mv_X8_168 (c_X8_bringBack hC.2.2.2.2.2.2.2.1 hc14) (pln rfl) (lay_p198) rfl rfl rfl rfl ⟨Nat.le_of_ble_eq_true rfl, Nat.le_of_ble_eq_true rfl⟩ (Nat.le_of_ble_eq_true rfl) dX8_carryOut_93 ?_
      obtain rfl := Option.some.inj hf
      exact i_iret hC dX8_carryOut_96
    replace hf := (if_neg c15).symm.trans hf
    by_cases c17 : (Int32.ofNat (((x1 - (1 : Int32))).toNatClampNeg + 1)) = (7 : Int32)
    · replace hf := (if_pos c17).symm.trans hf
      refine i_tabIn hC (tgt := 97) dX8_carryOut_14 c17 (show ((7 : Int32)).toInt = 7 by decide) (by decide) (by decide) rfl (by decide) ?_
      refine i_aload_n hC (x := (eA v (198))) dX8_carryOut_97 (by repeat (first | rfl | refine lk_w (by first | rfl | exact isR_cat (wv_R v _) | exact isR_cat (by assumption)) (by decide) ?_)) ?_
      refine i_iload_n hC (x := x2) dX8_carryOut_98 (by repeat (first | rfl | refine lk_w (by first | rfl | exact isR_cat (wv_R v _) | exact isR_cat (by assumption)) (by decide) ?_)) ?_
      refine i_iload_n hC (x := x3) dX8_carryOut_99 (by repeat (first | rfl | refine lk_w (by first | rfl | exact isR_cat (wv_R v _) | exact isR_cat (by assumption)) (by decide) ?_)) ?_
      refine i_iconst hC dX8_carryOut_100 li_1 ?_
      obtain ⟨r16, S16, hc16, hf⟩ := bd2_of hf
      refine i_callVi hC mv_X8_171 (c_X8_changeRope hC.2.2.2.2.2.2.2.1 hc16) (pln rfl) (lay_p198) rfl rfl rfl rfl ⟨Nat.le_of_ble_eq_true rfl, Nat.le_of_ble_eq_true rfl⟩ (Nat.le_of_ble_eq_true rfl) dX8_carryOut_101 ?_
      obtain rfl := Option.some.inj hf
      exact i_iret hC dX8_carryOut_104
    replace hf := (if_neg c17).symm.trans hf
    by_cases c19 : (Int32.ofNat (((x1 - (1 : Int32))).toNatClampNeg + 1)) = (8 : Int32)
    · replace hf := (if_pos c19).symm.trans hf
      refine i_tabIn hC (tgt := 105) dX8_carryOut_14 c19 (show ((8 : Int32)).toInt = 8 by decide) (by decide) (by decide) rfl (by decide) ?_
      refine i_aload_n hC (x := (eA v (198))) dX8_carryOut_105 (by repeat (first | rfl | refine lk_w (by first | rfl | exact isR_cat (wv_R v _) | exact isR_cat (by assumption)) (by decide) ?_)) ?_
      refine i_iload_n hC (x := x2) dX8_carryOut_106 (by repeat (first | rfl | refine lk_w (by first | rfl | exact isR_cat (wv_R v _) | exact isR_cat (by assumption)) (by decide) ?_)) ?_
      refine i_iload_n hC (x := x3) dX8_carryOut_107 (by repeat (first | rfl | refine lk_w (by first | rfl | exact isR_cat (wv_R v _) | exact isR_cat (by assumption)) (by decide) ?_)) ?_
      refine i_iconst hC dX8_carryOut_108 li_0 ?_
      obtain ⟨r18, S18, hc18, hf⟩ := bd2_of hf
      refine i_callVi hC mv_X8_171 (c_X8_changeRope hC.2.2.2.2.2.2.2.1 hc18) (pln rfl) (lay_p198) rfl rfl rfl rfl ⟨Nat.le_of_ble_eq_true rfl, Nat.le_of_ble_eq_true rfl⟩ (Nat.le_of_ble_eq_true rfl) dX8_carryOut_109 ?_
      obtain rfl := Option.some.inj hf
      exact i_iret hC dX8_carryOut_112
    replace hf := (if_neg c19).symm.trans hf
    refine i_tabOut hC (x := (Int32.ofNat (((x1 - (1 : Int32))).toNatClampNeg + 1))) (tgt := 113) dX8_carryOut_14 (by
        have z5 := lv_neT c5 (show ((1 : Int32)).toInt = 1 by decide)
        have z7 := lv_neT c7 (show ((2 : Int32)).toInt = 2 by decide)
        have z9 := lv_neT c9 (show ((3 : Int32)).toInt = 3 by decide)
        have z11 := lv_neT c11 (show ((4 : Int32)).toInt = 4 by decide)
        have z13 := lv_neT c13 (show ((5 : Int32)).toInt = 5 by decide)
        have z15 := lv_neT c15 (show ((6 : Int32)).toInt = 6 by decide)
        have z17 := lv_neT c17 (show ((7 : Int32)).toInt = 7 by decide)
        have z19 := lv_neT c19 (show ((8 : Int32)).toInt = 8 by decide)
        omega) (by decide) ?_
    refine i_iload_n hC (x := x2) dX8_carryOut_113 (by repeat (first | rfl | refine lk_w (by first | rfl | exact isR_cat (wv_R v _) | exact isR_cat (by assumption)) (by decide) ?_)) ?_
    refine i_iconst hC dX8_carryOut_114 li_1 ?_
    refine i_icmp_lt hC (tgt := 135) dX8_carryOut_115 (by decide) (fun c20 => ?_) (fun c20 => ?_)
    · replace hf := (if_pos c20).symm.trans hf
      exact Mj.to (b_X8_carryOut_135 hC  hf) trivial
    · replace hf := (if_neg c20).symm.trans hf
      refine i_iload_n hC (x := x2) dX8_carryOut_118 (by repeat (first | rfl | refine lk_w (by first | rfl | exact isR_cat (wv_R v _) | exact isR_cat (by assumption)) (by decide) ?_)) ?_
      refine i_bipush hC dX8_carryOut_119 lb_20 ?_
      refine i_icmp_gt hC (tgt := 135) dX8_carryOut_121 (by decide) (fun c21 => ?_) (fun c21 => ?_)
      · replace hf := (if_pos c21).symm.trans hf
        exact Mj.to (b_X8_carryOut_135 hC  hf) trivial
      · replace hf := (if_neg c21).symm.trans hf
        refine i_aload_n hC (x := (eA v (198))) dX8_carryOut_124 (by repeat (first | rfl | refine lk_w (by first | rfl | exact isR_cat (wv_R v _) | exact isR_cat (by assumption)) (by decide) ?_)) ?_
        refine i_getR (x := pR 0) hC fl_X8_12 (pln rfl) (lay_p198) rfl dX8_carryOut_125 ?_
        refine i_iload_n hC (x := x2) dX8_carryOut_128 (by repeat (first | rfl | refine lk_w (by first | rfl | exact isR_cat (wv_R v _) | exact isR_cat (by assumption)) (by decide) ?_)) ?_
        obtain ⟨r22, S22, hc22, hf⟩ := bd2_of hf
        refine i_callVi hC mv_X8_175 (c_X4_passBeats hC.2.2.2.2.2.2.2.1 (by decide) hc22) (pl_R (by decide)) (lay_R (by decide)) rfl rfl rfl rfl ⟨Nat.le_of_ble_eq_true rfl, Nat.le_of_ble_eq_true rfl⟩ (Nat.le_of_ble_eq_true rfl) dX8_carryOut_129 ?_
        refine i_goto hC (tgt := 137) dX8_carryOut_132 (by decide) ?_
        exact Mj.to (b_X8_carryOut_137 hC  hf) trivial
  · replace hf := (if_pos c1).symm.trans hf
    refine i_iconst hC dX8_carryOut_4 li_m1 ?_
    obtain rfl := Option.some.inj hf
    exact i_iret hC dX8_carryOut_5
theorem c_X8_carryOut {v : EV} {l : Launch} (hst : Stb v) {S : Mem} {x1 x2 x3 : Int32}  {r : Int32 × Mem} (hf : g_X8_carryOut S x1 x2 x3 = some r) : Con v l yX8_carryOut cX8_carryOut 4 (some .int) 5 116 [.ref (eA v (198)), wv v x1, .int x2, .int x3] S (some (.int r.1)) r.2 := con_of (by decide) hst (by simp [lg_sl, isR_cat (wv_R v _), cat_i, cat_r]) (fun p e s m args below meth c hC => by
  have e1 : lv_args 0 [.ref (eA v (198)), wv v x1, .int x2, .int x3] = [(0, .ref (eA v (198))), (1, wv v x1), (2, .int x2), (3, .int x3)] := by simp [lv_args, isR_cat (wv_R v _), cat_i, cat_r]
  rw [e1]
  exact b_X8_carryOut_0 hC  hf)
def f_X8_change_36 (S : Mem) (x4 : Int32) : Option (Int32 × Mem) := some (x4, S)
def f_X8_change_0 (S : Mem) (x1 : Int32) (x2 : Int32) (x3 : Int32) : Option (Int32 × Mem) := bd1 (g_X4_copyFrom S 1 0) (fun S1 => bd2 (g_X8_carryOut S1 x1 x2 x3) (fun r2 S2 => (if r2 < 0 then f_X8_change_36 S2 r2 else bd1 (g_X3_remember S2 1) (fun S4 => f_X8_change_36 S4 r2))))
def g_X8_change (S : Mem) (x1 : Int32) (x2 : Int32) (x3 : Int32) : Option (Int32 × Mem) := f_X8_change_0 S x1 x2 x3
set_option maxHeartbeats 4000000 in
set_option maxRecDepth 100000 in
theorem b_X8_change_36 {v : EV} {p : Program} {l : Launch} {e : Env} {s : State} {m : MethodId} {args : Array Value} {below : List Frame} {meth : Method} {c : Code} (hC : Cx v p l e s m args meth c RX8 cX8_change 5 (some .int)) {S : Mem} {x4 : Int32}  {r : Int32 × Mem} (hf : f_X8_change_36 S x4 = some r) : Mj v p l e (rmF 6 139) s m args below meth c 5 (MQ below (Qc v (some (.int r.1)) r.2) args s 0 0 (eG v)) 0 S 36 [(4, .int x4)] [] := by
  refine i_iload hC (x := x4) dX8_change_36 (by repeat (first | rfl | refine lk_w (by first | rfl | exact isR_cat (wv_R v _) | exact isR_cat (by assumption)) (by decide) ?_)) ?_
  obtain rfl := Option.some.inj hf
  exact i_iret hC dX8_change_38
set_option maxHeartbeats 4000000 in
set_option maxRecDepth 100000 in
theorem b_X8_change_0 {v : EV} {p : Program} {l : Launch} {e : Env} {s : State} {m : MethodId} {args : Array Value} {below : List Frame} {meth : Method} {c : Code} (hC : Cx v p l e s m args meth c RX8 cX8_change 5 (some .int)) {S : Mem} {x1 : Int32} {x2 : Int32} {x3 : Int32}  {r : Int32 × Mem} (hf : f_X8_change_0 S x1 x2 x3 = some r) : Mj v p l e (rmF 6 139) s m args below meth c 5 (MQ below (Qc v (some (.int r.1)) r.2) args s 0 0 (eG v)) 0 S 0 [(0, .ref (eA v (198))), (1, wv v x1), (2, .int x2), (3, .int x3)] [] := by
  refine i_aload_n hC (x := (eA v (198))) dX8_change_0 (by repeat (first | rfl | refine lk_w (by first | rfl | exact isR_cat (wv_R v _) | exact isR_cat (by assumption)) (by decide) ?_)) ?_
  refine i_getR (x := pR 1) hC fl_X8_16 (pln rfl) (lay_p198) rfl dX8_change_1 ?_
  refine i_aload_n hC (x := (eA v (198))) dX8_change_4 (by repeat (first | rfl | refine lk_w (by first | rfl | exact isR_cat (wv_R v _) | exact isR_cat (by assumption)) (by decide) ?_)) ?_
  refine i_getR (x := pR 0) hC fl_X8_12 (pln rfl) (lay_p198) rfl dX8_change_5 ?_
  obtain ⟨S1, hc1, hf⟩ := bd1_of hf
  refine i_callVv hC mv_X8_113 (c_X4_copyFrom hC.2.2.2.2.2.2.2.1 (by decide) (by decide) hc1) (pl_R (by decide)) (lay_R (by decide)) rfl rfl rfl rfl ⟨Nat.le_of_ble_eq_true rfl, Nat.le_of_ble_eq_true rfl⟩ (Nat.le_of_ble_eq_true rfl) dX8_change_8 ?_
  refine i_aload_n hC (x := (eA v (198))) dX8_change_11 (by repeat (first | rfl | refine lk_w (by first | rfl | exact isR_cat (wv_R v _) | exact isR_cat (by assumption)) (by decide) ?_)) ?_
  refine i_aloadG_n hC (u := wv v x1) (wv_R v _) dX8_change_12 (by repeat (first | rfl | refine lk_w (by first | rfl | exact isR_cat (wv_R v _) | exact isR_cat (by assumption)) (by decide) ?_)) ?_
  refine i_iload_n hC (x := x2) dX8_change_13 (by repeat (first | rfl | refine lk_w (by first | rfl | exact isR_cat (wv_R v _) | exact isR_cat (by assumption)) (by decide) ?_)) ?_
  refine i_iload_n hC (x := x3) dX8_change_14 (by repeat (first | rfl | refine lk_w (by first | rfl | exact isR_cat (wv_R v _) | exact isR_cat (by assumption)) (by decide) ?_)) ?_
  obtain ⟨r2, S2, hc2, hf⟩ := bd2_of hf
  refine i_callVi hC mv_X8_133 (c_X8_carryOut hC.2.2.2.2.2.2.2.1 hc2) (pln rfl) (lay_p198) rfl rfl rfl rfl ⟨Nat.le_of_ble_eq_true rfl, Nat.le_of_ble_eq_true rfl⟩ (Nat.le_of_ble_eq_true rfl) dX8_change_15 ?_
  refine i_istore hC dX8_change_18 (by decide) ?_
  refine i_iload hC (x := r2) dX8_change_20 (by repeat (first | rfl | refine lk_w (by first | rfl | exact isR_cat (wv_R v _) | exact isR_cat (by assumption)) (by decide) ?_)) ?_
  refine i_if_lt hC (tgt := 36) dX8_change_22 (by decide) (fun c3 => ?_) (fun c3 => ?_)
  · replace hf := (if_pos c3).symm.trans hf
    exact Mj.to (b_X8_change_36 hC  hf) ⟨(by repeat (first | rfl | refine lk_w (by first | rfl | exact isR_cat (wv_R v _) | exact isR_cat (by assumption)) (by decide) ?_)), trivial⟩
  · replace hf := (if_neg c3).symm.trans hf
    refine i_aload_n hC (x := (eA v (198))) dX8_change_25 (by repeat (first | rfl | refine lk_w (by first | rfl | exact isR_cat (wv_R v _) | exact isR_cat (by assumption)) (by decide) ?_)) ?_
    refine i_getR hC fl_X8_25 (pln rfl) (lay_p198) rfl dX8_change_26 ?_
    refine i_aload_n hC (x := (eA v (198))) dX8_change_29 (by repeat (first | rfl | refine lk_w (by first | rfl | exact isR_cat (wv_R v _) | exact isR_cat (by assumption)) (by decide) ?_)) ?_
    refine i_getR (x := pR 1) hC fl_X8_16 (pln rfl) (lay_p198) rfl dX8_change_30 ?_
    obtain ⟨S4, hc4, hf⟩ := bd1_of hf
    refine i_callVv hC mv_X8_140 (c_X3_remember hC.2.2.2.2.2.2.2.1 (by decide) hc4) (pln rfl) (lay_p199) rfl rfl rfl rfl ⟨Nat.le_of_ble_eq_true rfl, Nat.le_of_ble_eq_true rfl⟩ (Nat.le_of_ble_eq_true rfl) dX8_change_33 ?_
    exact Mj.to (b_X8_change_36 hC  hf) ⟨(by repeat (first | rfl | refine lk_w (by first | rfl | exact isR_cat (wv_R v _) | exact isR_cat (by assumption)) (by decide) ?_)), trivial⟩
theorem c_X8_change {v : EV} {l : Launch} (hst : Stb v) {S : Mem} {x1 x2 x3 : Int32}  {r : Int32 × Mem} (hf : g_X8_change S x1 x2 x3 = some r) : Con v l yX8_change cX8_change 5 (some .int) 6 139 [.ref (eA v (198)), wv v x1, .int x2, .int x3] S (some (.int r.1)) r.2 := con_of (by decide) hst (by simp [lg_sl, isR_cat (wv_R v _), cat_i, cat_r]) (fun p e s m args below meth c hC => by
  have e1 : lv_args 0 [.ref (eA v (198)), wv v x1, .int x2, .int x3] = [(0, .ref (eA v (198))), (1, wv v x1), (2, .int x2), (3, .int x3)] := by simp [lv_args, isR_cat (wv_R v _), cat_i, cat_r]
  rw [e1]
  exact b_X8_change_0 hC  hf)
def f_X8_wash_0 (S : Mem) (x1 : Int32) : Option (Int32 × Mem) := bd2 (g_X8_change S (5 : Int32) x1 (0 : Int32)) (fun r1 S1 => some (r1, S1))
def g_X8_wash (S : Mem) (x1 : Int32) : Option (Int32 × Mem) := f_X8_wash_0 S x1
set_option maxHeartbeats 4000000 in
set_option maxRecDepth 100000 in
theorem b_X8_wash_0 {v : EV} {p : Program} {l : Launch} {e : Env} {s : State} {m : MethodId} {args : Array Value} {below : List Frame} {meth : Method} {c : Code} (hC : Cx v p l e s m args meth c RX8 cX8_wash 2 (some .int)) {S : Mem} {x1 : Int32}  {r : Int32 × Mem} (hf : f_X8_wash_0 S x1 = some r) : Mj v p l e (rmF 7 163) s m args below meth c 2 (MQ below (Qc v (some (.int r.1)) r.2) args s 0 0 (eG v)) 0 S 0 [(0, .ref (eA v (198))), (1, .int x1)] [] := by
  refine i_aload_n hC dX8_wash_0 rfl ?_
  refine i_enum hC (i := 4) (by decide) mw_228 dX8_wash_1 ?_
  refine i_iload_n hC dX8_wash_4 rfl ?_
  refine i_iconst hC dX8_wash_5 li_0 ?_
  obtain ⟨r1, S1, hc1, hf⟩ := bd2_of hf
  refine i_callVi hC mv_X8_77 (c_X8_change hC.2.2.2.2.2.2.2.1 hc1) (pln rfl) (lay_p198) rfl rfl rfl rfl ⟨Nat.le_of_ble_eq_true rfl, Nat.le_of_ble_eq_true rfl⟩ (Nat.le_of_ble_eq_true rfl) dX8_wash_6 ?_
  obtain rfl := Option.some.inj hf
  exact i_iret hC dX8_wash_9
theorem c_X8_wash {v : EV} {l : Launch} (hst : Stb v) {S : Mem} {x1 : Int32}  {r : Int32 × Mem} (hf : g_X8_wash S x1 = some r) : Con v l yX8_wash cX8_wash 2 (some .int) 7 163 [.ref (eA v (198)), .int x1] S (some (.int r.1)) r.2 := con_of (by decide) hst (Nat.le_of_ble_eq_true rfl) (fun p e s m args below meth c hC => b_X8_wash_0 hC  hf)
def f_X8_beats_0 (S : Mem) (x1 : Int32) : Option (Int32 × Mem) := bd2 (g_X8_change S (9 : Int32) x1 (0 : Int32)) (fun r1 S1 => some (r1, S1))
def g_X8_beats (S : Mem) (x1 : Int32) : Option (Int32 × Mem) := f_X8_beats_0 S x1
set_option maxHeartbeats 4000000 in
set_option maxRecDepth 100000 in
theorem b_X8_beats_0 {v : EV} {p : Program} {l : Launch} {e : Env} {s : State} {m : MethodId} {args : Array Value} {below : List Frame} {meth : Method} {c : Code} (hC : Cx v p l e s m args meth c RX8 cX8_beats 2 (some .int)) {S : Mem} {x1 : Int32}  {r : Int32 × Mem} (hf : f_X8_beats_0 S x1 = some r) : Mj v p l e (rmF 7 163) s m args below meth c 2 (MQ below (Qc v (some (.int r.1)) r.2) args s 0 0 (eG v)) 0 S 0 [(0, .ref (eA v (198))), (1, .int x1)] [] := by
  refine i_aload_n hC dX8_beats_0 rfl ?_
  refine i_enum hC (i := 8) (by decide) mw_234 dX8_beats_1 ?_
  refine i_iload_n hC dX8_beats_4 rfl ?_
  refine i_iconst hC dX8_beats_5 li_0 ?_
  obtain ⟨r1, S1, hc1, hf⟩ := bd2_of hf
  refine i_callVi hC mv_X8_77 (c_X8_change hC.2.2.2.2.2.2.2.1 hc1) (pln rfl) (lay_p198) rfl rfl rfl rfl ⟨Nat.le_of_ble_eq_true rfl, Nat.le_of_ble_eq_true rfl⟩ (Nat.le_of_ble_eq_true rfl) dX8_beats_6 ?_
  obtain rfl := Option.some.inj hf
  exact i_iret hC dX8_beats_9
theorem c_X8_beats {v : EV} {l : Launch} (hst : Stb v) {S : Mem} {x1 : Int32}  {r : Int32 × Mem} (hf : g_X8_beats S x1 = some r) : Con v l yX8_beats cX8_beats 2 (some .int) 7 163 [.ref (eA v (198)), .int x1] S (some (.int r.1)) r.2 := con_of (by decide) hst (Nat.le_of_ble_eq_true rfl) (fun p e s m args below meth c hC => b_X8_beats_0 hC  hf)
def f_X8_driver_0 (S : Mem) (x1 : Int32) : Option (Int32 × Mem) := bd2 (g_X8_change S (1 : Int32) x1 (0 : Int32)) (fun r1 S1 => some (r1, S1))
def g_X8_driver (S : Mem) (x1 : Int32) : Option (Int32 × Mem) := f_X8_driver_0 S x1
set_option maxHeartbeats 4000000 in
set_option maxRecDepth 100000 in
theorem b_X8_driver_0 {v : EV} {p : Program} {l : Launch} {e : Env} {s : State} {m : MethodId} {args : Array Value} {below : List Frame} {meth : Method} {c : Code} (hC : Cx v p l e s m args meth c RX8 cX8_driver 2 (some .int)) {S : Mem} {x1 : Int32}  {r : Int32 × Mem} (hf : f_X8_driver_0 S x1 = some r) : Mj v p l e (rmF 7 163) s m args below meth c 2 (MQ below (Qc v (some (.int r.1)) r.2) args s 0 0 (eG v)) 0 S 0 [(0, .ref (eA v (198))), (1, .int x1)] [] := by
  refine i_aload_n hC dX8_driver_0 rfl ?_
  refine i_enum hC (i := 0) (by decide) mw_597 dX8_driver_1 ?_
  refine i_iload_n hC dX8_driver_4 rfl ?_
  refine i_iconst hC dX8_driver_5 li_0 ?_
  obtain ⟨r1, S1, hc1, hf⟩ := bd2_of hf
  refine i_callVi hC mv_X8_77 (c_X8_change hC.2.2.2.2.2.2.2.1 hc1) (pln rfl) (lay_p198) rfl rfl rfl rfl ⟨Nat.le_of_ble_eq_true rfl, Nat.le_of_ble_eq_true rfl⟩ (Nat.le_of_ble_eq_true rfl) dX8_driver_6 ?_
  obtain rfl := Option.some.inj hf
  exact i_iret hC dX8_driver_9
theorem c_X8_driver {v : EV} {l : Launch} (hst : Stb v) {S : Mem} {x1 : Int32}  {r : Int32 × Mem} (hf : g_X8_driver S x1 = some r) : Con v l yX8_driver cX8_driver 2 (some .int) 7 163 [.ref (eA v (198)), .int x1] S (some (.int r.1)) r.2 := con_of (by decide) hst (Nat.le_of_ble_eq_true rfl) (fun p e s m args below meth c hC => b_X8_driver_0 hC  hf)
def f_X8_send_0 (S : Mem) (x1 : Int32) : Option (Int32 × Mem) := bd2 (g_X8_change S (3 : Int32) x1 (0 : Int32)) (fun r1 S1 => some (r1, S1))
def g_X8_send (S : Mem) (x1 : Int32) : Option (Int32 × Mem) := f_X8_send_0 S x1
set_option maxHeartbeats 4000000 in
set_option maxRecDepth 100000 in
theorem b_X8_send_0 {v : EV} {p : Program} {l : Launch} {e : Env} {s : State} {m : MethodId} {args : Array Value} {below : List Frame} {meth : Method} {c : Code} (hC : Cx v p l e s m args meth c RX8 cX8_send 2 (some .int)) {S : Mem} {x1 : Int32}  {r : Int32 × Mem} (hf : f_X8_send_0 S x1 = some r) : Mj v p l e (rmF 7 163) s m args below meth c 2 (MQ below (Qc v (some (.int r.1)) r.2) args s 0 0 (eG v)) 0 S 0 [(0, .ref (eA v (198))), (1, .int x1)] [] := by
  refine i_aload_n hC dX8_send_0 rfl ?_
  refine i_enum hC (i := 2) (by decide) mw_611 dX8_send_1 ?_
  refine i_iload_n hC dX8_send_4 rfl ?_
  refine i_iconst hC dX8_send_5 li_0 ?_
  obtain ⟨r1, S1, hc1, hf⟩ := bd2_of hf
  refine i_callVi hC mv_X8_77 (c_X8_change hC.2.2.2.2.2.2.2.1 hc1) (pln rfl) (lay_p198) rfl rfl rfl rfl ⟨Nat.le_of_ble_eq_true rfl, Nat.le_of_ble_eq_true rfl⟩ (Nat.le_of_ble_eq_true rfl) dX8_send_6 ?_
  obtain rfl := Option.some.inj hf
  exact i_iret hC dX8_send_9
theorem c_X8_send {v : EV} {l : Launch} (hst : Stb v) {S : Mem} {x1 : Int32}  {r : Int32 × Mem} (hf : g_X8_send S x1 = some r) : Con v l yX8_send cX8_send 2 (some .int) 7 163 [.ref (eA v (198)), .int x1] S (some (.int r.1)) r.2 := con_of (by decide) hst (Nat.le_of_ble_eq_true rfl) (fun p e s m args below meth c hC => b_X8_send_0 hC  hf)
def f_X8_shout_0 (S : Mem) (x1 : Int32) (x2 : Int32) : Option (Int32 × Mem) := bd2 (g_X8_change S (4 : Int32) x1 x2) (fun r1 S1 => some (r1, S1))
def g_X8_shout (S : Mem) (x1 : Int32) (x2 : Int32) : Option (Int32 × Mem) := f_X8_shout_0 S x1 x2
set_option maxHeartbeats 4000000 in
set_option maxRecDepth 100000 in
theorem b_X8_shout_0 {v : EV} {p : Program} {l : Launch} {e : Env} {s : State} {m : MethodId} {args : Array Value} {below : List Frame} {meth : Method} {c : Code} (hC : Cx v p l e s m args meth c RX8 cX8_shout 3 (some .int)) {S : Mem} {x1 : Int32} {x2 : Int32}  {r : Int32 × Mem} (hf : f_X8_shout_0 S x1 x2 = some r) : Mj v p l e (rmF 7 163) s m args below meth c 3 (MQ below (Qc v (some (.int r.1)) r.2) args s 0 0 (eG v)) 0 S 0 [(0, .ref (eA v (198))), (1, .int x1), (2, .int x2)] [] := by
  refine i_aload_n hC dX8_shout_0 rfl ?_
  refine i_enum hC (i := 3) (by decide) mw_617 dX8_shout_1 ?_
  refine i_iload_n hC dX8_shout_4 rfl ?_
  refine i_iload_n hC dX8_shout_5 rfl ?_
  obtain ⟨r1, S1, hc1, hf⟩ := bd2_of hf
  refine i_callVi hC mv_X8_77 (c_X8_change hC.2.2.2.2.2.2.2.1 hc1) (pln rfl) (lay_p198) rfl rfl rfl rfl ⟨Nat.le_of_ble_eq_true rfl, Nat.le_of_ble_eq_true rfl⟩ (Nat.le_of_ble_eq_true rfl) dX8_shout_6 ?_
  obtain rfl := Option.some.inj hf
  exact i_iret hC dX8_shout_9
theorem c_X8_shout {v : EV} {l : Launch} (hst : Stb v) {S : Mem} {x1 x2 : Int32}  {r : Int32 × Mem} (hf : g_X8_shout S x1 x2 = some r) : Con v l yX8_shout cX8_shout 3 (some .int) 7 163 [.ref (eA v (198)), .int x1, .int x2] S (some (.int r.1)) r.2 := con_of (by decide) hst (Nat.le_of_ble_eq_true rfl) (fun p e s m args below meth c hC => b_X8_shout_0 hC  hf)
def f_X8_back_0 (S : Mem) (x1 : Int32) : Option (Int32 × Mem) := bd2 (g_X8_change S (6 : Int32) x1 (0 : Int32)) (fun r1 S1 => some (r1, S1))
def g_X8_back (S : Mem) (x1 : Int32) : Option (Int32 × Mem) := f_X8_back_0 S x1
set_option maxHeartbeats 4000000 in
set_option maxRecDepth 100000 in
theorem b_X8_back_0 {v : EV} {p : Program} {l : Launch} {e : Env} {s : State} {m : MethodId} {args : Array Value} {below : List Frame} {meth : Method} {c : Code} (hC : Cx v p l e s m args meth c RX8 cX8_back 2 (some .int)) {S : Mem} {x1 : Int32}  {r : Int32 × Mem} (hf : f_X8_back_0 S x1 = some r) : Mj v p l e (rmF 7 163) s m args below meth c 2 (MQ below (Qc v (some (.int r.1)) r.2) args s 0 0 (eG v)) 0 S 0 [(0, .ref (eA v (198))), (1, .int x1)] [] := by
  refine i_aload_n hC dX8_back_0 rfl ?_
  refine i_enum hC (i := 5) (by decide) mw_623 dX8_back_1 ?_
  refine i_iload_n hC dX8_back_4 rfl ?_
  refine i_iconst hC dX8_back_5 li_0 ?_
  obtain ⟨r1, S1, hc1, hf⟩ := bd2_of hf
  refine i_callVi hC mv_X8_77 (c_X8_change hC.2.2.2.2.2.2.2.1 hc1) (pln rfl) (lay_p198) rfl rfl rfl rfl ⟨Nat.le_of_ble_eq_true rfl, Nat.le_of_ble_eq_true rfl⟩ (Nat.le_of_ble_eq_true rfl) dX8_back_6 ?_
  obtain rfl := Option.some.inj hf
  exact i_iret hC dX8_back_9
theorem c_X8_back {v : EV} {l : Launch} (hst : Stb v) {S : Mem} {x1 : Int32}  {r : Int32 × Mem} (hf : g_X8_back S x1 = some r) : Con v l yX8_back cX8_back 2 (some .int) 7 163 [.ref (eA v (198)), .int x1] S (some (.int r.1)) r.2 := con_of (by decide) hst (Nat.le_of_ble_eq_true rfl) (fun p e s m args below meth c hC => b_X8_back_0 hC  hf)
def f_X8_cut_0 (S : Mem) (x1 : Int32) (x2 : Int32) : Option (Int32 × Mem) := bd2 (g_X8_change S (7 : Int32) x1 x2) (fun r1 S1 => some (r1, S1))
def g_X8_cut (S : Mem) (x1 : Int32) (x2 : Int32) : Option (Int32 × Mem) := f_X8_cut_0 S x1 x2
set_option maxHeartbeats 4000000 in
set_option maxRecDepth 100000 in
theorem b_X8_cut_0 {v : EV} {p : Program} {l : Launch} {e : Env} {s : State} {m : MethodId} {args : Array Value} {below : List Frame} {meth : Method} {c : Code} (hC : Cx v p l e s m args meth c RX8 cX8_cut 3 (some .int)) {S : Mem} {x1 : Int32} {x2 : Int32}  {r : Int32 × Mem} (hf : f_X8_cut_0 S x1 x2 = some r) : Mj v p l e (rmF 7 163) s m args below meth c 3 (MQ below (Qc v (some (.int r.1)) r.2) args s 0 0 (eG v)) 0 S 0 [(0, .ref (eA v (198))), (1, .int x1), (2, .int x2)] [] := by
  refine i_aload_n hC dX8_cut_0 rfl ?_
  refine i_enum hC (i := 6) (by decide) mw_629 dX8_cut_1 ?_
  refine i_iload_n hC dX8_cut_4 rfl ?_
  refine i_iload_n hC dX8_cut_5 rfl ?_
  obtain ⟨r1, S1, hc1, hf⟩ := bd2_of hf
  refine i_callVi hC mv_X8_77 (c_X8_change hC.2.2.2.2.2.2.2.1 hc1) (pln rfl) (lay_p198) rfl rfl rfl rfl ⟨Nat.le_of_ble_eq_true rfl, Nat.le_of_ble_eq_true rfl⟩ (Nat.le_of_ble_eq_true rfl) dX8_cut_6 ?_
  obtain rfl := Option.some.inj hf
  exact i_iret hC dX8_cut_9
theorem c_X8_cut {v : EV} {l : Launch} (hst : Stb v) {S : Mem} {x1 x2 : Int32}  {r : Int32 × Mem} (hf : g_X8_cut S x1 x2 = some r) : Con v l yX8_cut cX8_cut 3 (some .int) 7 163 [.ref (eA v (198)), .int x1, .int x2] S (some (.int r.1)) r.2 := con_of (by decide) hst (Nat.le_of_ble_eq_true rfl) (fun p e s m args below meth c hC => b_X8_cut_0 hC  hf)
def f_X8_tie_0 (S : Mem) (x1 : Int32) (x2 : Int32) : Option (Int32 × Mem) := bd2 (g_X8_change S (8 : Int32) x1 x2) (fun r1 S1 => some (r1, S1))
def g_X8_tie (S : Mem) (x1 : Int32) (x2 : Int32) : Option (Int32 × Mem) := f_X8_tie_0 S x1 x2
set_option maxHeartbeats 4000000 in
set_option maxRecDepth 100000 in
theorem b_X8_tie_0 {v : EV} {p : Program} {l : Launch} {e : Env} {s : State} {m : MethodId} {args : Array Value} {below : List Frame} {meth : Method} {c : Code} (hC : Cx v p l e s m args meth c RX8 cX8_tie 3 (some .int)) {S : Mem} {x1 : Int32} {x2 : Int32}  {r : Int32 × Mem} (hf : f_X8_tie_0 S x1 x2 = some r) : Mj v p l e (rmF 7 163) s m args below meth c 3 (MQ below (Qc v (some (.int r.1)) r.2) args s 0 0 (eG v)) 0 S 0 [(0, .ref (eA v (198))), (1, .int x1), (2, .int x2)] [] := by
  refine i_aload_n hC dX8_tie_0 rfl ?_
  refine i_enum hC (i := 7) (by decide) mw_635 dX8_tie_1 ?_
  refine i_iload_n hC dX8_tie_4 rfl ?_
  refine i_iload_n hC dX8_tie_5 rfl ?_
  obtain ⟨r1, S1, hc1, hf⟩ := bd2_of hf
  refine i_callVi hC mv_X8_77 (c_X8_change hC.2.2.2.2.2.2.2.1 hc1) (pln rfl) (lay_p198) rfl rfl rfl rfl ⟨Nat.le_of_ble_eq_true rfl, Nat.le_of_ble_eq_true rfl⟩ (Nat.le_of_ble_eq_true rfl) dX8_tie_6 ?_
  obtain rfl := Option.some.inj hf
  exact i_iret hC dX8_tie_9
theorem c_X8_tie {v : EV} {l : Launch} (hst : Stb v) {S : Mem} {x1 x2 : Int32}  {r : Int32 × Mem} (hf : g_X8_tie S x1 x2 = some r) : Con v l yX8_tie cX8_tie 3 (some .int) 7 163 [.ref (eA v (198)), .int x1, .int x2] S (some (.int r.1)) r.2 := con_of (by decide) hst (Nat.le_of_ble_eq_true rfl) (fun p e s m args below meth c hC => b_X8_tie_0 hC  hf)
def f_X8_ask_0 (S : Mem) (x1 : Int32) : Option (Int32 × Mem) := bd2 (g_X8_change S (2 : Int32) x1 (0 : Int32)) (fun r1 S1 => some (r1, S1))
def g_X8_ask (S : Mem) (x1 : Int32) : Option (Int32 × Mem) := f_X8_ask_0 S x1
set_option maxHeartbeats 4000000 in
set_option maxRecDepth 100000 in
theorem b_X8_ask_0 {v : EV} {p : Program} {l : Launch} {e : Env} {s : State} {m : MethodId} {args : Array Value} {below : List Frame} {meth : Method} {c : Code} (hC : Cx v p l e s m args meth c RX8 cX8_ask 2 (some .int)) {S : Mem} {x1 : Int32}  {r : Int32 × Mem} (hf : f_X8_ask_0 S x1 = some r) : Mj v p l e (rmF 7 163) s m args below meth c 2 (MQ below (Qc v (some (.int r.1)) r.2) args s 0 0 (eG v)) 0 S 0 [(0, .ref (eA v (198))), (1, .int x1)] [] := by
  refine i_aload_n hC dX8_ask_0 rfl ?_
  refine i_enum hC (i := 1) (by decide) mw_51 dX8_ask_1 ?_
  refine i_iload_n hC dX8_ask_4 rfl ?_
  refine i_iconst hC dX8_ask_5 li_0 ?_
  obtain ⟨r1, S1, hc1, hf⟩ := bd2_of hf
  refine i_callVi hC mv_X8_77 (c_X8_change hC.2.2.2.2.2.2.2.1 hc1) (pln rfl) (lay_p198) rfl rfl rfl rfl ⟨Nat.le_of_ble_eq_true rfl, Nat.le_of_ble_eq_true rfl⟩ (Nat.le_of_ble_eq_true rfl) dX8_ask_6 ?_
  obtain rfl := Option.some.inj hf
  exact i_iret hC dX8_ask_9
theorem c_X8_ask {v : EV} {l : Launch} (hst : Stb v) {S : Mem} {x1 : Int32}  {r : Int32 × Mem} (hf : g_X8_ask S x1 = some r) : Con v l yX8_ask cX8_ask 2 (some .int) 7 163 [.ref (eA v (198)), .int x1] S (some (.int r.1)) r.2 := con_of (by decide) hst (Nat.le_of_ble_eq_true rfl) (fun p e s m args below meth c hC => b_X8_ask_0 hC  hf)
