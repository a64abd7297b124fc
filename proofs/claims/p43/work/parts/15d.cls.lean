def f_X6_takeFirst_20 (S : Mem) (xt0 : Int32) : Option (Int32 × Mem) := ck (isb xt0) (some (xt0, S))
def f_X6_takeFirst_0 (S : Mem) (d1_0 : Nat) : Option (Int32 × Mem) := bd2 (g_X6_takeDigit S) (fun r1 S1 => (if ((up S1 12 (3 * d1_0 + 1) r1) 12 (3 * d1_0 + 1)) < 0 then f_X6_takeFirst_20 (up S1 12 (3 * d1_0 + 1) r1) (0 : Int32) else f_X6_takeFirst_20 (up S1 12 (3 * d1_0 + 1) r1) (1 : Int32)))
def g_X6_takeFirst (S : Mem) (d1_0 : Nat) : Option (Int32 × Mem) := f_X6_takeFirst_0 S d1_0
set_option maxHeartbeats 4000000 in
set_option maxRecDepth 100000 in
theorem b_X6_takeFirst_20 {v : EV} {p : Program} {l : Launch} {e : Env} {s : State} {m : MethodId} {args : Array Value} {below : List Frame} {meth : Method} {c : Code} (hC : Cx v p l e s m args meth c RX6 cX6_takeFirst 2 (some .boolean)) {S : Mem} {xt0 : Int32}  {r : Int32 × Mem} (hf : f_X6_takeFirst_20 S xt0 = some r) : Mj v p l e (rmF 7 144) s m args below meth c 2 (MQ below (Qc v (some (.int r.1)) r.2) args s 0 0 (eG v)) 0 S 20 [] [.int xt0] := by
  obtain ⟨k3, hf⟩ := ck_of hf
  obtain rfl := Option.some.inj hf
  exact i_zret hC dX6_takeFirst_20 (isb_z k3).1
set_option maxHeartbeats 4000000 in
set_option maxRecDepth 100000 in
theorem b_X6_takeFirst_0 {v : EV} {p : Program} {l : Launch} {e : Env} {s : State} {m : MethodId} {args : Array Value} {below : List Frame} {meth : Method} {c : Code} (hC : Cx v p l e s m args meth c RX6 cX6_takeFirst 2 (some .boolean)) {S : Mem} {d1_0 : Nat} (h1 : d1_0 < 12) {r : Int32 × Mem} (hf : f_X6_takeFirst_0 S d1_0 = some r) : Mj v p l e (rmF 7 144) s m args below meth c 2 (MQ below (Qc v (some (.int r.1)) r.2) args s 0 0 (eG v)) 0 S 0 [(0, .ref (eA v (202))), (1, .ref (eA v (pC d1_0)))] [] := by
  refine i_aload_n hC dX6_takeFirst_0 rfl ?_
  refine i_aload_n hC dX6_takeFirst_1 rfl ?_
  obtain ⟨r1, S1, hc1, hf⟩ := bd2_of hf
  refine i_callVi hC mv_X6_119 (c_X6_takeDigit hC.2.2.2.2.2.2.2.1 hc1) (pln rfl) (lay_p202) rfl rfl rfl rfl ⟨Nat.le_of_ble_eq_true rfl, Nat.le_of_ble_eq_true rfl⟩ (Nat.le_of_ble_eq_true rfl) dX6_takeFirst_2 ?_
  refine i_putI hC fl_X6_116 (pl_C h1) (lay_C h1) rfl (bk_l ⟨rfl, rfl, rfl, rfl⟩) (nf_int _) dX6_takeFirst_5 ?_
  refine i_aload_n hC dX6_takeFirst_8 rfl ?_
  refine i_getI hC fl_X6_116 (pl_C h1) (lay_C h1) rfl dX6_takeFirst_9 ?_
  refine i_if_lt hC (tgt := 19) dX6_takeFirst_12 (by decide) (fun c2 => ?_) (fun c2 => ?_)
  · replace hf := (if_pos c2).symm.trans hf
    refine i_iconst hC dX6_takeFirst_19 li_0 ?_
    exact Mj.to (b_X6_takeFirst_20 hC  hf) trivial
  · replace hf := (if_neg c2).symm.trans hf
    refine i_iconst hC dX6_takeFirst_15 li_1 ?_
    refine i_goto hC (tgt := 20) dX6_takeFirst_16 (by decide) ?_
    exact Mj.to (b_X6_takeFirst_20 hC  hf) trivial
theorem c_X6_takeFirst {v : EV} {l : Launch} (hst : Stb v) {S : Mem} {d1_0 : Nat} (h1 : d1_0 < 12) {r : Int32 × Mem} (hf : g_X6_takeFirst S d1_0 = some r) : Con v l yX6_takeFirst cX6_takeFirst 2 (some .boolean) 7 144 [.ref (eA v (202)), .ref (eA v (pC d1_0))] S (some (.int r.1)) r.2 := con_of (by decide) hst (Nat.le_of_ble_eq_true rfl) (fun p e s m args below meth c hC => b_X6_takeFirst_0 hC h1 hf)
def f_X6_takeArguments_78 (S : Mem) (xt0 : Int32) : Option (Int32 × Mem) := ck (isb xt0) (some (xt0, S))
def f_X6_takeArguments_77 (S : Mem)  : Option (Int32 × Mem) := f_X6_takeArguments_78 S (0 : Int32)
def f_X6_takeArguments_100 (S : Mem) (xt0 : Int32) : Option (Int32 × Mem) := ck (isb xt0) (some (xt0, S))
def f_X6_takeArguments_99 (S : Mem)  : Option (Int32 × Mem) := f_X6_takeArguments_100 S (0 : Int32)
def f_X6_takeArguments_128 (S : Mem) (xt0 : Int32) : Option (Int32 × Mem) := ck (isb xt0) (some (xt0, S))
def f_X6_takeArguments_123 (S : Mem)  : Option (Int32 × Mem) := f_X6_takeArguments_128 S (1 : Int32)
def f_X6_takeArguments_0 (S : Mem) (d1_0 : Nat) : Option (Int32 × Mem) := ck (isw (S 12 (3 * d1_0))) (ck (inb ((S 12 (3 * d1_0)) - (1 : Int32)) 9) ((if (Int32.ofNat ((((S 12 (3 * d1_0)) - (1 : Int32))).toNatClampNeg + 1)) = (4 : Int32) then bd2 (g_X6_takeFirst S d1_0) (fun r3 S3 => (if r3 = 0 then f_X6_takeArguments_77 S3 else bd2 (g_X6_takeSign S3 (32 : Int32)) (fun r6 S6 => (if r6 = 0 then f_X6_takeArguments_77 S6 else bd2 (g_X6_takeLetter S6 d1_0) (fun r8 S8 => (if r8 = 0 then f_X6_takeArguments_77 S8 else f_X6_takeArguments_78 S8 (1 : Int32))))))) else if (Int32.ofNat ((((S 12 (3 * d1_0)) - (1 : Int32))).toNatClampNeg + 1)) = (5 : Int32) then bd2 (g_X6_takeFirst S d1_0) (fun r11 S11 => ck (isb r11) (some (r11, S11))) else if (Int32.ofNat ((((S 12 (3 * d1_0)) - (1 : Int32))).toNatClampNeg + 1)) = (6 : Int32) then bd2 (g_X6_takeFirst S d1_0) (fun r14 S14 => ck (isb r14) (some (r14, S14))) else if (Int32.ofNat ((((S 12 (3 * d1_0)) - (1 : Int32))).toNatClampNeg + 1)) = (7 : Int32) then bd2 (g_X6_takeFirst S d1_0) (fun r17 S17 => (if r17 = 0 then f_X6_takeArguments_99 S17 else bd2 (g_X6_takeSecond S17 d1_0) (fun r20 S20 => (if r20 = 0 then f_X6_takeArguments_99 S20 else f_X6_takeArguments_100 S20 (1 : Int32))))) else if (Int32.ofNat ((((S 12 (3 * d1_0)) - (1 : Int32))).toNatClampNeg + 1)) = (8 : Int32) then bd2 (g_X6_takeFirst S d1_0) (fun r23 S23 => (if r23 = 0 then f_X6_takeArguments_99 S23 else bd2 (g_X6_takeSecond S23 d1_0) (fun r25 S25 => (if r25 = 0 then f_X6_takeArguments_99 S25 else f_X6_takeArguments_100 S25 (1 : Int32))))) else if (Int32.ofNat ((((S 12 (3 * d1_0)) - (1 : Int32))).toNatClampNeg + 1)) = (9 : Int32) then bd2 (g_X6_takeSign (up S 12 (3 * d1_0 + 1) (1 : Int32)) (32 : Int32)) (fun r28 S28 => (if r28 = 0 then f_X6_takeArguments_123 S28 else bd2 (g_X6_takeFirst S28 d1_0) (fun r31 S31 => (if r31 = 0 then f_X6_takeArguments_128 S31 (0 : Int32) else f_X6_takeArguments_123 S31)))) else bd2 (g_X6_takeFirst S d1_0) (fun r34 S34 => ck (isb r34) (some (r34, S34))))))
def g_X6_takeArguments (S : Mem) (d1_0 : Nat) : Option (Int32 × Mem) := f_X6_takeArguments_0 S d1_0
set_option maxHeartbeats 4000000 in
set_option maxRecDepth 100000 in
theorem b_X6_takeArguments_78 {v : EV} {p : Program} {l : Launch} {e : Env} {s : State} {m : MethodId} {args : Array Value} {below : List Frame} {meth : Method} {c : Code} (hC : Cx v p l e s m args meth c RX6 cX6_takeArguments 2 (some .boolean)) {S : Mem} {xt0 : Int32}  {r : Int32 × Mem} (hf : f_X6_takeArguments_78 S xt0 = some r) : Mj v p l e (rmF 8 165) s m args below meth c 2 (MQ below (Qc v (some (.int r.1)) r.2) args s 0 0 (eG v)) 0 S 78 [] [.int xt0] := by
  obtain ⟨k5, hf⟩ := ck_of hf
  obtain rfl := Option.some.inj hf
  exact i_zret hC dX6_takeArguments_78 (isb_z k5).1
set_option maxHeartbeats 4000000 in
set_option maxRecDepth 100000 in
theorem b_X6_takeArguments_77 {v : EV} {p : Program} {l : Launch} {e : Env} {s : State} {m : MethodId} {args : Array Value} {below : List Frame} {meth : Method} {c : Code} (hC : Cx v p l e s m args meth c RX6 cX6_takeArguments 2 (some .boolean)) {S : Mem}  {r : Int32 × Mem} (hf : f_X6_takeArguments_77 S = some r) : Mj v p l e (rmF 8 165) s m args below meth c 2 (MQ below (Qc v (some (.int r.1)) r.2) args s 0 0 (eG v)) 0 S 77 [] [] := by
  refine i_iconst hC dX6_takeArguments_77 li_0 ?_
  exact Mj.to (b_X6_takeArguments_78 hC  hf) trivial
set_option maxHeartbeats 4000000 in
set_option maxRecDepth 100000 in
theorem b_X6_takeArguments_100 {v : EV} {p : Program} {l : Launch} {e : Env} {s : State} {m : MethodId} {args : Array Value} {below : List Frame} {meth : Method} {c : Code} (hC : Cx v p l e s m args meth c RX6 cX6_takeArguments 2 (some .boolean)) {S : Mem} {xt0 : Int32}  {r : Int32 × Mem} (hf : f_X6_takeArguments_100 S xt0 = some r) : Mj v p l e (rmF 8 165) s m args below meth c 2 (MQ below (Qc v (some (.int r.1)) r.2) args s 0 0 (eG v)) 0 S 100 [] [.int xt0] := by
  obtain ⟨k19, hf⟩ := ck_of hf
  obtain rfl := Option.some.inj hf
  exact i_zret hC dX6_takeArguments_100 (isb_z k19).1
set_option maxHeartbeats 4000000 in
set_option maxRecDepth 100000 in
theorem b_X6_takeArguments_99 {v : EV} {p : Program} {l : Launch} {e : Env} {s : State} {m : MethodId} {args : Array Value} {below : List Frame} {meth : Method} {c : Code} (hC : Cx v p l e s m args meth c RX6 cX6_takeArguments 2 (some .boolean)) {S : Mem}  {r : Int32 × Mem} (hf : f_X6_takeArguments_99 S = some r) : Mj v p l e (rmF 8 165) s m args below meth c 2 (MQ below (Qc v (some (.int r.1)) r.2) args s 0 0 (eG v)) 0 S 99 [] [] := by
  refine i_iconst hC dX6_takeArguments_99 li_0 ?_
  exact Mj.to (b_X6_takeArguments_100 hC  hf) trivial
set_option maxHeartbeats 4000000 in
set_option maxRecDepth 100000 in
theorem b_X6_takeArguments_128 {v : EV} {p : Program} {l : Launch} {e : Env} {s : State} {m : MethodId} {args : Array Value} {below : List Frame} {meth : Method} {c : Code} (hC : Cx v p l e s m args meth c RX6 cX6_takeArguments 2 (some .boolean)) {S : Mem} {xt0 : Int32}  {r : Int32 × Mem} (hf : f_X6_takeArguments_128 S xt0 = some r) : Mj v p l e (rmF 8 165) s m args below meth c 2 (MQ below (Qc v (some (.int r.1)) r.2) args s 0 0 (eG v)) 0 S 128 [] [.int xt0] := by
  obtain ⟨k30, hf⟩ := ck_of hf
  obtain rfl := Option.some.inj hf
  exact i_zret hC dX6_takeArguments_128 (isb_z k30).1
set_option maxHeartbeats 4000000 in
set_option maxRecDepth 100000 in
theorem b_X6_takeArguments_123 {v : EV} {p : Program} {l : Launch} {e : Env} {s : State} {m : MethodId} {args : Array Value} {below : List Frame} {meth : Method} {c : Code} (hC : Cx v p l e s m args meth c RX6 cX6_takeArguments 2 (some .boolean)) {S : Mem}  {r : Int32 × Mem} (hf : f_X6_takeArguments_123 S = some r) : Mj v p l e (rmF 8 165) s m args below meth c 2 (MQ below (Qc v (some (.int r.1)) r.2) args s 0 0 (eG v)) 0 S 123 [] [] := by
  refine i_iconst hC dX6_takeArguments_123 li_1 ?_
  refine i_goto hC (tgt := 128) dX6_takeArguments_124 (by decide) ?_
  exact Mj.to (b_X6_takeArguments_128 hC  hf) trivial
set_option maxHeartbeats 4000000 in
set_option maxRecDepth 100000 in
theorem b_X6_takeArguments_0 {v : EV} {p : Program} {l : Launch} {e : Env} {s : State} {m : MethodId} {args : Array Value} {below : List Frame} {meth : Method} {c : Code} (hC : Cx v p l e s m args meth c RX6 cX6_takeArguments 2 (some .boolean)) {S : Mem} {d1_0 : Nat} (h1 : d1_0 < 12) {r : Int32 × Mem} (hf : f_X6_takeArguments_0 S d1_0 = some r) : Mj v p l e (rmF 8 165) s m args below meth c 2 (MQ below (Qc v (some (.int r.1)) r.2) args s 0 0 (eG v)) 0 S 0 [(0, .ref (eA v (202))), (1, .ref (eA v (pC d1_0)))] [] := by
  refine i_swm hC mw_930 dX6_takeArguments_0 ?_
  refine i_aload_n hC dX6_takeArguments_3 rfl ?_
  refine i_getW hC fl_X6_56 (pl_C h1) (lay_C h1) rfl dX6_takeArguments_4 ?_
  obtain ⟨k1, hf⟩ := ck_of hf
  refine i_ordinal hC k1 mw_1048 mo_X6_104 ⟨Nat.le_of_ble_eq_true rfl, Nat.le_of_ble_eq_true rfl⟩ (Nat.le_of_ble_eq_true rfl) dX6_takeArguments_7 ?_
  obtain ⟨k2, hf⟩ := ck_of hf
  refine i_swmld hC (inb_in k2) dX6_takeArguments_10 ?_
  by_cases c10 : (Int32.ofNat ((((S 12 (3 * d1_0)) - (1 : Int32))).toNatClampNeg + 1)) = (4 : Int32)
  · replace hf := (if_pos c10).symm.trans hf
    refine i_tabIn hC (tgt := 48) dX6_takeArguments_11 c10 (show ((4 : Int32)).toInt = 4 by decide) (by decide) (by decide) rfl (by decide) ?_
    refine i_aload_n hC dX6_takeArguments_48 rfl ?_
    refine i_aload_n hC dX6_takeArguments_49 rfl ?_
    obtain ⟨r3, S3, hc3, hf⟩ := bd2_of hf
    refine i_callVi hC mv_X6_107 (c_X6_takeFirst hC.2.2.2.2.2.2.2.1 h1 hc3) (pln rfl) (lay_p202) rfl rfl rfl rfl ⟨Nat.le_of_ble_eq_true rfl, Nat.le_of_ble_eq_true rfl⟩ (Nat.le_of_ble_eq_true rfl) dX6_takeArguments_50 ?_
    refine i_if_eq hC (tgt := 77) dX6_takeArguments_53 (by decide) (fun c4 => ?_) (fun c4 => ?_)
    · replace hf := (if_pos c4).symm.trans hf
      exact Mj.to (b_X6_takeArguments_77 hC  hf) trivial
    · replace hf := (if_neg c4).symm.trans hf
      refine i_aload_n hC dX6_takeArguments_56 rfl ?_
      refine i_bipush hC dX6_takeArguments_57 lb_32 ?_
      obtain ⟨r6, S6, hc6, hf⟩ := bd2_of hf
      refine i_callVi hC mv_X6_48 (c_X6_takeSign hC.2.2.2.2.2.2.2.1 hc6) (pln rfl) (lay_p202) rfl rfl rfl rfl ⟨Nat.le_of_ble_eq_true rfl, Nat.le_of_ble_eq_true rfl⟩ (Nat.le_of_ble_eq_true rfl) dX6_takeArguments_59 ?_
      refine i_if_eq hC (tgt := 77) dX6_takeArguments_62 (by decide) (fun c7 => ?_) (fun c7 => ?_)
      · replace hf := (if_pos c7).symm.trans hf
        exact Mj.to (b_X6_takeArguments_77 hC  hf) trivial
      · replace hf := (if_neg c7).symm.trans hf
        refine i_aload_n hC dX6_takeArguments_65 rfl ?_
        refine i_aload_n hC dX6_takeArguments_66 rfl ?_
        obtain ⟨r8, S8, hc8, hf⟩ := bd2_of hf
        refine i_callVi hC mv_X6_110 (c_X6_takeLetter hC.2.2.2.2.2.2.2.1 h1 hc8) (pln rfl) (lay_p202) rfl rfl rfl rfl ⟨Nat.le_of_ble_eq_true rfl, Nat.le_of_ble_eq_true rfl⟩ (Nat.le_of_ble_eq_true rfl) dX6_takeArguments_67 ?_
        refine i_if_eq hC (tgt := 77) dX6_takeArguments_70 (by decide) (fun c9 => ?_) (fun c9 => ?_)
        · replace hf := (if_pos c9).symm.trans hf
          exact Mj.to (b_X6_takeArguments_77 hC  hf) trivial
        · replace hf := (if_neg c9).symm.trans hf
          refine i_iconst hC dX6_takeArguments_73 li_1 ?_
          refine i_goto hC (tgt := 78) dX6_takeArguments_74 (by decide) ?_
          exact Mj.to (b_X6_takeArguments_78 hC  hf) trivial
  replace hf := (if_neg c10).symm.trans hf
  by_cases c13 : (Int32.ofNat ((((S 12 (3 * d1_0)) - (1 : Int32))).toNatClampNeg + 1)) = (5 : Int32)
  · replace hf := (if_pos c13).symm.trans hf
    refine i_tabIn hC (tgt := 129) dX6_takeArguments_11 c13 (show ((5 : Int32)).toInt = 5 by decide) (by decide) (by decide) rfl (by decide) ?_
    refine i_aload_n hC dX6_takeArguments_129 rfl ?_
    refine i_aload_n hC dX6_takeArguments_130 rfl ?_
    obtain ⟨r11, S11, hc11, hf⟩ := bd2_of hf
    refine i_callVi hC mv_X6_107 (c_X6_takeFirst hC.2.2.2.2.2.2.2.1 h1 hc11) (pln rfl) (lay_p202) rfl rfl rfl rfl ⟨Nat.le_of_ble_eq_true rfl, Nat.le_of_ble_eq_true rfl⟩ (Nat.le_of_ble_eq_true rfl) dX6_takeArguments_131 ?_
    obtain ⟨k12, hf⟩ := ck_of hf
    obtain rfl := Option.some.inj hf
    exact i_zret hC dX6_takeArguments_134 (isb_z k12).1
  replace hf := (if_neg c13).symm.trans hf
  by_cases c16 : (Int32.ofNat ((((S 12 (3 * d1_0)) - (1 : Int32))).toNatClampNeg + 1)) = (6 : Int32)
  · replace hf := (if_pos c16).symm.trans hf
    refine i_tabIn hC (tgt := 129) dX6_takeArguments_11 c16 (show ((6 : Int32)).toInt = 6 by decide) (by decide) (by decide) rfl (by decide) ?_
    refine i_aload_n hC dX6_takeArguments_129 rfl ?_
    refine i_aload_n hC dX6_takeArguments_130 rfl ?_
    obtain ⟨r14, S14, hc14, hf⟩ := bd2_of hf
    refine i_callVi hC mv_X6_107 (c_X6_takeFirst hC.2.2.2.2.2.2.2.1 h1 hc14) (pln rfl) (lay_p202) rfl rfl rfl rfl ⟨Nat.le_of_ble_eq_true rfl, Nat.le_of_ble_eq_true rfl⟩ (Nat.le_of_ble_eq_true rfl) dX6_takeArguments_131 ?_
    obtain ⟨k15, hf⟩ := ck_of hf
    obtain rfl := Option.some.inj hf
    exact i_zret hC dX6_takeArguments_134 (isb_z k15).1
  replace hf := (if_neg c16).symm.trans hf
  by_cases c22 : (Int32.ofNat ((((S 12 (3 * d1_0)) - (1 : Int32))).toNatClampNeg + 1)) = (7 : Int32)
  · replace hf := (if_pos c22).symm.trans hf
    refine i_tabIn hC (tgt := 79) dX6_takeArguments_11 c22 (show ((7 : Int32)).toInt = 7 by decide) (by decide) (by decide) rfl (by decide) ?_
    refine i_aload_n hC dX6_takeArguments_79 rfl ?_
    refine i_aload_n hC dX6_takeArguments_80 rfl ?_
    obtain ⟨r17, S17, hc17, hf⟩ := bd2_of hf
    refine i_callVi hC mv_X6_107 (c_X6_takeFirst hC.2.2.2.2.2.2.2.1 h1 hc17) (pln rfl) (lay_p202) rfl rfl rfl rfl ⟨Nat.le_of_ble_eq_true rfl, Nat.le_of_ble_eq_true rfl⟩ (Nat.le_of_ble_eq_true rfl) dX6_takeArguments_81 ?_
    refine i_if_eq hC (tgt := 99) dX6_takeArguments_84 (by decide) (fun c18 => ?_) (fun c18 => ?_)
    · replace hf := (if_pos c18).symm.trans hf
      exact Mj.to (b_X6_takeArguments_99 hC  hf) trivial
    · replace hf := (if_neg c18).symm.trans hf
      refine i_aload_n hC dX6_takeArguments_87 rfl ?_
      refine i_aload_n hC dX6_takeArguments_88 rfl ?_
      obtain ⟨r20, S20, hc20, hf⟩ := bd2_of hf
      refine i_callVi hC mv_X6_113 (c_X6_takeSecond hC.2.2.2.2.2.2.2.1 h1 hc20) (pln rfl) (lay_p202) rfl rfl rfl rfl ⟨Nat.le_of_ble_eq_true rfl, Nat.le_of_ble_eq_true rfl⟩ (Nat.le_of_ble_eq_true rfl) dX6_takeArguments_89 ?_
      refine i_if_eq hC (tgt := 99) dX6_takeArguments_92 (by decide) (fun c21 => ?_) (fun c21 => ?_)
      · replace hf := (if_pos c21).symm.trans hf
        exact Mj.to (b_X6_takeArguments_99 hC  hf) trivial
      · replace hf := (if_neg c21).symm.trans hf
        refine i_iconst hC dX6_takeArguments_95 li_1 ?_
        refine i_goto hC (tgt := 100) dX6_takeArguments_96 (by decide) ?_
        exact Mj.to (b_X6_takeArguments_100 hC  hf) trivial
  replace hf := (if_neg c22).symm.trans hf
  by_cases c27 : (Int32.ofNat ((((S 12 (3 * d1_0)) - (1 : Int32))).toNatClampNeg + 1)) = (8 : Int32)
  · replace hf := (if_pos c27).symm.trans hf
    refine i_tabIn hC (tgt := 79) dX6_takeArguments_11 c27 (show ((8 : Int32)).toInt = 8 by decide) (by decide) (by decide) rfl (by decide) ?_
    refine i_aload_n hC dX6_takeArguments_79 rfl ?_
    refine i_aload_n hC dX6_takeArguments_80 rfl ?_
    obtain ⟨r23, S23, hc23, hf⟩ := bd2_of hf
    refine i_callVi hC mv_X6_107 (c_X6_takeFirst hC.2.2.2.2.2.2.2.1 h1 hc23) (pln rfl) (lay_p202) rfl rfl rfl rfl ⟨Nat.le_of_ble_eq_true rfl, Nat.le_of_ble_eq_true rfl⟩ (Nat.le_of_ble_eq_true rfl) dX6_takeArguments_81 ?_
    refine i_if_eq hC (tgt := 99) dX6_takeArguments_84 (by decide) (fun c24 => ?_) (fun c24 => ?_)
    · replace hf := (if_pos c24).symm.trans hf
      exact Mj.to (b_X6_takeArguments_99 hC  hf) trivial
    · replace hf := (if_neg c24).symm.trans hf
      refine i_aload_n hC dX6_takeArguments_87 rfl ?_
      refine i_aload_n hC dX6_takeArguments_88 rfl ?_
      obtain ⟨r25, S25, hc25, hf⟩ := bd2_of hf
      refine i_callVi hC mv_X6_113 (c_X6_takeSecond hC.2.2.2.2.2.2.2.1 h1 hc25) (pln rfl) (lay_p202) rfl rfl rfl rfl ⟨Nat.le_of_ble_eq_true rfl, Nat.le_of_ble_eq_true rfl⟩ (Nat.le_of_ble_eq_true rfl) dX6_takeArguments_89 ?_
      refine i_if_eq hC (tgt := 99) dX6_takeArguments_92 (by decide) (fun c26 => ?_) (fun c26 => ?_)
      · replace hf := (if_pos c26).symm.trans hf
        exact Mj.to (b_X6_takeArguments_99 hC  hf) trivial
      · replace hf := (if_neg c26).symm.trans hf
        refine i_iconst hC dX6_takeArguments_95 li_1 ?_
        refine i_goto hC (tgt := 100) dX6_takeArguments_96 (by decide) ?_
        exact Mj.to (b_X6_takeArguments_100 hC  hf) trivial
  replace hf := (if_neg c27).symm.trans hf
  by_cases c33 : (Int32.ofNat ((((S 12 (3 * d1_0)) - (1 : Int32))).toNatClampNeg + 1)) = (9 : Int32)
  · replace hf := (if_pos c33).symm.trans hf
    refine i_tabIn hC (tgt := 101) dX6_takeArguments_11 c33 (show ((9 : Int32)).toInt = 9 by decide) (by decide) (by decide) rfl (by decide) ?_
    refine i_aload_n hC dX6_takeArguments_101 rfl ?_
    refine i_iconst hC dX6_takeArguments_102 li_1 ?_
    refine i_putI hC fl_X6_116 (pl_C h1) (lay_C h1) rfl (bk_l ⟨rfl, rfl, rfl, rfl⟩) (nf_int _) dX6_takeArguments_103 ?_
    refine i_aload_n hC dX6_takeArguments_106 rfl ?_
    refine i_bipush hC dX6_takeArguments_107 lb_32 ?_
    obtain ⟨r28, S28, hc28, hf⟩ := bd2_of hf
    refine i_callVi hC mv_X6_48 (c_X6_takeSign hC.2.2.2.2.2.2.2.1 hc28) (pln rfl) (lay_p202) rfl rfl rfl rfl ⟨Nat.le_of_ble_eq_true rfl, Nat.le_of_ble_eq_true rfl⟩ (Nat.le_of_ble_eq_true rfl) dX6_takeArguments_109 ?_
    refine i_if_eq hC (tgt := 123) dX6_takeArguments_112 (by decide) (fun c29 => ?_) (fun c29 => ?_)
    · replace hf := (if_pos c29).symm.trans hf
      exact Mj.to (b_X6_takeArguments_123 hC  hf) trivial
    · replace hf := (if_neg c29).symm.trans hf
      refine i_aload_n hC dX6_takeArguments_115 rfl ?_
      refine i_aload_n hC dX6_takeArguments_116 rfl ?_
      obtain ⟨r31, S31, hc31, hf⟩ := bd2_of hf
      refine i_callVi hC mv_X6_107 (c_X6_takeFirst hC.2.2.2.2.2.2.2.1 h1 hc31) (pln rfl) (lay_p202) rfl rfl rfl rfl ⟨Nat.le_of_ble_eq_true rfl, Nat.le_of_ble_eq_true rfl⟩ (Nat.le_of_ble_eq_true rfl) dX6_takeArguments_117 ?_
      refine i_if_eq hC (tgt := 127) dX6_takeArguments_120 (by decide) (fun c32 => ?_) (fun c32 => ?_)
      · replace hf := (if_pos c32).symm.trans hf
        refine i_iconst hC dX6_takeArguments_127 li_0 ?_
        exact Mj.to (b_X6_takeArguments_128 hC  hf) trivial
      · replace hf := (if_neg c32).symm.trans hf
        exact Mj.to (b_X6_takeArguments_123 hC  hf) trivial
  replace hf := (if_neg c33).symm.trans hf
  refine i_tabOut hC (x := (Int32.ofNat ((((S 12 (3 * d1_0)) - (1 : Int32))).toNatClampNeg + 1))) (tgt := 129) dX6_takeArguments_11 (by
      have z10 := lv_neT c10 (show ((4 : Int32)).toInt = 4 by decide)
      have z13 := lv_neT c13 (show ((5 : Int32)).toInt = 5 by decide)
      have z16 := lv_neT c16 (show ((6 : Int32)).toInt = 6 by decide)
      have z22 := lv_neT c22 (show ((7 : Int32)).toInt = 7 by decide)
      have z27 := lv_neT c27 (show ((8 : Int32)).toInt = 8 by decide)
      have z33 := lv_neT c33 (show ((9 : Int32)).toInt = 9 by decide)
      omega) (by decide) ?_
  refine i_aload_n hC dX6_takeArguments_129 rfl ?_
  refine i_aload_n hC dX6_takeArguments_130 rfl ?_
  obtain ⟨r34, S34, hc34, hf⟩ := bd2_of hf
  refine i_callVi hC mv_X6_107 (c_X6_takeFirst hC.2.2.2.2.2.2.2.1 h1 hc34) (pln rfl) (lay_p202) rfl rfl rfl rfl ⟨Nat.le_of_ble_eq_true rfl, Nat.le_of_ble_eq_true rfl⟩ (Nat.le_of_ble_eq_true rfl) dX6_takeArguments_131 ?_
  obtain ⟨k35, hf⟩ := ck_of hf
  obtain rfl := Option.some.inj hf
  exact i_zret hC dX6_takeArguments_134 (isb_z k35).1
theorem c_X6_takeArguments {v : EV} {l : Launch} (hst : Stb v) {S : Mem} {d1_0 : Nat} (h1 : d1_0 < 12) {r : Int32 × Mem} (hf : g_X6_takeArguments S d1_0 = some r) : Con v l yX6_takeArguments cX6_takeArguments 2 (some .boolean) 8 165 [.ref (eA v (202)), .ref (eA v (pC d1_0))] S (some (.int r.1)) r.2 := con_of (by decide) hst (Nat.le_of_ble_eq_true rfl) (fun p e s m args below meth c hC => b_X6_takeArguments_0 hC h1 hf)
def f_X6_takeCommand_21 (S : Mem)  : Option (Int32 × Mem) := some ((0 : Int32), S)
def f_X6_takeCommand_0 (S : Mem)  : Option (Int32 × Mem) := bd2 (g_X6_takeWord S) (fun r1 S1 => (if r1 = 0 then f_X6_takeCommand_21 S1 else (if (S1 11 8) < (12 : Int32) then ck (inb (S1 11 8) 12) (bd2 (g_X6_takeArguments (up (up S1 12 (3 * (((S1 11 8)).toNatClampNeg)) r1) 12 (3 * (((S1 11 8)).toNatClampNeg) + 2) (0 : Int32)) (((S1 11 8)).toNatClampNeg)) (fun r5 S5 => (if r5 = 0 then some ((0 : Int32), S5) else some ((1 : Int32), (up S5 11 8 ((S5 11 8) + (1 : Int32))))))) else f_X6_takeCommand_21 S1)))
def g_X6_takeCommand (S : Mem)  : Option (Int32 × Mem) := f_X6_takeCommand_0 S
set_option maxHeartbeats 4000000 in
set_option maxRecDepth 100000 in
theorem b_X6_takeCommand_21 {v : EV} {p : Program} {l : Launch} {e : Env} {s : State} {m : MethodId} {args : Array Value} {below : List Frame} {meth : Method} {c : Code} (hC : Cx v p l e s m args meth c RX6 cX6_takeCommand 3 (some .boolean)) {S : Mem}  {r : Int32 × Mem} (hf : f_X6_takeCommand_21 S = some r) : Mj v p l e (rmF 9 186) s m args below meth c 3 (MQ below (Qc v (some (.int r.1)) r.2) args s 0 0 (eG v)) 0 S 21 [] [] := by
  refine i_iconst hC dX6_takeCommand_21 li_0 ?_
  obtain rfl := Option.some.inj hf
  exact i_zret hC dX6_takeCommand_22 (isb_z (x := (0 : Int32)) (by decide)).1
set_option maxHeartbeats 4000000 in
set_option maxRecDepth 100000 in
theorem b_X6_takeCommand_0 {v : EV} {p : Program} {l : Launch} {e : Env} {s : State} {m : MethodId} {args : Array Value} {below : List Frame} {meth : Method} {c : Code} (hC : Cx v p l e s m args meth c RX6 cX6_takeCommand 3 (some .boolean)) {S : Mem}  {r : Int32 × Mem} (hf : f_X6_takeCommand_0 S = some r) : Mj v p l e (rmF 9 186) s m args below meth c 3 (MQ below (Qc v (some (.int r.1)) r.2) args s 0 0 (eG v)) 0 S 0 [(0, .ref (eA v (202)))] [] := by
  refine i_aload_n hC (x := (eA v (202))) dX6_takeCommand_0 (by repeat (first | rfl | refine lk_w (by first | rfl | exact isR_cat (wv_R v _) | exact isR_cat (by assumption)) (by first | decide | (dsimp only; decide)) ?_)) ?_
  obtain ⟨r1, S1, hc1, hf⟩ := bd2_of hf
  refine i_callVi hC mv_X6_52 (c_X6_takeWord hC.2.2.2.2.2.2.2.1 hc1) (pln rfl) (lay_p202) rfl rfl rfl rfl ⟨Nat.le_of_ble_eq_true rfl, Nat.le_of_ble_eq_true rfl⟩ (Nat.le_of_ble_eq_true rfl) dX6_takeCommand_1 ?_
  refine i_astoreG_n hC (wv_R v _) dX6_takeCommand_4 (by decide) ?_
  refine i_aloadG_n hC (u := wv v r1) (wv_R v _) dX6_takeCommand_5 (by repeat (first | rfl | refine lk_w (by first | rfl | exact isR_cat (wv_R v _) | exact isR_cat (by assumption)) (by first | decide | (dsimp only; decide)) ?_)) ?_
  refine i_ifnullW hC (tgt := 21) dX6_takeCommand_6 (by decide) (fun c2 => ?_) (fun c2 => ?_)
  · replace hf := (if_pos c2).symm.trans hf
    exact Mj.to (b_X6_takeCommand_21 hC  hf) trivial
  · replace hf := (if_neg c2).symm.trans hf
    refine i_aload_n hC (x := (eA v (202))) dX6_takeCommand_9 (by repeat (first | rfl | refine lk_w (by first | rfl | exact isR_cat (wv_R v _) | exact isR_cat (by assumption)) (by first | decide | (dsimp only; decide)) ?_)) ?_
    refine i_getI hC fl_X6_37 (pln rfl) (lay_p202) rfl dX6_takeCommand_10 ?_
    refine i_aload_n hC (x := (eA v (202))) dX6_takeCommand_13 (by repeat (first | rfl | refine lk_w (by first | rfl | exact isR_cat (wv_R v _) | exact isR_cat (by assumption)) (by first | decide | (dsimp only; decide)) ?_)) ?_
    refine i_getR hC fl_X6_20 (pln rfl) (lay_p202) rfl dX6_takeCommand_14 ?_
    refine i_alen hC (z := (12 : Int32)) (pln rfl) (lay_p204) (by decide) (by decide) dX6_takeCommand_17 ?_
    refine i_icmp_lt hC (tgt := 23) dX6_takeCommand_18 (by decide) (fun c3 => ?_) (fun c3 => ?_)
    · replace hf := (if_pos c3).symm.trans hf
      refine i_aload_n hC (x := (eA v (202))) dX6_takeCommand_23 (by repeat (first | rfl | refine lk_w (by first | rfl | exact isR_cat (wv_R v _) | exact isR_cat (by assumption)) (by first | decide | (dsimp only; decide)) ?_)) ?_
      refine i_getR hC fl_X6_20 (pln rfl) (lay_p202) rfl dX6_takeCommand_24 ?_
      refine i_aload_n hC (x := (eA v (202))) dX6_takeCommand_27 (by repeat (first | rfl | refine lk_w (by first | rfl | exact isR_cat (wv_R v _) | exact isR_cat (by assumption)) (by first | decide | (dsimp only; decide)) ?_)) ?_
      refine i_getI hC fl_X6_37 (pln rfl) (lay_p202) rfl dX6_takeCommand_28 ?_
      obtain ⟨k4, hf⟩ := ck_of hf
      refine i_aald hC (pln rfl) (lay_p204) (by decide) (inb_in k4) dX6_takeCommand_31 ?_
      refine i_astore_n hC dX6_takeCommand_32 (by decide) ?_
      refine i_aload_n hC (x := (eA v (pC (((S1 11 8)).toNatClampNeg)))) dX6_takeCommand_33 (by repeat (first | rfl | refine lk_w (by first | rfl | exact isR_cat (wv_R v _) | exact isR_cat (by assumption)) (by first | decide | (dsimp only; decide)) ?_)) ?_
      refine i_aloadG_n hC (u := wv v r1) (wv_R v _) dX6_takeCommand_34 (by repeat (first | rfl | refine lk_w (by first | rfl | exact isR_cat (wv_R v _) | exact isR_cat (by assumption)) (by first | decide | (dsimp only; decide)) ?_)) ?_
      refine i_putW hC fl_X6_56 (pl_C (inb_lt k4)) (lay_C (inb_lt k4)) rfl (bk_l ⟨rfl, rfl, rfl, rfl⟩) dX6_takeCommand_35 ?_
      refine i_aload_n hC (x := (eA v (pC (((S1 11 8)).toNatClampNeg)))) dX6_takeCommand_38 (by repeat (first | rfl | refine lk_w (by first | rfl | exact isR_cat (wv_R v _) | exact isR_cat (by assumption)) (by first | decide | (dsimp only; decide)) ?_)) ?_
      refine i_iconst hC dX6_takeCommand_39 li_0 ?_
      refine i_putI hC fl_X6_60 (pl_C (inb_lt k4)) (lay_C (inb_lt k4)) rfl (bk_l ⟨rfl, rfl, rfl, rfl⟩) (nf_int _) dX6_takeCommand_40 ?_
      refine i_aload_n hC (x := (eA v (202))) dX6_takeCommand_43 (by repeat (first | rfl | refine lk_w (by first | rfl | exact isR_cat (wv_R v _) | exact isR_cat (by assumption)) (by first | decide | (dsimp only; decide)) ?_)) ?_
      refine i_aload_n hC (x := (eA v (pC (((S1 11 8)).toNatClampNeg)))) dX6_takeCommand_44 (by repeat (first | rfl | refine lk_w (by first | rfl | exact isR_cat (wv_R v _) | exact isR_cat (by assumption)) (by first | decide | (dsimp only; decide)) ?_)) ?_
      obtain ⟨r5, S5, hc5, hf⟩ := bd2_of hf
      refine i_callVi hC mv_X6_63 (c_X6_takeArguments hC.2.2.2.2.2.2.2.1 (inb_lt k4) hc5) (pln rfl) (lay_p202) rfl rfl rfl rfl ⟨Nat.le_of_ble_eq_true rfl, Nat.le_of_ble_eq_true rfl⟩ (Nat.le_of_ble_eq_true rfl) dX6_takeCommand_45 ?_
      refine i_if_ne hC (tgt := 53) dX6_takeCommand_48 (by decide) (fun c6 => ?_) (fun c6 => ?_)
      · replace hf := (if_neg c6).symm.trans hf
        refine i_aload_n hC (x := (eA v (202))) dX6_takeCommand_53 (by repeat (first | rfl | refine lk_w (by first | rfl | exact isR_cat (wv_R v _) | exact isR_cat (by assumption)) (by first | decide | (dsimp only; decide)) ?_)) ?_
        refine i_dup hC dX6_takeCommand_54 rfl ?_
        refine i_getI hC fl_X6_37 (pln rfl) (lay_p202) rfl dX6_takeCommand_55 ?_
        refine i_iconst hC dX6_takeCommand_58 li_1 ?_
        refine i_iadd hC dX6_takeCommand_59 ?_
        refine i_putI hC fl_X6_37 (pln rfl) (lay_p202) rfl (bk_l ⟨rfl, rfl, rfl, rfl⟩) (nf_int _) dX6_takeCommand_60 ?_
        refine i_iconst hC dX6_takeCommand_63 li_1 ?_
        obtain rfl := Option.some.inj hf
        exact i_zret hC dX6_takeCommand_64 (isb_z (x := (1 : Int32)) (by decide)).1
      · replace hf := (if_pos c6).symm.trans hf
        refine i_iconst hC dX6_takeCommand_51 li_0 ?_
        obtain rfl := Option.some.inj hf
        exact i_zret hC dX6_takeCommand_52 (isb_z (x := (0 : Int32)) (by decide)).1
    · replace hf := (if_neg c3).symm.trans hf
      exact Mj.to (b_X6_takeCommand_21 hC  hf) trivial
theorem c_X6_takeCommand {v : EV} {l : Launch} (hst : Stb v) {S : Mem}  {r : Int32 × Mem} (hf : g_X6_takeCommand S = some r) : Con v l yX6_takeCommand cX6_takeCommand 3 (some .boolean) 9 186 [.ref (eA v (202))] S (some (.int r.1)) r.2 := con_of (by decide) hst (Nat.le_of_ble_eq_true rfl) (fun p e s m args below meth c hC => b_X6_takeCommand_0 hC  hf)
def f_X6_parse_69 (S : Mem) (x1 : Int32) : Option (Int32 × Mem) := ck (isb x1) (some (x1, S))
def f_X6_parse_62 (ih17 : (Mem × Int32 × Int32) → Option (Int32 × Mem)) (S : Mem) (x2 : Int32) (xt0 : Int32) : Option (Int32 × Mem) := ih17 (S, xt0, (x2 + (1 : Int32)))
def f_X6_parse_61 (ih17 : (Mem × Int32 × Int32) → Option (Int32 × Mem)) (S : Mem) (x2 : Int32) : Option (Int32 × Mem) := f_X6_parse_62 ih17 S x2 (0 : Int32)
def f_X6_parse_17_b (ih17 : (Mem × Int32 × Int32) → Option (Int32 × Mem)) (S : Mem) (x1 : Int32) (x2 : Int32) : Option (Int32 × Mem) := (if (12 : Int32) ≤ x2 then f_X6_parse_69 S x1 else (if x1 = 0 then f_X6_parse_69 S x1 else (if (S (13 + 2 * 0) 0) ≤ (S 11 9) then f_X6_parse_69 S x1 else bd2 (g_X6_takeSign S (59 : Int32)) (fun r6 S6 => (if r6 = 0 then f_X6_parse_61 ih17 S6 x2 else bd2 (g_X6_takeCommand S6) (fun r8 S8 => (if r8 = 0 then f_X6_parse_61 ih17 S8 x2 else f_X6_parse_62 ih17 S8 x2 (1 : Int32))))))))
def f_X6_parse_17 (S : Mem) (x1 : Int32) (x2 : Int32) : Option (Int32 × Mem) := lp (fun ih17 s9 => f_X6_parse_17_b ih17 s9.1 s9.2.1 s9.2.2) 2000 (S, x1, x2)
def f_X6_parse_0 (S : Mem)  : Option (Int32 × Mem) := bd2 (g_X6_takeCommand (up (up S 11 8 (0 : Int32)) 11 9 (0 : Int32))) (fun r1 S1 => f_X6_parse_17 S1 r1 (0 : Int32))
def g_X6_parse (S : Mem)  : Option (Int32 × Mem) := f_X6_parse_0 S
set_option maxHeartbeats 4000000 in
set_option maxRecDepth 100000 in
theorem b_X6_parse_69 {v : EV} {p : Program} {l : Launch} {e : Env} {s : State} {m : MethodId} {args : Array Value} {below : List Frame} {meth : Method} {c : Code} (hC : Cx v p l e s m args meth c RX6 cX6_parse 3 (some .boolean)) {S : Mem} {x1 : Int32}  {r : Int32 × Mem} (hf : f_X6_parse_69 S x1 = some r) : Mj v p l e (rmF 10 208) s m args below meth c 3 (MQ below (Qc v (some (.int r.1)) r.2) args s 0 0 (eG v)) 0 S 69 [(1, .int x1)] [] := by
  refine i_iload_n hC dX6_parse_69 rfl ?_
  obtain ⟨k3, hf⟩ := ck_of hf
  obtain rfl := Option.some.inj hf
  exact i_zret hC dX6_parse_70 (isb_z k3).1
set_option maxHeartbeats 4000000 in
set_option maxRecDepth 100000 in
theorem b_X6_parse_62 {v : EV} {p : Program} {l : Launch} {e : Env} {s : State} {m : MethodId} {args : Array Value} {below : List Frame} {meth : Method} {c : Code} (hC : Cx v p l e s m args meth c RX6 cX6_parse 3 (some .boolean)) {S : Mem} {x2 : Int32} {xt0 : Int32}  {r : Int32 × Mem} {ih17 : (Mem × Int32 × Int32) → Option (Int32 × Mem)} (hih17 : ∀ s9 : (Mem × Int32 × Int32), ih17 s9 = some r → Mj v p l e (rmF 10 208) s m args below meth c 3 (MQ below (Qc v (some (.int r.1)) r.2) args s 0 0 (eG v)) 0 s9.1 17 [(0, .ref (eA v (202))), (1, .int (s9.2.1)), (2, .int (s9.2.2))] []) (hf : f_X6_parse_62 ih17 S x2 xt0 = some r) : Mj v p l e (rmF 10 208) s m args below meth c 3 (MQ below (Qc v (some (.int r.1)) r.2) args s 0 0 (eG v)) 0 S 62 [(0, .ref (eA v (202))), (2, .int x2)] [.int xt0] := by
  refine i_istore_n hC dX6_parse_62 (by decide) ?_
  refine i_iinc hC dX6_parse_63 rfl li_1 (by decide) ?_
  refine i_goto hC (tgt := 17) dX6_parse_66 (by decide) ?_
  exact Mj.to (hih17 _ hf) ⟨rfl, rfl, rfl, trivial⟩
set_option maxHeartbeats 4000000 in
set_option maxRecDepth 100000 in
theorem b_X6_parse_61 {v : EV} {p : Program} {l : Launch} {e : Env} {s : State} {m : MethodId} {args : Array Value} {below : List Frame} {meth : Method} {c : Code} (hC : Cx v p l e s m args meth c RX6 cX6_parse 3 (some .boolean)) {S : Mem} {x2 : Int32}  {r : Int32 × Mem} {ih17 : (Mem × Int32 × Int32) → Option (Int32 × Mem)} (hih17 : ∀ s9 : (Mem × Int32 × Int32), ih17 s9 = some r → Mj v p l e (rmF 10 208) s m args below meth c 3 (MQ below (Qc v (some (.int r.1)) r.2) args s 0 0 (eG v)) 0 s9.1 17 [(0, .ref (eA v (202))), (1, .int (s9.2.1)), (2, .int (s9.2.2))] []) (hf : f_X6_parse_61 ih17 S x2 = some r) : Mj v p l e (rmF 10 208) s m args below meth c 3 (MQ below (Qc v (some (.int r.1)) r.2) args s 0 0 (eG v)) 0 S 61 [(0, .ref (eA v (202))), (2, .int x2)] [] := by
  refine i_iconst hC dX6_parse_61 li_0 ?_
  exact Mj.to (b_X6_parse_62 hC hih17 hf) ⟨rfl, rfl, trivial⟩
set_option maxHeartbeats 4000000 in
set_option maxRecDepth 100000 in
theorem b_X6_parse_17_b {v : EV} {p : Program} {l : Launch} {e : Env} {s : State} {m : MethodId} {args : Array Value} {below : List Frame} {meth : Method} {c : Code} (hC : Cx v p l e s m args meth c RX6 cX6_parse 3 (some .boolean)) {S : Mem} {x1 : Int32} {x2 : Int32}  {r : Int32 × Mem} {ih17 : (Mem × Int32 × Int32) → Option (Int32 × Mem)} (hih17 : ∀ s9 : (Mem × Int32 × Int32), ih17 s9 = some r → Mj v p l e (rmF 10 208) s m args below meth c 3 (MQ below (Qc v (some (.int r.1)) r.2) args s 0 0 (eG v)) 0 s9.1 17 [(0, .ref (eA v (202))), (1, .int (s9.2.1)), (2, .int (s9.2.2))] []) (hf : f_X6_parse_17_b ih17 S x1 x2 = some r) : Mj v p l e (rmF 10 208) s m args below meth c 3 (MQ below (Qc v (some (.int r.1)) r.2) args s 0 0 (eG v)) 0 S 17 [(0, .ref (eA v (202))), (1, .int x1), (2, .int x2)] [] := by
  refine i_iload_n hC dX6_parse_17 rfl ?_
  refine i_bipush hC dX6_parse_18 lb_12 ?_
  refine i_icmp_ge hC (tgt := 69) dX6_parse_20 (by decide) (fun c2 => ?_) (fun c2 => ?_)
  · replace hf := (if_pos c2).symm.trans hf
    exact Mj.to (b_X6_parse_69 hC  hf) ⟨rfl, trivial⟩
  · replace hf := (if_neg c2).symm.trans hf
    refine i_iload_n hC dX6_parse_23 rfl ?_
    refine i_if_eq hC (tgt := 69) dX6_parse_24 (by decide) (fun c4 => ?_) (fun c4 => ?_)
    · replace hf := (if_pos c4).symm.trans hf
      exact Mj.to (b_X6_parse_69 hC  hf) ⟨rfl, trivial⟩
    · replace hf := (if_neg c4).symm.trans hf
      refine i_aload_n hC dX6_parse_27 rfl ?_
      refine i_getI hC fl_X6_41 (pln rfl) (lay_p202) rfl dX6_parse_28 ?_
      refine i_aload_n hC dX6_parse_31 rfl ?_
      refine i_getR (x := pB 0) hC fl_X6_12 (pln rfl) (lay_p202) rfl dX6_parse_32 ?_
      refine i_sbLen hC (by decide) mv_X6_25 ⟨Nat.le_of_ble_eq_true rfl, Nat.le_of_ble_eq_true rfl⟩ (Nat.le_of_ble_eq_true rfl) dX6_parse_35 ?_
      refine i_icmp_ge hC (tgt := 69) dX6_parse_38 (by decide) (fun c5 => ?_) (fun c5 => ?_)
      · replace hf := (if_pos c5).symm.trans hf
        exact Mj.to (b_X6_parse_69 hC  hf) ⟨rfl, trivial⟩
      · replace hf := (if_neg c5).symm.trans hf
        refine i_aload_n hC dX6_parse_41 rfl ?_
        refine i_bipush hC dX6_parse_42 lb_59 ?_
        obtain ⟨r6, S6, hc6, hf⟩ := bd2_of hf
        refine i_callVi hC mv_X6_48 (c_X6_takeSign hC.2.2.2.2.2.2.2.1 hc6) (pln rfl) (lay_p202) rfl rfl rfl rfl ⟨Nat.le_of_ble_eq_true rfl, Nat.le_of_ble_eq_true rfl⟩ (Nat.le_of_ble_eq_true rfl) dX6_parse_44 ?_
        refine i_if_eq hC (tgt := 61) dX6_parse_47 (by decide) (fun c7 => ?_) (fun c7 => ?_)
        · replace hf := (if_pos c7).symm.trans hf
          exact Mj.to (b_X6_parse_61 hC hih17 hf) ⟨rfl, rfl, trivial⟩
        · replace hf := (if_neg c7).symm.trans hf
          refine i_aload_n hC dX6_parse_50 rfl ?_
          obtain ⟨r8, S8, hc8, hf⟩ := bd2_of hf
          refine i_callVi hC mv_X6_44 (c_X6_takeCommand hC.2.2.2.2.2.2.2.1 hc8) (pln rfl) (lay_p202) rfl rfl rfl rfl ⟨Nat.le_of_ble_eq_true rfl, Nat.le_of_ble_eq_true rfl⟩ (Nat.le_of_ble_eq_true rfl) dX6_parse_51 ?_
          refine i_if_eq hC (tgt := 61) dX6_parse_54 (by decide) (fun c9 => ?_) (fun c9 => ?_)
          · replace hf := (if_pos c9).symm.trans hf
            exact Mj.to (b_X6_parse_61 hC hih17 hf) ⟨rfl, rfl, trivial⟩
          · replace hf := (if_neg c9).symm.trans hf
            refine i_iconst hC dX6_parse_57 li_1 ?_
            refine i_goto hC (tgt := 62) dX6_parse_58 (by decide) ?_
            exact Mj.to (b_X6_parse_62 hC hih17 hf) ⟨rfl, rfl, trivial⟩
theorem b_X6_parse_17 {v : EV} {p : Program} {l : Launch} {e : Env} {s : State} {m : MethodId} {args : Array Value} {below : List Frame} {meth : Method} {c : Code} (hC : Cx v p l e s m args meth c RX6 cX6_parse 3 (some .boolean)) {S : Mem} {x1 : Int32} {x2 : Int32}  {r : Int32 × Mem} (hf : f_X6_parse_17 S x1 x2 = some r) : Mj v p l e (rmF 10 208) s m args below meth c 3 (MQ below (Qc v (some (.int r.1)) r.2) args s 0 0 (eG v)) 0 S 17 [(0, .ref (eA v (202))), (1, .int x1), (2, .int x2)] [] :=
  lp_ind (P := fun s9 : (Mem × Int32 × Int32) => Mj v p l e (rmF 10 208) s m args below meth c 3 (MQ below (Qc v (some (.int r.1)) r.2) args s 0 0 (eG v)) 0 s9.1 17 [(0, .ref (eA v (202))), (1, .int (s9.2.1)), (2, .int (s9.2.2))] []) (fun ih s9 hih hf => b_X6_parse_17_b hC   hih hf) _ _ hf
set_option maxHeartbeats 4000000 in
set_option maxRecDepth 100000 in
theorem b_X6_parse_0 {v : EV} {p : Program} {l : Launch} {e : Env} {s : State} {m : MethodId} {args : Array Value} {below : List Frame} {meth : Method} {c : Code} (hC : Cx v p l e s m args meth c RX6 cX6_parse 3 (some .boolean)) {S : Mem}  {r : Int32 × Mem} (hf : f_X6_parse_0 S = some r) : Mj v p l e (rmF 10 208) s m args below meth c 3 (MQ below (Qc v (some (.int r.1)) r.2) args s 0 0 (eG v)) 0 S 0 [(0, .ref (eA v (202)))] [] := by
  refine i_aload_n hC dX6_parse_0 rfl ?_
  refine i_iconst hC dX6_parse_1 li_0 ?_
  refine i_putI hC fl_X6_37 (pln rfl) (lay_p202) rfl (bk_l ⟨rfl, rfl, rfl, rfl⟩) (nf_int _) dX6_parse_2 ?_
  refine i_aload_n hC dX6_parse_5 rfl ?_
  refine i_iconst hC dX6_parse_6 li_0 ?_
  refine i_putI hC fl_X6_41 (pln rfl) (lay_p202) rfl (bk_l ⟨rfl, rfl, rfl, rfl⟩) (nf_int _) dX6_parse_7 ?_
  refine i_aload_n hC dX6_parse_10 rfl ?_
  obtain ⟨r1, S1, hc1, hf⟩ := bd2_of hf
  refine i_callVi hC mv_X6_44 (c_X6_takeCommand hC.2.2.2.2.2.2.2.1 hc1) (pln rfl) (lay_p202) rfl rfl rfl rfl ⟨Nat.le_of_ble_eq_true rfl, Nat.le_of_ble_eq_true rfl⟩ (Nat.le_of_ble_eq_true rfl) dX6_parse_11 ?_
  refine i_istore_n hC dX6_parse_14 (by decide) ?_
  refine i_iconst hC dX6_parse_15 li_0 ?_
  refine i_istore_n hC dX6_parse_16 (by decide) ?_
  exact Mj.to (b_X6_parse_17 hC  hf) ⟨rfl, rfl, rfl, trivial⟩
theorem c_X6_parse {v : EV} {l : Launch} (hst : Stb v) {S : Mem}  {r : Int32 × Mem} (hf : g_X6_parse S = some r) : Con v l yX6_parse cX6_parse 3 (some .boolean) 10 208 [.ref (eA v (202))] S (some (.int r.1)) r.2 := con_of (by decide) hst (Nat.le_of_ble_eq_true rfl) (fun p e s m args below meth c hC => b_X6_parse_0 hC  hf)
def f_X8_read_46_b (ih46 : (Mem × Int32) → Option (Int32 × Mem)) (S : Mem) (x2 : Int32) : Option (Int32 × Mem) := (if (S 11 8) ≤ x2 then bd1 (g_X3_remember S 1) (fun S6 => some ((S6 11 8), S6)) else ck (inb x2 12) (bd2 (g_X8_carryOut S (S 12 (3 * (x2).toNatClampNeg)) (S 12 (3 * (x2).toNatClampNeg + 1)) (S 12 (3 * (x2).toNatClampNeg + 2))) (fun r8 S8 => (if 0 ≤ r8 then ih46 (S8, (x2 + (1 : Int32))) else bd1 (g_X4_copyFrom S8 0 1) (fun S10 => bd2 (g_X8_refuseCommand S10 x2 r8) (fun r11 S11 => some (r11, S11)))))))
def f_X8_read_46 (S : Mem) (x2 : Int32) : Option (Int32 × Mem) := lp (fun ih46 s9 => f_X8_read_46_b ih46 s9.1 s9.2) 2000 (S, x2)
def f_X8_read_0 (S : Mem)  : Option (Int32 × Mem) := bd2 (g_X6_parse S) (fun r1 S1 => bd1 (g_X6_empty S1) (fun S2 => (if r1 = 0 then some ((-2 : Int32), (up S2 11 1 (S2 11 9))) else bd1 (g_X4_copyFrom S2 1 0) (fun S4 => f_X8_read_46 S4 (0 : Int32)))))
def g_X8_read (S : Mem)  : Option (Int32 × Mem) := f_X8_read_0 S
set_option maxHeartbeats 4000000 in
set_option maxRecDepth 100000 in
theorem b_X8_read_46_b {v : EV} {p : Program} {l : Launch} {e : Env} {s : State} {m : MethodId} {args : Array Value} {below : List Frame} {meth : Method} {c : Code} (hC : Cx v p l e s m args meth c RX8 cX8_read 5 (some .int)) {S : Mem} {x2 : Int32}  {r : Int32 × Mem} {ih46 : (Mem × Int32) → Option (Int32 × Mem)} (hih46 : ∀ s9 : (Mem × Int32), ih46 s9 = some r → Mj v p l e (rmF 11 230) s m args below meth c 5 (MQ below (Qc v (some (.int r.1)) r.2) args s 0 0 (eG v)) 0 s9.1 46 [(0, .ref (eA v (198))), (2, .int (s9.2))] []) (hf : f_X8_read_46_b ih46 S x2 = some r) : Mj v p l e (rmF 11 230) s m args below meth c 5 (MQ below (Qc v (some (.int r.1)) r.2) args s 0 0 (eG v)) 0 S 46 [(0, .ref (eA v (198))), (2, .int x2)] [] := by
  refine i_iload_n hC dX8_read_46 rfl ?_
  refine i_aload_n hC dX8_read_47 rfl ?_
  refine i_getR hC fl_X8_39 (pln rfl) (lay_p198) rfl dX8_read_48 ?_
  refine i_getI hC fl_X8_117 (pln rfl) (lay_p202) rfl dX8_read_51 ?_
  refine i_icmp_ge hC (tgt := 115) dX8_read_54 (by decide) (fun c5 => ?_) (fun c5 => ?_)
  · replace hf := (if_pos c5).symm.trans hf
    refine i_aload_n hC dX8_read_115 rfl ?_
    refine i_getR hC fl_X8_25 (pln rfl) (lay_p198) rfl dX8_read_116 ?_
    refine i_aload_n hC dX8_read_119 rfl ?_
    refine i_getR (x := pR 1) hC fl_X8_16 (pln rfl) (lay_p198) rfl dX8_read_120 ?_
    obtain ⟨S6, hc6, hf⟩ := bd1_of hf
    refine i_callVv hC mv_X8_140 (c_X3_remember hC.2.2.2.2.2.2.2.1 (by decide) hc6) (pln rfl) (lay_p199) rfl rfl rfl rfl ⟨Nat.le_of_ble_eq_true rfl, Nat.le_of_ble_eq_true rfl⟩ (Nat.le_of_ble_eq_true rfl) dX8_read_123 ?_
    refine i_aload_n hC dX8_read_126 rfl ?_
    refine i_getR hC fl_X8_39 (pln rfl) (lay_p198) rfl dX8_read_127 ?_
    refine i_getI hC fl_X8_117 (pln rfl) (lay_p202) rfl dX8_read_130 ?_
    obtain rfl := Option.some.inj hf
    exact i_iret hC dX8_read_133
  · replace hf := (if_neg c5).symm.trans hf
    refine i_aload_n hC dX8_read_57 rfl ?_
    refine i_getR hC fl_X8_39 (pln rfl) (lay_p198) rfl dX8_read_58 ?_
    refine i_getR hC fl_X8_118 (pln rfl) (lay_p202) rfl dX8_read_61 ?_
    refine i_iload_n hC dX8_read_64 rfl ?_
    obtain ⟨k7, hf⟩ := ck_of hf
    refine i_aald hC (pln rfl) (lay_p204) (by decide) (inb_in k7) dX8_read_65 ?_
    refine i_astore_n hC dX8_read_66 (by decide) ?_
    refine i_aload_n hC dX8_read_67 rfl ?_
    refine i_aload_n hC dX8_read_68 rfl ?_
    refine i_getW hC fl_X8_122 (pl_C (inb_lt k7)) (lay_C (inb_lt k7)) rfl dX8_read_69 ?_
    refine i_aload_n hC dX8_read_72 rfl ?_
    refine i_getI hC fl_X8_127 (pl_C (inb_lt k7)) (lay_C (inb_lt k7)) rfl dX8_read_73 ?_
    refine i_aload_n hC dX8_read_76 rfl ?_
    refine i_getI hC fl_X8_130 (pl_C (inb_lt k7)) (lay_C (inb_lt k7)) rfl dX8_read_77 ?_
    obtain ⟨r8, S8, hc8, hf⟩ := bd2_of hf
    refine i_callVi hC mv_X8_133 (c_X8_carryOut hC.2.2.2.2.2.2.2.1 hc8) (pln rfl) (lay_p198) rfl rfl rfl rfl ⟨Nat.le_of_ble_eq_true rfl, Nat.le_of_ble_eq_true rfl⟩ (Nat.le_of_ble_eq_true rfl) dX8_read_80 ?_
    refine i_istore hC dX8_read_83 (by decide) ?_
    refine i_iload hC dX8_read_85 rfl ?_
    refine i_if_ge hC (tgt := 109) dX8_read_87 (by decide) (fun c9 => ?_) (fun c9 => ?_)
    · replace hf := (if_pos c9).symm.trans hf
      refine i_iinc hC dX8_read_109 rfl li_1 (by decide) ?_
      refine i_goto hC (tgt := 46) dX8_read_112 (by decide) ?_
      exact Mj.to (hih46 _ hf) ⟨rfl, rfl, trivial⟩
    · replace hf := (if_neg c9).symm.trans hf
      refine i_aload_n hC dX8_read_90 rfl ?_
      refine i_getR (x := pR 0) hC fl_X8_12 (pln rfl) (lay_p198) rfl dX8_read_91 ?_
      refine i_aload_n hC dX8_read_94 rfl ?_
      refine i_getR (x := pR 1) hC fl_X8_16 (pln rfl) (lay_p198) rfl dX8_read_95 ?_
      obtain ⟨S10, hc10, hf⟩ := bd1_of hf
      refine i_callVv hC mv_X8_113 (c_X4_copyFrom hC.2.2.2.2.2.2.2.1 (by decide) (by decide) hc10) (pl_R (by decide)) (lay_R (by decide)) rfl rfl rfl rfl ⟨Nat.le_of_ble_eq_true rfl, Nat.le_of_ble_eq_true rfl⟩ (Nat.le_of_ble_eq_true rfl) dX8_read_98 ?_
      refine i_aload_n hC dX8_read_101 rfl ?_
      refine i_iload_n hC dX8_read_102 rfl ?_
      refine i_iload hC dX8_read_103 rfl ?_
      obtain ⟨r11, S11, hc11, hf⟩ := bd2_of hf
      refine i_callVi hC mv_X8_136 (c_X8_refuseCommand hC.2.2.2.2.2.2.2.1 hc11) (pln rfl) (lay_p198) rfl rfl rfl rfl ⟨Nat.le_of_ble_eq_true rfl, Nat.le_of_ble_eq_true rfl⟩ (Nat.le_of_ble_eq_true rfl) dX8_read_105 ?_
      obtain rfl := Option.some.inj hf
      exact i_iret hC dX8_read_108
theorem b_X8_read_46 {v : EV} {p : Program} {l : Launch} {e : Env} {s : State} {m : MethodId} {args : Array Value} {below : List Frame} {meth : Method} {c : Code} (hC : Cx v p l e s m args meth c RX8 cX8_read 5 (some .int)) {S : Mem} {x2 : Int32}  {r : Int32 × Mem} (hf : f_X8_read_46 S x2 = some r) : Mj v p l e (rmF 11 230) s m args below meth c 5 (MQ below (Qc v (some (.int r.1)) r.2) args s 0 0 (eG v)) 0 S 46 [(0, .ref (eA v (198))), (2, .int x2)] [] :=
  lp_ind (P := fun s9 : (Mem × Int32) => Mj v p l e (rmF 11 230) s m args below meth c 5 (MQ below (Qc v (some (.int r.1)) r.2) args s 0 0 (eG v)) 0 s9.1 46 [(0, .ref (eA v (198))), (2, .int (s9.2))] []) (fun ih s9 hih hf => b_X8_read_46_b hC   hih hf) _ _ hf
set_option maxHeartbeats 4000000 in
set_option maxRecDepth 100000 in
theorem b_X8_read_0 {v : EV} {p : Program} {l : Launch} {e : Env} {s : State} {m : MethodId} {args : Array Value} {below : List Frame} {meth : Method} {c : Code} (hC : Cx v p l e s m args meth c RX8 cX8_read 5 (some .int)) {S : Mem}  {r : Int32 × Mem} (hf : f_X8_read_0 S = some r) : Mj v p l e (rmF 11 230) s m args below meth c 5 (MQ below (Qc v (some (.int r.1)) r.2) args s 0 0 (eG v)) 0 S 0 [(0, .ref (eA v (198)))] [] := by
  refine i_aload_n hC dX8_read_0 rfl ?_
  refine i_getR hC fl_X8_39 (pln rfl) (lay_p198) rfl dX8_read_1 ?_
  obtain ⟨r1, S1, hc1, hf⟩ := bd2_of hf
  refine i_callVi hC mv_X8_105 (c_X6_parse hC.2.2.2.2.2.2.2.1 hc1) (pln rfl) (lay_p202) rfl rfl rfl rfl ⟨Nat.le_of_ble_eq_true rfl, Nat.le_of_ble_eq_true rfl⟩ (Nat.le_of_ble_eq_true rfl) dX8_read_4 ?_
  refine i_istore_n hC dX8_read_7 (by decide) ?_
  refine i_aload_n hC dX8_read_8 rfl ?_
  refine i_getR hC fl_X8_39 (pln rfl) (lay_p198) rfl dX8_read_9 ?_
  obtain ⟨S2, hc2, hf⟩ := bd1_of hf
  refine i_callVv hC mv_X8_109 (c_X6_empty hC.2.2.2.2.2.2.2.1 hc2) (pln rfl) (lay_p202) rfl rfl rfl rfl ⟨Nat.le_of_ble_eq_true rfl, Nat.le_of_ble_eq_true rfl⟩ (Nat.le_of_ble_eq_true rfl) dX8_read_12 ?_
  refine i_iload_n hC dX8_read_15 rfl ?_
  refine i_if_ne hC (tgt := 33) dX8_read_16 (by decide) (fun c3 => ?_) (fun c3 => ?_)
  · replace hf := (if_neg c3).symm.trans hf
    refine i_aload_n hC dX8_read_33 rfl ?_
    refine i_getR (x := pR 1) hC fl_X8_16 (pln rfl) (lay_p198) rfl dX8_read_34 ?_
    refine i_aload_n hC dX8_read_37 rfl ?_
    refine i_getR (x := pR 0) hC fl_X8_12 (pln rfl) (lay_p198) rfl dX8_read_38 ?_
    obtain ⟨S4, hc4, hf⟩ := bd1_of hf
    refine i_callVv hC mv_X8_113 (c_X4_copyFrom hC.2.2.2.2.2.2.2.1 (by decide) (by decide) hc4) (pl_R (by decide)) (lay_R (by decide)) rfl rfl rfl rfl ⟨Nat.le_of_ble_eq_true rfl, Nat.le_of_ble_eq_true rfl⟩ (Nat.le_of_ble_eq_true rfl) dX8_read_41 ?_
    refine i_iconst hC dX8_read_44 li_0 ?_
    refine i_istore_n hC dX8_read_45 (by decide) ?_
    exact Mj.to (b_X8_read_46 hC  hf) ⟨rfl, rfl, trivial⟩
  · replace hf := (if_pos c3).symm.trans hf
    refine i_aload_n hC dX8_read_19 rfl ?_
    refine i_aload_n hC dX8_read_20 rfl ?_
    refine i_getR hC fl_X8_39 (pln rfl) (lay_p198) rfl dX8_read_21 ?_
    refine i_getI hC fl_X8_110 (pln rfl) (lay_p202) rfl dX8_read_24 ?_
    refine i_putI hC fl_X8_50 (pln rfl) (lay_p198) rfl (bk_l ⟨rfl, rfl, rfl, rfl⟩) (nf_int _) dX8_read_27 ?_
    refine i_bipush hC dX8_read_30 lb_m2 ?_
    obtain rfl := Option.some.inj hf
    exact i_iret hC dX8_read_32
theorem c_X8_read {v : EV} {l : Launch} (hst : Stb v) {S : Mem}  {r : Int32 × Mem} (hf : g_X8_read S = some r) : Con v l yX8_read cX8_read 5 (some .int) 11 230 [.ref (eA v (198))] S (some (.int r.1)) r.2 := con_of (by decide) hst (Nat.le_of_ble_eq_true rfl) (fun p e s m args below meth c hC => b_X8_read_0 hC  hf)
