def f_X9_isNoLeader_42 (S : Mem) (xt0 : Int32) : Option (Int32 × Mem) := ck (isb xt0) (some (xt0, S))
def f_X9_isNoLeader_37 (S : Mem)  : Option (Int32 × Mem) := f_X9_isNoLeader_42 S (1 : Int32)
def f_X9_isNoLeader_24 (S : Mem) (x1 : Int32) (xt0 : Int32) : Option (Int32 × Mem) := bd1 (g_X9_of S x1 (1 : Int32)) (fun r6 => bd2 (g_X9_isRefused S xt0 (4 : Int32) r6) (fun r7 S7 => (if r7 = 0 then f_X9_isNoLeader_42 S7 (0 : Int32) else f_X9_isNoLeader_37 S7)))
def f_X9_isNoLeader_0 (S : Mem) (x1 : Int32) : Option (Int32 × Mem) := bd2 (g_X9_isWashed S x1) (fun r1 S1 => (if r1 = 0 then bd1 (g_X9_of S1 x1 (0 : Int32)) (fun r4 => (if r4 = (2 : Int32) then f_X9_isNoLeader_24 S1 x1 (0 : Int32) else f_X9_isNoLeader_24 S1 x1 (1 : Int32))) else f_X9_isNoLeader_37 S1))
def g_X9_isNoLeader (S : Mem) (x1 : Int32) : Option (Int32 × Mem) := f_X9_isNoLeader_0 S x1
set_option maxHeartbeats 4000000 in
set_option maxRecDepth 100000 in
theorem b_X9_isNoLeader_42 {v : EV} {p : Program} {l : Launch} {e : Env} {s : State} {m : MethodId} {args : Array Value} {below : List Frame} {meth : Method} {c : Code} (hC : Cx v p l e s m args meth c RX9 cX9_isNoLeader 2 (some .boolean)) {S : Mem} {xt0 : Int32}  {r : Int32 × Mem} (hf : f_X9_isNoLeader_42 S xt0 = some r) : Mj v p l e (rmF 5 97) s m args below meth c 2 (MQ below (Qc v (some (.int r.1)) r.2) args s 0 0 (eG v)) S 42 [] [.int xt0] := by
  obtain ⟨k3, hf⟩ := ck_of hf
  obtain rfl := Option.some.inj hf
  exact i_zret hC dX9_isNoLeader_42 (isb_z k3).1
set_option maxHeartbeats 4000000 in
set_option maxRecDepth 100000 in
theorem b_X9_isNoLeader_37 {v : EV} {p : Program} {l : Launch} {e : Env} {s : State} {m : MethodId} {args : Array Value} {below : List Frame} {meth : Method} {c : Code} (hC : Cx v p l e s m args meth c RX9 cX9_isNoLeader 2 (some .boolean)) {S : Mem}  {r : Int32 × Mem} (hf : f_X9_isNoLeader_37 S = some r) : Mj v p l e (rmF 5 97) s m args below meth c 2 (MQ below (Qc v (some (.int r.1)) r.2) args s 0 0 (eG v)) S 37 [] [] := by
  refine i_iconst hC dX9_isNoLeader_37 li_1 ?_
  refine i_goto hC (tgt := 42) dX9_isNoLeader_38 (by decide) ?_
  exact Mj.to (b_X9_isNoLeader_42 hC  hf) trivial
set_option maxHeartbeats 4000000 in
set_option maxRecDepth 100000 in
theorem b_X9_isNoLeader_24 {v : EV} {p : Program} {l : Launch} {e : Env} {s : State} {m : MethodId} {args : Array Value} {below : List Frame} {meth : Method} {c : Code} (hC : Cx v p l e s m args meth c RX9 cX9_isNoLeader 2 (some .boolean)) {S : Mem} {x1 : Int32} {xt0 : Int32}  {r : Int32 × Mem} (hf : f_X9_isNoLeader_24 S x1 xt0 = some r) : Mj v p l e (rmF 5 97) s m args below meth c 2 (MQ below (Qc v (some (.int r.1)) r.2) args s 0 0 (eG v)) S 24 [(0, .ref (eA v (218))), (1, .int x1)] [.int xt0, .ref (eA v (218))] := by
  refine i_iconst hC dX9_isNoLeader_24 li_4 ?_
  refine i_aload_n hC dX9_isNoLeader_25 rfl ?_
  refine i_iload_n hC dX9_isNoLeader_26 rfl ?_
  refine i_iconst hC dX9_isNoLeader_27 li_1 ?_
  obtain ⟨r6, hc6, hf⟩ := bd1_of hf
  refine i_callVi hC mv_X9_69 (c_X9_of hC.2.2.2.2.2.2.2.1 hc6) (pln rfl) (lay_p218) rfl rfl rfl ⟨Nat.le_of_ble_eq_true rfl, Nat.le_of_ble_eq_true rfl⟩ (Nat.le_of_ble_eq_true rfl) dX9_isNoLeader_28 ?_
  obtain ⟨r7, S7, hc7, hf⟩ := bd2_of hf
  refine i_callVi hC mv_X9_88 (c_X9_isRefused hC.2.2.2.2.2.2.2.1 hc7) (pln rfl) (lay_p218) rfl rfl rfl ⟨Nat.le_of_ble_eq_true rfl, Nat.le_of_ble_eq_true rfl⟩ (Nat.le_of_ble_eq_true rfl) dX9_isNoLeader_31 ?_
  refine i_if_eq hC (tgt := 41) dX9_isNoLeader_34 (by decide) (fun c8 => ?_) (fun c8 => ?_)
  · replace hf := (if_pos c8).symm.trans hf
    refine i_iconst hC dX9_isNoLeader_41 li_0 ?_
    exact Mj.to (b_X9_isNoLeader_42 hC  hf) trivial
  · replace hf := (if_neg c8).symm.trans hf
    exact Mj.to (b_X9_isNoLeader_37 hC  hf) trivial
set_option maxHeartbeats 4000000 in
set_option maxRecDepth 100000 in
theorem b_X9_isNoLeader_0 {v : EV} {p : Program} {l : Launch} {e : Env} {s : State} {m : MethodId} {args : Array Value} {below : List Frame} {meth : Method} {c : Code} (hC : Cx v p l e s m args meth c RX9 cX9_isNoLeader 2 (some .boolean)) {S : Mem} {x1 : Int32}  {r : Int32 × Mem} (hf : f_X9_isNoLeader_0 S x1 = some r) : Mj v p l e (rmF 5 97) s m args below meth c 2 (MQ below (Qc v (some (.int r.1)) r.2) args s 0 0 (eG v)) S 0 [(0, .ref (eA v (218))), (1, .int x1)] [] := by
  refine i_aload_n hC dX9_isNoLeader_0 rfl ?_
  refine i_iload_n hC dX9_isNoLeader_1 rfl ?_
  obtain ⟨r1, S1, hc1, hf⟩ := bd2_of hf
  refine i_callVi hC mv_X9_122 (c_X9_isWashed hC.2.2.2.2.2.2.2.1 hc1) (pln rfl) (lay_p218) rfl rfl rfl ⟨Nat.le_of_ble_eq_true rfl, Nat.le_of_ble_eq_true rfl⟩ (Nat.le_of_ble_eq_true rfl) dX9_isNoLeader_2 ?_
  refine i_if_ne hC (tgt := 37) dX9_isNoLeader_5 (by decide) (fun c2 => ?_) (fun c2 => ?_)
  · replace hf := (if_neg c2).symm.trans hf
    exact Mj.to (b_X9_isNoLeader_37 hC  hf) trivial
  · replace hf := (if_pos c2).symm.trans hf
    refine i_aload_n hC dX9_isNoLeader_8 rfl ?_
    refine i_aload_n hC dX9_isNoLeader_9 rfl ?_
    refine i_iload_n hC dX9_isNoLeader_10 rfl ?_
    refine i_iconst hC dX9_isNoLeader_11 li_0 ?_
    obtain ⟨r4, hc4, hf⟩ := bd1_of hf
    refine i_callVi hC mv_X9_69 (c_X9_of hC.2.2.2.2.2.2.2.1 hc4) (pln rfl) (lay_p218) rfl rfl rfl ⟨Nat.le_of_ble_eq_true rfl, Nat.le_of_ble_eq_true rfl⟩ (Nat.le_of_ble_eq_true rfl) dX9_isNoLeader_12 ?_
    refine i_iconst hC dX9_isNoLeader_15 li_2 ?_
    refine i_icmp_eq hC (tgt := 23) dX9_isNoLeader_16 (by decide) (fun c5 => ?_) (fun c5 => ?_)
    · replace hf := (if_pos c5).symm.trans hf
      refine i_iconst hC dX9_isNoLeader_23 li_0 ?_
      exact Mj.to (b_X9_isNoLeader_24 hC  hf) ⟨rfl, rfl, trivial⟩
    · replace hf := (if_neg c5).symm.trans hf
      refine i_iconst hC dX9_isNoLeader_19 li_1 ?_
      refine i_goto hC (tgt := 24) dX9_isNoLeader_20 (by decide) ?_
      exact Mj.to (b_X9_isNoLeader_24 hC  hf) ⟨rfl, rfl, trivial⟩
theorem c_X9_isNoLeader {v : EV} {l : Launch} (hst : Stb v) {S : Mem} {x1 : Int32}  {r : Int32 × Mem} (hf : g_X9_isNoLeader S x1 = some r) : Con v l yX9_isNoLeader cX9_isNoLeader 2 (some .boolean) 5 97 [.ref (eA v (218)), .int x1] S (some (.int r.1)) r.2 := con_of (by decide) hst (Nat.le_of_ble_eq_true rfl) (fun p e s m args below meth c hC => b_X9_isNoLeader_0 hC  hf)
def f_X9_sendsNow_110 (S : Mem) (x2 : Int32) : Option (Int32 × Mem) := some (x2, S)
def f_X9_sendsNow_74 (ih15 : (Mem × Int32 × Int32) → Option (Int32 × Mem)) (S : Mem) (x1 : Int32) (x2 : Int32) (x3 : Int32) : Option (Int32 × Mem) := ih15 (S, x2, (x3 + (1 : Int32)))
def f_X9_sendsNow_15_b (ih15 : (Mem × Int32 × Int32) → Option (Int32 × Mem)) (S : Mem) (x1 : Int32) (x2 : Int32) (x3 : Int32) : Option (Int32 × Mem) := (if (S 20 1) ≤ x3 then bd1 (g_X9_isMajority S x2) (fun r2 => (if r2 = 0 then f_X9_sendsNow_110 S x2 else bd1 (g_X9_of S x1 (6 : Int32)) (fun r4 => bd1 (g_X9_lastOwn S x1) (fun r5 => bd1 (g_X9_greater r4 r5) (fun r6 => bd1 (g_X9_sets S x1 (6 : Int32) r6) (fun S7 => f_X9_sendsNow_110 S7 x2)))))) else bd1 (g_X9_isReached S x1 x3) (fun r8 => (if r8 = 0 then f_X9_sendsNow_74 ih15 S x1 x2 x3 else bd1 (g_X9_of S x3 (1 : Int32)) (fun r10 => bd1 (g_X9_of S x1 (1 : Int32)) (fun r11 => (if r10 ≤ r11 then bd1 (g_X9_gets S x3 x1) (fun S13 => f_X9_sendsNow_74 ih15 S13 x1 (x2 + (1 : Int32)) x3) else bd1 (g_X9_of S x3 (1 : Int32)) (fun r14 => bd1 (g_X9_takesOver S x1 r14) (fun S15 => some ((0 : Int32), S15)))))))))
def f_X9_sendsNow_15 (S : Mem) (x1 : Int32) (x2 : Int32) (x3 : Int32) : Option (Int32 × Mem) := lp (fun ih15 s9 => f_X9_sendsNow_15_b ih15 s9.1 x1 s9.2.1 s9.2.2) 2000 (S, x2, x3)
def f_X9_sendsNow_0 (S : Mem) (x1 : Int32) : Option (Int32 × Mem) := f_X9_sendsNow_15 (up S 20 6 ((S 20 6) + (1 : Int32))) x1 (1 : Int32) (0 : Int32)
def g_X9_sendsNow (S : Mem) (x1 : Int32) : Option (Int32 × Mem) := f_X9_sendsNow_0 S x1
set_option maxHeartbeats 4000000 in
set_option maxRecDepth 100000 in
theorem b_X9_sendsNow_110 {v : EV} {p : Program} {l : Launch} {e : Env} {s : State} {m : MethodId} {args : Array Value} {below : List Frame} {meth : Method} {c : Code} (hC : Cx v p l e s m args meth c RX9 cX9_sendsNow 4 (some .int)) {S : Mem} {x2 : Int32}  {r : Int32 × Mem} (hf : f_X9_sendsNow_110 S x2 = some r) : Mj v p l e (rmF 5 104) s m args below meth c 4 (MQ below (Qc v (some (.int r.1)) r.2) args s 0 0 (eG v)) S 110 [(2, .int x2)] [] := by
  refine i_iload_n hC dX9_sendsNow_110 rfl ?_
  obtain rfl := Option.some.inj hf
  exact i_iret hC dX9_sendsNow_111
set_option maxHeartbeats 4000000 in
set_option maxRecDepth 100000 in
theorem b_X9_sendsNow_74 {v : EV} {p : Program} {l : Launch} {e : Env} {s : State} {m : MethodId} {args : Array Value} {below : List Frame} {meth : Method} {c : Code} (hC : Cx v p l e s m args meth c RX9 cX9_sendsNow 4 (some .int)) {S : Mem} {x1 : Int32} {x2 : Int32} {x3 : Int32}  {r : Int32 × Mem} {ih15 : (Mem × Int32 × Int32) → Option (Int32 × Mem)} (hih15 : ∀ s9 : (Mem × Int32 × Int32), ih15 s9 = some r → Mj v p l e (rmF 5 104) s m args below meth c 4 (MQ below (Qc v (some (.int r.1)) r.2) args s 0 0 (eG v)) s9.1 15 [(0, .ref (eA v (218))), (1, .int x1), (2, .int (s9.2.1)), (3, .int (s9.2.2))] []) (hf : f_X9_sendsNow_74 ih15 S x1 x2 x3 = some r) : Mj v p l e (rmF 5 104) s m args below meth c 4 (MQ below (Qc v (some (.int r.1)) r.2) args s 0 0 (eG v)) S 74 [(0, .ref (eA v (218))), (1, .int x1), (2, .int x2), (3, .int x3)] [] := by
  refine i_iinc hC dX9_sendsNow_74 rfl li_1 (by decide) ?_
  refine i_goto hC (tgt := 15) dX9_sendsNow_77 (by decide) ?_
  exact Mj.to (hih15 _ hf) ⟨rfl, rfl, rfl, rfl, trivial⟩
set_option maxHeartbeats 4000000 in
set_option maxRecDepth 100000 in
theorem b_X9_sendsNow_15_b {v : EV} {p : Program} {l : Launch} {e : Env} {s : State} {m : MethodId} {args : Array Value} {below : List Frame} {meth : Method} {c : Code} (hC : Cx v p l e s m args meth c RX9 cX9_sendsNow 4 (some .int)) {S : Mem} {x1 : Int32} {x2 : Int32} {x3 : Int32}  {r : Int32 × Mem} {ih15 : (Mem × Int32 × Int32) → Option (Int32 × Mem)} (hih15 : ∀ s9 : (Mem × Int32 × Int32), ih15 s9 = some r → Mj v p l e (rmF 5 104) s m args below meth c 4 (MQ below (Qc v (some (.int r.1)) r.2) args s 0 0 (eG v)) s9.1 15 [(0, .ref (eA v (218))), (1, .int x1), (2, .int (s9.2.1)), (3, .int (s9.2.2))] []) (hf : f_X9_sendsNow_15_b ih15 S x1 x2 x3 = some r) : Mj v p l e (rmF 5 104) s m args below meth c 4 (MQ below (Qc v (some (.int r.1)) r.2) args s 0 0 (eG v)) S 15 [(0, .ref (eA v (218))), (1, .int x1), (2, .int x2), (3, .int x3)] [] := by
  refine i_iload_n hC dX9_sendsNow_15 rfl ?_
  refine i_aload_n hC dX9_sendsNow_16 rfl ?_
  refine i_getR hC fl_X9_9 (pln rfl) (lay_p218) rfl dX9_sendsNow_17 ?_
  refine i_iconst hC dX9_sendsNow_20 li_1 ?_
  refine i_iald hC (j0 := 1) (pln rfl) (lay_p219) (inb_in (by decide)) (by decide) dX9_sendsNow_21 ?_
  refine i_icmp_ge hC (tgt := 80) dX9_sendsNow_22 (by decide) (fun c1 => ?_) (fun c1 => ?_)
  · replace hf := (if_pos c1).symm.trans hf
    refine i_aload_n hC dX9_sendsNow_80 rfl ?_
    refine i_iload_n hC dX9_sendsNow_81 rfl ?_
    obtain ⟨r2, hc2, hf⟩ := bd1_of hf
    refine i_callVi hC mv_X9_119 (c_X9_isMajority hC.2.2.2.2.2.2.2.1 hc2) (pln rfl) (lay_p218) rfl rfl rfl ⟨Nat.le_of_ble_eq_true rfl, Nat.le_of_ble_eq_true rfl⟩ (Nat.le_of_ble_eq_true rfl) dX9_sendsNow_82 ?_
    refine i_if_eq hC (tgt := 110) dX9_sendsNow_85 (by decide) (fun c3 => ?_) (fun c3 => ?_)
    · replace hf := (if_pos c3).symm.trans hf
      exact Mj.to (b_X9_sendsNow_110 hC  hf) ⟨rfl, trivial⟩
    · replace hf := (if_neg c3).symm.trans hf
      refine i_aload_n hC dX9_sendsNow_88 rfl ?_
      refine i_iload_n hC dX9_sendsNow_89 rfl ?_
      refine i_bipush hC dX9_sendsNow_90 lb_6 ?_
      refine i_aload_n hC dX9_sendsNow_92 rfl ?_
      refine i_iload_n hC dX9_sendsNow_93 rfl ?_
      refine i_bipush hC dX9_sendsNow_94 lb_6 ?_
      obtain ⟨r4, hc4, hf⟩ := bd1_of hf
      refine i_callVi hC mv_X9_69 (c_X9_of hC.2.2.2.2.2.2.2.1 hc4) (pln rfl) (lay_p218) rfl rfl rfl ⟨Nat.le_of_ble_eq_true rfl, Nat.le_of_ble_eq_true rfl⟩ (Nat.le_of_ble_eq_true rfl) dX9_sendsNow_96 ?_
      refine i_aload_n hC dX9_sendsNow_99 rfl ?_
      refine i_iload_n hC dX9_sendsNow_100 rfl ?_
      obtain ⟨r5, hc5, hf⟩ := bd1_of hf
      refine i_callVi hC mv_X9_137 (c_X9_lastOwn hC.2.2.2.2.2.2.2.1 hc5) (pln rfl) (lay_p218) rfl rfl rfl ⟨Nat.le_of_ble_eq_true rfl, Nat.le_of_ble_eq_true rfl⟩ (Nat.le_of_ble_eq_true rfl) dX9_sendsNow_101 ?_
      obtain ⟨r6, hc6, hf⟩ := bd1_of hf
      refine i_callSi hC mv_X9_75 (c_X9_greater hC.2.2.2.2.2.2.2.1 hc6) rfl rfl ⟨Nat.le_of_ble_eq_true rfl, Nat.le_of_ble_eq_true rfl⟩ (Nat.le_of_ble_eq_true rfl) dX9_sendsNow_104 ?_
      obtain ⟨S7, hc7, hf⟩ := bd1_of hf
      refine i_callVv hC mv_X9_92 (c_X9_sets hC.2.2.2.2.2.2.2.1 hc7) (pln rfl) (lay_p218) rfl rfl rfl ⟨Nat.le_of_ble_eq_true rfl, Nat.le_of_ble_eq_true rfl⟩ (Nat.le_of_ble_eq_true rfl) dX9_sendsNow_107 ?_
      exact Mj.to (b_X9_sendsNow_110 hC  hf) ⟨rfl, trivial⟩
  · replace hf := (if_neg c1).symm.trans hf
    refine i_aload_n hC dX9_sendsNow_25 rfl ?_
    refine i_iload_n hC dX9_sendsNow_26 rfl ?_
    refine i_iload_n hC dX9_sendsNow_27 rfl ?_
    obtain ⟨r8, hc8, hf⟩ := bd1_of hf
    refine i_callVi hC mv_X9_108 (c_X9_isReached hC.2.2.2.2.2.2.2.1 hc8) (pln rfl) (lay_p218) rfl rfl rfl ⟨Nat.le_of_ble_eq_true rfl, Nat.le_of_ble_eq_true rfl⟩ (Nat.le_of_ble_eq_true rfl) dX9_sendsNow_28 ?_
    refine i_if_ne hC (tgt := 37) dX9_sendsNow_31 (by decide) (fun c9 => ?_) (fun c9 => ?_)
    · replace hf := (if_neg c9).symm.trans hf
      refine i_aload_n hC dX9_sendsNow_37 rfl ?_
      refine i_iload_n hC dX9_sendsNow_38 rfl ?_
      refine i_iconst hC dX9_sendsNow_39 li_1 ?_
      obtain ⟨r10, hc10, hf⟩ := bd1_of hf
      refine i_callVi hC mv_X9_69 (c_X9_of hC.2.2.2.2.2.2.2.1 hc10) (pln rfl) (lay_p218) rfl rfl rfl ⟨Nat.le_of_ble_eq_true rfl, Nat.le_of_ble_eq_true rfl⟩ (Nat.le_of_ble_eq_true rfl) dX9_sendsNow_40 ?_
      refine i_aload_n hC dX9_sendsNow_43 rfl ?_
      refine i_iload_n hC dX9_sendsNow_44 rfl ?_
      refine i_iconst hC dX9_sendsNow_45 li_1 ?_
      obtain ⟨r11, hc11, hf⟩ := bd1_of hf
      refine i_callVi hC mv_X9_69 (c_X9_of hC.2.2.2.2.2.2.2.1 hc11) (pln rfl) (lay_p218) rfl rfl rfl ⟨Nat.le_of_ble_eq_true rfl, Nat.le_of_ble_eq_true rfl⟩ (Nat.le_of_ble_eq_true rfl) dX9_sendsNow_46 ?_
      refine i_icmp_le hC (tgt := 65) dX9_sendsNow_49 (by decide) (fun c12 => ?_) (fun c12 => ?_)
      · replace hf := (if_pos c12).symm.trans hf
        refine i_aload_n hC dX9_sendsNow_65 rfl ?_
        refine i_iload_n hC dX9_sendsNow_66 rfl ?_
        refine i_iload_n hC dX9_sendsNow_67 rfl ?_
        obtain ⟨S13, hc13, hf⟩ := bd1_of hf
        refine i_callVv hC mv_X9_134 (c_X9_gets hC.2.2.2.2.2.2.2.1 hc13) (pln rfl) (lay_p218) rfl rfl rfl ⟨Nat.le_of_ble_eq_true rfl, Nat.le_of_ble_eq_true rfl⟩ (Nat.le_of_ble_eq_true rfl) dX9_sendsNow_68 ?_
        refine i_iinc hC dX9_sendsNow_71 rfl li_1 (by decide) ?_
        exact Mj.to (b_X9_sendsNow_74 hC hih15 hf) ⟨rfl, rfl, rfl, rfl, trivial⟩
      · replace hf := (if_neg c12).symm.trans hf
        refine i_aload_n hC dX9_sendsNow_52 rfl ?_
        refine i_iload_n hC dX9_sendsNow_53 rfl ?_
        refine i_aload_n hC dX9_sendsNow_54 rfl ?_
        refine i_iload_n hC dX9_sendsNow_55 rfl ?_
        refine i_iconst hC dX9_sendsNow_56 li_1 ?_
        obtain ⟨r14, hc14, hf⟩ := bd1_of hf
        refine i_callVi hC mv_X9_69 (c_X9_of hC.2.2.2.2.2.2.2.1 hc14) (pln rfl) (lay_p218) rfl rfl rfl ⟨Nat.le_of_ble_eq_true rfl, Nat.le_of_ble_eq_true rfl⟩ (Nat.le_of_ble_eq_true rfl) dX9_sendsNow_57 ?_
        obtain ⟨S15, hc15, hf⟩ := bd1_of hf
        refine i_callVv hC mv_X9_112 (c_X9_takesOver hC.2.2.2.2.2.2.2.1 hc15) (pln rfl) (lay_p218) rfl rfl rfl ⟨Nat.le_of_ble_eq_true rfl, Nat.le_of_ble_eq_true rfl⟩ (Nat.le_of_ble_eq_true rfl) dX9_sendsNow_60 ?_
        refine i_iconst hC dX9_sendsNow_63 li_0 ?_
        obtain rfl := Option.some.inj hf
        exact i_iret hC dX9_sendsNow_64
    · replace hf := (if_pos c9).symm.trans hf
      refine i_goto hC (tgt := 74) dX9_sendsNow_34 (by decide) ?_
      exact Mj.to (b_X9_sendsNow_74 hC hih15 hf) ⟨rfl, rfl, rfl, rfl, trivial⟩
theorem b_X9_sendsNow_15 {v : EV} {p : Program} {l : Launch} {e : Env} {s : State} {m : MethodId} {args : Array Value} {below : List Frame} {meth : Method} {c : Code} (hC : Cx v p l e s m args meth c RX9 cX9_sendsNow 4 (some .int)) {S : Mem} {x1 : Int32} {x2 : Int32} {x3 : Int32}  {r : Int32 × Mem} (hf : f_X9_sendsNow_15 S x1 x2 x3 = some r) : Mj v p l e (rmF 5 104) s m args below meth c 4 (MQ below (Qc v (some (.int r.1)) r.2) args s 0 0 (eG v)) S 15 [(0, .ref (eA v (218))), (1, .int x1), (2, .int x2), (3, .int x3)] [] :=
  lp_ind (P := fun s9 : (Mem × Int32 × Int32) => Mj v p l e (rmF 5 104) s m args below meth c 4 (MQ below (Qc v (some (.int r.1)) r.2) args s 0 0 (eG v)) s9.1 15 [(0, .ref (eA v (218))), (1, .int x1), (2, .int (s9.2.1)), (3, .int (s9.2.2))] []) (fun ih s9 hih hf => b_X9_sendsNow_15_b hC   hih hf) _ _ hf
set_option maxHeartbeats 4000000 in
set_option maxRecDepth 100000 in
theorem b_X9_sendsNow_0 {v : EV} {p : Program} {l : Launch} {e : Env} {s : State} {m : MethodId} {args : Array Value} {below : List Frame} {meth : Method} {c : Code} (hC : Cx v p l e s m args meth c RX9 cX9_sendsNow 4 (some .int)) {S : Mem} {x1 : Int32}  {r : Int32 × Mem} (hf : f_X9_sendsNow_0 S x1 = some r) : Mj v p l e (rmF 5 104) s m args below meth c 4 (MQ below (Qc v (some (.int r.1)) r.2) args s 0 0 (eG v)) S 0 [(0, .ref (eA v (218))), (1, .int x1)] [] := by
  refine i_aload_n hC dX9_sendsNow_0 rfl ?_
  refine i_getR hC fl_X9_9 (pln rfl) (lay_p218) rfl dX9_sendsNow_1 ?_
  refine i_bipush hC dX9_sendsNow_4 lb_6 ?_
  refine i_dup2 hC dX9_sendsNow_6 rfl rfl ?_
  refine i_iald hC (j0 := 6) (pln rfl) (lay_p219) (inb_in (by decide)) (by decide) dX9_sendsNow_7 ?_
  refine i_iconst hC dX9_sendsNow_8 li_1 ?_
  refine i_iadd hC dX9_sendsNow_9 ?_
  refine i_iast hC (j0 := 6) (pln rfl) (lay_p219) (by decide) (inb_in (by decide)) (by decide) dX9_sendsNow_10 ?_
  refine i_iconst hC dX9_sendsNow_11 li_1 ?_
  refine i_istore_n hC dX9_sendsNow_12 (by decide) ?_
  refine i_iconst hC dX9_sendsNow_13 li_0 ?_
  refine i_istore_n hC dX9_sendsNow_14 (by decide) ?_
  exact Mj.to (b_X9_sendsNow_15 hC  hf) ⟨rfl, rfl, rfl, rfl, trivial⟩
theorem c_X9_sendsNow {v : EV} {l : Launch} (hst : Stb v) {S : Mem} {x1 : Int32}  {r : Int32 × Mem} (hf : g_X9_sendsNow S x1 = some r) : Con v l yX9_sendsNow cX9_sendsNow 4 (some .int) 5 104 [.ref (eA v (218)), .int x1] S (some (.int r.1)) r.2 := con_of (by decide) hst (Nat.le_of_ble_eq_true rfl) (fun p e s m args below meth c hC => b_X9_sendsNow_0 hC  hf)
def f_X9_shouts_60 (S : Mem)  : Option (Int32 × Mem) := some ((-3 : Int32), S)
def f_X9_shouts_51 (S : Mem) (x1 : Int32) (x2 : Int32) (x3 : Int32) (xt0 : Int32) : Option (Int32 × Mem) := bd2 (g_X9_isRefused S xt0 (1 : Int32) (12 : Int32)) (fun r9 S9 => (if r9 = 0 then bd1 (g_X9_of S9 x1 (1 : Int32)) (fun r11 => bd1 (g_X9_sets S9 x1 ((10 : Int32) + x3) r11) (fun S12 => bd1 (g_X9_sets S12 x1 ((22 : Int32) + x3) x2) (fun S13 => bd1 (g_X9_sets S13 x1 (5 : Int32) (x3 + (1 : Int32))) (fun S14 => some ((x3 + (1 : Int32)), (up S14 20 4 ((S14 20 4) + (1 : Int32)))))))) else f_X9_shouts_60 S9))
def f_X9_shouts_0 (S : Mem) (x1 : Int32) (x2 : Int32) : Option (Int32 × Mem) := bd1 (g_X9_isDriver S x1) (fun r1 => (if r1 = 0 then some ((-1 : Int32), S) else bd1 (g_X9_isIn x2 (97 : Int32) (122 : Int32)) (fun r3 => (if r3 = 0 then some ((-2 : Int32), S) else bd1 (g_X9_of S x1 (5 : Int32)) (fun r5 => bd2 (g_X9_isNoLeader S x1) (fun r6 S6 => (if r6 = 0 then (if r5 = (12 : Int32) then f_X9_shouts_51 S6 x1 x2 r5 (1 : Int32) else f_X9_shouts_51 S6 x1 x2 r5 (0 : Int32)) else f_X9_shouts_60 S6)))))))
def g_X9_shouts (S : Mem) (x1 : Int32) (x2 : Int32) : Option (Int32 × Mem) := f_X9_shouts_0 S x1 x2
set_option maxHeartbeats 4000000 in
set_option maxRecDepth 100000 in
theorem b_X9_shouts_60 {v : EV} {p : Program} {l : Launch} {e : Env} {s : State} {m : MethodId} {args : Array Value} {below : List Frame} {meth : Method} {c : Code} (hC : Cx v p l e s m args meth c RX9 cX9_shouts 4 (some .int)) {S : Mem}  {r : Int32 × Mem} (hf : f_X9_shouts_60 S = some r) : Mj v p l e (rmF 6 118) s m args below meth c 4 (MQ below (Qc v (some (.int r.1)) r.2) args s 0 0 (eG v)) S 60 [] [] := by
  refine i_bipush hC dX9_shouts_60 lb_m3 ?_
  obtain rfl := Option.some.inj hf
  exact i_iret hC dX9_shouts_62
set_option maxHeartbeats 4000000 in
set_option maxRecDepth 100000 in
theorem b_X9_shouts_51 {v : EV} {p : Program} {l : Launch} {e : Env} {s : State} {m : MethodId} {args : Array Value} {below : List Frame} {meth : Method} {c : Code} (hC : Cx v p l e s m args meth c RX9 cX9_shouts 4 (some .int)) {S : Mem} {x1 : Int32} {x2 : Int32} {x3 : Int32} {xt0 : Int32}  {r : Int32 × Mem} (hf : f_X9_shouts_51 S x1 x2 x3 xt0 = some r) : Mj v p l e (rmF 6 118) s m args below meth c 4 (MQ below (Qc v (some (.int r.1)) r.2) args s 0 0 (eG v)) S 51 [(0, .ref (eA v (218))), (1, .int x1), (2, .int x2), (3, .int x3)] [.int xt0, .ref (eA v (218))] := by
  refine i_iconst hC dX9_shouts_51 li_1 ?_
  refine i_bipush hC dX9_shouts_52 lb_12 ?_
  obtain ⟨r9, S9, hc9, hf⟩ := bd2_of hf
  refine i_callVi hC mv_X9_88 (c_X9_isRefused hC.2.2.2.2.2.2.2.1 hc9) (pln rfl) (lay_p218) rfl rfl rfl ⟨Nat.le_of_ble_eq_true rfl, Nat.le_of_ble_eq_true rfl⟩ (Nat.le_of_ble_eq_true rfl) dX9_shouts_54 ?_
  refine i_if_eq hC (tgt := 63) dX9_shouts_57 (by decide) (fun c10 => ?_) (fun c10 => ?_)
  · replace hf := (if_pos c10).symm.trans hf
    refine i_aload_n hC dX9_shouts_63 rfl ?_
    refine i_iload_n hC dX9_shouts_64 rfl ?_
    refine i_bipush hC dX9_shouts_65 lb_10 ?_
    refine i_iload_n hC dX9_shouts_67 rfl ?_
    refine i_iadd hC dX9_shouts_68 ?_
    refine i_aload_n hC dX9_shouts_69 rfl ?_
    refine i_iload_n hC dX9_shouts_70 rfl ?_
    refine i_iconst hC dX9_shouts_71 li_1 ?_
    obtain ⟨r11, hc11, hf⟩ := bd1_of hf
    refine i_callVi hC mv_X9_69 (c_X9_of hC.2.2.2.2.2.2.2.1 hc11) (pln rfl) (lay_p218) rfl rfl rfl ⟨Nat.le_of_ble_eq_true rfl, Nat.le_of_ble_eq_true rfl⟩ (Nat.le_of_ble_eq_true rfl) dX9_shouts_72 ?_
    obtain ⟨S12, hc12, hf⟩ := bd1_of hf
    refine i_callVv hC mv_X9_92 (c_X9_sets hC.2.2.2.2.2.2.2.1 hc12) (pln rfl) (lay_p218) rfl rfl rfl ⟨Nat.le_of_ble_eq_true rfl, Nat.le_of_ble_eq_true rfl⟩ (Nat.le_of_ble_eq_true rfl) dX9_shouts_75 ?_
    refine i_aload_n hC dX9_shouts_78 rfl ?_
    refine i_iload_n hC dX9_shouts_79 rfl ?_
    refine i_bipush hC dX9_shouts_80 lb_22 ?_
    refine i_iload_n hC dX9_shouts_82 rfl ?_
    refine i_iadd hC dX9_shouts_83 ?_
    refine i_iload_n hC dX9_shouts_84 rfl ?_
    obtain ⟨S13, hc13, hf⟩ := bd1_of hf
    refine i_callVv hC mv_X9_92 (c_X9_sets hC.2.2.2.2.2.2.2.1 hc13) (pln rfl) (lay_p218) rfl rfl rfl ⟨Nat.le_of_ble_eq_true rfl, Nat.le_of_ble_eq_true rfl⟩ (Nat.le_of_ble_eq_true rfl) dX9_shouts_85 ?_
    refine i_aload_n hC dX9_shouts_88 rfl ?_
    refine i_iload_n hC dX9_shouts_89 rfl ?_
    refine i_iconst hC dX9_shouts_90 li_5 ?_
    refine i_iload_n hC dX9_shouts_91 rfl ?_
    refine i_iconst hC dX9_shouts_92 li_1 ?_
    refine i_iadd hC dX9_shouts_93 ?_
    obtain ⟨S14, hc14, hf⟩ := bd1_of hf
    refine i_callVv hC mv_X9_92 (c_X9_sets hC.2.2.2.2.2.2.2.1 hc14) (pln rfl) (lay_p218) rfl rfl rfl ⟨Nat.le_of_ble_eq_true rfl, Nat.le_of_ble_eq_true rfl⟩ (Nat.le_of_ble_eq_true rfl) dX9_shouts_94 ?_
    refine i_aload_n hC dX9_shouts_97 rfl ?_
    refine i_getR hC fl_X9_9 (pln rfl) (lay_p218) rfl dX9_shouts_98 ?_
    refine i_iconst hC dX9_shouts_101 li_4 ?_
    refine i_dup2 hC dX9_shouts_102 rfl rfl ?_
    refine i_iald hC (j0 := 4) (pln rfl) (lay_p219) (inb_in (by decide)) (by decide) dX9_shouts_103 ?_
    refine i_iconst hC dX9_shouts_104 li_1 ?_
    refine i_iadd hC dX9_shouts_105 ?_
    refine i_iast hC (j0 := 4) (pln rfl) (lay_p219) (by decide) (inb_in (by decide)) (by decide) dX9_shouts_106 ?_
    refine i_iload_n hC dX9_shouts_107 rfl ?_
    refine i_iconst hC dX9_shouts_108 li_1 ?_
    refine i_iadd hC dX9_shouts_109 ?_
    obtain rfl := Option.some.inj hf
    exact i_iret hC dX9_shouts_110
  · replace hf := (if_neg c10).symm.trans hf
    exact Mj.to (b_X9_shouts_60 hC  hf) trivial
set_option maxHeartbeats 4000000 in
set_option maxRecDepth 100000 in
theorem b_X9_shouts_0 {v : EV} {p : Program} {l : Launch} {e : Env} {s : State} {m : MethodId} {args : Array Value} {below : List Frame} {meth : Method} {c : Code} (hC : Cx v p l e s m args meth c RX9 cX9_shouts 4 (some .int)) {S : Mem} {x1 : Int32} {x2 : Int32}  {r : Int32 × Mem} (hf : f_X9_shouts_0 S x1 x2 = some r) : Mj v p l e (rmF 6 118) s m args below meth c 4 (MQ below (Qc v (some (.int r.1)) r.2) args s 0 0 (eG v)) S 0 [(0, .ref (eA v (218))), (1, .int x1), (2, .int x2)] [] := by
  refine i_aload_n hC dX9_shouts_0 rfl ?_
  refine i_iload_n hC dX9_shouts_1 rfl ?_
  obtain ⟨r1, hc1, hf⟩ := bd1_of hf
  refine i_callVi hC mv_X9_65 (c_X9_isDriver hC.2.2.2.2.2.2.2.1 hc1) (pln rfl) (lay_p218) rfl rfl rfl ⟨Nat.le_of_ble_eq_true rfl, Nat.le_of_ble_eq_true rfl⟩ (Nat.le_of_ble_eq_true rfl) dX9_shouts_2 ?_
  refine i_if_ne hC (tgt := 10) dX9_shouts_5 (by decide) (fun c2 => ?_) (fun c2 => ?_)
  · replace hf := (if_neg c2).symm.trans hf
    refine i_iload_n hC dX9_shouts_10 rfl ?_
    refine i_bipush hC dX9_shouts_11 lb_97 ?_
    refine i_bipush hC dX9_shouts_13 lb_122 ?_
    obtain ⟨r3, hc3, hf⟩ := bd1_of hf
    refine i_callSi hC mv_X9_61 (c_X9_isIn hC.2.2.2.2.2.2.2.1 hc3) rfl rfl ⟨Nat.le_of_ble_eq_true rfl, Nat.le_of_ble_eq_true rfl⟩ (Nat.le_of_ble_eq_true rfl) dX9_shouts_15 ?_
    refine i_if_ne hC (tgt := 24) dX9_shouts_18 (by decide) (fun c4 => ?_) (fun c4 => ?_)
    · replace hf := (if_neg c4).symm.trans hf
      refine i_aload_n hC dX9_shouts_24 rfl ?_
      refine i_iload_n hC dX9_shouts_25 rfl ?_
      refine i_iconst hC dX9_shouts_26 li_5 ?_
      obtain ⟨r5, hc5, hf⟩ := bd1_of hf
      refine i_callVi hC mv_X9_69 (c_X9_of hC.2.2.2.2.2.2.2.1 hc5) (pln rfl) (lay_p218) rfl rfl rfl ⟨Nat.le_of_ble_eq_true rfl, Nat.le_of_ble_eq_true rfl⟩ (Nat.le_of_ble_eq_true rfl) dX9_shouts_27 ?_
      refine i_istore_n hC dX9_shouts_30 (by decide) ?_
      refine i_aload_n hC dX9_shouts_31 rfl ?_
      refine i_iload_n hC dX9_shouts_32 rfl ?_
      obtain ⟨r6, S6, hc6, hf⟩ := bd2_of hf
      refine i_callVi hC mv_X9_140 (c_X9_isNoLeader hC.2.2.2.2.2.2.2.1 hc6) (pln rfl) (lay_p218) rfl rfl rfl ⟨Nat.le_of_ble_eq_true rfl, Nat.le_of_ble_eq_true rfl⟩ (Nat.le_of_ble_eq_true rfl) dX9_shouts_33 ?_
      refine i_if_ne hC (tgt := 60) dX9_shouts_36 (by decide) (fun c7 => ?_) (fun c7 => ?_)
      · replace hf := (if_neg c7).symm.trans hf
        exact Mj.to (b_X9_shouts_60 hC  hf) trivial
      · replace hf := (if_pos c7).symm.trans hf
        refine i_aload_n hC dX9_shouts_39 rfl ?_
        refine i_iload_n hC dX9_shouts_40 rfl ?_
        refine i_bipush hC dX9_shouts_41 lb_12 ?_
        refine i_icmp_ne hC (tgt := 50) dX9_shouts_43 (by decide) (fun c8 => ?_) (fun c8 => ?_)
        · replace hf := (if_neg c8).symm.trans hf
          refine i_iconst hC dX9_shouts_50 li_0 ?_
          exact Mj.to (b_X9_shouts_51 hC  hf) ⟨rfl, rfl, rfl, rfl, trivial⟩
        · replace hf := (if_pos c8).symm.trans hf
          refine i_iconst hC dX9_shouts_46 li_1 ?_
          refine i_goto hC (tgt := 51) dX9_shouts_47 (by decide) ?_
          exact Mj.to (b_X9_shouts_51 hC  hf) ⟨rfl, rfl, rfl, rfl, trivial⟩
    · replace hf := (if_pos c4).symm.trans hf
      refine i_bipush hC dX9_shouts_21 lb_m2 ?_
      obtain rfl := Option.some.inj hf
      exact i_iret hC dX9_shouts_23
  · replace hf := (if_pos c2).symm.trans hf
    refine i_iconst hC dX9_shouts_8 li_m1 ?_
    obtain rfl := Option.some.inj hf
    exact i_iret hC dX9_shouts_9
theorem c_X9_shouts {v : EV} {l : Launch} (hst : Stb v) {S : Mem} {x1 x2 : Int32}  {r : Int32 × Mem} (hf : g_X9_shouts S x1 x2 = some r) : Con v l yX9_shouts cX9_shouts 4 (some .int) 6 118 [.ref (eA v (218)), .int x1, .int x2] S (some (.int r.1)) r.2 := con_of (by decide) hst (Nat.le_of_ble_eq_true rfl) (fun p e s m args below meth c hC => b_X9_shouts_0 hC  hf)
def f_X9_washes_0 (S : Mem) (x1 : Int32) : Option (Int32 × Mem) := bd1 (g_X9_isDriver S x1) (fun r1 => (if r1 = 0 then some ((-1 : Int32), S) else bd2 (g_X9_isWashed S x1) (fun r3 S3 => (if r3 = 0 then bd1 (g_X9_sets S3 x1 (7 : Int32) (0 : Int32)) (fun S5 => bd1 (g_X9_sets S5 x1 (0 : Int32) (0 : Int32)) (fun S6 => bd1 (g_X9_aboard S6) (fun r7 => some (r7, S6)))) else some ((-3 : Int32), S3)))))
def g_X9_washes (S : Mem) (x1 : Int32) : Option (Int32 × Mem) := f_X9_washes_0 S x1
set_option maxHeartbeats 4000000 in
set_option maxRecDepth 100000 in
theorem b_X9_washes_0 {v : EV} {p : Program} {l : Launch} {e : Env} {s : State} {m : MethodId} {args : Array Value} {below : List Frame} {meth : Method} {c : Code} (hC : Cx v p l e s m args meth c RX9 cX9_washes 2 (some .int)) {S : Mem} {x1 : Int32}  {r : Int32 × Mem} (hf : f_X9_washes_0 S x1 = some r) : Mj v p l e (rmF 5 97) s m args below meth c 2 (MQ below (Qc v (some (.int r.1)) r.2) args s 0 0 (eG v)) S 0 [(0, .ref (eA v (218))), (1, .int x1)] [] := by
  refine i_aload_n hC dX9_washes_0 rfl ?_
  refine i_iload_n hC dX9_washes_1 rfl ?_
  obtain ⟨r1, hc1, hf⟩ := bd1_of hf
  refine i_callVi hC mv_X9_65 (c_X9_isDriver hC.2.2.2.2.2.2.2.1 hc1) (pln rfl) (lay_p218) rfl rfl rfl ⟨Nat.le_of_ble_eq_true rfl, Nat.le_of_ble_eq_true rfl⟩ (Nat.le_of_ble_eq_true rfl) dX9_washes_2 ?_
  refine i_if_ne hC (tgt := 10) dX9_washes_5 (by decide) (fun c2 => ?_) (fun c2 => ?_)
  · replace hf := (if_neg c2).symm.trans hf
    refine i_aload_n hC dX9_washes_10 rfl ?_
    refine i_iload_n hC dX9_washes_11 rfl ?_
    obtain ⟨r3, S3, hc3, hf⟩ := bd2_of hf
    refine i_callVi hC mv_X9_122 (c_X9_isWashed hC.2.2.2.2.2.2.2.1 hc3) (pln rfl) (lay_p218) rfl rfl rfl ⟨Nat.le_of_ble_eq_true rfl, Nat.le_of_ble_eq_true rfl⟩ (Nat.le_of_ble_eq_true rfl) dX9_washes_12 ?_
    refine i_if_eq hC (tgt := 21) dX9_washes_15 (by decide) (fun c4 => ?_) (fun c4 => ?_)
    · replace hf := (if_pos c4).symm.trans hf
      refine i_aload_n hC dX9_washes_21 rfl ?_
      refine i_iload_n hC dX9_washes_22 rfl ?_
      refine i_bipush hC dX9_washes_23 lb_7 ?_
      refine i_iconst hC dX9_washes_25 li_0 ?_
      obtain ⟨S5, hc5, hf⟩ := bd1_of hf
      refine i_callVv hC mv_X9_92 (c_X9_sets hC.2.2.2.2.2.2.2.1 hc5) (pln rfl) (lay_p218) rfl rfl rfl ⟨Nat.le_of_ble_eq_true rfl, Nat.le_of_ble_eq_true rfl⟩ (Nat.le_of_ble_eq_true rfl) dX9_washes_26 ?_
      refine i_aload_n hC dX9_washes_29 rfl ?_
      refine i_iload_n hC dX9_washes_30 rfl ?_
      refine i_iconst hC dX9_washes_31 li_0 ?_
      refine i_iconst hC dX9_washes_32 li_0 ?_
      obtain ⟨S6, hc6, hf⟩ := bd1_of hf
      refine i_callVv hC mv_X9_92 (c_X9_sets hC.2.2.2.2.2.2.2.1 hc6) (pln rfl) (lay_p218) rfl rfl rfl ⟨Nat.le_of_ble_eq_true rfl, Nat.le_of_ble_eq_true rfl⟩ (Nat.le_of_ble_eq_true rfl) dX9_washes_33 ?_
      refine i_aload_n hC dX9_washes_36 rfl ?_
      obtain ⟨r7, hc7, hf⟩ := bd1_of hf
      refine i_callVi hC mv_X9_152 (c_X9_aboard hC.2.2.2.2.2.2.2.1 hc7) (pln rfl) (lay_p218) rfl rfl rfl ⟨Nat.le_of_ble_eq_true rfl, Nat.le_of_ble_eq_true rfl⟩ (Nat.le_of_ble_eq_true rfl) dX9_washes_37 ?_
      obtain rfl := Option.some.inj hf
      exact i_iret hC dX9_washes_40
    · replace hf := (if_neg c4).symm.trans hf
      refine i_bipush hC dX9_washes_18 lb_m3 ?_
      obtain rfl := Option.some.inj hf
      exact i_iret hC dX9_washes_20
  · replace hf := (if_pos c2).symm.trans hf
    refine i_iconst hC dX9_washes_8 li_m1 ?_
    obtain rfl := Option.some.inj hf
    exact i_iret hC dX9_washes_9
theorem c_X9_washes {v : EV} {l : Launch} (hst : Stb v) {S : Mem} {x1 : Int32}  {r : Int32 × Mem} (hf : g_X9_washes S x1 = some r) : Con v l yX9_washes cX9_washes 2 (some .int) 5 97 [.ref (eA v (218)), .int x1] S (some (.int r.1)) r.2 := con_of (by decide) hst (Nat.le_of_ble_eq_true rfl) (fun p e s m args below meth c hC => b_X9_washes_0 hC  hf)
def f_X9_back_0 (S : Mem) (x1 : Int32) : Option (Int32 × Mem) := bd1 (g_X9_keeps S) (fun S1 => bd2 (g_X9_comesBack S1 x1) (fun r2 S2 => bd2 (g_X9_ends S2 r2) (fun r3 S3 => some (r3, S3))))
def g_X9_back (S : Mem) (x1 : Int32) : Option (Int32 × Mem) := f_X9_back_0 S x1
set_option maxHeartbeats 4000000 in
set_option maxRecDepth 100000 in
theorem b_X9_back_0 {v : EV} {p : Program} {l : Launch} {e : Env} {s : State} {m : MethodId} {args : Array Value} {below : List Frame} {meth : Method} {c : Code} (hC : Cx v p l e s m args meth c RX9 cX9_back 2 (some .int)) {S : Mem} {x1 : Int32}  {r : Int32 × Mem} (hf : f_X9_back_0 S x1 = some r) : Mj v p l e (rmF 5 98) s m args below meth c 2 (MQ below (Qc v (some (.int r.1)) r.2) args s 0 0 (eG v)) S 0 [(0, .ref (eA v (218))), (1, .int x1)] [] := by
  refine i_aload_n hC dX9_back_0 rfl ?_
  obtain ⟨S1, hc1, hf⟩ := bd1_of hf
  refine i_callVv hC mv_X9_96 (c_X9_keeps hC.2.2.2.2.2.2.2.1 hc1) (pln rfl) (lay_p218) rfl rfl rfl ⟨Nat.le_of_ble_eq_true rfl, Nat.le_of_ble_eq_true rfl⟩ (Nat.le_of_ble_eq_true rfl) dX9_back_1 ?_
  refine i_aload_n hC dX9_back_4 rfl ?_
  refine i_aload_n hC dX9_back_5 rfl ?_
  refine i_iload_n hC dX9_back_6 rfl ?_
  obtain ⟨r2, S2, hc2, hf⟩ := bd2_of hf
  refine i_callVi hC mv_X9_159 (c_X9_comesBack hC.2.2.2.2.2.2.2.1 hc2) (pln rfl) (lay_p218) rfl rfl rfl ⟨Nat.le_of_ble_eq_true rfl, Nat.le_of_ble_eq_true rfl⟩ (Nat.le_of_ble_eq_true rfl) dX9_back_7 ?_
  obtain ⟨r3, S3, hc3, hf⟩ := bd2_of hf
  refine i_callVi hC mv_X9_102 (c_X9_ends hC.2.2.2.2.2.2.2.1 hc3) (pln rfl) (lay_p218) rfl rfl rfl ⟨Nat.le_of_ble_eq_true rfl, Nat.le_of_ble_eq_true rfl⟩ (Nat.le_of_ble_eq_true rfl) dX9_back_10 ?_
  obtain rfl := Option.some.inj hf
  exact i_iret hC dX9_back_13
theorem c_X9_back {v : EV} {l : Launch} (hst : Stb v) {S : Mem} {x1 : Int32}  {r : Int32 × Mem} (hf : g_X9_back S x1 = some r) : Con v l yX9_back cX9_back 2 (some .int) 5 98 [.ref (eA v (218)), .int x1] S (some (.int r.1)) r.2 := con_of (by decide) hst (Nat.le_of_ble_eq_true rfl) (fun p e s m args below meth c hC => b_X9_back_0 hC  hf)
def f_X9_cut_0 (S : Mem) (x1 : Int32) (x2 : Int32) : Option (Int32 × Mem) := bd1 (g_X9_keeps S) (fun S1 => bd2 (g_X9_ropes S1 x1 x2 (1 : Int32)) (fun r2 S2 => bd2 (g_X9_ends S2 r2) (fun r3 S3 => some (r3, S3))))
def g_X9_cut (S : Mem) (x1 : Int32) (x2 : Int32) : Option (Int32 × Mem) := f_X9_cut_0 S x1 x2
set_option maxHeartbeats 4000000 in
set_option maxRecDepth 100000 in
theorem b_X9_cut_0 {v : EV} {p : Program} {l : Launch} {e : Env} {s : State} {m : MethodId} {args : Array Value} {below : List Frame} {meth : Method} {c : Code} (hC : Cx v p l e s m args meth c RX9 cX9_cut 3 (some .int)) {S : Mem} {x1 : Int32} {x2 : Int32}  {r : Int32 × Mem} (hf : f_X9_cut_0 S x1 x2 = some r) : Mj v p l e (rmF 5 100) s m args below meth c 3 (MQ below (Qc v (some (.int r.1)) r.2) args s 0 0 (eG v)) S 0 [(0, .ref (eA v (218))), (1, .int x1), (2, .int x2)] [] := by
  refine i_aload_n hC dX9_cut_0 rfl ?_
  obtain ⟨S1, hc1, hf⟩ := bd1_of hf
  refine i_callVv hC mv_X9_96 (c_X9_keeps hC.2.2.2.2.2.2.2.1 hc1) (pln rfl) (lay_p218) rfl rfl rfl ⟨Nat.le_of_ble_eq_true rfl, Nat.le_of_ble_eq_true rfl⟩ (Nat.le_of_ble_eq_true rfl) dX9_cut_1 ?_
  refine i_aload_n hC dX9_cut_4 rfl ?_
  refine i_aload_n hC dX9_cut_5 rfl ?_
  refine i_iload_n hC dX9_cut_6 rfl ?_
  refine i_iload_n hC dX9_cut_7 rfl ?_
  refine i_iconst hC dX9_cut_8 li_1 ?_
  obtain ⟨r2, S2, hc2, hf⟩ := bd2_of hf
  refine i_callVi hC mv_X9_168 (c_X9_ropes hC.2.2.2.2.2.2.2.1 hc2) (pln rfl) (lay_p218) rfl rfl rfl ⟨Nat.le_of_ble_eq_true rfl, Nat.le_of_ble_eq_true rfl⟩ (Nat.le_of_ble_eq_true rfl) dX9_cut_9 ?_
  obtain ⟨r3, S3, hc3, hf⟩ := bd2_of hf
  refine i_callVi hC mv_X9_102 (c_X9_ends hC.2.2.2.2.2.2.2.1 hc3) (pln rfl) (lay_p218) rfl rfl rfl ⟨Nat.le_of_ble_eq_true rfl, Nat.le_of_ble_eq_true rfl⟩ (Nat.le_of_ble_eq_true rfl) dX9_cut_12 ?_
  obtain rfl := Option.some.inj hf
  exact i_iret hC dX9_cut_15
theorem c_X9_cut {v : EV} {l : Launch} (hst : Stb v) {S : Mem} {x1 x2 : Int32}  {r : Int32 × Mem} (hf : g_X9_cut S x1 x2 = some r) : Con v l yX9_cut cX9_cut 3 (some .int) 5 100 [.ref (eA v (218)), .int x1, .int x2] S (some (.int r.1)) r.2 := con_of (by decide) hst (Nat.le_of_ble_eq_true rfl) (fun p e s m args below meth c hC => b_X9_cut_0 hC  hf)
def f_X9_reachedBy_29 (ih4 : (Int32 × Int32) → Option (Int32)) (S : Mem) (x1 : Int32) (x3 : Int32) (xt0 : Int32) (xt1 : Int32) : Option (Int32) := ih4 ((xt1 + xt0), (x3 + (1 : Int32)))
def f_X9_reachedBy_4_b (ih4 : (Int32 × Int32) → Option (Int32)) (S : Mem) (x1 : Int32) (x2 : Int32) (x3 : Int32) : Option (Int32) := (if (S 20 1) ≤ x3 then some x2 else bd1 (g_X9_isReached S x1 x3) (fun r2 => (if r2 = 0 then f_X9_reachedBy_29 ih4 S x1 x3 (0 : Int32) x2 else f_X9_reachedBy_29 ih4 S x1 x3 (1 : Int32) x2)))
def f_X9_reachedBy_4 (S : Mem) (x1 : Int32) (x2 : Int32) (x3 : Int32) : Option (Int32) := lp (fun ih4 s9 => f_X9_reachedBy_4_b ih4 S x1 s9.1 s9.2) 2000 (x2, x3)
def f_X9_reachedBy_0 (S : Mem) (x1 : Int32) : Option (Int32) := f_X9_reachedBy_4 S x1 (0 : Int32) (0 : Int32)
def g_X9_reachedBy (S : Mem) (x1 : Int32) : Option (Int32) := f_X9_reachedBy_0 S x1
set_option maxHeartbeats 4000000 in
set_option maxRecDepth 100000 in
theorem b_X9_reachedBy_29 {v : EV} {p : Program} {l : Launch} {e : Env} {s : State} {m : MethodId} {args : Array Value} {below : List Frame} {meth : Method} {c : Code} (hC : Cx v p l e s m args meth c RX9 cX9_reachedBy 4 (some .int)) {S : Mem} {x1 : Int32} {x3 : Int32} {xt0 : Int32} {xt1 : Int32}  {r : Int32} {ih4 : (Int32 × Int32) → Option (Int32)} (hih4 : ∀ s9 : (Int32 × Int32), ih4 s9 = some r → Mj v p l e (rmF 5 98) s m args below meth c 4 (MQ below (Qc v (some (.int r)) S) args s 0 0 (eG v)) S 4 [(0, .ref (eA v (218))), (1, .int x1), (2, .int (s9.1)), (3, .int (s9.2))] []) (hf : f_X9_reachedBy_29 ih4 S x1 x3 xt0 xt1 = some r) : Mj v p l e (rmF 5 98) s m args below meth c 4 (MQ below (Qc v (some (.int r)) S) args s 0 0 (eG v)) S 29 [(0, .ref (eA v (218))), (1, .int x1), (3, .int x3)] [.int xt0, .int xt1] := by
  refine i_iadd hC dX9_reachedBy_29 ?_
  refine i_istore_n hC dX9_reachedBy_30 (by decide) ?_
  refine i_iinc hC dX9_reachedBy_31 rfl li_1 (by decide) ?_
  refine i_goto hC (tgt := 4) dX9_reachedBy_34 (by decide) ?_
  exact Mj.to (hih4 _ hf) ⟨rfl, rfl, rfl, rfl, trivial⟩
set_option maxHeartbeats 4000000 in
set_option maxRecDepth 100000 in
theorem b_X9_reachedBy_4_b {v : EV} {p : Program} {l : Launch} {e : Env} {s : State} {m : MethodId} {args : Array Value} {below : List Frame} {meth : Method} {c : Code} (hC : Cx v p l e s m args meth c RX9 cX9_reachedBy 4 (some .int)) {S : Mem} {x1 : Int32} {x2 : Int32} {x3 : Int32}  {r : Int32} {ih4 : (Int32 × Int32) → Option (Int32)} (hih4 : ∀ s9 : (Int32 × Int32), ih4 s9 = some r → Mj v p l e (rmF 5 98) s m args below meth c 4 (MQ below (Qc v (some (.int r)) S) args s 0 0 (eG v)) S 4 [(0, .ref (eA v (218))), (1, .int x1), (2, .int (s9.1)), (3, .int (s9.2))] []) (hf : f_X9_reachedBy_4_b ih4 S x1 x2 x3 = some r) : Mj v p l e (rmF 5 98) s m args below meth c 4 (MQ below (Qc v (some (.int r)) S) args s 0 0 (eG v)) S 4 [(0, .ref (eA v (218))), (1, .int x1), (2, .int x2), (3, .int x3)] [] := by
  refine i_iload_n hC dX9_reachedBy_4 rfl ?_
  refine i_aload_n hC dX9_reachedBy_5 rfl ?_
  refine i_getR hC fl_X9_9 (pln rfl) (lay_p218) rfl dX9_reachedBy_6 ?_
  refine i_iconst hC dX9_reachedBy_9 li_1 ?_
  refine i_iald hC (j0 := 1) (pln rfl) (lay_p219) (inb_in (by decide)) (by decide) dX9_reachedBy_10 ?_
  refine i_icmp_ge hC (tgt := 37) dX9_reachedBy_11 (by decide) (fun c1 => ?_) (fun c1 => ?_)
  · replace hf := (if_pos c1).symm.trans hf
    refine i_iload_n hC dX9_reachedBy_37 rfl ?_
    obtain rfl := Option.some.inj hf
    exact i_iret hC dX9_reachedBy_38
  · replace hf := (if_neg c1).symm.trans hf
    refine i_iload_n hC dX9_reachedBy_14 rfl ?_
    refine i_aload_n hC dX9_reachedBy_15 rfl ?_
    refine i_iload_n hC dX9_reachedBy_16 rfl ?_
    refine i_iload_n hC dX9_reachedBy_17 rfl ?_
    obtain ⟨r2, hc2, hf⟩ := bd1_of hf
    refine i_callVi hC mv_X9_108 (c_X9_isReached hC.2.2.2.2.2.2.2.1 hc2) (pln rfl) (lay_p218) rfl rfl rfl ⟨Nat.le_of_ble_eq_true rfl, Nat.le_of_ble_eq_true rfl⟩ (Nat.le_of_ble_eq_true rfl) dX9_reachedBy_18 ?_
    refine i_if_eq hC (tgt := 28) dX9_reachedBy_21 (by decide) (fun c3 => ?_) (fun c3 => ?_)
    · replace hf := (if_pos c3).symm.trans hf
      refine i_iconst hC dX9_reachedBy_28 li_0 ?_
      exact Mj.to (b_X9_reachedBy_29 hC hih4 hf) ⟨rfl, rfl, rfl, trivial⟩
    · replace hf := (if_neg c3).symm.trans hf
      refine i_iconst hC dX9_reachedBy_24 li_1 ?_
      refine i_goto hC (tgt := 29) dX9_reachedBy_25 (by decide) ?_
      exact Mj.to (b_X9_reachedBy_29 hC hih4 hf) ⟨rfl, rfl, rfl, trivial⟩
theorem b_X9_reachedBy_4 {v : EV} {p : Program} {l : Launch} {e : Env} {s : State} {m : MethodId} {args : Array Value} {below : List Frame} {meth : Method} {c : Code} (hC : Cx v p l e s m args meth c RX9 cX9_reachedBy 4 (some .int)) {S : Mem} {x1 : Int32} {x2 : Int32} {x3 : Int32}  {r : Int32} (hf : f_X9_reachedBy_4 S x1 x2 x3 = some r) : Mj v p l e (rmF 5 98) s m args below meth c 4 (MQ below (Qc v (some (.int r)) S) args s 0 0 (eG v)) S 4 [(0, .ref (eA v (218))), (1, .int x1), (2, .int x2), (3, .int x3)] [] :=
  lp_ind (P := fun s9 : (Int32 × Int32) => Mj v p l e (rmF 5 98) s m args below meth c 4 (MQ below (Qc v (some (.int r)) S) args s 0 0 (eG v)) S 4 [(0, .ref (eA v (218))), (1, .int x1), (2, .int (s9.1)), (3, .int (s9.2))] []) (fun ih s9 hih hf => b_X9_reachedBy_4_b hC   hih hf) _ _ hf
set_option maxHeartbeats 4000000 in
set_option maxRecDepth 100000 in
theorem b_X9_reachedBy_0 {v : EV} {p : Program} {l : Launch} {e : Env} {s : State} {m : MethodId} {args : Array Value} {below : List Frame} {meth : Method} {c : Code} (hC : Cx v p l e s m args meth c RX9 cX9_reachedBy 4 (some .int)) {S : Mem} {x1 : Int32}  {r : Int32} (hf : f_X9_reachedBy_0 S x1 = some r) : Mj v p l e (rmF 5 98) s m args below meth c 4 (MQ below (Qc v (some (.int r)) S) args s 0 0 (eG v)) S 0 [(0, .ref (eA v (218))), (1, .int x1)] [] := by
  refine i_iconst hC dX9_reachedBy_0 li_0 ?_
  refine i_istore_n hC dX9_reachedBy_1 (by decide) ?_
  refine i_iconst hC dX9_reachedBy_2 li_0 ?_
  refine i_istore_n hC dX9_reachedBy_3 (by decide) ?_
  exact Mj.to (b_X9_reachedBy_4 hC  hf) ⟨rfl, rfl, rfl, rfl, trivial⟩
theorem c_X9_reachedBy {v : EV} {l : Launch} (hst : Stb v) {S : Mem} {x1 : Int32}  {r : Int32} (hf : g_X9_reachedBy S x1 = some r) : Con v l yX9_reachedBy cX9_reachedBy 4 (some .int) 5 98 [.ref (eA v (218)), .int x1] S (some (.int r)) S := con_of (by decide) hst (Nat.le_of_ble_eq_true rfl) (fun p e s m args below meth c hC => b_X9_reachedBy_0 hC  hf)
def f_X9_reaches_23 (S : Mem) (xt0 : Int32) : Option (Int32) := ck (isb xt0) (some xt0)
def f_X9_reaches_22 (S : Mem)  : Option (Int32) := f_X9_reaches_23 S (0 : Int32)
def f_X9_reaches_0 (S : Mem) (x1 : Int32) (x2 : Int32) : Option (Int32) := bd1 (g_X9_areDrivers S x1 x2) (fun r1 => (if r1 = 0 then f_X9_reaches_22 S else bd1 (g_X9_isReached S x1 x2) (fun r4 => (if r4 = 0 then f_X9_reaches_22 S else f_X9_reaches_23 S (1 : Int32)))))
def g_X9_reaches (S : Mem) (x1 : Int32) (x2 : Int32) : Option (Int32) := f_X9_reaches_0 S x1 x2
set_option maxHeartbeats 4000000 in
set_option maxRecDepth 100000 in
theorem b_X9_reaches_23 {v : EV} {p : Program} {l : Launch} {e : Env} {s : State} {m : MethodId} {args : Array Value} {below : List Frame} {meth : Method} {c : Code} (hC : Cx v p l e s m args meth c RX9 cX9_reaches 3 (some .boolean)) {S : Mem} {xt0 : Int32}  {r : Int32} (hf : f_X9_reaches_23 S xt0 = some r) : Mj v p l e (rmF 5 98) s m args below meth c 3 (MQ below (Qc v (some (.int r)) S) args s 0 0 (eG v)) S 23 [] [.int xt0] := by
  obtain ⟨k3, hf⟩ := ck_of hf
  obtain rfl := Option.some.inj hf
  exact i_zret hC dX9_reaches_23 (isb_z k3).1
set_option maxHeartbeats 4000000 in
set_option maxRecDepth 100000 in
theorem b_X9_reaches_22 {v : EV} {p : Program} {l : Launch} {e : Env} {s : State} {m : MethodId} {args : Array Value} {below : List Frame} {meth : Method} {c : Code} (hC : Cx v p l e s m args meth c RX9 cX9_reaches 3 (some .boolean)) {S : Mem}  {r : Int32} (hf : f_X9_reaches_22 S = some r) : Mj v p l e (rmF 5 98) s m args below meth c 3 (MQ below (Qc v (some (.int r)) S) args s 0 0 (eG v)) S 22 [] [] := by
  refine i_iconst hC dX9_reaches_22 li_0 ?_
  exact Mj.to (b_X9_reaches_23 hC  hf) trivial
set_option maxHeartbeats 4000000 in
set_option maxRecDepth 100000 in
theorem b_X9_reaches_0 {v : EV} {p : Program} {l : Launch} {e : Env} {s : State} {m : MethodId} {args : Array Value} {below : List Frame} {meth : Method} {c : Code} (hC : Cx v p l e s m args meth c RX9 cX9_reaches 3 (some .boolean)) {S : Mem} {x1 : Int32} {x2 : Int32}  {r : Int32} (hf : f_X9_reaches_0 S x1 x2 = some r) : Mj v p l e (rmF 5 98) s m args below meth c 3 (MQ below (Qc v (some (.int r)) S) args s 0 0 (eG v)) S 0 [(0, .ref (eA v (218))), (1, .int x1), (2, .int x2)] [] := by
  refine i_aload_n hC dX9_reaches_0 rfl ?_
  refine i_iload_n hC dX9_reaches_1 rfl ?_
  refine i_iload_n hC dX9_reaches_2 rfl ?_
  obtain ⟨r1, hc1, hf⟩ := bd1_of hf
  refine i_callVi hC mv_X9_162 (c_X9_areDrivers hC.2.2.2.2.2.2.2.1 hc1) (pln rfl) (lay_p218) rfl rfl rfl ⟨Nat.le_of_ble_eq_true rfl, Nat.le_of_ble_eq_true rfl⟩ (Nat.le_of_ble_eq_true rfl) dX9_reaches_3 ?_
  refine i_if_eq hC (tgt := 22) dX9_reaches_6 (by decide) (fun c2 => ?_) (fun c2 => ?_)
  · replace hf := (if_pos c2).symm.trans hf
    exact Mj.to (b_X9_reaches_22 hC  hf) trivial
  · replace hf := (if_neg c2).symm.trans hf
    refine i_aload_n hC dX9_reaches_9 rfl ?_
    refine i_iload_n hC dX9_reaches_10 rfl ?_
    refine i_iload_n hC dX9_reaches_11 rfl ?_
    obtain ⟨r4, hc4, hf⟩ := bd1_of hf
    refine i_callVi hC mv_X9_108 (c_X9_isReached hC.2.2.2.2.2.2.2.1 hc4) (pln rfl) (lay_p218) rfl rfl rfl ⟨Nat.le_of_ble_eq_true rfl, Nat.le_of_ble_eq_true rfl⟩ (Nat.le_of_ble_eq_true rfl) dX9_reaches_12 ?_
    refine i_if_eq hC (tgt := 22) dX9_reaches_15 (by decide) (fun c5 => ?_) (fun c5 => ?_)
    · replace hf := (if_pos c5).symm.trans hf
      exact Mj.to (b_X9_reaches_22 hC  hf) trivial
    · replace hf := (if_neg c5).symm.trans hf
      refine i_iconst hC dX9_reaches_18 li_1 ?_
      refine i_goto hC (tgt := 23) dX9_reaches_19 (by decide) ?_
      exact Mj.to (b_X9_reaches_23 hC  hf) trivial
theorem c_X9_reaches {v : EV} {l : Launch} (hst : Stb v) {S : Mem} {x1 x2 : Int32}  {r : Int32} (hf : g_X9_reaches S x1 x2 = some r) : Con v l yX9_reaches cX9_reaches 3 (some .boolean) 5 98 [.ref (eA v (218)), .int x1, .int x2] S (some (.int r)) S := con_of (by decide) hst (Nat.le_of_ble_eq_true rfl) (fun p e s m args below meth c hC => b_X9_reaches_0 hC  hf)
def f_X9_wouldVote_23 (S : Mem) (xt0 : Int32) : Option (Int32) := ck (isb xt0) (some xt0)
def f_X9_wouldVote_22 (S : Mem)  : Option (Int32) := f_X9_wouldVote_23 S (0 : Int32)
def f_X9_wouldVote_0 (S : Mem) (x1 : Int32) (x2 : Int32) : Option (Int32) := bd1 (g_X9_areDrivers S x1 x2) (fun r1 => (if r1 = 0 then f_X9_wouldVote_22 S else bd1 (g_X9_wouldGive S x1 x2) (fun r4 => (if r4 = 0 then f_X9_wouldVote_22 S else f_X9_wouldVote_23 S (1 : Int32)))))
def g_X9_wouldVote (S : Mem) (x1 : Int32) (x2 : Int32) : Option (Int32) := f_X9_wouldVote_0 S x1 x2
set_option maxHeartbeats 4000000 in
set_option maxRecDepth 100000 in
theorem b_X9_wouldVote_23 {v : EV} {p : Program} {l : Launch} {e : Env} {s : State} {m : MethodId} {args : Array Value} {below : List Frame} {meth : Method} {c : Code} (hC : Cx v p l e s m args meth c RX9 cX9_wouldVote 3 (some .boolean)) {S : Mem} {xt0 : Int32}  {r : Int32} (hf : f_X9_wouldVote_23 S xt0 = some r) : Mj v p l e (rmF 6 124) s m args below meth c 3 (MQ below (Qc v (some (.int r)) S) args s 0 0 (eG v)) S 23 [] [.int xt0] := by
  obtain ⟨k3, hf⟩ := ck_of hf
  obtain rfl := Option.some.inj hf
  exact i_zret hC dX9_wouldVote_23 (isb_z k3).1
set_option maxHeartbeats 4000000 in
set_option maxRecDepth 100000 in
theorem b_X9_wouldVote_22 {v : EV} {p : Program} {l : Launch} {e : Env} {s : State} {m : MethodId} {args : Array Value} {below : List Frame} {meth : Method} {c : Code} (hC : Cx v p l e s m args meth c RX9 cX9_wouldVote 3 (some .boolean)) {S : Mem}  {r : Int32} (hf : f_X9_wouldVote_22 S = some r) : Mj v p l e (rmF 6 124) s m args below meth c 3 (MQ below (Qc v (some (.int r)) S) args s 0 0 (eG v)) S 22 [] [] := by
  refine i_iconst hC dX9_wouldVote_22 li_0 ?_
  exact Mj.to (b_X9_wouldVote_23 hC  hf) trivial
set_option maxHeartbeats 4000000 in
set_option maxRecDepth 100000 in
theorem b_X9_wouldVote_0 {v : EV} {p : Program} {l : Launch} {e : Env} {s : State} {m : MethodId} {args : Array Value} {below : List Frame} {meth : Method} {c : Code} (hC : Cx v p l e s m args meth c RX9 cX9_wouldVote 3 (some .boolean)) {S : Mem} {x1 : Int32} {x2 : Int32}  {r : Int32} (hf : f_X9_wouldVote_0 S x1 x2 = some r) : Mj v p l e (rmF 6 124) s m args below meth c 3 (MQ below (Qc v (some (.int r)) S) args s 0 0 (eG v)) S 0 [(0, .ref (eA v (218))), (1, .int x1), (2, .int x2)] [] := by
  refine i_aload_n hC dX9_wouldVote_0 rfl ?_
  refine i_iload_n hC dX9_wouldVote_1 rfl ?_
  refine i_iload_n hC dX9_wouldVote_2 rfl ?_
  obtain ⟨r1, hc1, hf⟩ := bd1_of hf
  refine i_callVi hC mv_X9_162 (c_X9_areDrivers hC.2.2.2.2.2.2.2.1 hc1) (pln rfl) (lay_p218) rfl rfl rfl ⟨Nat.le_of_ble_eq_true rfl, Nat.le_of_ble_eq_true rfl⟩ (Nat.le_of_ble_eq_true rfl) dX9_wouldVote_3 ?_
  refine i_if_eq hC (tgt := 22) dX9_wouldVote_6 (by decide) (fun c2 => ?_) (fun c2 => ?_)
  · replace hf := (if_pos c2).symm.trans hf
    exact Mj.to (b_X9_wouldVote_22 hC  hf) trivial
  · replace hf := (if_neg c2).symm.trans hf
    refine i_aload_n hC dX9_wouldVote_9 rfl ?_
    refine i_iload_n hC dX9_wouldVote_10 rfl ?_
    refine i_iload_n hC dX9_wouldVote_11 rfl ?_
    obtain ⟨r4, hc4, hf⟩ := bd1_of hf
    refine i_callVi hC mv_X9_267 (c_X9_wouldGive hC.2.2.2.2.2.2.2.1 hc4) (pln rfl) (lay_p218) rfl rfl rfl ⟨Nat.le_of_ble_eq_true rfl, Nat.le_of_ble_eq_true rfl⟩ (Nat.le_of_ble_eq_true rfl) dX9_wouldVote_12 ?_
    refine i_if_eq hC (tgt := 22) dX9_wouldVote_15 (by decide) (fun c5 => ?_) (fun c5 => ?_)
    · replace hf := (if_pos c5).symm.trans hf
      exact Mj.to (b_X9_wouldVote_22 hC  hf) trivial
    · replace hf := (if_neg c5).symm.trans hf
      refine i_iconst hC dX9_wouldVote_18 li_1 ?_
      refine i_goto hC (tgt := 23) dX9_wouldVote_19 (by decide) ?_
      exact Mj.to (b_X9_wouldVote_23 hC  hf) trivial
theorem c_X9_wouldVote {v : EV} {l : Launch} (hst : Stb v) {S : Mem} {x1 x2 : Int32}  {r : Int32} (hf : g_X9_wouldVote S x1 x2 = some r) : Con v l yX9_wouldVote cX9_wouldVote 3 (some .boolean) 6 124 [.ref (eA v (218)), .int x1, .int x2] S (some (.int r)) S := con_of (by decide) hst (Nat.le_of_ble_eq_true rfl) (fun p e s m args below meth c hC => b_X9_wouldVote_0 hC  hf)
def f_X9_couldLead_76 (ih17 : (Int32 × Int32) → Option (Int32)) (S : Mem) (x1 : Int32) (x3 : Int32) (x4 : Int32) : Option (Int32) := ih17 (x3, (x4 + (1 : Int32)))
def f_X9_couldLead_74 (ih17 : (Int32 × Int32) → Option (Int32)) (S : Mem) (x1 : Int32) (x4 : Int32) (xt0 : Int32) (xt1 : Int32) : Option (Int32) := f_X9_couldLead_76 ih17 S x1 (xt1 + xt0) x4
def f_X9_couldLead_17_b (ih17 : (Int32 × Int32) → Option (Int32)) (S : Mem) (x1 : Int32) (x3 : Int32) (x4 : Int32) : Option (Int32) := (if (S 20 1) ≤ x4 then some x3 else bd1 (g_X9_isReached S x1 x4) (fun r4 => (if r4 = 0 then f_X9_couldLead_76 ih17 S x1 x3 x4 else bd1 (g_X9_of S x4 (1 : Int32)) (fun r6 => bd1 (g_X9_of S x1 (1 : Int32)) (fun r7 => (if r6 ≤ (r7 + (1 : Int32)) then bd1 (g_X9_wouldGive S x4 x1) (fun r9 => (if r9 = 0 then f_X9_couldLead_74 ih17 S x1 x4 (0 : Int32) x3 else f_X9_couldLead_74 ih17 S x1 x4 (1 : Int32) x3)) else some (0 : Int32)))))))
def f_X9_couldLead_17 (S : Mem) (x1 : Int32) (x3 : Int32) (x4 : Int32) : Option (Int32) := lp (fun ih17 s9 => f_X9_couldLead_17_b ih17 S x1 s9.1 s9.2) 2000 (x3, x4)
def f_X9_couldLead_0 (S : Mem) (x1 : Int32) : Option (Int32) := bd1 (g_X9_codeOfAsking S x1) (fun r1 => (if r1 = 0 then f_X9_couldLead_17 S x1 (1 : Int32) (0 : Int32) else some r1))
def g_X9_couldLead (S : Mem) (x1 : Int32) : Option (Int32) := f_X9_couldLead_0 S x1
set_option maxHeartbeats 4000000 in
set_option maxRecDepth 100000 in
theorem b_X9_couldLead_76 {v : EV} {p : Program} {l : Launch} {e : Env} {s : State} {m : MethodId} {args : Array Value} {below : List Frame} {meth : Method} {c : Code} (hC : Cx v p l e s m args meth c RX9 cX9_couldLead 5 (some .int)) {S : Mem} {x1 : Int32} {x3 : Int32} {x4 : Int32}  {r : Int32} {ih17 : (Int32 × Int32) → Option (Int32)} (hih17 : ∀ s9 : (Int32 × Int32), ih17 s9 = some r → Mj v p l e (rmF 6 124) s m args below meth c 5 (MQ below (Qc v (some (.int r)) S) args s 0 0 (eG v)) S 17 [(0, .ref (eA v (218))), (1, .int x1), (3, .int (s9.1)), (4, .int (s9.2))] []) (hf : f_X9_couldLead_76 ih17 S x1 x3 x4 = some r) : Mj v p l e (rmF 6 124) s m args below meth c 5 (MQ below (Qc v (some (.int r)) S) args s 0 0 (eG v)) S 76 [(0, .ref (eA v (218))), (1, .int x1), (3, .int x3), (4, .int x4)] [] := by
  refine i_iinc hC dX9_couldLead_76 rfl li_1 (by decide) ?_
  refine i_goto hC (tgt := 17) dX9_couldLead_79 (by decide) ?_
  exact Mj.to (hih17 _ hf) ⟨rfl, rfl, rfl, rfl, trivial⟩
set_option maxHeartbeats 4000000 in
set_option maxRecDepth 100000 in
theorem b_X9_couldLead_74 {v : EV} {p : Program} {l : Launch} {e : Env} {s : State} {m : MethodId} {args : Array Value} {below : List Frame} {meth : Method} {c : Code} (hC : Cx v p l e s m args meth c RX9 cX9_couldLead 5 (some .int)) {S : Mem} {x1 : Int32} {x4 : Int32} {xt0 : Int32} {xt1 : Int32}  {r : Int32} {ih17 : (Int32 × Int32) → Option (Int32)} (hih17 : ∀ s9 : (Int32 × Int32), ih17 s9 = some r → Mj v p l e (rmF 6 124) s m args below meth c 5 (MQ below (Qc v (some (.int r)) S) args s 0 0 (eG v)) S 17 [(0, .ref (eA v (218))), (1, .int x1), (3, .int (s9.1)), (4, .int (s9.2))] []) (hf : f_X9_couldLead_74 ih17 S x1 x4 xt0 xt1 = some r) : Mj v p l e (rmF 6 124) s m args below meth c 5 (MQ below (Qc v (some (.int r)) S) args s 0 0 (eG v)) S 74 [(0, .ref (eA v (218))), (1, .int x1), (4, .int x4)] [.int xt0, .int xt1] := by
  refine i_iadd hC dX9_couldLead_74 ?_
  refine i_istore_n hC dX9_couldLead_75 (by decide) ?_
  exact Mj.to (b_X9_couldLead_76 hC hih17 hf) ⟨rfl, rfl, rfl, rfl, trivial⟩
set_option maxHeartbeats 4000000 in
set_option maxRecDepth 100000 in
theorem b_X9_couldLead_17_b {v : EV} {p : Program} {l : Launch} {e : Env} {s : State} {m : MethodId} {args : Array Value} {below : List Frame} {meth : Method} {c : Code} (hC : Cx v p l e s m args meth c RX9 cX9_couldLead 5 (some .int)) {S : Mem} {x1 : Int32} {x3 : Int32} {x4 : Int32}  {r : Int32} {ih17 : (Int32 × Int32) → Option (Int32)} (hih17 : ∀ s9 : (Int32 × Int32), ih17 s9 = some r → Mj v p l e (rmF 6 124) s m args below meth c 5 (MQ below (Qc v (some (.int r)) S) args s 0 0 (eG v)) S 17 [(0, .ref (eA v (218))), (1, .int x1), (3, .int (s9.1)), (4, .int (s9.2))] []) (hf : f_X9_couldLead_17_b ih17 S x1 x3 x4 = some r) : Mj v p l e (rmF 6 124) s m args below meth c 5 (MQ below (Qc v (some (.int r)) S) args s 0 0 (eG v)) S 17 [(0, .ref (eA v (218))), (1, .int x1), (3, .int x3), (4, .int x4)] [] := by
  refine i_iload hC dX9_couldLead_17 rfl ?_
  refine i_aload_n hC dX9_couldLead_19 rfl ?_
  refine i_getR hC fl_X9_9 (pln rfl) (lay_p218) rfl dX9_couldLead_20 ?_
  refine i_iconst hC dX9_couldLead_23 li_1 ?_
  refine i_iald hC (j0 := 1) (pln rfl) (lay_p219) (inb_in (by decide)) (by decide) dX9_couldLead_24 ?_
  refine i_icmp_ge hC (tgt := 82) dX9_couldLead_25 (by decide) (fun c3 => ?_) (fun c3 => ?_)
  · replace hf := (if_pos c3).symm.trans hf
    refine i_iload_n hC dX9_couldLead_82 rfl ?_
    obtain rfl := Option.some.inj hf
    exact i_iret hC dX9_couldLead_83
  · replace hf := (if_neg c3).symm.trans hf
    refine i_aload_n hC dX9_couldLead_28 rfl ?_
    refine i_iload_n hC dX9_couldLead_29 rfl ?_
    refine i_iload hC dX9_couldLead_30 rfl ?_
    obtain ⟨r4, hc4, hf⟩ := bd1_of hf
    refine i_callVi hC mv_X9_108 (c_X9_isReached hC.2.2.2.2.2.2.2.1 hc4) (pln rfl) (lay_p218) rfl rfl rfl ⟨Nat.le_of_ble_eq_true rfl, Nat.le_of_ble_eq_true rfl⟩ (Nat.le_of_ble_eq_true rfl) dX9_couldLead_32 ?_
    refine i_if_eq hC (tgt := 76) dX9_couldLead_35 (by decide) (fun c5 => ?_) (fun c5 => ?_)
    · replace hf := (if_pos c5).symm.trans hf
      exact Mj.to (b_X9_couldLead_76 hC hih17 hf) ⟨rfl, rfl, rfl, rfl, trivial⟩
    · replace hf := (if_neg c5).symm.trans hf
      refine i_aload_n hC dX9_couldLead_38 rfl ?_
      refine i_iload hC dX9_couldLead_39 rfl ?_
      refine i_iconst hC dX9_couldLead_41 li_1 ?_
      obtain ⟨r6, hc6, hf⟩ := bd1_of hf
      refine i_callVi hC mv_X9_69 (c_X9_of hC.2.2.2.2.2.2.2.1 hc6) (pln rfl) (lay_p218) rfl rfl rfl ⟨Nat.le_of_ble_eq_true rfl, Nat.le_of_ble_eq_true rfl⟩ (Nat.le_of_ble_eq_true rfl) dX9_couldLead_42 ?_
      refine i_aload_n hC dX9_couldLead_45 rfl ?_
      refine i_iload_n hC dX9_couldLead_46 rfl ?_
      refine i_iconst hC dX9_couldLead_47 li_1 ?_
      obtain ⟨r7, hc7, hf⟩ := bd1_of hf
      refine i_callVi hC mv_X9_69 (c_X9_of hC.2.2.2.2.2.2.2.1 hc7) (pln rfl) (lay_p218) rfl rfl rfl ⟨Nat.le_of_ble_eq_true rfl, Nat.le_of_ble_eq_true rfl⟩ (Nat.le_of_ble_eq_true rfl) dX9_couldLead_48 ?_
      refine i_iconst hC dX9_couldLead_51 li_1 ?_
      refine i_iadd hC dX9_couldLead_52 ?_
      refine i_icmp_le hC (tgt := 58) dX9_couldLead_53 (by decide) (fun c8 => ?_) (fun c8 => ?_)
      · replace hf := (if_pos c8).symm.trans hf
        refine i_iload_n hC dX9_couldLead_58 rfl ?_
        refine i_aload_n hC dX9_couldLead_59 rfl ?_
        refine i_iload hC dX9_couldLead_60 rfl ?_
        refine i_iload_n hC dX9_couldLead_62 rfl ?_
        obtain ⟨r9, hc9, hf⟩ := bd1_of hf
        refine i_callVi hC mv_X9_267 (c_X9_wouldGive hC.2.2.2.2.2.2.2.1 hc9) (pln rfl) (lay_p218) rfl rfl rfl ⟨Nat.le_of_ble_eq_true rfl, Nat.le_of_ble_eq_true rfl⟩ (Nat.le_of_ble_eq_true rfl) dX9_couldLead_63 ?_
        refine i_if_eq hC (tgt := 73) dX9_couldLead_66 (by decide) (fun c10 => ?_) (fun c10 => ?_)
        · replace hf := (if_pos c10).symm.trans hf
          refine i_iconst hC dX9_couldLead_73 li_0 ?_
          exact Mj.to (b_X9_couldLead_74 hC hih17 hf) ⟨rfl, rfl, rfl, trivial⟩
        · replace hf := (if_neg c10).symm.trans hf
          refine i_iconst hC dX9_couldLead_69 li_1 ?_
          refine i_goto hC (tgt := 74) dX9_couldLead_70 (by decide) ?_
          exact Mj.to (b_X9_couldLead_74 hC hih17 hf) ⟨rfl, rfl, rfl, trivial⟩
      · replace hf := (if_neg c8).symm.trans hf
        refine i_iconst hC dX9_couldLead_56 li_0 ?_
        obtain rfl := Option.some.inj hf
        exact i_iret hC dX9_couldLead_57
theorem b_X9_couldLead_17 {v : EV} {p : Program} {l : Launch} {e : Env} {s : State} {m : MethodId} {args : Array Value} {below : List Frame} {meth : Method} {c : Code} (hC : Cx v p l e s m args meth c RX9 cX9_couldLead 5 (some .int)) {S : Mem} {x1 : Int32} {x3 : Int32} {x4 : Int32}  {r : Int32} (hf : f_X9_couldLead_17 S x1 x3 x4 = some r) : Mj v p l e (rmF 6 124) s m args below meth c 5 (MQ below (Qc v (some (.int r)) S) args s 0 0 (eG v)) S 17 [(0, .ref (eA v (218))), (1, .int x1), (3, .int x3), (4, .int x4)] [] :=
  lp_ind (P := fun s9 : (Int32 × Int32) => Mj v p l e (rmF 6 124) s m args below meth c 5 (MQ below (Qc v (some (.int r)) S) args s 0 0 (eG v)) S 17 [(0, .ref (eA v (218))), (1, .int x1), (3, .int (s9.1)), (4, .int (s9.2))] []) (fun ih s9 hih hf => b_X9_couldLead_17_b hC   hih hf) _ _ hf
set_option maxHeartbeats 4000000 in
set_option maxRecDepth 100000 in
theorem b_X9_couldLead_0 {v : EV} {p : Program} {l : Launch} {e : Env} {s : State} {m : MethodId} {args : Array Value} {below : List Frame} {meth : Method} {c : Code} (hC : Cx v p l e s m args meth c RX9 cX9_couldLead 5 (some .int)) {S : Mem} {x1 : Int32}  {r : Int32} (hf : f_X9_couldLead_0 S x1 = some r) : Mj v p l e (rmF 6 124) s m args below meth c 5 (MQ below (Qc v (some (.int r)) S) args s 0 0 (eG v)) S 0 [(0, .ref (eA v (218))), (1, .int x1)] [] := by
  refine i_aload_n hC dX9_couldLead_0 rfl ?_
  refine i_iload_n hC dX9_couldLead_1 rfl ?_
  obtain ⟨r1, hc1, hf⟩ := bd1_of hf
  refine i_callVi hC mv_X9_270 (c_X9_codeOfAsking hC.2.2.2.2.2.2.2.1 hc1) (pln rfl) (lay_p218) rfl rfl rfl ⟨Nat.le_of_ble_eq_true rfl, Nat.le_of_ble_eq_true rfl⟩ (Nat.le_of_ble_eq_true rfl) dX9_couldLead_2 ?_
  refine i_istore_n hC dX9_couldLead_5 (by decide) ?_
  refine i_iload_n hC dX9_couldLead_6 rfl ?_
  refine i_if_eq hC (tgt := 12) dX9_couldLead_7 (by decide) (fun c2 => ?_) (fun c2 => ?_)
  · replace hf := (if_pos c2).symm.trans hf
    refine i_iconst hC dX9_couldLead_12 li_1 ?_
    refine i_istore_n hC dX9_couldLead_13 (by decide) ?_
    refine i_iconst hC dX9_couldLead_14 li_0 ?_
    refine i_istore hC dX9_couldLead_15 (by decide) ?_
    exact Mj.to (b_X9_couldLead_17 hC  hf) ⟨rfl, rfl, rfl, rfl, trivial⟩
  · replace hf := (if_neg c2).symm.trans hf
    refine i_iload_n hC dX9_couldLead_10 rfl ?_
    obtain rfl := Option.some.inj hf
    exact i_iret hC dX9_couldLead_11
theorem c_X9_couldLead {v : EV} {l : Launch} (hst : Stb v) {S : Mem} {x1 : Int32}  {r : Int32} (hf : g_X9_couldLead S x1 = some r) : Con v l yX9_couldLead cX9_couldLead 5 (some .int) 6 124 [.ref (eA v (218)), .int x1] S (some (.int r)) S := con_of (by decide) hst (Nat.le_of_ble_eq_true rfl) (fun p e s m args below meth c hC => b_X9_couldLead_0 hC  hf)
