def f_X3_takeBack_0 (S : Mem) (d1_0 : Nat) : Option (Mem) := ck (inb ((up S 11 2 ((((S 11 2) + (8 : Int32)) - (1 : Int32)) - (((S 11 2) + (8 : Int32)) - (1 : Int32)) / (8 : Int32) * (8 : Int32))) 11 2) 8) (bd1 (g_X4_copyFrom (up S 11 2 ((((S 11 2) + (8 : Int32)) - (1 : Int32)) - (((S 11 2) + (8 : Int32)) - (1 : Int32)) / (8 : Int32) * (8 : Int32))) d1_0 ((3 + (((up S 11 2 ((((S 11 2) + (8 : Int32)) - (1 : Int32)) - (((S 11 2) + (8 : Int32)) - (1 : Int32)) / (8 : Int32) * (8 : Int32))) 11 2)).toNatClampNeg))) (fun S2 => some (up S2 11 3 ((S2 11 3) - (1 : Int32)))))
def g_X3_takeBack (S : Mem) (d1_0 : Nat) : Option (Mem) := f_X3_takeBack_0 S d1_0
set_option maxHeartbeats 4000000 in
set_option maxRecDepth 100000 in
theorem b_X3_takeBack_0 {v : EV} {p : Program} {l : Launch} {e : Env} {s : State} {m : MethodId} {args : Array Value} {below : List Frame} {meth : Method} {c : Code} (hC : Cx v p l e s m args meth c RX3 cX3_takeBack 2 none) {S : Mem} {d1_0 : Nat} (h1 : d1_0 < 11) {r : Mem} (hf : f_X3_takeBack_0 S d1_0 = some r) : Mj v p l e (rmF 4 78) s m args below meth c 2 (MQ below (Qc v (none) r) args s 0 0 (eG v)) 0 S 0 [(0, .ref (eA v (199))), (1, .ref (eA v (pR d1_0)))] [] := by
  refine i_aload_n hC dX3_takeBack_0 rfl ?_
  refine i_aload_n hC dX3_takeBack_1 rfl ?_
  refine i_getI hC fl_X3_18 (pln rfl) (lay_p199) rfl dX3_takeBack_2 ?_
  refine i_bipush hC dX3_takeBack_5 lb_8 ?_
  refine i_iadd hC dX3_takeBack_7 ?_
  refine i_iconst hC dX3_takeBack_8 li_1 ?_
  refine i_isub hC dX3_takeBack_9 ?_
  refine i_bipush hC dX3_takeBack_10 lb_8 ?_
  refine i_irem hC dX3_takeBack_12 (by decide) ?_
  refine i_putI hC fl_X3_18 (pln rfl) (lay_p199) rfl (bk_l ⟨rfl, rfl, rfl, rfl⟩) (nf_int _) dX3_takeBack_13 ?_
  refine i_aload_n hC dX3_takeBack_16 rfl ?_
  refine i_aload_n hC dX3_takeBack_17 rfl ?_
  refine i_getR hC fl_X3_11 (pln rfl) (lay_p199) rfl dX3_takeBack_18 ?_
  refine i_aload_n hC dX3_takeBack_21 rfl ?_
  refine i_getI hC fl_X3_18 (pln rfl) (lay_p199) rfl dX3_takeBack_22 ?_
  obtain ⟨k1, hf⟩ := ck_of hf
  refine i_aald hC (pln rfl) (lay_p200) (by decide) (inb_in k1) dX3_takeBack_25 ?_
  rw [show 54 + 18 * (((up S 11 2 ((((S 11 2) + (8 : Int32)) - (1 : Int32)) - (((S 11 2) + (8 : Int32)) - (1 : Int32)) / (8 : Int32) * (8 : Int32))) 11 2)).toNatClampNeg = pR (3 + (((up S 11 2 ((((S 11 2) + (8 : Int32)) - (1 : Int32)) - (((S 11 2) + (8 : Int32)) - (1 : Int32)) / (8 : Int32) * (8 : Int32))) 11 2)).toNatClampNeg) by unfold pR; omega]
  obtain ⟨S2, hc2, hf⟩ := bd1_of hf
  refine i_callVv hC mv_X3_22 (c_X4_copyFrom hC.2.2.2.2.2.2.2.1 h1 (show 3 + (((up S 11 2 ((((S 11 2) + (8 : Int32)) - (1 : Int32)) - (((S 11 2) + (8 : Int32)) - (1 : Int32)) / (8 : Int32) * (8 : Int32))) 11 2)).toNatClampNeg < 11 by have := inb_lt k1; omega) hc2) (pl_R h1) (lay_R h1) rfl rfl rfl rfl ⟨Nat.le_of_ble_eq_true rfl, Nat.le_of_ble_eq_true rfl⟩ (Nat.le_of_ble_eq_true rfl) dX3_takeBack_26 ?_
  refine i_aload_n hC dX3_takeBack_29 rfl ?_
  refine i_dup hC dX3_takeBack_30 rfl ?_
  refine i_getI hC fl_X3_26 (pln rfl) (lay_p199) rfl dX3_takeBack_31 ?_
  refine i_iconst hC dX3_takeBack_34 li_1 ?_
  refine i_isub hC dX3_takeBack_35 ?_
  refine i_putI hC fl_X3_26 (pln rfl) (lay_p199) rfl (bk_l ⟨rfl, rfl, rfl, rfl⟩) (nf_int _) dX3_takeBack_36 ?_
  obtain rfl := Option.some.inj hf
  exact i_vret hC dX3_takeBack_39
theorem c_X3_takeBack {v : EV} {l : Launch} (hst : Stb v) {S : Mem} {d1_0 : Nat} (h1 : d1_0 < 11) {r : Mem} (hf : g_X3_takeBack S d1_0 = some r) : Con v l yX3_takeBack cX3_takeBack 2 none 4 78 [.ref (eA v (199)), .ref (eA v (pR d1_0))] S (none) r := con_of (by decide) hst (Nat.le_of_ble_eq_true rfl) (fun p e s m args below meth c hC => b_X3_takeBack_0 hC h1 hf)
def f_X8_letCome_11 (S : Mem)  : Option (Int32 × Mem) := some ((-2 : Int32), S)
def f_X8_letCome_0 (S : Mem) (x1 : Int32) : Option (Int32 × Mem) := (if x1 < (1 : Int32) then f_X8_letCome_11 S else (if x1 ≤ (9 : Int32) then (if (S 0 2) ≤ 0 then (if (S 0 1) < (5 : Int32) then bd2 (g_X4_addDriver S 0 x1) (fun r5 S5 => some (r5, S5)) else bd2 (g_X8_refuse S (1 : Int32) (5 : Int32)) (fun r6 S6 => some (r6, S6))) else bd2 (g_X8_refuse S (7 : Int32) (S 0 2)) (fun r7 S7 => some (r7, S7))) else f_X8_letCome_11 S))
def g_X8_letCome (S : Mem) (x1 : Int32) : Option (Int32 × Mem) := f_X8_letCome_0 S x1
set_option maxHeartbeats 4000000 in
set_option maxRecDepth 100000 in
theorem b_X8_letCome_11 {v : EV} {p : Program} {l : Launch} {e : Env} {s : State} {m : MethodId} {args : Array Value} {below : List Frame} {meth : Method} {c : Code} (hC : Cx v p l e s m args meth c RX8 cX8_letCome 2 (some .int)) {S : Mem}  {r : Int32 × Mem} (hf : f_X8_letCome_11 S = some r) : Mj v p l e (rmF 3 56) s m args below meth c 2 (MQ below (Qc v (some (.int r.1)) r.2) args s 0 0 (eG v)) 0 S 11 [] [] := by
  refine i_bipush hC dX8_letCome_11 lb_m2 ?_
  obtain rfl := Option.some.inj hf
  exact i_iret hC dX8_letCome_13
set_option maxHeartbeats 4000000 in
set_option maxRecDepth 100000 in
theorem b_X8_letCome_0 {v : EV} {p : Program} {l : Launch} {e : Env} {s : State} {m : MethodId} {args : Array Value} {below : List Frame} {meth : Method} {c : Code} (hC : Cx v p l e s m args meth c RX8 cX8_letCome 2 (some .int)) {S : Mem} {x1 : Int32}  {r : Int32 × Mem} (hf : f_X8_letCome_0 S x1 = some r) : Mj v p l e (rmF 3 56) s m args below meth c 2 (MQ below (Qc v (some (.int r.1)) r.2) args s 0 0 (eG v)) 0 S 0 [(0, .ref (eA v (198))), (1, .int x1)] [] := by
  refine i_iload_n hC dX8_letCome_0 rfl ?_
  refine i_iconst hC dX8_letCome_1 li_1 ?_
  refine i_icmp_lt hC (tgt := 11) dX8_letCome_2 (by decide) (fun c1 => ?_) (fun c1 => ?_)
  · replace hf := (if_pos c1).symm.trans hf
    exact Mj.to (b_X8_letCome_11 hC  hf) trivial
  · replace hf := (if_neg c1).symm.trans hf
    refine i_iload_n hC dX8_letCome_5 rfl ?_
    refine i_bipush hC dX8_letCome_6 lb_9 ?_
    refine i_icmp_le hC (tgt := 14) dX8_letCome_8 (by decide) (fun c2 => ?_) (fun c2 => ?_)
    · replace hf := (if_pos c2).symm.trans hf
      refine i_aload_n hC dX8_letCome_14 rfl ?_
      refine i_getR (x := pR 0) hC fl_X8_12 (pln rfl) (lay_p198) rfl dX8_letCome_15 ?_
      refine i_getI hC fl_X8_178 (pl_R (by decide)) (lay_R (by decide)) rfl dX8_letCome_18 ?_
      refine i_if_le hC (tgt := 38) dX8_letCome_21 (by decide) (fun c3 => ?_) (fun c3 => ?_)
      · replace hf := (if_pos c3).symm.trans hf
        refine i_aload_n hC dX8_letCome_38 rfl ?_
        refine i_getR (x := pR 0) hC fl_X8_12 (pln rfl) (lay_p198) rfl dX8_letCome_39 ?_
        refine i_getI hC fl_X8_54 (pl_R (by decide)) (lay_R (by decide)) rfl dX8_letCome_42 ?_
        refine i_iconst hC dX8_letCome_45 li_5 ?_
        refine i_icmp_lt hC (tgt := 56) dX8_letCome_46 (by decide) (fun c4 => ?_) (fun c4 => ?_)
        · replace hf := (if_pos c4).symm.trans hf
          refine i_aload_n hC dX8_letCome_56 rfl ?_
          refine i_getR (x := pR 0) hC fl_X8_12 (pln rfl) (lay_p198) rfl dX8_letCome_57 ?_
          refine i_iload_n hC dX8_letCome_60 rfl ?_
          obtain ⟨r5, S5, hc5, hf⟩ := bd2_of hf
          refine i_callVi hC mv_X8_184 (c_X4_addDriver hC.2.2.2.2.2.2.2.1 (by decide) hc5) (pl_R (by decide)) (lay_R (by decide)) rfl rfl rfl rfl ⟨Nat.le_of_ble_eq_true rfl, Nat.le_of_ble_eq_true rfl⟩ (Nat.le_of_ble_eq_true rfl) dX8_letCome_61 ?_
          obtain rfl := Option.some.inj hf
          exact i_iret hC dX8_letCome_64
        · replace hf := (if_neg c4).symm.trans hf
          refine i_aload_n hC dX8_letCome_49 rfl ?_
          refine i_iconst hC dX8_letCome_50 li_1 ?_
          refine i_iconst hC dX8_letCome_51 li_5 ?_
          obtain ⟨r6, S6, hc6, hf⟩ := bd2_of hf
          refine i_callVi hC mv_X8_181 (c_X8_refuse hC.2.2.2.2.2.2.2.1 hc6) (pln rfl) (lay_p198) rfl rfl rfl rfl ⟨Nat.le_of_ble_eq_true rfl, Nat.le_of_ble_eq_true rfl⟩ (Nat.le_of_ble_eq_true rfl) dX8_letCome_52 ?_
          obtain rfl := Option.some.inj hf
          exact i_iret hC dX8_letCome_55
      · replace hf := (if_neg c3).symm.trans hf
        refine i_aload_n hC dX8_letCome_24 rfl ?_
        refine i_bipush hC dX8_letCome_25 lb_7 ?_
        refine i_aload_n hC dX8_letCome_27 rfl ?_
        refine i_getR (x := pR 0) hC fl_X8_12 (pln rfl) (lay_p198) rfl dX8_letCome_28 ?_
        refine i_getI hC fl_X8_178 (pl_R (by decide)) (lay_R (by decide)) rfl dX8_letCome_31 ?_
        obtain ⟨r7, S7, hc7, hf⟩ := bd2_of hf
        refine i_callVi hC mv_X8_181 (c_X8_refuse hC.2.2.2.2.2.2.2.1 hc7) (pln rfl) (lay_p198) rfl rfl rfl rfl ⟨Nat.le_of_ble_eq_true rfl, Nat.le_of_ble_eq_true rfl⟩ (Nat.le_of_ble_eq_true rfl) dX8_letCome_34 ?_
        obtain rfl := Option.some.inj hf
        exact i_iret hC dX8_letCome_37
    · replace hf := (if_neg c2).symm.trans hf
      exact Mj.to (b_X8_letCome_11 hC  hf) trivial
theorem c_X8_letCome {v : EV} {l : Launch} (hst : Stb v) {S : Mem} {x1 : Int32}  {r : Int32 × Mem} (hf : g_X8_letCome S x1 = some r) : Con v l yX8_letCome cX8_letCome 2 (some .int) 3 56 [.ref (eA v (198)), .int x1] S (some (.int r.1)) r.2 := con_of (by decide) hst (Nat.le_of_ble_eq_true rfl) (fun p e s m args below meth c hC => b_X8_letCome_0 hC  hf)
def f_X8_letSend_0 (S : Mem) (x1 : Int32) : Option (Int32 × Mem) := bd1 (g_X4_has S 0 x1) (fun r1 => (if r1 = 0 then some ((-1 : Int32), S) else ck (inb x1 5) ((if (S 0 (33 + 34 * (x1).toNatClampNeg + 7)) = 0 then bd2 (g_X8_refuse S (2 : Int32) x1) (fun r8 S8 => some (r8, S8)) else (if (S 0 (33 + 34 * (x1).toNatClampNeg)) = (2 : Int32) then bd2 (g_X4_sendFrom S 0 x1) (fun r6 S6 => some (r6, S6)) else bd2 (g_X8_refuse S (4 : Int32) (S 0 (33 + 34 * (x1).toNatClampNeg + 1))) (fun r7 S7 => some (r7, S7)))))))
def g_X8_letSend (S : Mem) (x1 : Int32) : Option (Int32 × Mem) := f_X8_letSend_0 S x1
set_option maxHeartbeats 4000000 in
set_option maxRecDepth 100000 in
theorem b_X8_letSend_0 {v : EV} {p : Program} {l : Launch} {e : Env} {s : State} {m : MethodId} {args : Array Value} {below : List Frame} {meth : Method} {c : Code} (hC : Cx v p l e s m args meth c RX8 cX8_letSend 3 (some .int)) {S : Mem} {x1 : Int32}  {r : Int32 × Mem} (hf : f_X8_letSend_0 S x1 = some r) : Mj v p l e (rmF 4 92) s m args below meth c 3 (MQ below (Qc v (some (.int r.1)) r.2) args s 0 0 (eG v)) 0 S 0 [(0, .ref (eA v (198))), (1, .int x1)] [] := by
  refine i_aload_n hC dX8_letSend_0 rfl ?_
  refine i_getR (x := pR 0) hC fl_X8_12 (pln rfl) (lay_p198) rfl dX8_letSend_1 ?_
  refine i_iload_n hC dX8_letSend_4 rfl ?_
  obtain ⟨r1, hc1, hf⟩ := bd1_of hf
  refine i_callVi hC mv_X8_187 (c_X4_has hC.2.2.2.2.2.2.2.1 (by decide) hc1) (pl_R (by decide)) (lay_R (by decide)) rfl rfl rfl rfl ⟨Nat.le_of_ble_eq_true rfl, Nat.le_of_ble_eq_true rfl⟩ (Nat.le_of_ble_eq_true rfl) dX8_letSend_5 ?_
  refine i_if_ne hC (tgt := 13) dX8_letSend_8 (by decide) (fun c2 => ?_) (fun c2 => ?_)
  · replace hf := (if_neg c2).symm.trans hf
    refine i_aload_n hC dX8_letSend_13 rfl ?_
    refine i_getR (x := pR 0) hC fl_X8_12 (pln rfl) (lay_p198) rfl dX8_letSend_14 ?_
    refine i_getR hC fl_X8_191 (pl_R (by decide)) (lay_R (by decide)) rfl dX8_letSend_17 ?_
    refine i_iload_n hC dX8_letSend_20 rfl ?_
    obtain ⟨k3, hf⟩ := ck_of hf
    refine i_aald hC (pl_AD (by decide)) (lay_AD (by decide)) (by decide) (inb_in k3) dX8_letSend_21 ?_
    refine i_astore_n hC dX8_letSend_22 (by decide) ?_
    refine i_aload_n hC dX8_letSend_23 rfl ?_
    refine i_getI hC fl_X8_195 (pl_D ⟨(by decide), inb_lt k3⟩) (lay_D ⟨(by decide), inb_lt k3⟩) rfl dX8_letSend_24 ?_
    refine i_if_ne hC (tgt := 37) dX8_letSend_27 (by decide) (fun c4 => ?_) (fun c4 => ?_)
    · replace hf := (if_neg c4).symm.trans hf
      refine i_aload_n hC dX8_letSend_37 rfl ?_
      refine i_getI hC fl_X8_201 (pl_D ⟨(by decide), inb_lt k3⟩) (lay_D ⟨(by decide), inb_lt k3⟩) rfl dX8_letSend_38 ?_
      refine i_iconst hC dX8_letSend_41 li_2 ?_
      refine i_icmp_eq hC (tgt := 55) dX8_letSend_42 (by decide) (fun c5 => ?_) (fun c5 => ?_)
      · replace hf := (if_pos c5).symm.trans hf
        refine i_aload_n hC dX8_letSend_55 rfl ?_
        refine i_getR (x := pR 0) hC fl_X8_12 (pln rfl) (lay_p198) rfl dX8_letSend_56 ?_
        refine i_iload_n hC dX8_letSend_59 rfl ?_
        obtain ⟨r6, S6, hc6, hf⟩ := bd2_of hf
        refine i_callVi hC mv_X8_210 (c_X4_sendFrom hC.2.2.2.2.2.2.2.1 (by decide) hc6) (pl_R (by decide)) (lay_R (by decide)) rfl rfl rfl rfl ⟨Nat.le_of_ble_eq_true rfl, Nat.le_of_ble_eq_true rfl⟩ (Nat.le_of_ble_eq_true rfl) dX8_letSend_60 ?_
        obtain rfl := Option.some.inj hf
        exact i_iret hC dX8_letSend_63
      · replace hf := (if_neg c5).symm.trans hf
        refine i_aload_n hC dX8_letSend_45 rfl ?_
        refine i_iconst hC dX8_letSend_46 li_4 ?_
        refine i_aload_n hC dX8_letSend_47 rfl ?_
        refine i_getI hC fl_X8_204 (pl_D ⟨(by decide), inb_lt k3⟩) (lay_D ⟨(by decide), inb_lt k3⟩) rfl dX8_letSend_48 ?_
        obtain ⟨r7, S7, hc7, hf⟩ := bd2_of hf
        refine i_callVi hC mv_X8_181 (c_X8_refuse hC.2.2.2.2.2.2.2.1 hc7) (pln rfl) (lay_p198) rfl rfl rfl rfl ⟨Nat.le_of_ble_eq_true rfl, Nat.le_of_ble_eq_true rfl⟩ (Nat.le_of_ble_eq_true rfl) dX8_letSend_51 ?_
        obtain rfl := Option.some.inj hf
        exact i_iret hC dX8_letSend_54
    · replace hf := (if_pos c4).symm.trans hf
      refine i_aload_n hC dX8_letSend_30 rfl ?_
      refine i_iconst hC dX8_letSend_31 li_2 ?_
      refine i_iload_n hC dX8_letSend_32 rfl ?_
      obtain ⟨r8, S8, hc8, hf⟩ := bd2_of hf
      refine i_callVi hC mv_X8_181 (c_X8_refuse hC.2.2.2.2.2.2.2.1 hc8) (pln rfl) (lay_p198) rfl rfl rfl rfl ⟨Nat.le_of_ble_eq_true rfl, Nat.le_of_ble_eq_true rfl⟩ (Nat.le_of_ble_eq_true rfl) dX8_letSend_33 ?_
      obtain rfl := Option.some.inj hf
      exact i_iret hC dX8_letSend_36
  · replace hf := (if_pos c2).symm.trans hf
    refine i_iconst hC dX8_letSend_11 li_m1 ?_
    obtain rfl := Option.some.inj hf
    exact i_iret hC dX8_letSend_12
theorem c_X8_letSend {v : EV} {l : Launch} (hst : Stb v) {S : Mem} {x1 : Int32}  {r : Int32 × Mem} (hf : g_X8_letSend S x1 = some r) : Con v l yX8_letSend cX8_letSend 3 (some .int) 4 92 [.ref (eA v (198)), .int x1] S (some (.int r.1)) r.2 := con_of (by decide) hst (Nat.le_of_ble_eq_true rfl) (fun p e s m args below meth c hC => b_X8_letSend_0 hC  hf)
def f_X8_driverOf_131 (S : Mem) (xt0 : Int32) : Option (Int32) := some xt0
def f_X8_driverOf_0 (S : Mem) (x1 : Int32) (x2 : Int32) : Option (Int32) := bd1 (g_X4_has S 0 x1) (fun r1 => (if r1 = 0 then some (-1 : Int32) else ck (inb x1 5) ((if x2 = (0 : Int32) then some (S 0 (33 + 34 * (x1).toNatClampNeg)) else if x2 = (1 : Int32) then some (S 0 (33 + 34 * (x1).toNatClampNeg + 1)) else if x2 = (2 : Int32) then some (S 0 (33 + 34 * (x1).toNatClampNeg + 2)) else if x2 = (3 : Int32) then some (S 0 (33 + 34 * (x1).toNatClampNeg + 3)) else if x2 = (4 : Int32) then some (S 0 (33 + 34 * (x1).toNatClampNeg + 4)) else if x2 = (5 : Int32) then some (S 0 (33 + 34 * (x1).toNatClampNeg + 5)) else if x2 = (6 : Int32) then some (S 0 (33 + 34 * (x1).toNatClampNeg + 6)) else if x2 = (7 : Int32) then (if (S 0 (33 + 34 * (x1).toNatClampNeg + 7)) = 0 then f_X8_driverOf_131 S (0 : Int32) else f_X8_driverOf_131 S (1 : Int32)) else if x2 = (8 : Int32) then bd1 (g_X4_countReached S 0 x1) (fun r13 => some r13) else if x2 = (9 : Int32) then some (S 0 (33 + 34 * (x1).toNatClampNeg + 8)) else if x2 = (10 : Int32) then some (S 0 (33 + 34 * (x1).toNatClampNeg + 9)) else some (-2 : Int32)))))
def g_X8_driverOf (S : Mem) (x1 : Int32) (x2 : Int32) : Option (Int32) := f_X8_driverOf_0 S x1 x2
set_option maxHeartbeats 4000000 in
set_option maxRecDepth 100000 in
theorem b_X8_driverOf_131 {v : EV} {p : Program} {l : Launch} {e : Env} {s : State} {m : MethodId} {args : Array Value} {below : List Frame} {meth : Method} {c : Code} (hC : Cx v p l e s m args meth c RX8 cX8_driverOf 4 (some .int)) {S : Mem} {xt0 : Int32}  {r : Int32} (hf : f_X8_driverOf_131 S xt0 = some r) : Mj v p l e (rmF 4 79) s m args below meth c 4 (MQ below (Qc v (some (.int r)) S) args s 0 0 (eG v)) 0 S 131 [] [.int xt0] := by
  obtain rfl := Option.some.inj hf
  exact i_iret hC dX8_driverOf_131
set_option maxHeartbeats 4000000 in
set_option maxRecDepth 100000 in
theorem b_X8_driverOf_0 {v : EV} {p : Program} {l : Launch} {e : Env} {s : State} {m : MethodId} {args : Array Value} {below : List Frame} {meth : Method} {c : Code} (hC : Cx v p l e s m args meth c RX8 cX8_driverOf 4 (some .int)) {S : Mem} {x1 : Int32} {x2 : Int32}  {r : Int32} (hf : f_X8_driverOf_0 S x1 x2 = some r) : Mj v p l e (rmF 4 79) s m args below meth c 4 (MQ below (Qc v (some (.int r)) S) args s 0 0 (eG v)) 0 S 0 [(0, .ref (eA v (198))), (1, .int x1), (2, .int x2)] [] := by
  refine i_aload_n hC dX8_driverOf_0 rfl ?_
  refine i_getR (x := pR 0) hC fl_X8_12 (pln rfl) (lay_p198) rfl dX8_driverOf_1 ?_
  refine i_iload_n hC dX8_driverOf_4 rfl ?_
  obtain ⟨r1, hc1, hf⟩ := bd1_of hf
  refine i_callVi hC mv_X8_187 (c_X4_has hC.2.2.2.2.2.2.2.1 (by decide) hc1) (pl_R (by decide)) (lay_R (by decide)) rfl rfl rfl rfl ⟨Nat.le_of_ble_eq_true rfl, Nat.le_of_ble_eq_true rfl⟩ (Nat.le_of_ble_eq_true rfl) dX8_driverOf_5 ?_
  refine i_if_ne hC (tgt := 13) dX8_driverOf_8 (by decide) (fun c2 => ?_) (fun c2 => ?_)
  · replace hf := (if_neg c2).symm.trans hf
    refine i_aload_n hC dX8_driverOf_13 rfl ?_
    refine i_getR (x := pR 0) hC fl_X8_12 (pln rfl) (lay_p198) rfl dX8_driverOf_14 ?_
    refine i_getR hC fl_X8_191 (pl_R (by decide)) (lay_R (by decide)) rfl dX8_driverOf_17 ?_
    refine i_iload_n hC dX8_driverOf_20 rfl ?_
    obtain ⟨k3, hf⟩ := ck_of hf
    refine i_aald hC (pl_AD (by decide)) (lay_AD (by decide)) (by decide) (inb_in k3) dX8_driverOf_21 ?_
    refine i_astore_n hC dX8_driverOf_22 (by decide) ?_
    refine i_iload_n hC dX8_driverOf_23 rfl ?_
    by_cases c4 : x2 = (0 : Int32)
    · replace hf := (if_pos c4).symm.trans hf
      refine i_tabIn hC (tgt := 84) dX8_driverOf_24 c4 (show ((0 : Int32)).toInt = 0 by decide) (by decide) (by decide) rfl (by decide) ?_
      refine i_aload_n hC dX8_driverOf_84 rfl ?_
      refine i_getI hC fl_X8_201 (pl_D ⟨(by decide), inb_lt k3⟩) (lay_D ⟨(by decide), inb_lt k3⟩) rfl dX8_driverOf_85 ?_
      obtain rfl := Option.some.inj hf
      exact i_iret hC dX8_driverOf_88
    replace hf := (if_neg c4).symm.trans hf
    by_cases c5 : x2 = (1 : Int32)
    · replace hf := (if_pos c5).symm.trans hf
      refine i_tabIn hC (tgt := 89) dX8_driverOf_24 c5 (show ((1 : Int32)).toInt = 1 by decide) (by decide) (by decide) rfl (by decide) ?_
      refine i_aload_n hC dX8_driverOf_89 rfl ?_
      refine i_getI hC fl_X8_204 (pl_D ⟨(by decide), inb_lt k3⟩) (lay_D ⟨(by decide), inb_lt k3⟩) rfl dX8_driverOf_90 ?_
      obtain rfl := Option.some.inj hf
      exact i_iret hC dX8_driverOf_93
    replace hf := (if_neg c5).symm.trans hf
    by_cases c6 : x2 = (2 : Int32)
    · replace hf := (if_pos c6).symm.trans hf
      refine i_tabIn hC (tgt := 94) dX8_driverOf_24 c6 (show ((2 : Int32)).toInt = 2 by decide) (by decide) (by decide) rfl (by decide) ?_
      refine i_aload_n hC dX8_driverOf_94 rfl ?_
      refine i_getI hC fl_X8_264 (pl_D ⟨(by decide), inb_lt k3⟩) (lay_D ⟨(by decide), inb_lt k3⟩) rfl dX8_driverOf_95 ?_
      obtain rfl := Option.some.inj hf
      exact i_iret hC dX8_driverOf_98
    replace hf := (if_neg c6).symm.trans hf
    by_cases c7 : x2 = (3 : Int32)
    · replace hf := (if_pos c7).symm.trans hf
      refine i_tabIn hC (tgt := 99) dX8_driverOf_24 c7 (show ((3 : Int32)).toInt = 3 by decide) (by decide) (by decide) rfl (by decide) ?_
      refine i_aload_n hC dX8_driverOf_99 rfl ?_
      refine i_getI hC fl_X8_226 (pl_D ⟨(by decide), inb_lt k3⟩) (lay_D ⟨(by decide), inb_lt k3⟩) rfl dX8_driverOf_100 ?_
      obtain rfl := Option.some.inj hf
      exact i_iret hC dX8_driverOf_103
    replace hf := (if_neg c7).symm.trans hf
    by_cases c8 : x2 = (4 : Int32)
    · replace hf := (if_pos c8).symm.trans hf
      refine i_tabIn hC (tgt := 104) dX8_driverOf_24 c8 (show ((4 : Int32)).toInt = 4 by decide) (by decide) (by decide) rfl (by decide) ?_
      refine i_aload_n hC dX8_driverOf_104 rfl ?_
      refine i_getI hC fl_X8_267 (pl_D ⟨(by decide), inb_lt k3⟩) (lay_D ⟨(by decide), inb_lt k3⟩) rfl dX8_driverOf_105 ?_
      obtain rfl := Option.some.inj hf
      exact i_iret hC dX8_driverOf_108
    replace hf := (if_neg c8).symm.trans hf
    by_cases c9 : x2 = (5 : Int32)
    · replace hf := (if_pos c9).symm.trans hf
      refine i_tabIn hC (tgt := 109) dX8_driverOf_24 c9 (show ((5 : Int32)).toInt = 5 by decide) (by decide) (by decide) rfl (by decide) ?_
      refine i_aload_n hC dX8_driverOf_109 rfl ?_
      refine i_getI hC fl_X8_213 (pl_D ⟨(by decide), inb_lt k3⟩) (lay_D ⟨(by decide), inb_lt k3⟩) rfl dX8_driverOf_110 ?_
      obtain rfl := Option.some.inj hf
      exact i_iret hC dX8_driverOf_113
    replace hf := (if_neg c9).symm.trans hf
    by_cases c10 : x2 = (6 : Int32)
    · replace hf := (if_pos c10).symm.trans hf
      refine i_tabIn hC (tgt := 114) dX8_driverOf_24 c10 (show ((6 : Int32)).toInt = 6 by decide) (by decide) (by decide) rfl (by decide) ?_
      refine i_aload_n hC dX8_driverOf_114 rfl ?_
      refine i_getI hC fl_X8_270 (pl_D ⟨(by decide), inb_lt k3⟩) (lay_D ⟨(by decide), inb_lt k3⟩) rfl dX8_driverOf_115 ?_
      obtain rfl := Option.some.inj hf
      exact i_iret hC dX8_driverOf_118
    replace hf := (if_neg c10).symm.trans hf
    by_cases c12 : x2 = (7 : Int32)
    · replace hf := (if_pos c12).symm.trans hf
      refine i_tabIn hC (tgt := 119) dX8_driverOf_24 c12 (show ((7 : Int32)).toInt = 7 by decide) (by decide) (by decide) rfl (by decide) ?_
      refine i_aload_n hC dX8_driverOf_119 rfl ?_
      refine i_getI hC fl_X8_195 (pl_D ⟨(by decide), inb_lt k3⟩) (lay_D ⟨(by decide), inb_lt k3⟩) rfl dX8_driverOf_120 ?_
      refine i_if_eq hC (tgt := 130) dX8_driverOf_123 (by decide) (fun c11 => ?_) (fun c11 => ?_)
      · replace hf := (if_pos c11).symm.trans hf
        refine i_iconst hC dX8_driverOf_130 li_0 ?_
        exact Mj.to (b_X8_driverOf_131 hC  hf) trivial
      · replace hf := (if_neg c11).symm.trans hf
        refine i_iconst hC dX8_driverOf_126 li_1 ?_
        refine i_goto hC (tgt := 131) dX8_driverOf_127 (by decide) ?_
        exact Mj.to (b_X8_driverOf_131 hC  hf) trivial
    replace hf := (if_neg c12).symm.trans hf
    by_cases c14 : x2 = (8 : Int32)
    · replace hf := (if_pos c14).symm.trans hf
      refine i_tabIn hC (tgt := 132) dX8_driverOf_24 c14 (show ((8 : Int32)).toInt = 8 by decide) (by decide) (by decide) rfl (by decide) ?_
      refine i_aload_n hC dX8_driverOf_132 rfl ?_
      refine i_getR (x := pR 0) hC fl_X8_12 (pln rfl) (lay_p198) rfl dX8_driverOf_133 ?_
      refine i_iload_n hC dX8_driverOf_136 rfl ?_
      obtain ⟨r13, hc13, hf⟩ := bd1_of hf
      refine i_callVi hC mv_X8_273 (c_X4_countReached hC.2.2.2.2.2.2.2.1 (by decide) hc13) (pl_R (by decide)) (lay_R (by decide)) rfl rfl rfl rfl ⟨Nat.le_of_ble_eq_true rfl, Nat.le_of_ble_eq_true rfl⟩ (Nat.le_of_ble_eq_true rfl) dX8_driverOf_137 ?_
      obtain rfl := Option.some.inj hf
      exact i_iret hC dX8_driverOf_140
    replace hf := (if_neg c14).symm.trans hf
    by_cases c15 : x2 = (9 : Int32)
    · replace hf := (if_pos c15).symm.trans hf
      refine i_tabIn hC (tgt := 141) dX8_driverOf_24 c15 (show ((9 : Int32)).toInt = 9 by decide) (by decide) (by decide) rfl (by decide) ?_
      refine i_aload_n hC dX8_driverOf_141 rfl ?_
      refine i_getI hC fl_X8_276 (pl_D ⟨(by decide), inb_lt k3⟩) (lay_D ⟨(by decide), inb_lt k3⟩) rfl dX8_driverOf_142 ?_
      obtain rfl := Option.some.inj hf
      exact i_iret hC dX8_driverOf_145
    replace hf := (if_neg c15).symm.trans hf
    by_cases c16 : x2 = (10 : Int32)
    · replace hf := (if_pos c16).symm.trans hf
      refine i_tabIn hC (tgt := 146) dX8_driverOf_24 c16 (show ((10 : Int32)).toInt = 10 by decide) (by decide) (by decide) rfl (by decide) ?_
      refine i_aload_n hC dX8_driverOf_146 rfl ?_
      refine i_getI hC fl_X8_279 (pl_D ⟨(by decide), inb_lt k3⟩) (lay_D ⟨(by decide), inb_lt k3⟩) rfl dX8_driverOf_147 ?_
      obtain rfl := Option.some.inj hf
      exact i_iret hC dX8_driverOf_150
    replace hf := (if_neg c16).symm.trans hf
    refine i_tabOut hC (x := x2) (tgt := 151) dX8_driverOf_24 (by
        have z4 := lv_neT c4 (show ((0 : Int32)).toInt = 0 by decide)
        have z5 := lv_neT c5 (show ((1 : Int32)).toInt = 1 by decide)
        have z6 := lv_neT c6 (show ((2 : Int32)).toInt = 2 by decide)
        have z7 := lv_neT c7 (show ((3 : Int32)).toInt = 3 by decide)
        have z8 := lv_neT c8 (show ((4 : Int32)).toInt = 4 by decide)
        have z9 := lv_neT c9 (show ((5 : Int32)).toInt = 5 by decide)
        have z10 := lv_neT c10 (show ((6 : Int32)).toInt = 6 by decide)
        have z12 := lv_neT c12 (show ((7 : Int32)).toInt = 7 by decide)
        have z14 := lv_neT c14 (show ((8 : Int32)).toInt = 8 by decide)
        have z15 := lv_neT c15 (show ((9 : Int32)).toInt = 9 by decide)
        have z16 := lv_neT c16 (show ((10 : Int32)).toInt = 10 by decide)
        omega) (by decide) ?_
    refine i_bipush hC dX8_driverOf_151 lb_m2 ?_
    obtain rfl := Option.some.inj hf
    exact i_iret hC dX8_driverOf_153
  · replace hf := (if_pos c2).symm.trans hf
    refine i_iconst hC dX8_driverOf_11 li_m1 ?_
    obtain rfl := Option.some.inj hf
    exact i_iret hC dX8_driverOf_12
theorem c_X8_driverOf {v : EV} {l : Launch} (hst : Stb v) {S : Mem} {x1 x2 : Int32}  {r : Int32} (hf : g_X8_driverOf S x1 x2 = some r) : Con v l yX8_driverOf cX8_driverOf 4 (some .int) 4 79 [.ref (eA v (198)), .int x1, .int x2] S (some (.int r)) S := con_of (by decide) hst (Nat.le_of_ble_eq_true rfl) (fun p e s m args below meth c hC => b_X8_driverOf_0 hC  hf)
def f_X8_couldLead_22 (S : Mem) (xt0 : Int32) : Option (Int32) := some xt0
def f_X8_couldLead_0 (S : Mem) (x1 : Int32) : Option (Int32) := bd1 (g_X8_codeOfAsking S x1) (fun r1 => (if 0 ≤ r1 then bd1 (g_X4_votesToGet S 0 x1) (fun r3 => f_X8_couldLead_22 S r3) else f_X8_couldLead_22 S r1))
def g_X8_couldLead (S : Mem) (x1 : Int32) : Option (Int32) := f_X8_couldLead_0 S x1
set_option maxHeartbeats 4000000 in
set_option maxRecDepth 100000 in
theorem b_X8_couldLead_22 {v : EV} {p : Program} {l : Launch} {e : Env} {s : State} {m : MethodId} {args : Array Value} {below : List Frame} {meth : Method} {c : Code} (hC : Cx v p l e s m args meth c RX8 cX8_couldLead 3 (some .int)) {S : Mem} {xt0 : Int32}  {r : Int32} (hf : f_X8_couldLead_22 S xt0 = some r) : Mj v p l e (rmF 4 84) s m args below meth c 3 (MQ below (Qc v (some (.int r)) S) args s 0 0 (eG v)) 0 S 22 [] [.int xt0] := by
  obtain rfl := Option.some.inj hf
  exact i_iret hC dX8_couldLead_22
set_option maxHeartbeats 4000000 in
set_option maxRecDepth 100000 in
theorem b_X8_couldLead_0 {v : EV} {p : Program} {l : Launch} {e : Env} {s : State} {m : MethodId} {args : Array Value} {below : List Frame} {meth : Method} {c : Code} (hC : Cx v p l e s m args meth c RX8 cX8_couldLead 3 (some .int)) {S : Mem} {x1 : Int32}  {r : Int32} (hf : f_X8_couldLead_0 S x1 = some r) : Mj v p l e (rmF 4 84) s m args below meth c 3 (MQ below (Qc v (some (.int r)) S) args s 0 0 (eG v)) 0 S 0 [(0, .ref (eA v (198))), (1, .int x1)] [] := by
  refine i_aload_n hC dX8_couldLead_0 rfl ?_
  refine i_iload_n hC dX8_couldLead_1 rfl ?_
  obtain ⟨r1, hc1, hf⟩ := bd1_of hf
  refine i_callVi hC mv_X8_301 (c_X8_codeOfAsking hC.2.2.2.2.2.2.2.1 hc1) (pln rfl) (lay_p198) rfl rfl rfl rfl ⟨Nat.le_of_ble_eq_true rfl, Nat.le_of_ble_eq_true rfl⟩ (Nat.le_of_ble_eq_true rfl) dX8_couldLead_2 ?_
  refine i_istore_n hC dX8_couldLead_5 (by decide) ?_
  refine i_iload_n hC dX8_couldLead_6 rfl ?_
  refine i_if_ge hC (tgt := 14) dX8_couldLead_7 (by decide) (fun c2 => ?_) (fun c2 => ?_)
  · replace hf := (if_pos c2).symm.trans hf
    refine i_aload_n hC dX8_couldLead_14 rfl ?_
    refine i_getR (x := pR 0) hC fl_X8_12 (pln rfl) (lay_p198) rfl dX8_couldLead_15 ?_
    refine i_iload_n hC dX8_couldLead_18 rfl ?_
    obtain ⟨r3, hc3, hf⟩ := bd1_of hf
    refine i_callVi hC mv_X8_304 (c_X4_votesToGet hC.2.2.2.2.2.2.2.1 (by decide) hc3) (pl_R (by decide)) (lay_R (by decide)) rfl rfl rfl rfl ⟨Nat.le_of_ble_eq_true rfl, Nat.le_of_ble_eq_true rfl⟩ (Nat.le_of_ble_eq_true rfl) dX8_couldLead_19 ?_
    exact Mj.to (b_X8_couldLead_22 hC  hf) trivial
  · replace hf := (if_neg c2).symm.trans hf
    refine i_iload_n hC dX8_couldLead_10 rfl ?_
    refine i_goto hC (tgt := 22) dX8_couldLead_11 (by decide) ?_
    exact Mj.to (b_X8_couldLead_22 hC  hf) trivial
theorem c_X8_couldLead {v : EV} {l : Launch} (hst : Stb v) {S : Mem} {x1 : Int32}  {r : Int32} (hf : g_X8_couldLead S x1 = some r) : Con v l yX8_couldLead cX8_couldLead 3 (some .int) 4 84 [.ref (eA v (198)), .int x1] S (some (.int r)) S := con_of (by decide) hst (Nat.le_of_ble_eq_true rfl) (fun p e s m args below meth c hC => b_X8_couldLead_0 hC  hf)
def f_X8_undo_0 (S : Mem)  : Option (Int32 × Mem) := (if (S 11 3) = 0 then some ((-4 : Int32), S) else bd1 (g_X3_takeBack S 0) (fun S2 => some ((S2 11 3), S2)))
def g_X8_undo (S : Mem)  : Option (Int32 × Mem) := f_X8_undo_0 S
set_option maxHeartbeats 4000000 in
set_option maxRecDepth 100000 in
theorem b_X8_undo_0 {v : EV} {p : Program} {l : Launch} {e : Env} {s : State} {m : MethodId} {args : Array Value} {below : List Frame} {meth : Method} {c : Code} (hC : Cx v p l e s m args meth c RX8 cX8_undo 1 (some .int)) {S : Mem}  {r : Int32 × Mem} (hf : f_X8_undo_0 S = some r) : Mj v p l e (rmF 5 99) s m args below meth c 1 (MQ below (Qc v (some (.int r.1)) r.2) args s 0 0 (eG v)) 0 S 0 [(0, .ref (eA v (198)))] [] := by
  refine i_aload_n hC dX8_undo_0 rfl ?_
  refine i_getR hC fl_X8_25 (pln rfl) (lay_p198) rfl dX8_undo_1 ?_
  refine i_getI hC fl_X8_379 (pln rfl) (lay_p199) rfl dX8_undo_4 ?_
  refine i_if_ne hC (tgt := 13) dX8_undo_7 (by decide) (fun c1 => ?_) (fun c1 => ?_)
  · replace hf := (if_neg c1).symm.trans hf
    refine i_aload_n hC dX8_undo_13 rfl ?_
    refine i_getR hC fl_X8_25 (pln rfl) (lay_p198) rfl dX8_undo_14 ?_
    refine i_aload_n hC dX8_undo_17 rfl ?_
    refine i_getR (x := pR 0) hC fl_X8_12 (pln rfl) (lay_p198) rfl dX8_undo_18 ?_
    obtain ⟨S2, hc2, hf⟩ := bd1_of hf
    refine i_callVv hC mv_X8_380 (c_X3_takeBack hC.2.2.2.2.2.2.2.1 (by decide) hc2) (pln rfl) (lay_p199) rfl rfl rfl rfl ⟨Nat.le_of_ble_eq_true rfl, Nat.le_of_ble_eq_true rfl⟩ (Nat.le_of_ble_eq_true rfl) dX8_undo_21 ?_
    refine i_aload_n hC dX8_undo_24 rfl ?_
    refine i_getR hC fl_X8_25 (pln rfl) (lay_p198) rfl dX8_undo_25 ?_
    refine i_getI hC fl_X8_379 (pln rfl) (lay_p199) rfl dX8_undo_28 ?_
    obtain rfl := Option.some.inj hf
    exact i_iret hC dX8_undo_31
  · replace hf := (if_pos c1).symm.trans hf
    refine i_bipush hC dX8_undo_10 lb_m4 ?_
    obtain rfl := Option.some.inj hf
    exact i_iret hC dX8_undo_12
theorem c_X8_undo {v : EV} {l : Launch} (hst : Stb v) {S : Mem}  {r : Int32 × Mem} (hf : g_X8_undo S = some r) : Con v l yX8_undo cX8_undo 1 (some .int) 5 99 [.ref (eA v (198))] S (some (.int r.1)) r.2 := con_of (by decide) hst (Nat.le_of_ble_eq_true rfl) (fun p e s m args below meth c hC => b_X8_undo_0 hC  hf)
def f_X8_save_0 (S : Mem)  : Option (Int32 × Mem) := bd1 (g_X4_copyFrom S 2 0) (fun S1 => some (((up S1 11 0 (1 : Int32)) 0 0), (up S1 11 0 (1 : Int32))))
def g_X8_save (S : Mem)  : Option (Int32 × Mem) := f_X8_save_0 S
set_option maxHeartbeats 4000000 in
set_option maxRecDepth 100000 in
theorem b_X8_save_0 {v : EV} {p : Program} {l : Launch} {e : Env} {s : State} {m : MethodId} {args : Array Value} {below : List Frame} {meth : Method} {c : Code} (hC : Cx v p l e s m args meth c RX8 cX8_save 1 (some .int)) {S : Mem}  {r : Int32 × Mem} (hf : f_X8_save_0 S = some r) : Mj v p l e (rmF 4 78) s m args below meth c 1 (MQ below (Qc v (some (.int r.1)) r.2) args s 0 0 (eG v)) 0 S 0 [(0, .ref (eA v (198)))] [] := by
  refine i_aload_n hC dX8_save_0 rfl ?_
  refine i_getR (x := pR 2) hC fl_X8_19 (pln rfl) (lay_p198) rfl dX8_save_1 ?_
  refine i_aload_n hC dX8_save_4 rfl ?_
  refine i_getR (x := pR 0) hC fl_X8_12 (pln rfl) (lay_p198) rfl dX8_save_5 ?_
  obtain ⟨S1, hc1, hf⟩ := bd1_of hf
  refine i_callVv hC mv_X8_113 (c_X4_copyFrom hC.2.2.2.2.2.2.2.1 (by decide) (by decide) hc1) (pl_R (by decide)) (lay_R (by decide)) rfl rfl rfl rfl ⟨Nat.le_of_ble_eq_true rfl, Nat.le_of_ble_eq_true rfl⟩ (Nat.le_of_ble_eq_true rfl) dX8_save_8 ?_
  refine i_aload_n hC dX8_save_11 rfl ?_
  refine i_iconst hC dX8_save_12 li_1 ?_
  refine i_putI hC fl_X8_383 (pln rfl) (lay_p198) rfl (bk_l ⟨rfl, rfl, rfl, rfl⟩) (isb_z (by decide)) dX8_save_13 ?_
  refine i_aload_n hC dX8_save_16 rfl ?_
  refine i_getR (x := pR 0) hC fl_X8_12 (pln rfl) (lay_p198) rfl dX8_save_17 ?_
  refine i_getI hC fl_X8_361 (pl_R (by decide)) (lay_R (by decide)) rfl dX8_save_20 ?_
  obtain rfl := Option.some.inj hf
  exact i_iret hC dX8_save_23
theorem c_X8_save {v : EV} {l : Launch} (hst : Stb v) {S : Mem}  {r : Int32 × Mem} (hf : g_X8_save S = some r) : Con v l yX8_save cX8_save 1 (some .int) 4 78 [.ref (eA v (198))] S (some (.int r.1)) r.2 := con_of (by decide) hst (Nat.le_of_ble_eq_true rfl) (fun p e s m args below meth c hC => b_X8_save_0 hC  hf)
def f_X8_restore_0 (S : Mem)  : Option (Int32 × Mem) := (if (S 11 0) = 0 then some ((-4 : Int32), S) else bd1 (g_X4_copyFrom S 0 2) (fun S2 => bd1 (g_X3_forget S2) (fun S3 => some ((S3 0 0), S3))))
def g_X8_restore (S : Mem)  : Option (Int32 × Mem) := f_X8_restore_0 S
set_option maxHeartbeats 4000000 in
set_option maxRecDepth 100000 in
theorem b_X8_restore_0 {v : EV} {p : Program} {l : Launch} {e : Env} {s : State} {m : MethodId} {args : Array Value} {below : List Frame} {meth : Method} {c : Code} (hC : Cx v p l e s m args meth c RX8 cX8_restore 1 (some .int)) {S : Mem}  {r : Int32 × Mem} (hf : f_X8_restore_0 S = some r) : Mj v p l e (rmF 4 78) s m args below meth c 1 (MQ below (Qc v (some (.int r.1)) r.2) args s 0 0 (eG v)) 0 S 0 [(0, .ref (eA v (198)))] [] := by
  refine i_aload_n hC dX8_restore_0 rfl ?_
  refine i_getI hC fl_X8_383 (pln rfl) (lay_p198) rfl dX8_restore_1 ?_
  refine i_if_ne hC (tgt := 10) dX8_restore_4 (by decide) (fun c1 => ?_) (fun c1 => ?_)
  · replace hf := (if_neg c1).symm.trans hf
    refine i_aload_n hC dX8_restore_10 rfl ?_
    refine i_getR (x := pR 0) hC fl_X8_12 (pln rfl) (lay_p198) rfl dX8_restore_11 ?_
    refine i_aload_n hC dX8_restore_14 rfl ?_
    refine i_getR (x := pR 2) hC fl_X8_19 (pln rfl) (lay_p198) rfl dX8_restore_15 ?_
    obtain ⟨S2, hc2, hf⟩ := bd1_of hf
    refine i_callVv hC mv_X8_113 (c_X4_copyFrom hC.2.2.2.2.2.2.2.1 (by decide) (by decide) hc2) (pl_R (by decide)) (lay_R (by decide)) rfl rfl rfl rfl ⟨Nat.le_of_ble_eq_true rfl, Nat.le_of_ble_eq_true rfl⟩ (Nat.le_of_ble_eq_true rfl) dX8_restore_18 ?_
    refine i_aload_n hC dX8_restore_21 rfl ?_
    refine i_getR hC fl_X8_25 (pln rfl) (lay_p198) rfl dX8_restore_22 ?_
    obtain ⟨S3, hc3, hf⟩ := bd1_of hf
    refine i_callVv hC mv_X8_60 (c_X3_forget hC.2.2.2.2.2.2.2.1 hc3) (pln rfl) (lay_p199) rfl rfl rfl rfl ⟨Nat.le_of_ble_eq_true rfl, Nat.le_of_ble_eq_true rfl⟩ (Nat.le_of_ble_eq_true rfl) dX8_restore_25 ?_
    refine i_aload_n hC dX8_restore_28 rfl ?_
    refine i_getR (x := pR 0) hC fl_X8_12 (pln rfl) (lay_p198) rfl dX8_restore_29 ?_
    refine i_getI hC fl_X8_361 (pl_R (by decide)) (lay_R (by decide)) rfl dX8_restore_32 ?_
    obtain rfl := Option.some.inj hf
    exact i_iret hC dX8_restore_35
  · replace hf := (if_pos c1).symm.trans hf
    refine i_bipush hC dX8_restore_7 lb_m4 ?_
    obtain rfl := Option.some.inj hf
    exact i_iret hC dX8_restore_9
theorem c_X8_restore {v : EV} {l : Launch} (hst : Stb v) {S : Mem}  {r : Int32 × Mem} (hf : g_X8_restore S = some r) : Con v l yX8_restore cX8_restore 1 (some .int) 4 78 [.ref (eA v (198))] S (some (.int r.1)) r.2 := con_of (by decide) hst (Nat.le_of_ble_eq_true rfl) (fun p e s m args below meth c hC => b_X8_restore_0 hC  hf)
def f_X8_reaches_39 (S : Mem) (xt0 : Int32) : Option (Int32) := ck (isb xt0) (some xt0)
def f_X8_reaches_38 (S : Mem)  : Option (Int32) := f_X8_reaches_39 S (0 : Int32)
def f_X8_reaches_0 (S : Mem) (x1 : Int32) (x2 : Int32) : Option (Int32) := bd1 (g_X4_has S 0 x1) (fun r1 => (if r1 = 0 then f_X8_reaches_38 S else bd1 (g_X4_has S 0 x2) (fun r4 => (if r4 = 0 then f_X8_reaches_38 S else bd1 (g_X4_canReach S 0 x1 x2) (fun r6 => (if r6 = 0 then f_X8_reaches_38 S else f_X8_reaches_39 S (1 : Int32)))))))
def g_X8_reaches (S : Mem) (x1 : Int32) (x2 : Int32) : Option (Int32) := f_X8_reaches_0 S x1 x2
set_option maxHeartbeats 4000000 in
set_option maxRecDepth 100000 in
theorem b_X8_reaches_39 {v : EV} {p : Program} {l : Launch} {e : Env} {s : State} {m : MethodId} {args : Array Value} {below : List Frame} {meth : Method} {c : Code} (hC : Cx v p l e s m args meth c RX8 cX8_reaches 3 (some .boolean)) {S : Mem} {xt0 : Int32}  {r : Int32} (hf : f_X8_reaches_39 S xt0 = some r) : Mj v p l e (rmF 3 56) s m args below meth c 3 (MQ below (Qc v (some (.int r)) S) args s 0 0 (eG v)) 0 S 39 [] [.int xt0] := by
  obtain ⟨k3, hf⟩ := ck_of hf
  obtain rfl := Option.some.inj hf
  exact i_zret hC dX8_reaches_39 (isb_z k3).1
set_option maxHeartbeats 4000000 in
set_option maxRecDepth 100000 in
theorem b_X8_reaches_38 {v : EV} {p : Program} {l : Launch} {e : Env} {s : State} {m : MethodId} {args : Array Value} {below : List Frame} {meth : Method} {c : Code} (hC : Cx v p l e s m args meth c RX8 cX8_reaches 3 (some .boolean)) {S : Mem}  {r : Int32} (hf : f_X8_reaches_38 S = some r) : Mj v p l e (rmF 3 56) s m args below meth c 3 (MQ below (Qc v (some (.int r)) S) args s 0 0 (eG v)) 0 S 38 [] [] := by
  refine i_iconst hC dX8_reaches_38 li_0 ?_
  exact Mj.to (b_X8_reaches_39 hC  hf) trivial
set_option maxHeartbeats 4000000 in
set_option maxRecDepth 100000 in
theorem b_X8_reaches_0 {v : EV} {p : Program} {l : Launch} {e : Env} {s : State} {m : MethodId} {args : Array Value} {below : List Frame} {meth : Method} {c : Code} (hC : Cx v p l e s m args meth c RX8 cX8_reaches 3 (some .boolean)) {S : Mem} {x1 : Int32} {x2 : Int32}  {r : Int32} (hf : f_X8_reaches_0 S x1 x2 = some r) : Mj v p l e (rmF 3 56) s m args below meth c 3 (MQ below (Qc v (some (.int r)) S) args s 0 0 (eG v)) 0 S 0 [(0, .ref (eA v (198))), (1, .int x1), (2, .int x2)] [] := by
  refine i_aload_n hC dX8_reaches_0 rfl ?_
  refine i_getR (x := pR 0) hC fl_X8_12 (pln rfl) (lay_p198) rfl dX8_reaches_1 ?_
  refine i_iload_n hC dX8_reaches_4 rfl ?_
  obtain ⟨r1, hc1, hf⟩ := bd1_of hf
  refine i_callVi hC mv_X8_187 (c_X4_has hC.2.2.2.2.2.2.2.1 (by decide) hc1) (pl_R (by decide)) (lay_R (by decide)) rfl rfl rfl rfl ⟨Nat.le_of_ble_eq_true rfl, Nat.le_of_ble_eq_true rfl⟩ (Nat.le_of_ble_eq_true rfl) dX8_reaches_5 ?_
  refine i_if_eq hC (tgt := 38) dX8_reaches_8 (by decide) (fun c2 => ?_) (fun c2 => ?_)
  · replace hf := (if_pos c2).symm.trans hf
    exact Mj.to (b_X8_reaches_38 hC  hf) trivial
  · replace hf := (if_neg c2).symm.trans hf
    refine i_aload_n hC dX8_reaches_11 rfl ?_
    refine i_getR (x := pR 0) hC fl_X8_12 (pln rfl) (lay_p198) rfl dX8_reaches_12 ?_
    refine i_iload_n hC dX8_reaches_15 rfl ?_
    obtain ⟨r4, hc4, hf⟩ := bd1_of hf
    refine i_callVi hC mv_X8_187 (c_X4_has hC.2.2.2.2.2.2.2.1 (by decide) hc4) (pl_R (by decide)) (lay_R (by decide)) rfl rfl rfl rfl ⟨Nat.le_of_ble_eq_true rfl, Nat.le_of_ble_eq_true rfl⟩ (Nat.le_of_ble_eq_true rfl) dX8_reaches_16 ?_
    refine i_if_eq hC (tgt := 38) dX8_reaches_19 (by decide) (fun c5 => ?_) (fun c5 => ?_)
    · replace hf := (if_pos c5).symm.trans hf
      exact Mj.to (b_X8_reaches_38 hC  hf) trivial
    · replace hf := (if_neg c5).symm.trans hf
      refine i_aload_n hC dX8_reaches_22 rfl ?_
      refine i_getR (x := pR 0) hC fl_X8_12 (pln rfl) (lay_p198) rfl dX8_reaches_23 ?_
      refine i_iload_n hC dX8_reaches_26 rfl ?_
      refine i_iload_n hC dX8_reaches_27 rfl ?_
      obtain ⟨r6, hc6, hf⟩ := bd1_of hf
      refine i_callVi hC mv_X8_295 (c_X4_canReach hC.2.2.2.2.2.2.2.1 (by decide) hc6) (pl_R (by decide)) (lay_R (by decide)) rfl rfl rfl rfl ⟨Nat.le_of_ble_eq_true rfl, Nat.le_of_ble_eq_true rfl⟩ (Nat.le_of_ble_eq_true rfl) dX8_reaches_28 ?_
      refine i_if_eq hC (tgt := 38) dX8_reaches_31 (by decide) (fun c7 => ?_) (fun c7 => ?_)
      · replace hf := (if_pos c7).symm.trans hf
        exact Mj.to (b_X8_reaches_38 hC  hf) trivial
      · replace hf := (if_neg c7).symm.trans hf
        refine i_iconst hC dX8_reaches_34 li_1 ?_
        refine i_goto hC (tgt := 39) dX8_reaches_35 (by decide) ?_
        exact Mj.to (b_X8_reaches_39 hC  hf) trivial
theorem c_X8_reaches {v : EV} {l : Launch} (hst : Stb v) {S : Mem} {x1 x2 : Int32}  {r : Int32} (hf : g_X8_reaches S x1 x2 = some r) : Con v l yX8_reaches cX8_reaches 3 (some .boolean) 3 56 [.ref (eA v (198)), .int x1, .int x2] S (some (.int r)) S := con_of (by decide) hst (Nat.le_of_ble_eq_true rfl) (fun p e s m args below meth c hC => b_X8_reaches_0 hC  hf)
def f_X4_gatherVotes_118 (S : Mem) (x3 : Int32) : Option (Int32 × Mem) := some (x3, S)
def f_X4_gatherVotes_79 (ih18 : (Mem × Int32 × Int32) → Option (Int32 × Mem)) (S : Mem) (d0_0 : Nat) (x1 : Int32) (d2_0 : Nat) (d2_1 : Nat) (x3 : Int32) (x4 : Int32) : Option (Int32 × Mem) := ih18 (S, x3, (x4 + (1 : Int32)))
def f_X4_gatherVotes_18_b (ih18 : (Mem × Int32 × Int32) → Option (Int32 × Mem)) (S : Mem) (d0_0 : Nat) (x1 : Int32) (d2_0 : Nat) (d2_1 : Nat) (x3 : Int32) (x4 : Int32) : Option (Int32 × Mem) := (if (S d0_0 1) ≤ x4 then bd1 (g_X4_isMajority S d0_0 x3) (fun r4 => (if r4 = 0 then f_X4_gatherVotes_118 S x3 else f_X4_gatherVotes_118 (up (up (up S d2_0 (33 + 34 * d2_1) (2 : Int32)) d2_0 (33 + 34 * d2_1 + 9) (((up S d2_0 (33 + 34 * d2_1) (2 : Int32)) d2_0 (33 + 34 * d2_1 + 9)) + (1 : Int32))) d0_0 3 (((up (up S d2_0 (33 + 34 * d2_1) (2 : Int32)) d2_0 (33 + 34 * d2_1 + 9) (((up S d2_0 (33 + 34 * d2_1) (2 : Int32)) d2_0 (33 + 34 * d2_1 + 9)) + (1 : Int32))) d0_0 3) + (1 : Int32))) x3)) else bd1 (g_X4_canReach S d0_0 x1 x4) (fun r6 => (if r6 = 0 then f_X4_gatherVotes_79 ih18 S d0_0 x1 d2_0 d2_1 x3 x4 else ck (inb x4 5) ((if (S d0_0 (33 + 34 * (x4).toNatClampNeg + 1)) ≤ (S d2_0 (33 + 34 * d2_1 + 1)) then bd2 (g_X4_letVote S d0_0 d0_0 (x4).toNatClampNeg x1) (fun r10 S10 => f_X4_gatherVotes_79 ih18 S10 d0_0 x1 d2_0 d2_1 (x3 + r10) x4) else bd1 (g_X2_takeOver S d2_0 d2_1 (S d0_0 (33 + 34 * (x4).toNatClampNeg + 1))) (fun S11 => some ((0 : Int32), S11)))))))
def f_X4_gatherVotes_18 (S : Mem) (d0_0 : Nat) (x1 : Int32) (d2_0 : Nat) (d2_1 : Nat) (x3 : Int32) (x4 : Int32) : Option (Int32 × Mem) := lp (fun ih18 s9 => f_X4_gatherVotes_18_b ih18 s9.1 d0_0 x1 d2_0 d2_1 s9.2.1 s9.2.2) 2000 (S, x3, x4)
def f_X4_gatherVotes_0 (S : Mem) (d0_0 : Nat) (x1 : Int32) : Option (Int32 × Mem) := ck (inb x1 5) (bd1 (g_X4_beginAsking S d0_0 d0_0 (x1).toNatClampNeg x1) (fun S2 => f_X4_gatherVotes_18 S2 d0_0 x1 d0_0 (x1).toNatClampNeg (1 : Int32) (0 : Int32)))
def g_X4_gatherVotes (S : Mem) (d0_0 : Nat) (x1 : Int32) : Option (Int32 × Mem) := f_X4_gatherVotes_0 S d0_0 x1
set_option maxHeartbeats 4000000 in
set_option maxRecDepth 100000 in
theorem b_X4_gatherVotes_118 {v : EV} {p : Program} {l : Launch} {e : Env} {s : State} {m : MethodId} {args : Array Value} {below : List Frame} {meth : Method} {c : Code} (hC : Cx v p l e s m args meth c RX4 cX4_gatherVotes 6 (some .int)) {S : Mem} {x3 : Int32}  {r : Int32 × Mem} (hf : f_X4_gatherVotes_118 S x3 = some r) : Mj v p l e (rmF 3 59) s m args below meth c 6 (MQ below (Qc v (some (.int r.1)) r.2) args s 0 0 (eG v)) 0 S 118 [(3, .int x3)] [] := by
  refine i_iload_n hC dX4_gatherVotes_118 rfl ?_
  obtain rfl := Option.some.inj hf
  exact i_iret hC dX4_gatherVotes_119
set_option maxHeartbeats 4000000 in
set_option maxRecDepth 100000 in
theorem b_X4_gatherVotes_79 {v : EV} {p : Program} {l : Launch} {e : Env} {s : State} {m : MethodId} {args : Array Value} {below : List Frame} {meth : Method} {c : Code} (hC : Cx v p l e s m args meth c RX4 cX4_gatherVotes 6 (some .int)) {S : Mem} {d0_0 : Nat} {x1 : Int32} {d2_0 : Nat} {d2_1 : Nat} {x3 : Int32} {x4 : Int32} (h0 : d0_0 < 11) (h2 : d2_0 < 11 ∧ d2_1 < 5) {r : Int32 × Mem} {ih18 : (Mem × Int32 × Int32) → Option (Int32 × Mem)} (hih18 : ∀ s9 : (Mem × Int32 × Int32), ih18 s9 = some r → Mj v p l e (rmF 3 59) s m args below meth c 6 (MQ below (Qc v (some (.int r.1)) r.2) args s 0 0 (eG v)) 0 s9.1 18 [(0, .ref (eA v (pR d0_0))), (1, .int x1), (2, .ref (eA v (pD d2_0 d2_1))), (3, .int (s9.2.1)), (4, .int (s9.2.2))] []) (hf : f_X4_gatherVotes_79 ih18 S d0_0 x1 d2_0 d2_1 x3 x4 = some r) : Mj v p l e (rmF 3 59) s m args below meth c 6 (MQ below (Qc v (some (.int r.1)) r.2) args s 0 0 (eG v)) 0 S 79 [(0, .ref (eA v (pR d0_0))), (1, .int x1), (2, .ref (eA v (pD d2_0 d2_1))), (3, .int x3), (4, .int x4)] [] := by
  refine i_iinc hC dX4_gatherVotes_79 rfl li_1 (by decide) ?_
  refine i_goto hC (tgt := 18) dX4_gatherVotes_82 (by decide) ?_
  exact Mj.to (hih18 _ hf) ⟨rfl, rfl, rfl, rfl, rfl, trivial⟩
set_option maxHeartbeats 4000000 in
set_option maxRecDepth 100000 in
theorem b_X4_gatherVotes_18_b {v : EV} {p : Program} {l : Launch} {e : Env} {s : State} {m : MethodId} {args : Array Value} {below : List Frame} {meth : Method} {c : Code} (hC : Cx v p l e s m args meth c RX4 cX4_gatherVotes 6 (some .int)) {S : Mem} {d0_0 : Nat} {x1 : Int32} {d2_0 : Nat} {d2_1 : Nat} {x3 : Int32} {x4 : Int32} (h0 : d0_0 < 11) (h2 : d2_0 < 11 ∧ d2_1 < 5) {r : Int32 × Mem} {ih18 : (Mem × Int32 × Int32) → Option (Int32 × Mem)} (hih18 : ∀ s9 : (Mem × Int32 × Int32), ih18 s9 = some r → Mj v p l e (rmF 3 59) s m args below meth c 6 (MQ below (Qc v (some (.int r.1)) r.2) args s 0 0 (eG v)) 0 s9.1 18 [(0, .ref (eA v (pR d0_0))), (1, .int x1), (2, .ref (eA v (pD d2_0 d2_1))), (3, .int (s9.2.1)), (4, .int (s9.2.2))] []) (hf : f_X4_gatherVotes_18_b ih18 S d0_0 x1 d2_0 d2_1 x3 x4 = some r) : Mj v p l e (rmF 3 59) s m args below meth c 6 (MQ below (Qc v (some (.int r.1)) r.2) args s 0 0 (eG v)) 0 S 18 [(0, .ref (eA v (pR d0_0))), (1, .int x1), (2, .ref (eA v (pD d2_0 d2_1))), (3, .int x3), (4, .int x4)] [] := by
  refine i_iload hC dX4_gatherVotes_18 rfl ?_
  refine i_aload_n hC dX4_gatherVotes_20 rfl ?_
  refine i_getI hC fl_X4_22 (pl_R h0) (lay_R h0) rfl dX4_gatherVotes_21 ?_
  refine i_icmp_ge hC (tgt := 85) dX4_gatherVotes_24 (by decide) (fun c3 => ?_) (fun c3 => ?_)
  · replace hf := (if_pos c3).symm.trans hf
    refine i_aload_n hC dX4_gatherVotes_85 rfl ?_
    refine i_iload_n hC dX4_gatherVotes_86 rfl ?_
    obtain ⟨r4, hc4, hf⟩ := bd1_of hf
    refine i_callVi hC mv_X4_87 (c_X4_isMajority hC.2.2.2.2.2.2.2.1 h0 hc4) (pl_R h0) (lay_R h0) rfl rfl rfl rfl ⟨Nat.le_of_ble_eq_true rfl, Nat.le_of_ble_eq_true rfl⟩ (Nat.le_of_ble_eq_true rfl) dX4_gatherVotes_87 ?_
    refine i_if_eq hC (tgt := 118) dX4_gatherVotes_90 (by decide) (fun c5 => ?_) (fun c5 => ?_)
    · replace hf := (if_pos c5).symm.trans hf
      exact Mj.to (b_X4_gatherVotes_118 hC  hf) ⟨rfl, trivial⟩
    · replace hf := (if_neg c5).symm.trans hf
      refine i_aload_n hC dX4_gatherVotes_93 rfl ?_
      refine i_iconst hC dX4_gatherVotes_94 li_2 ?_
      refine i_putI hC fl_X4_90 (pl_D h2) (lay_D h2) rfl (bk_k (h2).1) (nf_int _) dX4_gatherVotes_95 ?_
      refine i_aload_n hC dX4_gatherVotes_98 rfl ?_
      refine i_dup hC dX4_gatherVotes_99 rfl ?_
      refine i_getI hC fl_X4_93 (pl_D h2) (lay_D h2) rfl dX4_gatherVotes_100 ?_
      refine i_iconst hC dX4_gatherVotes_103 li_1 ?_
      refine i_iadd hC dX4_gatherVotes_104 ?_
      refine i_putI hC fl_X4_93 (pl_D h2) (lay_D h2) rfl (bk_k (h2).1) (nf_int _) dX4_gatherVotes_105 ?_
      refine i_aload_n hC dX4_gatherVotes_108 rfl ?_
      refine i_dup hC dX4_gatherVotes_109 rfl ?_
      refine i_getI hC fl_X4_32 (pl_R h0) (lay_R h0) rfl dX4_gatherVotes_110 ?_
      refine i_iconst hC dX4_gatherVotes_113 li_1 ?_
      refine i_iadd hC dX4_gatherVotes_114 ?_
      refine i_putI hC fl_X4_32 (pl_R h0) (lay_R h0) rfl (bk_k h0) (nf_int _) dX4_gatherVotes_115 ?_
      exact Mj.to (b_X4_gatherVotes_118 hC  hf) ⟨rfl, trivial⟩
  · replace hf := (if_neg c3).symm.trans hf
    refine i_aload_n hC dX4_gatherVotes_27 rfl ?_
    refine i_iload_n hC dX4_gatherVotes_28 rfl ?_
    refine i_iload hC dX4_gatherVotes_29 rfl ?_
    obtain ⟨r6, hc6, hf⟩ := bd1_of hf
    refine i_callVi hC mv_X4_70 (c_X4_canReach hC.2.2.2.2.2.2.2.1 h0 hc6) (pl_R h0) (lay_R h0) rfl rfl rfl rfl ⟨Nat.le_of_ble_eq_true rfl, Nat.le_of_ble_eq_true rfl⟩ (Nat.le_of_ble_eq_true rfl) dX4_gatherVotes_31 ?_
    refine i_if_eq hC (tgt := 79) dX4_gatherVotes_34 (by decide) (fun c7 => ?_) (fun c7 => ?_)
    · replace hf := (if_pos c7).symm.trans hf
      exact Mj.to (b_X4_gatherVotes_79 hC h0 h2 hih18 hf) ⟨rfl, rfl, rfl, rfl, rfl, trivial⟩
    · replace hf := (if_neg c7).symm.trans hf
      refine i_aload_n hC dX4_gatherVotes_37 rfl ?_
      refine i_getR hC fl_X4_11 (pl_R h0) (lay_R h0) rfl dX4_gatherVotes_38 ?_
      refine i_iload hC dX4_gatherVotes_41 rfl ?_
      obtain ⟨k8, hf⟩ := ck_of hf
      refine i_aald hC (pl_AD h0) (lay_AD h0) (by decide) (inb_in k8) dX4_gatherVotes_43 ?_
      refine i_astore hC dX4_gatherVotes_44 (by decide) ?_
      refine i_aload hC dX4_gatherVotes_46 rfl ?_
      refine i_getI hC fl_X4_77 (pl_D ⟨h0, inb_lt k8⟩) (lay_D ⟨h0, inb_lt k8⟩) rfl dX4_gatherVotes_48 ?_
      refine i_aload_n hC dX4_gatherVotes_51 rfl ?_
      refine i_getI hC fl_X4_77 (pl_D h2) (lay_D h2) rfl dX4_gatherVotes_52 ?_
      refine i_icmp_le hC (tgt := 69) dX4_gatherVotes_55 (by decide) (fun c9 => ?_) (fun c9 => ?_)
      · replace hf := (if_pos c9).symm.trans hf
        refine i_iload_n hC dX4_gatherVotes_69 rfl ?_
        refine i_aload_n hC dX4_gatherVotes_70 rfl ?_
        refine i_aload hC dX4_gatherVotes_71 rfl ?_
        refine i_iload_n hC dX4_gatherVotes_73 rfl ?_
        obtain ⟨r10, S10, hc10, hf⟩ := bd2_of hf
        refine i_callVi hC mv_X4_83 (c_X4_letVote hC.2.2.2.2.2.2.2.1 h0 ⟨h0, inb_lt k8⟩ hc10) (pl_R h0) (lay_R h0) rfl rfl rfl rfl ⟨Nat.le_of_ble_eq_true rfl, Nat.le_of_ble_eq_true rfl⟩ (Nat.le_of_ble_eq_true rfl) dX4_gatherVotes_74 ?_
        refine i_iadd hC dX4_gatherVotes_77 ?_
        refine i_istore_n hC dX4_gatherVotes_78 (by decide) ?_
        exact Mj.to (b_X4_gatherVotes_79 hC h0 h2 hih18 hf) ⟨rfl, rfl, rfl, rfl, rfl, trivial⟩
      · replace hf := (if_neg c9).symm.trans hf
        refine i_aload_n hC dX4_gatherVotes_58 rfl ?_
        refine i_aload hC dX4_gatherVotes_59 rfl ?_
        refine i_getI hC fl_X4_77 (pl_D ⟨h0, inb_lt k8⟩) (lay_D ⟨h0, inb_lt k8⟩) rfl dX4_gatherVotes_61 ?_
        obtain ⟨S11, hc11, hf⟩ := bd1_of hf
        refine i_callVv hC mv_X4_80 (c_X2_takeOver hC.2.2.2.2.2.2.2.1 h2 hc11) (pl_D h2) (lay_D h2) rfl rfl rfl rfl ⟨Nat.le_of_ble_eq_true rfl, Nat.le_of_ble_eq_true rfl⟩ (Nat.le_of_ble_eq_true rfl) dX4_gatherVotes_64 ?_
        refine i_iconst hC dX4_gatherVotes_67 li_0 ?_
        obtain rfl := Option.some.inj hf
        exact i_iret hC dX4_gatherVotes_68
theorem b_X4_gatherVotes_18 {v : EV} {p : Program} {l : Launch} {e : Env} {s : State} {m : MethodId} {args : Array Value} {below : List Frame} {meth : Method} {c : Code} (hC : Cx v p l e s m args meth c RX4 cX4_gatherVotes 6 (some .int)) {S : Mem} {d0_0 : Nat} {x1 : Int32} {d2_0 : Nat} {d2_1 : Nat} {x3 : Int32} {x4 : Int32} (h0 : d0_0 < 11) (h2 : d2_0 < 11 ∧ d2_1 < 5) {r : Int32 × Mem} (hf : f_X4_gatherVotes_18 S d0_0 x1 d2_0 d2_1 x3 x4 = some r) : Mj v p l e (rmF 3 59) s m args below meth c 6 (MQ below (Qc v (some (.int r.1)) r.2) args s 0 0 (eG v)) 0 S 18 [(0, .ref (eA v (pR d0_0))), (1, .int x1), (2, .ref (eA v (pD d2_0 d2_1))), (3, .int x3), (4, .int x4)] [] :=
  lp_ind (P := fun s9 : (Mem × Int32 × Int32) => Mj v p l e (rmF 3 59) s m args below meth c 6 (MQ below (Qc v (some (.int r.1)) r.2) args s 0 0 (eG v)) 0 s9.1 18 [(0, .ref (eA v (pR d0_0))), (1, .int x1), (2, .ref (eA v (pD d2_0 d2_1))), (3, .int (s9.2.1)), (4, .int (s9.2.2))] []) (fun ih s9 hih hf => b_X4_gatherVotes_18_b hC h0 h2  hih hf) _ _ hf
set_option maxHeartbeats 4000000 in
set_option maxRecDepth 100000 in
theorem b_X4_gatherVotes_0 {v : EV} {p : Program} {l : Launch} {e : Env} {s : State} {m : MethodId} {args : Array Value} {below : List Frame} {meth : Method} {c : Code} (hC : Cx v p l e s m args meth c RX4 cX4_gatherVotes 6 (some .int)) {S : Mem} {d0_0 : Nat} {x1 : Int32} (h0 : d0_0 < 11) {r : Int32 × Mem} (hf : f_X4_gatherVotes_0 S d0_0 x1 = some r) : Mj v p l e (rmF 3 59) s m args below meth c 6 (MQ below (Qc v (some (.int r.1)) r.2) args s 0 0 (eG v)) 0 S 0 [(0, .ref (eA v (pR d0_0))), (1, .int x1)] [] := by
  refine i_aload_n hC dX4_gatherVotes_0 rfl ?_
  refine i_getR hC fl_X4_11 (pl_R h0) (lay_R h0) rfl dX4_gatherVotes_1 ?_
  refine i_iload_n hC dX4_gatherVotes_4 rfl ?_
  obtain ⟨k1, hf⟩ := ck_of hf
  refine i_aald hC (pl_AD h0) (lay_AD h0) (by decide) (inb_in k1) dX4_gatherVotes_5 ?_
  refine i_astore_n hC dX4_gatherVotes_6 (by decide) ?_
  refine i_aload_n hC dX4_gatherVotes_7 rfl ?_
  refine i_aload_n hC dX4_gatherVotes_8 rfl ?_
  refine i_iload_n hC dX4_gatherVotes_9 rfl ?_
  obtain ⟨S2, hc2, hf⟩ := bd1_of hf
  refine i_callVv hC mv_X4_73 (c_X4_beginAsking hC.2.2.2.2.2.2.2.1 h0 ⟨h0, inb_lt k1⟩ hc2) (pl_R h0) (lay_R h0) rfl rfl rfl rfl ⟨Nat.le_of_ble_eq_true rfl, Nat.le_of_ble_eq_true rfl⟩ (Nat.le_of_ble_eq_true rfl) dX4_gatherVotes_10 ?_
  refine i_iconst hC dX4_gatherVotes_13 li_1 ?_
  refine i_istore_n hC dX4_gatherVotes_14 (by decide) ?_
  refine i_iconst hC dX4_gatherVotes_15 li_0 ?_
  refine i_istore hC dX4_gatherVotes_16 (by decide) ?_
  exact Mj.to (b_X4_gatherVotes_18 hC h0 ⟨h0, inb_lt k1⟩ hf) ⟨rfl, rfl, rfl, rfl, rfl, trivial⟩
theorem c_X4_gatherVotes {v : EV} {l : Launch} (hst : Stb v) {S : Mem} {d0_0 : Nat} {x1 : Int32} (h0 : d0_0 < 11) {r : Int32 × Mem} (hf : g_X4_gatherVotes S d0_0 x1 = some r) : Con v l yX4_gatherVotes cX4_gatherVotes 6 (some .int) 3 59 [.ref (eA v (pR d0_0)), .int x1] S (some (.int r.1)) r.2 := con_of (by decide) hst (Nat.le_of_ble_eq_true rfl) (fun p e s m args below meth c hC => b_X4_gatherVotes_0 hC h0 hf)
def f_X4_passBeats_67 (ih7 : (Mem × Int32) → Option (Int32 × Mem)) (ih15 : (Mem × Int32) → Option (Int32 × Mem)) (S : Mem) (d0_0 : Nat) (x1 : Int32) (x2 : Int32) (x3 : Int32) (x4 : Int32) : Option (Int32 × Mem) := ih15 (S, (x4 + (1 : Int32)))
def f_X4_passBeats_15_b (ih7 : (Mem × Int32) → Option (Int32 × Mem)) (ih15 : (Mem × Int32) → Option (Int32 × Mem)) (S : Mem) (d0_0 : Nat) (x1 : Int32) (x2 : Int32) (x3 : Int32) (x4 : Int32) : Option (Int32 × Mem) := (if (S d0_0 1) ≤ x4 then ih7 ((up S d0_0 0 ((S d0_0 0) + (1 : Int32))), (x3 + (1 : Int32))) else ck (inb x4 5) (bd1 (g_X2_isLeading S d0_0 (x4).toNatClampNeg) (fun r4 => (if r4 = 0 then ck (inb x4 5) (bd2 (g_X2_waitBeat S d0_0 (x4).toNatClampNeg) (fun r7 S7 => (if r7 = 0 then f_X4_passBeats_67 ih7 ih15 S7 d0_0 x1 x2 x3 x4 else bd2 (g_X4_gatherVotes S7 d0_0 x4) (fun r9 S9 => f_X4_passBeats_67 ih7 ih15 S9 d0_0 x1 x2 x3 x4)))) else bd2 (g_X4_sendFrom S d0_0 x4) (fun r10 S10 => f_X4_passBeats_67 ih7 ih15 S10 d0_0 x1 x2 x3 x4)))))
def f_X4_passBeats_15 (ih7 : (Mem × Int32) → Option (Int32 × Mem)) (S : Mem) (d0_0 : Nat) (x1 : Int32) (x2 : Int32) (x3 : Int32) (x4 : Int32) : Option (Int32 × Mem) := lp (fun ih15 s9 => f_X4_passBeats_15_b ih7 ih15 s9.1 d0_0 x1 x2 x3 s9.2) 2000 (S, x4)
def f_X4_passBeats_7_b (ih7 : (Mem × Int32) → Option (Int32 × Mem)) (S : Mem) (d0_0 : Nat) (x1 : Int32) (x2 : Int32) (x3 : Int32) : Option (Int32 × Mem) := (if x1 ≤ x3 then some (((S d0_0 2) - x2), S) else f_X4_passBeats_15 ih7 S d0_0 x1 x2 x3 (0 : Int32))
def f_X4_passBeats_7 (S : Mem) (d0_0 : Nat) (x1 : Int32) (x2 : Int32) (x3 : Int32) : Option (Int32 × Mem) := lp (fun ih7 s9 => f_X4_passBeats_7_b ih7 s9.1 d0_0 x1 x2 s9.2) 2000 (S, x3)
def f_X4_passBeats_0 (S : Mem) (d0_0 : Nat) (x1 : Int32) : Option (Int32 × Mem) := f_X4_passBeats_7 S d0_0 x1 (S d0_0 2) (0 : Int32)
def g_X4_passBeats (S : Mem) (d0_0 : Nat) (x1 : Int32) : Option (Int32 × Mem) := f_X4_passBeats_0 S d0_0 x1
set_option maxHeartbeats 4000000 in
set_option maxRecDepth 100000 in
theorem b_X4_passBeats_67 {v : EV} {p : Program} {l : Launch} {e : Env} {s : State} {m : MethodId} {args : Array Value} {below : List Frame} {meth : Method} {c : Code} (hC : Cx v p l e s m args meth c RX4 cX4_passBeats 5 (some .int)) {S : Mem} {d0_0 : Nat} {x1 : Int32} {x2 : Int32} {x3 : Int32} {x4 : Int32} (h0 : d0_0 < 11) {r : Int32 × Mem} {ih7 : (Mem × Int32) → Option (Int32 × Mem)} (hih7 : ∀ s9 : (Mem × Int32), ih7 s9 = some r → Mj v p l e (rmF 4 92) s m args below meth c 5 (MQ below (Qc v (some (.int r.1)) r.2) args s 0 0 (eG v)) 0 s9.1 7 [(0, .ref (eA v (pR d0_0))), (1, .int x1), (2, .int x2), (3, .int (s9.2))] []) {ih15 : (Mem × Int32) → Option (Int32 × Mem)} (hih15 : ∀ s9 : (Mem × Int32), ih15 s9 = some r → Mj v p l e (rmF 4 92) s m args below meth c 5 (MQ below (Qc v (some (.int r.1)) r.2) args s 0 0 (eG v)) 0 s9.1 15 [(0, .ref (eA v (pR d0_0))), (1, .int x1), (2, .int x2), (3, .int x3), (4, .int (s9.2))] []) (hf : f_X4_passBeats_67 ih7 ih15 S d0_0 x1 x2 x3 x4 = some r) : Mj v p l e (rmF 4 92) s m args below meth c 5 (MQ below (Qc v (some (.int r.1)) r.2) args s 0 0 (eG v)) 0 S 67 [(0, .ref (eA v (pR d0_0))), (1, .int x1), (2, .int x2), (3, .int x3), (4, .int x4)] [] := by
  refine i_iinc hC dX4_passBeats_67 rfl li_1 (by decide) ?_
  refine i_goto hC (tgt := 15) dX4_passBeats_70 (by decide) ?_
  exact Mj.to (hih15 _ hf) ⟨rfl, rfl, rfl, rfl, rfl, trivial⟩
set_option maxHeartbeats 4000000 in
set_option maxRecDepth 100000 in
theorem b_X4_passBeats_15_b {v : EV} {p : Program} {l : Launch} {e : Env} {s : State} {m : MethodId} {args : Array Value} {below : List Frame} {meth : Method} {c : Code} (hC : Cx v p l e s m args meth c RX4 cX4_passBeats 5 (some .int)) {S : Mem} {d0_0 : Nat} {x1 : Int32} {x2 : Int32} {x3 : Int32} {x4 : Int32} (h0 : d0_0 < 11) {r : Int32 × Mem} {ih7 : (Mem × Int32) → Option (Int32 × Mem)} (hih7 : ∀ s9 : (Mem × Int32), ih7 s9 = some r → Mj v p l e (rmF 4 92) s m args below meth c 5 (MQ below (Qc v (some (.int r.1)) r.2) args s 0 0 (eG v)) 0 s9.1 7 [(0, .ref (eA v (pR d0_0))), (1, .int x1), (2, .int x2), (3, .int (s9.2))] []) {ih15 : (Mem × Int32) → Option (Int32 × Mem)} (hih15 : ∀ s9 : (Mem × Int32), ih15 s9 = some r → Mj v p l e (rmF 4 92) s m args below meth c 5 (MQ below (Qc v (some (.int r.1)) r.2) args s 0 0 (eG v)) 0 s9.1 15 [(0, .ref (eA v (pR d0_0))), (1, .int x1), (2, .int x2), (3, .int x3), (4, .int (s9.2))] []) (hf : f_X4_passBeats_15_b ih7 ih15 S d0_0 x1 x2 x3 x4 = some r) : Mj v p l e (rmF 4 92) s m args below meth c 5 (MQ below (Qc v (some (.int r.1)) r.2) args s 0 0 (eG v)) 0 S 15 [(0, .ref (eA v (pR d0_0))), (1, .int x1), (2, .int x2), (3, .int x3), (4, .int x4)] [] := by
  refine i_iload hC dX4_passBeats_15 rfl ?_
  refine i_aload_n hC dX4_passBeats_17 rfl ?_
  refine i_getI hC fl_X4_22 (pl_R h0) (lay_R h0) rfl dX4_passBeats_18 ?_
  refine i_icmp_ge hC (tgt := 73) dX4_passBeats_21 (by decide) (fun c2 => ?_) (fun c2 => ?_)
  · replace hf := (if_pos c2).symm.trans hf
    refine i_aload_n hC dX4_passBeats_73 rfl ?_
    refine i_dup hC dX4_passBeats_74 rfl ?_
    refine i_getI hC fl_X4_26 (pl_R h0) (lay_R h0) rfl dX4_passBeats_75 ?_
    refine i_iconst hC dX4_passBeats_78 li_1 ?_
    refine i_iadd hC dX4_passBeats_79 ?_
    refine i_putI hC fl_X4_26 (pl_R h0) (lay_R h0) rfl (bk_k h0) (nf_int _) dX4_passBeats_80 ?_
    refine i_iinc hC dX4_passBeats_83 rfl li_1 (by decide) ?_
    refine i_goto hC (tgt := 7) dX4_passBeats_86 (by decide) ?_
    exact Mj.to (hih7 _ hf) ⟨rfl, rfl, rfl, rfl, trivial⟩
  · replace hf := (if_neg c2).symm.trans hf
    refine i_aload_n hC dX4_passBeats_24 rfl ?_
    refine i_getR hC fl_X4_11 (pl_R h0) (lay_R h0) rfl dX4_passBeats_25 ?_
    refine i_iload hC dX4_passBeats_28 rfl ?_
    obtain ⟨k3, hf⟩ := ck_of hf
    refine i_aald hC (pl_AD h0) (lay_AD h0) (by decide) (inb_in k3) dX4_passBeats_30 ?_
    obtain ⟨r4, hc4, hf⟩ := bd1_of hf
    refine i_callVi hC mv_X4_119 (c_X2_isLeading hC.2.2.2.2.2.2.2.1 ⟨h0, inb_lt k3⟩ hc4) (pl_D ⟨h0, inb_lt k3⟩) (lay_D ⟨h0, inb_lt k3⟩) rfl rfl rfl rfl ⟨Nat.le_of_ble_eq_true rfl, Nat.le_of_ble_eq_true rfl⟩ (Nat.le_of_ble_eq_true rfl) dX4_passBeats_31 ?_
    refine i_if_eq hC (tgt := 47) dX4_passBeats_34 (by decide) (fun c5 => ?_) (fun c5 => ?_)
    · replace hf := (if_pos c5).symm.trans hf
      refine i_aload_n hC dX4_passBeats_47 rfl ?_
      refine i_getR hC fl_X4_11 (pl_R h0) (lay_R h0) rfl dX4_passBeats_48 ?_
      refine i_iload hC dX4_passBeats_51 rfl ?_
      obtain ⟨k6, hf⟩ := ck_of hf
      refine i_aald hC (pl_AD h0) (lay_AD h0) (by decide) (inb_in k6) dX4_passBeats_53 ?_
      obtain ⟨r7, S7, hc7, hf⟩ := bd2_of hf
      refine i_callVi hC mv_X4_127 (c_X2_waitBeat hC.2.2.2.2.2.2.2.1 ⟨h0, inb_lt k6⟩ hc7) (pl_D ⟨h0, inb_lt k6⟩) (lay_D ⟨h0, inb_lt k6⟩) rfl rfl rfl rfl ⟨Nat.le_of_ble_eq_true rfl, Nat.le_of_ble_eq_true rfl⟩ (Nat.le_of_ble_eq_true rfl) dX4_passBeats_54 ?_
      refine i_if_eq hC (tgt := 67) dX4_passBeats_57 (by decide) (fun c8 => ?_) (fun c8 => ?_)
      · replace hf := (if_pos c8).symm.trans hf
        exact Mj.to (b_X4_passBeats_67 hC h0 hih7 hih15 hf) ⟨rfl, rfl, rfl, rfl, rfl, trivial⟩
      · replace hf := (if_neg c8).symm.trans hf
        refine i_aload_n hC dX4_passBeats_60 rfl ?_
        refine i_iload hC dX4_passBeats_61 rfl ?_
        obtain ⟨r9, S9, hc9, hf⟩ := bd2_of hf
        refine i_callVi hC mv_X4_130 (c_X4_gatherVotes hC.2.2.2.2.2.2.2.1 h0 hc9) (pl_R h0) (lay_R h0) rfl rfl rfl rfl ⟨Nat.le_of_ble_eq_true rfl, Nat.le_of_ble_eq_true rfl⟩ (Nat.le_of_ble_eq_true rfl) dX4_passBeats_63 ?_
        refine i_pop hC dX4_passBeats_66 rfl ?_
        exact Mj.to (b_X4_passBeats_67 hC h0 hih7 hih15 hf) ⟨rfl, rfl, rfl, rfl, rfl, trivial⟩
    · replace hf := (if_neg c5).symm.trans hf
      refine i_aload_n hC dX4_passBeats_37 rfl ?_
      refine i_iload hC dX4_passBeats_38 rfl ?_
      obtain ⟨r10, S10, hc10, hf⟩ := bd2_of hf
      refine i_callVi hC mv_X4_123 (c_X4_sendFrom hC.2.2.2.2.2.2.2.1 h0 hc10) (pl_R h0) (lay_R h0) rfl rfl rfl rfl ⟨Nat.le_of_ble_eq_true rfl, Nat.le_of_ble_eq_true rfl⟩ (Nat.le_of_ble_eq_true rfl) dX4_passBeats_40 ?_
      refine i_pop hC dX4_passBeats_43 rfl ?_
      refine i_goto hC (tgt := 67) dX4_passBeats_44 (by decide) ?_
      exact Mj.to (b_X4_passBeats_67 hC h0 hih7 hih15 hf) ⟨rfl, rfl, rfl, rfl, rfl, trivial⟩
theorem b_X4_passBeats_15 {v : EV} {p : Program} {l : Launch} {e : Env} {s : State} {m : MethodId} {args : Array Value} {below : List Frame} {meth : Method} {c : Code} (hC : Cx v p l e s m args meth c RX4 cX4_passBeats 5 (some .int)) {S : Mem} {d0_0 : Nat} {x1 : Int32} {x2 : Int32} {x3 : Int32} {x4 : Int32} (h0 : d0_0 < 11) {r : Int32 × Mem} {ih7 : (Mem × Int32) → Option (Int32 × Mem)} (hih7 : ∀ s9 : (Mem × Int32), ih7 s9 = some r → Mj v p l e (rmF 4 92) s m args below meth c 5 (MQ below (Qc v (some (.int r.1)) r.2) args s 0 0 (eG v)) 0 s9.1 7 [(0, .ref (eA v (pR d0_0))), (1, .int x1), (2, .int x2), (3, .int (s9.2))] []) (hf : f_X4_passBeats_15 ih7 S d0_0 x1 x2 x3 x4 = some r) : Mj v p l e (rmF 4 92) s m args below meth c 5 (MQ below (Qc v (some (.int r.1)) r.2) args s 0 0 (eG v)) 0 S 15 [(0, .ref (eA v (pR d0_0))), (1, .int x1), (2, .int x2), (3, .int x3), (4, .int x4)] [] :=
  lp_ind (P := fun s9 : (Mem × Int32) => Mj v p l e (rmF 4 92) s m args below meth c 5 (MQ below (Qc v (some (.int r.1)) r.2) args s 0 0 (eG v)) 0 s9.1 15 [(0, .ref (eA v (pR d0_0))), (1, .int x1), (2, .int x2), (3, .int x3), (4, .int (s9.2))] []) (fun ih s9 hih hf => b_X4_passBeats_15_b hC h0 hih7 hih hf) _ _ hf
set_option maxHeartbeats 4000000 in
set_option maxRecDepth 100000 in
theorem b_X4_passBeats_7_b {v : EV} {p : Program} {l : Launch} {e : Env} {s : State} {m : MethodId} {args : Array Value} {below : List Frame} {meth : Method} {c : Code} (hC : Cx v p l e s m args meth c RX4 cX4_passBeats 5 (some .int)) {S : Mem} {d0_0 : Nat} {x1 : Int32} {x2 : Int32} {x3 : Int32} (h0 : d0_0 < 11) {r : Int32 × Mem} {ih7 : (Mem × Int32) → Option (Int32 × Mem)} (hih7 : ∀ s9 : (Mem × Int32), ih7 s9 = some r → Mj v p l e (rmF 4 92) s m args below meth c 5 (MQ below (Qc v (some (.int r.1)) r.2) args s 0 0 (eG v)) 0 s9.1 7 [(0, .ref (eA v (pR d0_0))), (1, .int x1), (2, .int x2), (3, .int (s9.2))] []) (hf : f_X4_passBeats_7_b ih7 S d0_0 x1 x2 x3 = some r) : Mj v p l e (rmF 4 92) s m args below meth c 5 (MQ below (Qc v (some (.int r.1)) r.2) args s 0 0 (eG v)) 0 S 7 [(0, .ref (eA v (pR d0_0))), (1, .int x1), (2, .int x2), (3, .int x3)] [] := by
  refine i_iload_n hC dX4_passBeats_7 rfl ?_
  refine i_iload_n hC dX4_passBeats_8 rfl ?_
  refine i_icmp_ge hC (tgt := 89) dX4_passBeats_9 (by decide) (fun c1 => ?_) (fun c1 => ?_)
  · replace hf := (if_pos c1).symm.trans hf
    refine i_aload_n hC dX4_passBeats_89 rfl ?_
    refine i_getI hC fl_X4_29 (pl_R h0) (lay_R h0) rfl dX4_passBeats_90 ?_
    refine i_iload_n hC dX4_passBeats_93 rfl ?_
    refine i_isub hC dX4_passBeats_94 ?_
    obtain rfl := Option.some.inj hf
    exact i_iret hC dX4_passBeats_95
  · replace hf := (if_neg c1).symm.trans hf
    refine i_iconst hC dX4_passBeats_12 li_0 ?_
    refine i_istore hC dX4_passBeats_13 (by decide) ?_
    exact Mj.to (b_X4_passBeats_15 hC h0 hih7 hf) ⟨rfl, rfl, rfl, rfl, rfl, trivial⟩
theorem b_X4_passBeats_7 {v : EV} {p : Program} {l : Launch} {e : Env} {s : State} {m : MethodId} {args : Array Value} {below : List Frame} {meth : Method} {c : Code} (hC : Cx v p l e s m args meth c RX4 cX4_passBeats 5 (some .int)) {S : Mem} {d0_0 : Nat} {x1 : Int32} {x2 : Int32} {x3 : Int32} (h0 : d0_0 < 11) {r : Int32 × Mem} (hf : f_X4_passBeats_7 S d0_0 x1 x2 x3 = some r) : Mj v p l e (rmF 4 92) s m args below meth c 5 (MQ below (Qc v (some (.int r.1)) r.2) args s 0 0 (eG v)) 0 S 7 [(0, .ref (eA v (pR d0_0))), (1, .int x1), (2, .int x2), (3, .int x3)] [] :=
  lp_ind (P := fun s9 : (Mem × Int32) => Mj v p l e (rmF 4 92) s m args below meth c 5 (MQ below (Qc v (some (.int r.1)) r.2) args s 0 0 (eG v)) 0 s9.1 7 [(0, .ref (eA v (pR d0_0))), (1, .int x1), (2, .int x2), (3, .int (s9.2))] []) (fun ih s9 hih hf => b_X4_passBeats_7_b hC h0  hih hf) _ _ hf
set_option maxHeartbeats 4000000 in
set_option maxRecDepth 100000 in
theorem b_X4_passBeats_0 {v : EV} {p : Program} {l : Launch} {e : Env} {s : State} {m : MethodId} {args : Array Value} {below : List Frame} {meth : Method} {c : Code} (hC : Cx v p l e s m args meth c RX4 cX4_passBeats 5 (some .int)) {S : Mem} {d0_0 : Nat} {x1 : Int32} (h0 : d0_0 < 11) {r : Int32 × Mem} (hf : f_X4_passBeats_0 S d0_0 x1 = some r) : Mj v p l e (rmF 4 92) s m args below meth c 5 (MQ below (Qc v (some (.int r.1)) r.2) args s 0 0 (eG v)) 0 S 0 [(0, .ref (eA v (pR d0_0))), (1, .int x1)] [] := by
  refine i_aload_n hC dX4_passBeats_0 rfl ?_
  refine i_getI hC fl_X4_29 (pl_R h0) (lay_R h0) rfl dX4_passBeats_1 ?_
  refine i_istore_n hC dX4_passBeats_4 (by decide) ?_
  refine i_iconst hC dX4_passBeats_5 li_0 ?_
  refine i_istore_n hC dX4_passBeats_6 (by decide) ?_
  exact Mj.to (b_X4_passBeats_7 hC h0 hf) ⟨rfl, rfl, rfl, rfl, trivial⟩
theorem c_X4_passBeats {v : EV} {l : Launch} (hst : Stb v) {S : Mem} {d0_0 : Nat} {x1 : Int32} (h0 : d0_0 < 11) {r : Int32 × Mem} (hf : g_X4_passBeats S d0_0 x1 = some r) : Con v l yX4_passBeats cX4_passBeats 5 (some .int) 4 92 [.ref (eA v (pR d0_0)), .int x1] S (some (.int r.1)) r.2 := con_of (by decide) hst (Nat.le_of_ble_eq_true rfl) (fun p e s m args below meth c hC => b_X4_passBeats_0 hC h0 hf)
