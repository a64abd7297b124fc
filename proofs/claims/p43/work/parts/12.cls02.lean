def f_X8_washAway_0 (S : Mem) (x1 : Int32) : Option (Int32 × Mem) := bd1 (g_X4_has S 0 x1) (fun r1 => (if r1 = 0 then some ((-1 : Int32), S) else ck (inb x1 5) ((if (S 0 (33 + 34 * (x1).toNatClampNeg + 7)) = 0 then bd2 (g_X8_refuse S (2 : Int32) x1) (fun r6 S6 => some (r6, S6)) else bd1 (g_X4_countAboard (up (up S 0 (33 + 34 * (x1).toNatClampNeg + 7) (0 : Int32)) 0 (33 + 34 * (x1).toNatClampNeg) (0 : Int32)) 0) (fun r5 => some (r5, (up (up S 0 (33 + 34 * (x1).toNatClampNeg + 7) (0 : Int32)) 0 (33 + 34 * (x1).toNatClampNeg) (0 : Int32))))))))
def g_X8_washAway (S : Mem) (x1 : Int32) : Option (Int32 × Mem) := f_X8_washAway_0 S x1
set_option maxHeartbeats 4000000 in
set_option maxRecDepth 100000 in
theorem b_X8_washAway_0 {v : EV} {p : Program} {l : Launch} {e : Env} {s : State} {m : MethodId} {args : Array Value} {below : List Frame} {meth : Method} {c : Code} (hC : Cx v p l e s m args meth c RX8 cX8_washAway 3 (some .int)) {S : Mem} {x1 : Int32}  {r : Int32 × Mem} (hf : f_X8_washAway_0 S x1 = some r) : Mj v p l e (rmF 3 56) s m args below meth c 3 (MQ below (Qc v (some (.int r.1)) r.2) args s 0 0 (eG v)) 0 S 0 [(0, .ref (eA v (198))), (1, .int x1)] [] := by
  refine i_aload_n hC dX8_washAway_0 rfl ?_
  refine i_getR (x := pR 0) hC fl_X8_12 (pln rfl) (lay_p198) rfl dX8_washAway_1 ?_
  refine i_iload_n hC dX8_washAway_4 rfl ?_
  obtain ⟨r1, hc1, hf⟩ := bd1_of hf
  refine i_callVi hC mv_X8_187 (c_X4_has hC.2.2.2.2.2.2.2.1 (by decide) hc1) (pl_R (by decide)) (lay_R (by decide)) rfl rfl rfl rfl ⟨Nat.le_of_ble_eq_true rfl, Nat.le_of_ble_eq_true rfl⟩ (Nat.le_of_ble_eq_true rfl) dX8_washAway_5 ?_
  refine i_if_ne hC (tgt := 13) dX8_washAway_8 (by decide) (fun c2 => ?_) (fun c2 => ?_)
  · replace hf := (if_neg c2).symm.trans hf
    refine i_aload_n hC dX8_washAway_13 rfl ?_
    refine i_getR (x := pR 0) hC fl_X8_12 (pln rfl) (lay_p198) rfl dX8_washAway_14 ?_
    refine i_getR hC fl_X8_191 (pl_R (by decide)) (lay_R (by decide)) rfl dX8_washAway_17 ?_
    refine i_iload_n hC dX8_washAway_20 rfl ?_
    obtain ⟨k3, hf⟩ := ck_of hf
    refine i_aald hC (pl_AD (by decide)) (lay_AD (by decide)) (by decide) (inb_in k3) dX8_washAway_21 ?_
    refine i_astore_n hC dX8_washAway_22 (by decide) ?_
    refine i_aload_n hC dX8_washAway_23 rfl ?_
    refine i_getI hC fl_X8_195 (pl_D ⟨(by decide), inb_lt k3⟩) (lay_D ⟨(by decide), inb_lt k3⟩) rfl dX8_washAway_24 ?_
    refine i_if_ne hC (tgt := 37) dX8_washAway_27 (by decide) (fun c4 => ?_) (fun c4 => ?_)
    · replace hf := (if_neg c4).symm.trans hf
      refine i_aload_n hC dX8_washAway_37 rfl ?_
      refine i_iconst hC dX8_washAway_38 li_0 ?_
      refine i_putI hC fl_X8_195 (pl_D ⟨(by decide), inb_lt k3⟩) (lay_D ⟨(by decide), inb_lt k3⟩) rfl (bk_k (by decide)) (isb_z (by decide)) dX8_washAway_39 ?_
      refine i_aload_n hC dX8_washAway_42 rfl ?_
      refine i_iconst hC dX8_washAway_43 li_0 ?_
      refine i_putI hC fl_X8_201 (pl_D ⟨(by decide), inb_lt k3⟩) (lay_D ⟨(by decide), inb_lt k3⟩) rfl (bk_k (by decide)) (nf_int _) dX8_washAway_44 ?_
      refine i_aload_n hC dX8_washAway_47 rfl ?_
      refine i_getR (x := pR 0) hC fl_X8_12 (pln rfl) (lay_p198) rfl dX8_washAway_48 ?_
      obtain ⟨r5, hc5, hf⟩ := bd1_of hf
      refine i_callVi hC mv_X8_223 (c_X4_countAboard hC.2.2.2.2.2.2.2.1 (by decide) hc5) (pl_R (by decide)) (lay_R (by decide)) rfl rfl rfl rfl ⟨Nat.le_of_ble_eq_true rfl, Nat.le_of_ble_eq_true rfl⟩ (Nat.le_of_ble_eq_true rfl) dX8_washAway_51 ?_
      obtain rfl := Option.some.inj hf
      exact i_iret hC dX8_washAway_54
    · replace hf := (if_pos c4).symm.trans hf
      refine i_aload_n hC dX8_washAway_30 rfl ?_
      refine i_iconst hC dX8_washAway_31 li_2 ?_
      refine i_iload_n hC dX8_washAway_32 rfl ?_
      obtain ⟨r6, S6, hc6, hf⟩ := bd2_of hf
      refine i_callVi hC mv_X8_181 (c_X8_refuse hC.2.2.2.2.2.2.2.1 hc6) (pln rfl) (lay_p198) rfl rfl rfl rfl ⟨Nat.le_of_ble_eq_true rfl, Nat.le_of_ble_eq_true rfl⟩ (Nat.le_of_ble_eq_true rfl) dX8_washAway_33 ?_
      obtain rfl := Option.some.inj hf
      exact i_iret hC dX8_washAway_36
  · replace hf := (if_pos c2).symm.trans hf
    refine i_iconst hC dX8_washAway_11 li_m1 ?_
    obtain rfl := Option.some.inj hf
    exact i_iret hC dX8_washAway_12
theorem c_X8_washAway {v : EV} {l : Launch} (hst : Stb v) {S : Mem} {x1 : Int32}  {r : Int32 × Mem} (hf : g_X8_washAway S x1 = some r) : Con v l yX8_washAway cX8_washAway 3 (some .int) 3 56 [.ref (eA v (198)), .int x1] S (some (.int r.1)) r.2 := con_of (by decide) hst (Nat.le_of_ble_eq_true rfl) (fun p e s m args below meth c hC => b_X8_washAway_0 hC  hf)
def f_X8_bringBack_0 (S : Mem) (x1 : Int32) : Option (Int32 × Mem) := bd1 (g_X4_has S 0 x1) (fun r1 => (if r1 = 0 then some ((-1 : Int32), S) else ck (inb x1 5) ((if (S 0 (33 + 34 * (x1).toNatClampNeg + 7)) = 0 then bd1 (g_X4_countAboard (up (up S 0 (33 + 34 * (x1).toNatClampNeg + 7) (1 : Int32)) 0 (33 + 34 * (x1).toNatClampNeg + 3) (0 : Int32)) 0) (fun r5 => some (r5, (up (up S 0 (33 + 34 * (x1).toNatClampNeg + 7) (1 : Int32)) 0 (33 + 34 * (x1).toNatClampNeg + 3) (0 : Int32)))) else bd2 (g_X8_refuse S (6 : Int32) x1) (fun r6 S6 => some (r6, S6))))))
def g_X8_bringBack (S : Mem) (x1 : Int32) : Option (Int32 × Mem) := f_X8_bringBack_0 S x1
set_option maxHeartbeats 4000000 in
set_option maxRecDepth 100000 in
theorem b_X8_bringBack_0 {v : EV} {p : Program} {l : Launch} {e : Env} {s : State} {m : MethodId} {args : Array Value} {below : List Frame} {meth : Method} {c : Code} (hC : Cx v p l e s m args meth c RX8 cX8_bringBack 3 (some .int)) {S : Mem} {x1 : Int32}  {r : Int32 × Mem} (hf : f_X8_bringBack_0 S x1 = some r) : Mj v p l e (rmF 3 56) s m args below meth c 3 (MQ below (Qc v (some (.int r.1)) r.2) args s 0 0 (eG v)) 0 S 0 [(0, .ref (eA v (198))), (1, .int x1)] [] := by
  refine i_aload_n hC dX8_bringBack_0 rfl ?_
  refine i_getR (x := pR 0) hC fl_X8_12 (pln rfl) (lay_p198) rfl dX8_bringBack_1 ?_
  refine i_iload_n hC dX8_bringBack_4 rfl ?_
  obtain ⟨r1, hc1, hf⟩ := bd1_of hf
  refine i_callVi hC mv_X8_187 (c_X4_has hC.2.2.2.2.2.2.2.1 (by decide) hc1) (pl_R (by decide)) (lay_R (by decide)) rfl rfl rfl rfl ⟨Nat.le_of_ble_eq_true rfl, Nat.le_of_ble_eq_true rfl⟩ (Nat.le_of_ble_eq_true rfl) dX8_bringBack_5 ?_
  refine i_if_ne hC (tgt := 13) dX8_bringBack_8 (by decide) (fun c2 => ?_) (fun c2 => ?_)
  · replace hf := (if_neg c2).symm.trans hf
    refine i_aload_n hC dX8_bringBack_13 rfl ?_
    refine i_getR (x := pR 0) hC fl_X8_12 (pln rfl) (lay_p198) rfl dX8_bringBack_14 ?_
    refine i_getR hC fl_X8_191 (pl_R (by decide)) (lay_R (by decide)) rfl dX8_bringBack_17 ?_
    refine i_iload_n hC dX8_bringBack_20 rfl ?_
    obtain ⟨k3, hf⟩ := ck_of hf
    refine i_aald hC (pl_AD (by decide)) (lay_AD (by decide)) (by decide) (inb_in k3) dX8_bringBack_21 ?_
    refine i_astore_n hC dX8_bringBack_22 (by decide) ?_
    refine i_aload_n hC dX8_bringBack_23 rfl ?_
    refine i_getI hC fl_X8_195 (pl_D ⟨(by decide), inb_lt k3⟩) (lay_D ⟨(by decide), inb_lt k3⟩) rfl dX8_bringBack_24 ?_
    refine i_if_eq hC (tgt := 38) dX8_bringBack_27 (by decide) (fun c4 => ?_) (fun c4 => ?_)
    · replace hf := (if_pos c4).symm.trans hf
      refine i_aload_n hC dX8_bringBack_38 rfl ?_
      refine i_iconst hC dX8_bringBack_39 li_1 ?_
      refine i_putI hC fl_X8_195 (pl_D ⟨(by decide), inb_lt k3⟩) (lay_D ⟨(by decide), inb_lt k3⟩) rfl (bk_k (by decide)) (isb_z (by decide)) dX8_bringBack_40 ?_
      refine i_aload_n hC dX8_bringBack_43 rfl ?_
      refine i_iconst hC dX8_bringBack_44 li_0 ?_
      refine i_putI hC fl_X8_226 (pl_D ⟨(by decide), inb_lt k3⟩) (lay_D ⟨(by decide), inb_lt k3⟩) rfl (bk_k (by decide)) (nf_int _) dX8_bringBack_45 ?_
      refine i_aload_n hC dX8_bringBack_48 rfl ?_
      refine i_getR (x := pR 0) hC fl_X8_12 (pln rfl) (lay_p198) rfl dX8_bringBack_49 ?_
      obtain ⟨r5, hc5, hf⟩ := bd1_of hf
      refine i_callVi hC mv_X8_223 (c_X4_countAboard hC.2.2.2.2.2.2.2.1 (by decide) hc5) (pl_R (by decide)) (lay_R (by decide)) rfl rfl rfl rfl ⟨Nat.le_of_ble_eq_true rfl, Nat.le_of_ble_eq_true rfl⟩ (Nat.le_of_ble_eq_true rfl) dX8_bringBack_52 ?_
      obtain rfl := Option.some.inj hf
      exact i_iret hC dX8_bringBack_55
    · replace hf := (if_neg c4).symm.trans hf
      refine i_aload_n hC dX8_bringBack_30 rfl ?_
      refine i_bipush hC dX8_bringBack_31 lb_6 ?_
      refine i_iload_n hC dX8_bringBack_33 rfl ?_
      obtain ⟨r6, S6, hc6, hf⟩ := bd2_of hf
      refine i_callVi hC mv_X8_181 (c_X8_refuse hC.2.2.2.2.2.2.2.1 hc6) (pln rfl) (lay_p198) rfl rfl rfl rfl ⟨Nat.le_of_ble_eq_true rfl, Nat.le_of_ble_eq_true rfl⟩ (Nat.le_of_ble_eq_true rfl) dX8_bringBack_34 ?_
      obtain rfl := Option.some.inj hf
      exact i_iret hC dX8_bringBack_37
  · replace hf := (if_pos c2).symm.trans hf
    refine i_iconst hC dX8_bringBack_11 li_m1 ?_
    obtain rfl := Option.some.inj hf
    exact i_iret hC dX8_bringBack_12
theorem c_X8_bringBack {v : EV} {l : Launch} (hst : Stb v) {S : Mem} {x1 : Int32}  {r : Int32 × Mem} (hf : g_X8_bringBack S x1 = some r) : Con v l yX8_bringBack cX8_bringBack 3 (some .int) 3 56 [.ref (eA v (198)), .int x1] S (some (.int r.1)) r.2 := con_of (by decide) hst (Nat.le_of_ble_eq_true rfl) (fun p e s m args below meth c hC => b_X8_bringBack_0 hC  hf)
def f_X8_changeRope_22 (S : Mem)  : Option (Int32 × Mem) := some ((-1 : Int32), S)
def f_X8_changeRope_0 (S : Mem) (x1 : Int32) (x2 : Int32) (x3 : Int32) : Option (Int32 × Mem) := bd1 (g_X4_has S 0 x1) (fun r1 => (if r1 = 0 then f_X8_changeRope_22 S else bd1 (g_X4_has S 0 x2) (fun r3 => (if r3 = 0 then f_X8_changeRope_22 S else (if x1 = x2 then bd2 (g_X8_refuse S (5 : Int32) x1) (fun r11 S11 => some (r11, S11)) else bd1 (g_X4_isRopeCut S 0 x1 x2) (fun r6 => (if r6 = x3 then bd2 (g_X8_refuse S (6 : Int32) (mx x1 x2)) (fun r10 S10 => some (r10, S10)) else bd1 (g_X4_setRope S 0 x1 x2 x3) (fun S8 => bd1 (g_X4_countCutRopes S8 0) (fun r9 => some (r9, S8))))))))))
def g_X8_changeRope (S : Mem) (x1 : Int32) (x2 : Int32) (x3 : Int32) : Option (Int32 × Mem) := f_X8_changeRope_0 S x1 x2 x3
set_option maxHeartbeats 4000000 in
set_option maxRecDepth 100000 in
theorem b_X8_changeRope_22 {v : EV} {p : Program} {l : Launch} {e : Env} {s : State} {m : MethodId} {args : Array Value} {below : List Frame} {meth : Method} {c : Code} (hC : Cx v p l e s m args meth c RX8 cX8_changeRope 4 (some .int)) {S : Mem}  {r : Int32 × Mem} (hf : f_X8_changeRope_22 S = some r) : Mj v p l e (rmF 3 56) s m args below meth c 4 (MQ below (Qc v (some (.int r.1)) r.2) args s 0 0 (eG v)) 0 S 22 [] [] := by
  refine i_iconst hC dX8_changeRope_22 li_m1 ?_
  obtain rfl := Option.some.inj hf
  exact i_iret hC dX8_changeRope_23
set_option maxHeartbeats 4000000 in
set_option maxRecDepth 100000 in
theorem b_X8_changeRope_0 {v : EV} {p : Program} {l : Launch} {e : Env} {s : State} {m : MethodId} {args : Array Value} {below : List Frame} {meth : Method} {c : Code} (hC : Cx v p l e s m args meth c RX8 cX8_changeRope 4 (some .int)) {S : Mem} {x1 : Int32} {x2 : Int32} {x3 : Int32}  {r : Int32 × Mem} (hf : f_X8_changeRope_0 S x1 x2 x3 = some r) : Mj v p l e (rmF 3 56) s m args below meth c 4 (MQ below (Qc v (some (.int r.1)) r.2) args s 0 0 (eG v)) 0 S 0 [(0, .ref (eA v (198))), (1, .int x1), (2, .int x2), (3, .int x3)] [] := by
  refine i_aload_n hC dX8_changeRope_0 rfl ?_
  refine i_getR (x := pR 0) hC fl_X8_12 (pln rfl) (lay_p198) rfl dX8_changeRope_1 ?_
  refine i_iload_n hC dX8_changeRope_4 rfl ?_
  obtain ⟨r1, hc1, hf⟩ := bd1_of hf
  refine i_callVi hC mv_X8_187 (c_X4_has hC.2.2.2.2.2.2.2.1 (by decide) hc1) (pl_R (by decide)) (lay_R (by decide)) rfl rfl rfl rfl ⟨Nat.le_of_ble_eq_true rfl, Nat.le_of_ble_eq_true rfl⟩ (Nat.le_of_ble_eq_true rfl) dX8_changeRope_5 ?_
  refine i_if_eq hC (tgt := 22) dX8_changeRope_8 (by decide) (fun c2 => ?_) (fun c2 => ?_)
  · replace hf := (if_pos c2).symm.trans hf
    exact Mj.to (b_X8_changeRope_22 hC  hf) trivial
  · replace hf := (if_neg c2).symm.trans hf
    refine i_aload_n hC dX8_changeRope_11 rfl ?_
    refine i_getR (x := pR 0) hC fl_X8_12 (pln rfl) (lay_p198) rfl dX8_changeRope_12 ?_
    refine i_iload_n hC dX8_changeRope_15 rfl ?_
    obtain ⟨r3, hc3, hf⟩ := bd1_of hf
    refine i_callVi hC mv_X8_187 (c_X4_has hC.2.2.2.2.2.2.2.1 (by decide) hc3) (pl_R (by decide)) (lay_R (by decide)) rfl rfl rfl rfl ⟨Nat.le_of_ble_eq_true rfl, Nat.le_of_ble_eq_true rfl⟩ (Nat.le_of_ble_eq_true rfl) dX8_changeRope_16 ?_
    refine i_if_ne hC (tgt := 24) dX8_changeRope_19 (by decide) (fun c4 => ?_) (fun c4 => ?_)
    · replace hf := (if_neg c4).symm.trans hf
      refine i_iload_n hC dX8_changeRope_24 rfl ?_
      refine i_iload_n hC dX8_changeRope_25 rfl ?_
      refine i_icmp_ne hC (tgt := 36) dX8_changeRope_26 (by decide) (fun c5 => ?_) (fun c5 => ?_)
      · replace hf := (if_neg c5).symm.trans hf
        refine i_aload_n hC dX8_changeRope_36 rfl ?_
        refine i_getR (x := pR 0) hC fl_X8_12 (pln rfl) (lay_p198) rfl dX8_changeRope_37 ?_
        refine i_iload_n hC dX8_changeRope_40 rfl ?_
        refine i_iload_n hC dX8_changeRope_41 rfl ?_
        obtain ⟨r6, hc6, hf⟩ := bd1_of hf
        refine i_callVi hC mv_X8_229 (c_X4_isRopeCut hC.2.2.2.2.2.2.2.1 (by decide) hc6) (pl_R (by decide)) (lay_R (by decide)) rfl rfl rfl rfl ⟨Nat.le_of_ble_eq_true rfl, Nat.le_of_ble_eq_true rfl⟩ (Nat.le_of_ble_eq_true rfl) dX8_changeRope_42 ?_
        refine i_iload_n hC dX8_changeRope_45 rfl ?_
        refine i_icmp_ne hC (tgt := 61) dX8_changeRope_46 (by decide) (fun c7 => ?_) (fun c7 => ?_)
        · replace hf := (if_neg c7).symm.trans hf
          refine i_aload_n hC dX8_changeRope_61 rfl ?_
          refine i_getR (x := pR 0) hC fl_X8_12 (pln rfl) (lay_p198) rfl dX8_changeRope_62 ?_
          refine i_iload_n hC dX8_changeRope_65 rfl ?_
          refine i_iload_n hC dX8_changeRope_66 rfl ?_
          refine i_iload_n hC dX8_changeRope_67 rfl ?_
          obtain ⟨S8, hc8, hf⟩ := bd1_of hf
          refine i_callVv hC mv_X8_238 (c_X4_setRope hC.2.2.2.2.2.2.2.1 (by decide) hc8) (pl_R (by decide)) (lay_R (by decide)) rfl rfl rfl rfl ⟨Nat.le_of_ble_eq_true rfl, Nat.le_of_ble_eq_true rfl⟩ (Nat.le_of_ble_eq_true rfl) dX8_changeRope_68 ?_
          refine i_aload_n hC dX8_changeRope_71 rfl ?_
          refine i_getR (x := pR 0) hC fl_X8_12 (pln rfl) (lay_p198) rfl dX8_changeRope_72 ?_
          obtain ⟨r9, hc9, hf⟩ := bd1_of hf
          refine i_callVi hC mv_X8_242 (c_X4_countCutRopes hC.2.2.2.2.2.2.2.1 (by decide) hc9) (pl_R (by decide)) (lay_R (by decide)) rfl rfl rfl rfl ⟨Nat.le_of_ble_eq_true rfl, Nat.le_of_ble_eq_true rfl⟩ (Nat.le_of_ble_eq_true rfl) dX8_changeRope_75 ?_
          obtain rfl := Option.some.inj hf
          exact i_iret hC dX8_changeRope_78
        · replace hf := (if_pos c7).symm.trans hf
          refine i_aload_n hC dX8_changeRope_49 rfl ?_
          refine i_bipush hC dX8_changeRope_50 lb_6 ?_
          refine i_iload_n hC dX8_changeRope_52 rfl ?_
          refine i_iload_n hC dX8_changeRope_53 rfl ?_
          refine i_mmax hC mw_195 mw_164 mw_40 mw_165 ⟨Nat.le_of_ble_eq_true rfl, Nat.le_of_ble_eq_true rfl⟩ dX8_changeRope_54 ?_
          obtain ⟨r10, S10, hc10, hf⟩ := bd2_of hf
          refine i_callVi hC mv_X8_181 (c_X8_refuse hC.2.2.2.2.2.2.2.1 hc10) (pln rfl) (lay_p198) rfl rfl rfl rfl ⟨Nat.le_of_ble_eq_true rfl, Nat.le_of_ble_eq_true rfl⟩ (Nat.le_of_ble_eq_true rfl) dX8_changeRope_57 ?_
          obtain rfl := Option.some.inj hf
          exact i_iret hC dX8_changeRope_60
      · replace hf := (if_pos c5).symm.trans hf
        refine i_aload_n hC dX8_changeRope_29 rfl ?_
        refine i_iconst hC dX8_changeRope_30 li_5 ?_
        refine i_iload_n hC dX8_changeRope_31 rfl ?_
        obtain ⟨r11, S11, hc11, hf⟩ := bd2_of hf
        refine i_callVi hC mv_X8_181 (c_X8_refuse hC.2.2.2.2.2.2.2.1 hc11) (pln rfl) (lay_p198) rfl rfl rfl rfl ⟨Nat.le_of_ble_eq_true rfl, Nat.le_of_ble_eq_true rfl⟩ (Nat.le_of_ble_eq_true rfl) dX8_changeRope_32 ?_
        obtain rfl := Option.some.inj hf
        exact i_iret hC dX8_changeRope_35
    · replace hf := (if_pos c4).symm.trans hf
      exact Mj.to (b_X8_changeRope_22 hC  hf) trivial
theorem c_X8_changeRope {v : EV} {l : Launch} (hst : Stb v) {S : Mem} {x1 x2 x3 : Int32}  {r : Int32 × Mem} (hf : g_X8_changeRope S x1 x2 x3 = some r) : Con v l yX8_changeRope cX8_changeRope 4 (some .int) 3 56 [.ref (eA v (198)), .int x1, .int x2, .int x3] S (some (.int r.1)) r.2 := con_of (by decide) hst (Nat.le_of_ble_eq_true rfl) (fun p e s m args below meth c hC => b_X8_changeRope_0 hC  hf)
def f_X8_codeOfAsking_44 (S : Mem) (xt0 : Int32) : Option (Int32) := some xt0
def f_X8_codeOfAsking_42 (S : Mem)  : Option (Int32) := f_X8_codeOfAsking_44 S (-4 : Int32)
def f_X8_codeOfAsking_0 (S : Mem) (x1 : Int32) : Option (Int32) := bd1 (g_X4_has S 0 x1) (fun r1 => (if r1 = 0 then some (-1 : Int32) else ck (inb x1 5) ((if (S 0 (33 + 34 * (x1).toNatClampNeg + 7)) = 0 then f_X8_codeOfAsking_42 S else (if (S 0 (33 + 34 * (x1).toNatClampNeg)) = (2 : Int32) then f_X8_codeOfAsking_42 S else f_X8_codeOfAsking_44 S (0 : Int32))))))
def g_X8_codeOfAsking (S : Mem) (x1 : Int32) : Option (Int32) := f_X8_codeOfAsking_0 S x1
set_option maxHeartbeats 4000000 in
set_option maxRecDepth 100000 in
theorem b_X8_codeOfAsking_44 {v : EV} {p : Program} {l : Launch} {e : Env} {s : State} {m : MethodId} {args : Array Value} {below : List Frame} {meth : Method} {c : Code} (hC : Cx v p l e s m args meth c RX8 cX8_codeOfAsking 3 (some .int)) {S : Mem} {xt0 : Int32}  {r : Int32} (hf : f_X8_codeOfAsking_44 S xt0 = some r) : Mj v p l e (rmF 2 33) s m args below meth c 3 (MQ below (Qc v (some (.int r)) S) args s 0 0 (eG v)) 0 S 44 [] [.int xt0] := by
  obtain rfl := Option.some.inj hf
  exact i_iret hC dX8_codeOfAsking_44
set_option maxHeartbeats 4000000 in
set_option maxRecDepth 100000 in
theorem b_X8_codeOfAsking_42 {v : EV} {p : Program} {l : Launch} {e : Env} {s : State} {m : MethodId} {args : Array Value} {below : List Frame} {meth : Method} {c : Code} (hC : Cx v p l e s m args meth c RX8 cX8_codeOfAsking 3 (some .int)) {S : Mem}  {r : Int32} (hf : f_X8_codeOfAsking_42 S = some r) : Mj v p l e (rmF 2 33) s m args below meth c 3 (MQ below (Qc v (some (.int r)) S) args s 0 0 (eG v)) 0 S 42 [] [] := by
  refine i_bipush hC dX8_codeOfAsking_42 lb_m4 ?_
  exact Mj.to (b_X8_codeOfAsking_44 hC  hf) trivial
set_option maxHeartbeats 4000000 in
set_option maxRecDepth 100000 in
theorem b_X8_codeOfAsking_0 {v : EV} {p : Program} {l : Launch} {e : Env} {s : State} {m : MethodId} {args : Array Value} {below : List Frame} {meth : Method} {c : Code} (hC : Cx v p l e s m args meth c RX8 cX8_codeOfAsking 3 (some .int)) {S : Mem} {x1 : Int32}  {r : Int32} (hf : f_X8_codeOfAsking_0 S x1 = some r) : Mj v p l e (rmF 2 33) s m args below meth c 3 (MQ below (Qc v (some (.int r)) S) args s 0 0 (eG v)) 0 S 0 [(0, .ref (eA v (198))), (1, .int x1)] [] := by
  refine i_aload_n hC dX8_codeOfAsking_0 rfl ?_
  refine i_getR (x := pR 0) hC fl_X8_12 (pln rfl) (lay_p198) rfl dX8_codeOfAsking_1 ?_
  refine i_iload_n hC dX8_codeOfAsking_4 rfl ?_
  obtain ⟨r1, hc1, hf⟩ := bd1_of hf
  refine i_callVi hC mv_X8_187 (c_X4_has hC.2.2.2.2.2.2.2.1 (by decide) hc1) (pl_R (by decide)) (lay_R (by decide)) rfl rfl rfl rfl ⟨Nat.le_of_ble_eq_true rfl, Nat.le_of_ble_eq_true rfl⟩ (Nat.le_of_ble_eq_true rfl) dX8_codeOfAsking_5 ?_
  refine i_if_ne hC (tgt := 13) dX8_codeOfAsking_8 (by decide) (fun c2 => ?_) (fun c2 => ?_)
  · replace hf := (if_neg c2).symm.trans hf
    refine i_aload_n hC dX8_codeOfAsking_13 rfl ?_
    refine i_getR (x := pR 0) hC fl_X8_12 (pln rfl) (lay_p198) rfl dX8_codeOfAsking_14 ?_
    refine i_getR hC fl_X8_191 (pl_R (by decide)) (lay_R (by decide)) rfl dX8_codeOfAsking_17 ?_
    refine i_iload_n hC dX8_codeOfAsking_20 rfl ?_
    obtain ⟨k3, hf⟩ := ck_of hf
    refine i_aald hC (pl_AD (by decide)) (lay_AD (by decide)) (by decide) (inb_in k3) dX8_codeOfAsking_21 ?_
    refine i_astore_n hC dX8_codeOfAsking_22 (by decide) ?_
    refine i_aload_n hC dX8_codeOfAsking_23 rfl ?_
    refine i_getI hC fl_X8_195 (pl_D ⟨(by decide), inb_lt k3⟩) (lay_D ⟨(by decide), inb_lt k3⟩) rfl dX8_codeOfAsking_24 ?_
    refine i_if_eq hC (tgt := 42) dX8_codeOfAsking_27 (by decide) (fun c4 => ?_) (fun c4 => ?_)
    · replace hf := (if_pos c4).symm.trans hf
      exact Mj.to (b_X8_codeOfAsking_42 hC  hf) trivial
    · replace hf := (if_neg c4).symm.trans hf
      refine i_aload_n hC dX8_codeOfAsking_30 rfl ?_
      refine i_getI hC fl_X8_201 (pl_D ⟨(by decide), inb_lt k3⟩) (lay_D ⟨(by decide), inb_lt k3⟩) rfl dX8_codeOfAsking_31 ?_
      refine i_iconst hC dX8_codeOfAsking_34 li_2 ?_
      refine i_icmp_eq hC (tgt := 42) dX8_codeOfAsking_35 (by decide) (fun c5 => ?_) (fun c5 => ?_)
      · replace hf := (if_pos c5).symm.trans hf
        exact Mj.to (b_X8_codeOfAsking_42 hC  hf) trivial
      · replace hf := (if_neg c5).symm.trans hf
        refine i_iconst hC dX8_codeOfAsking_38 li_0 ?_
        refine i_goto hC (tgt := 44) dX8_codeOfAsking_39 (by decide) ?_
        exact Mj.to (b_X8_codeOfAsking_44 hC  hf) trivial
  · replace hf := (if_pos c2).symm.trans hf
    refine i_iconst hC dX8_codeOfAsking_11 li_m1 ?_
    obtain rfl := Option.some.inj hf
    exact i_iret hC dX8_codeOfAsking_12
theorem c_X8_codeOfAsking {v : EV} {l : Launch} (hst : Stb v) {S : Mem} {x1 : Int32}  {r : Int32} (hf : g_X8_codeOfAsking S x1 = some r) : Con v l yX8_codeOfAsking cX8_codeOfAsking 3 (some .int) 2 33 [.ref (eA v (198)), .int x1] S (some (.int r)) S := con_of (by decide) hst (Nat.le_of_ble_eq_true rfl) (fun p e s m args below meth c hC => b_X8_codeOfAsking_0 hC  hf)
def f_X8_conflicts_37 (ih4 : (Int32 × Int32) → Option (Int32)) (ih17 : (Int32 × Int32) → Option (Int32)) (S : Mem) (x1 : Int32) (x2 : Int32) (x3 : Int32) : Option (Int32) := ih17 (x1, (x3 + (1 : Int32)))
def f_X8_conflicts_17_b (ih4 : (Int32 × Int32) → Option (Int32)) (ih17 : (Int32 × Int32) → Option (Int32)) (S : Mem) (x1 : Int32) (x2 : Int32) (x3 : Int32) : Option (Int32) := (if x2 ≤ x3 then ih4 (x1, (x2 + (1 : Int32))) else bd1 (g_X4_isConflict S 0 x2 x3) (fun r3 => (if r3 = 0 then f_X8_conflicts_37 ih4 ih17 S x1 x2 x3 else f_X8_conflicts_37 ih4 ih17 S (x1 + (1 : Int32)) x2 x3)))
def f_X8_conflicts_17 (ih4 : (Int32 × Int32) → Option (Int32)) (S : Mem) (x1 : Int32) (x2 : Int32) (x3 : Int32) : Option (Int32) := lp (fun ih17 s9 => f_X8_conflicts_17_b ih4 ih17 S s9.1 x2 s9.2) 2000 (x1, x3)
def f_X8_conflicts_4_b (ih4 : (Int32 × Int32) → Option (Int32)) (S : Mem) (x1 : Int32) (x2 : Int32) : Option (Int32) := (if (S 0 1) ≤ x2 then some x1 else f_X8_conflicts_17 ih4 S x1 x2 (0 : Int32))
def f_X8_conflicts_4 (S : Mem) (x1 : Int32) (x2 : Int32) : Option (Int32) := lp (fun ih4 s9 => f_X8_conflicts_4_b ih4 S s9.1 s9.2) 2000 (x1, x2)
def f_X8_conflicts_0 (S : Mem)  : Option (Int32) := f_X8_conflicts_4 S (0 : Int32) (0 : Int32)
def g_X8_conflicts (S : Mem)  : Option (Int32) := f_X8_conflicts_0 S
set_option maxHeartbeats 4000000 in
set_option maxRecDepth 100000 in
theorem b_X8_conflicts_37 {v : EV} {p : Program} {l : Launch} {e : Env} {s : State} {m : MethodId} {args : Array Value} {below : List Frame} {meth : Method} {c : Code} (hC : Cx v p l e s m args meth c RX8 cX8_conflicts 4 (some .int)) {S : Mem} {x1 : Int32} {x2 : Int32} {x3 : Int32}  {r : Int32} {ih4 : (Int32 × Int32) → Option (Int32)} (hih4 : ∀ s9 : (Int32 × Int32), ih4 s9 = some r → Mj v p l e (rmF 3 67) s m args below meth c 4 (MQ below (Qc v (some (.int r)) S) args s 0 0 (eG v)) 0 S 4 [(0, .ref (eA v (198))), (1, .int (s9.1)), (2, .int (s9.2))] []) {ih17 : (Int32 × Int32) → Option (Int32)} (hih17 : ∀ s9 : (Int32 × Int32), ih17 s9 = some r → Mj v p l e (rmF 3 67) s m args below meth c 4 (MQ below (Qc v (some (.int r)) S) args s 0 0 (eG v)) 0 S 17 [(0, .ref (eA v (198))), (1, .int (s9.1)), (2, .int x2), (3, .int (s9.2))] []) (hf : f_X8_conflicts_37 ih4 ih17 S x1 x2 x3 = some r) : Mj v p l e (rmF 3 67) s m args below meth c 4 (MQ below (Qc v (some (.int r)) S) args s 0 0 (eG v)) 0 S 37 [(0, .ref (eA v (198))), (1, .int x1), (2, .int x2), (3, .int x3)] [] := by
  refine i_iinc hC dX8_conflicts_37 rfl li_1 (by decide) ?_
  refine i_goto hC (tgt := 17) dX8_conflicts_40 (by decide) ?_
  exact Mj.to (hih17 _ hf) ⟨rfl, rfl, rfl, rfl, trivial⟩
set_option maxHeartbeats 4000000 in
set_option maxRecDepth 100000 in
theorem b_X8_conflicts_17_b {v : EV} {p : Program} {l : Launch} {e : Env} {s : State} {m : MethodId} {args : Array Value} {below : List Frame} {meth : Method} {c : Code} (hC : Cx v p l e s m args meth c RX8 cX8_conflicts 4 (some .int)) {S : Mem} {x1 : Int32} {x2 : Int32} {x3 : Int32}  {r : Int32} {ih4 : (Int32 × Int32) → Option (Int32)} (hih4 : ∀ s9 : (Int32 × Int32), ih4 s9 = some r → Mj v p l e (rmF 3 67) s m args below meth c 4 (MQ below (Qc v (some (.int r)) S) args s 0 0 (eG v)) 0 S 4 [(0, .ref (eA v (198))), (1, .int (s9.1)), (2, .int (s9.2))] []) {ih17 : (Int32 × Int32) → Option (Int32)} (hih17 : ∀ s9 : (Int32 × Int32), ih17 s9 = some r → Mj v p l e (rmF 3 67) s m args below meth c 4 (MQ below (Qc v (some (.int r)) S) args s 0 0 (eG v)) 0 S 17 [(0, .ref (eA v (198))), (1, .int (s9.1)), (2, .int x2), (3, .int (s9.2))] []) (hf : f_X8_conflicts_17_b ih4 ih17 S x1 x2 x3 = some r) : Mj v p l e (rmF 3 67) s m args below meth c 4 (MQ below (Qc v (some (.int r)) S) args s 0 0 (eG v)) 0 S 17 [(0, .ref (eA v (198))), (1, .int x1), (2, .int x2), (3, .int x3)] [] := by
  refine i_iload_n hC dX8_conflicts_17 rfl ?_
  refine i_iload_n hC dX8_conflicts_18 rfl ?_
  refine i_icmp_ge hC (tgt := 43) dX8_conflicts_19 (by decide) (fun c2 => ?_) (fun c2 => ?_)
  · replace hf := (if_pos c2).symm.trans hf
    refine i_iinc hC dX8_conflicts_43 rfl li_1 (by decide) ?_
    refine i_goto hC (tgt := 4) dX8_conflicts_46 (by decide) ?_
    exact Mj.to (hih4 _ hf) ⟨rfl, rfl, rfl, trivial⟩
  · replace hf := (if_neg c2).symm.trans hf
    refine i_aload_n hC dX8_conflicts_22 rfl ?_
    refine i_getR (x := pR 0) hC fl_X8_12 (pln rfl) (lay_p198) rfl dX8_conflicts_23 ?_
    refine i_iload_n hC dX8_conflicts_26 rfl ?_
    refine i_iload_n hC dX8_conflicts_27 rfl ?_
    obtain ⟨r3, hc3, hf⟩ := bd1_of hf
    refine i_callVi hC mv_X8_315 (c_X4_isConflict hC.2.2.2.2.2.2.2.1 (by decide) hc3) (pl_R (by decide)) (lay_R (by decide)) rfl rfl rfl rfl ⟨Nat.le_of_ble_eq_true rfl, Nat.le_of_ble_eq_true rfl⟩ (Nat.le_of_ble_eq_true rfl) dX8_conflicts_28 ?_
    refine i_if_eq hC (tgt := 37) dX8_conflicts_31 (by decide) (fun c4 => ?_) (fun c4 => ?_)
    · replace hf := (if_pos c4).symm.trans hf
      exact Mj.to (b_X8_conflicts_37 hC hih4 hih17 hf) ⟨rfl, rfl, rfl, rfl, trivial⟩
    · replace hf := (if_neg c4).symm.trans hf
      refine i_iinc hC dX8_conflicts_34 rfl li_1 (by decide) ?_
      exact Mj.to (b_X8_conflicts_37 hC hih4 hih17 hf) ⟨rfl, rfl, rfl, rfl, trivial⟩
theorem b_X8_conflicts_17 {v : EV} {p : Program} {l : Launch} {e : Env} {s : State} {m : MethodId} {args : Array Value} {below : List Frame} {meth : Method} {c : Code} (hC : Cx v p l e s m args meth c RX8 cX8_conflicts 4 (some .int)) {S : Mem} {x1 : Int32} {x2 : Int32} {x3 : Int32}  {r : Int32} {ih4 : (Int32 × Int32) → Option (Int32)} (hih4 : ∀ s9 : (Int32 × Int32), ih4 s9 = some r → Mj v p l e (rmF 3 67) s m args below meth c 4 (MQ below (Qc v (some (.int r)) S) args s 0 0 (eG v)) 0 S 4 [(0, .ref (eA v (198))), (1, .int (s9.1)), (2, .int (s9.2))] []) (hf : f_X8_conflicts_17 ih4 S x1 x2 x3 = some r) : Mj v p l e (rmF 3 67) s m args below meth c 4 (MQ below (Qc v (some (.int r)) S) args s 0 0 (eG v)) 0 S 17 [(0, .ref (eA v (198))), (1, .int x1), (2, .int x2), (3, .int x3)] [] :=
  lp_ind (P := fun s9 : (Int32 × Int32) => Mj v p l e (rmF 3 67) s m args below meth c 4 (MQ below (Qc v (some (.int r)) S) args s 0 0 (eG v)) 0 S 17 [(0, .ref (eA v (198))), (1, .int (s9.1)), (2, .int x2), (3, .int (s9.2))] []) (fun ih s9 hih hf => b_X8_conflicts_17_b hC  hih4 hih hf) _ _ hf
set_option maxHeartbeats 4000000 in
set_option maxRecDepth 100000 in
theorem b_X8_conflicts_4_b {v : EV} {p : Program} {l : Launch} {e : Env} {s : State} {m : MethodId} {args : Array Value} {below : List Frame} {meth : Method} {c : Code} (hC : Cx v p l e s m args meth c RX8 cX8_conflicts 4 (some .int)) {S : Mem} {x1 : Int32} {x2 : Int32}  {r : Int32} {ih4 : (Int32 × Int32) → Option (Int32)} (hih4 : ∀ s9 : (Int32 × Int32), ih4 s9 = some r → Mj v p l e (rmF 3 67) s m args below meth c 4 (MQ below (Qc v (some (.int r)) S) args s 0 0 (eG v)) 0 S 4 [(0, .ref (eA v (198))), (1, .int (s9.1)), (2, .int (s9.2))] []) (hf : f_X8_conflicts_4_b ih4 S x1 x2 = some r) : Mj v p l e (rmF 3 67) s m args below meth c 4 (MQ below (Qc v (some (.int r)) S) args s 0 0 (eG v)) 0 S 4 [(0, .ref (eA v (198))), (1, .int x1), (2, .int x2)] [] := by
  refine i_iload_n hC dX8_conflicts_4 rfl ?_
  refine i_aload_n hC dX8_conflicts_5 rfl ?_
  refine i_getR (x := pR 0) hC fl_X8_12 (pln rfl) (lay_p198) rfl dX8_conflicts_6 ?_
  refine i_getI hC fl_X8_54 (pl_R (by decide)) (lay_R (by decide)) rfl dX8_conflicts_9 ?_
  refine i_icmp_ge hC (tgt := 49) dX8_conflicts_12 (by decide) (fun c1 => ?_) (fun c1 => ?_)
  · replace hf := (if_pos c1).symm.trans hf
    refine i_iload_n hC dX8_conflicts_49 rfl ?_
    obtain rfl := Option.some.inj hf
    exact i_iret hC dX8_conflicts_50
  · replace hf := (if_neg c1).symm.trans hf
    refine i_iconst hC dX8_conflicts_15 li_0 ?_
    refine i_istore_n hC dX8_conflicts_16 (by decide) ?_
    exact Mj.to (b_X8_conflicts_17 hC hih4 hf) ⟨rfl, rfl, rfl, rfl, trivial⟩
theorem b_X8_conflicts_4 {v : EV} {p : Program} {l : Launch} {e : Env} {s : State} {m : MethodId} {args : Array Value} {below : List Frame} {meth : Method} {c : Code} (hC : Cx v p l e s m args meth c RX8 cX8_conflicts 4 (some .int)) {S : Mem} {x1 : Int32} {x2 : Int32}  {r : Int32} (hf : f_X8_conflicts_4 S x1 x2 = some r) : Mj v p l e (rmF 3 67) s m args below meth c 4 (MQ below (Qc v (some (.int r)) S) args s 0 0 (eG v)) 0 S 4 [(0, .ref (eA v (198))), (1, .int x1), (2, .int x2)] [] :=
  lp_ind (P := fun s9 : (Int32 × Int32) => Mj v p l e (rmF 3 67) s m args below meth c 4 (MQ below (Qc v (some (.int r)) S) args s 0 0 (eG v)) 0 S 4 [(0, .ref (eA v (198))), (1, .int (s9.1)), (2, .int (s9.2))] []) (fun ih s9 hih hf => b_X8_conflicts_4_b hC   hih hf) _ _ hf
set_option maxHeartbeats 4000000 in
set_option maxRecDepth 100000 in
theorem b_X8_conflicts_0 {v : EV} {p : Program} {l : Launch} {e : Env} {s : State} {m : MethodId} {args : Array Value} {below : List Frame} {meth : Method} {c : Code} (hC : Cx v p l e s m args meth c RX8 cX8_conflicts 4 (some .int)) {S : Mem}  {r : Int32} (hf : f_X8_conflicts_0 S = some r) : Mj v p l e (rmF 3 67) s m args below meth c 4 (MQ below (Qc v (some (.int r)) S) args s 0 0 (eG v)) 0 S 0 [(0, .ref (eA v (198)))] [] := by
  refine i_iconst hC dX8_conflicts_0 li_0 ?_
  refine i_istore_n hC dX8_conflicts_1 (by decide) ?_
  refine i_iconst hC dX8_conflicts_2 li_0 ?_
  refine i_istore_n hC dX8_conflicts_3 (by decide) ?_
  exact Mj.to (b_X8_conflicts_4 hC  hf) ⟨rfl, rfl, rfl, trivial⟩
theorem c_X8_conflicts {v : EV} {l : Launch} (hst : Stb v) {S : Mem}  {r : Int32} (hf : g_X8_conflicts S = some r) : Con v l yX8_conflicts cX8_conflicts 4 (some .int) 3 67 [.ref (eA v (198))] S (some (.int r)) S := con_of (by decide) hst (Nat.le_of_ble_eq_true rfl) (fun p e s m args below meth c hC => b_X8_conflicts_0 hC  hf)
def f_X8_leader_60 (ih7 : (Int32 × Int32 × Int32) → Option (Int32)) (S : Mem) (x1 : Int32) (x2 : Int32) (x3 : Int32) : Option (Int32) := ih7 (x1, x2, (x3 + (1 : Int32)))
def f_X8_leader_52 (ih7 : (Int32 × Int32 × Int32) → Option (Int32)) (S : Mem) (x3 : Int32) (d4_0 : Nat) (d4_1 : Nat) : Option (Int32) := f_X8_leader_60 ih7 S x3 (S d4_0 (33 + 34 * d4_1 + 1)) x3
def f_X8_leader_7_b (ih7 : (Int32 × Int32 × Int32) → Option (Int32)) (S : Mem) (x1 : Int32) (x2 : Int32) (x3 : Int32) : Option (Int32) := (if (S 0 1) ≤ x3 then some x1 else ck (inb x3 5) (bd1 (g_X2_isLeading S 0 (x3).toNatClampNeg) (fun r3 => (if r3 = 0 then f_X8_leader_60 ih7 S x1 x2 x3 else (if x1 = (-4 : Int32) then f_X8_leader_52 ih7 S x3 0 (x3).toNatClampNeg else (if (S 0 (33 + 34 * (x3).toNatClampNeg + 1)) ≤ x2 then f_X8_leader_60 ih7 S x1 x2 x3 else f_X8_leader_52 ih7 S x3 0 (x3).toNatClampNeg))))))
def f_X8_leader_7 (S : Mem) (x1 : Int32) (x2 : Int32) (x3 : Int32) : Option (Int32) := lp (fun ih7 s9 => f_X8_leader_7_b ih7 S s9.1 s9.2.1 s9.2.2) 2000 (x1, x2, x3)
def f_X8_leader_0 (S : Mem)  : Option (Int32) := f_X8_leader_7 S (-4 : Int32) (0 : Int32) (0 : Int32)
def g_X8_leader (S : Mem)  : Option (Int32) := f_X8_leader_0 S
set_option maxHeartbeats 4000000 in
set_option maxRecDepth 100000 in
theorem b_X8_leader_60 {v : EV} {p : Program} {l : Launch} {e : Env} {s : State} {m : MethodId} {args : Array Value} {below : List Frame} {meth : Method} {c : Code} (hC : Cx v p l e s m args meth c RX8 cX8_leader 5 (some .int)) {S : Mem} {x1 : Int32} {x2 : Int32} {x3 : Int32}  {r : Int32} {ih7 : (Int32 × Int32 × Int32) → Option (Int32)} (hih7 : ∀ s9 : (Int32 × Int32 × Int32), ih7 s9 = some r → Mj v p l e (rmF 2 32) s m args below meth c 5 (MQ below (Qc v (some (.int r)) S) args s 0 0 (eG v)) 0 S 7 [(0, .ref (eA v (198))), (1, .int (s9.1)), (2, .int (s9.2.1)), (3, .int (s9.2.2))] []) (hf : f_X8_leader_60 ih7 S x1 x2 x3 = some r) : Mj v p l e (rmF 2 32) s m args below meth c 5 (MQ below (Qc v (some (.int r)) S) args s 0 0 (eG v)) 0 S 60 [(0, .ref (eA v (198))), (1, .int x1), (2, .int x2), (3, .int x3)] [] := by
  refine i_iinc hC dX8_leader_60 rfl li_1 (by decide) ?_
  refine i_goto hC (tgt := 7) dX8_leader_63 (by decide) ?_
  exact Mj.to (hih7 _ hf) ⟨rfl, rfl, rfl, rfl, trivial⟩
set_option maxHeartbeats 4000000 in
set_option maxRecDepth 100000 in
theorem b_X8_leader_52 {v : EV} {p : Program} {l : Launch} {e : Env} {s : State} {m : MethodId} {args : Array Value} {below : List Frame} {meth : Method} {c : Code} (hC : Cx v p l e s m args meth c RX8 cX8_leader 5 (some .int)) {S : Mem} {x3 : Int32} {d4_0 : Nat} {d4_1 : Nat} (h4 : d4_0 < 11 ∧ d4_1 < 5) {r : Int32} {ih7 : (Int32 × Int32 × Int32) → Option (Int32)} (hih7 : ∀ s9 : (Int32 × Int32 × Int32), ih7 s9 = some r → Mj v p l e (rmF 2 32) s m args below meth c 5 (MQ below (Qc v (some (.int r)) S) args s 0 0 (eG v)) 0 S 7 [(0, .ref (eA v (198))), (1, .int (s9.1)), (2, .int (s9.2.1)), (3, .int (s9.2.2))] []) (hf : f_X8_leader_52 ih7 S x3 d4_0 d4_1 = some r) : Mj v p l e (rmF 2 32) s m args below meth c 5 (MQ below (Qc v (some (.int r)) S) args s 0 0 (eG v)) 0 S 52 [(0, .ref (eA v (198))), (3, .int x3), (4, .ref (eA v (pD d4_0 d4_1)))] [] := by
  refine i_iload_n hC dX8_leader_52 rfl ?_
  refine i_istore_n hC dX8_leader_53 (by decide) ?_
  refine i_aload hC dX8_leader_54 rfl ?_
  refine i_getI hC fl_X8_204 (pl_D h4) (lay_D h4) rfl dX8_leader_56 ?_
  refine i_istore_n hC dX8_leader_59 (by decide) ?_
  exact Mj.to (b_X8_leader_60 hC hih7 hf) ⟨rfl, rfl, rfl, rfl, trivial⟩
set_option maxHeartbeats 4000000 in
set_option maxRecDepth 100000 in
theorem b_X8_leader_7_b {v : EV} {p : Program} {l : Launch} {e : Env} {s : State} {m : MethodId} {args : Array Value} {below : List Frame} {meth : Method} {c : Code} (hC : Cx v p l e s m args meth c RX8 cX8_leader 5 (some .int)) {S : Mem} {x1 : Int32} {x2 : Int32} {x3 : Int32}  {r : Int32} {ih7 : (Int32 × Int32 × Int32) → Option (Int32)} (hih7 : ∀ s9 : (Int32 × Int32 × Int32), ih7 s9 = some r → Mj v p l e (rmF 2 32) s m args below meth c 5 (MQ below (Qc v (some (.int r)) S) args s 0 0 (eG v)) 0 S 7 [(0, .ref (eA v (198))), (1, .int (s9.1)), (2, .int (s9.2.1)), (3, .int (s9.2.2))] []) (hf : f_X8_leader_7_b ih7 S x1 x2 x3 = some r) : Mj v p l e (rmF 2 32) s m args below meth c 5 (MQ below (Qc v (some (.int r)) S) args s 0 0 (eG v)) 0 S 7 [(0, .ref (eA v (198))), (1, .int x1), (2, .int x2), (3, .int x3)] [] := by
  refine i_iload_n hC dX8_leader_7 rfl ?_
  refine i_aload_n hC dX8_leader_8 rfl ?_
  refine i_getR (x := pR 0) hC fl_X8_12 (pln rfl) (lay_p198) rfl dX8_leader_9 ?_
  refine i_getI hC fl_X8_54 (pl_R (by decide)) (lay_R (by decide)) rfl dX8_leader_12 ?_
  refine i_icmp_ge hC (tgt := 66) dX8_leader_15 (by decide) (fun c1 => ?_) (fun c1 => ?_)
  · replace hf := (if_pos c1).symm.trans hf
    refine i_iload_n hC dX8_leader_66 rfl ?_
    obtain rfl := Option.some.inj hf
    exact i_iret hC dX8_leader_67
  · replace hf := (if_neg c1).symm.trans hf
    refine i_aload_n hC dX8_leader_18 rfl ?_
    refine i_getR (x := pR 0) hC fl_X8_12 (pln rfl) (lay_p198) rfl dX8_leader_19 ?_
    refine i_getR hC fl_X8_191 (pl_R (by decide)) (lay_R (by decide)) rfl dX8_leader_22 ?_
    refine i_iload_n hC dX8_leader_25 rfl ?_
    obtain ⟨k2, hf⟩ := ck_of hf
    refine i_aald hC (pl_AD (by decide)) (lay_AD (by decide)) (by decide) (inb_in k2) dX8_leader_26 ?_
    refine i_astore hC dX8_leader_27 (by decide) ?_
    refine i_aload hC dX8_leader_29 rfl ?_
    obtain ⟨r3, hc3, hf⟩ := bd1_of hf
    refine i_callVi hC mv_X8_292 (c_X2_isLeading hC.2.2.2.2.2.2.2.1 ⟨(by decide), inb_lt k2⟩ hc3) (pl_D ⟨(by decide), inb_lt k2⟩) (lay_D ⟨(by decide), inb_lt k2⟩) rfl rfl rfl rfl ⟨Nat.le_of_ble_eq_true rfl, Nat.le_of_ble_eq_true rfl⟩ (Nat.le_of_ble_eq_true rfl) dX8_leader_31 ?_
    refine i_if_eq hC (tgt := 60) dX8_leader_34 (by decide) (fun c4 => ?_) (fun c4 => ?_)
    · replace hf := (if_pos c4).symm.trans hf
      exact Mj.to (b_X8_leader_60 hC hih7 hf) ⟨rfl, rfl, rfl, rfl, trivial⟩
    · replace hf := (if_neg c4).symm.trans hf
      refine i_iload_n hC dX8_leader_37 rfl ?_
      refine i_bipush hC dX8_leader_38 lb_m4 ?_
      refine i_icmp_eq hC (tgt := 52) dX8_leader_40 (by decide) (fun c5 => ?_) (fun c5 => ?_)
      · replace hf := (if_pos c5).symm.trans hf
        exact Mj.to (b_X8_leader_52 hC ⟨(by decide), inb_lt k2⟩ hih7 hf) ⟨rfl, rfl, rfl, trivial⟩
      · replace hf := (if_neg c5).symm.trans hf
        refine i_aload hC dX8_leader_43 rfl ?_
        refine i_getI hC fl_X8_204 (pl_D ⟨(by decide), inb_lt k2⟩) (lay_D ⟨(by decide), inb_lt k2⟩) rfl dX8_leader_45 ?_
        refine i_iload_n hC dX8_leader_48 rfl ?_
        refine i_icmp_le hC (tgt := 60) dX8_leader_49 (by decide) (fun c6 => ?_) (fun c6 => ?_)
        · replace hf := (if_pos c6).symm.trans hf
          exact Mj.to (b_X8_leader_60 hC hih7 hf) ⟨rfl, rfl, rfl, rfl, trivial⟩
        · replace hf := (if_neg c6).symm.trans hf
          exact Mj.to (b_X8_leader_52 hC ⟨(by decide), inb_lt k2⟩ hih7 hf) ⟨rfl, rfl, rfl, trivial⟩
theorem b_X8_leader_7 {v : EV} {p : Program} {l : Launch} {e : Env} {s : State} {m : MethodId} {args : Array Value} {below : List Frame} {meth : Method} {c : Code} (hC : Cx v p l e s m args meth c RX8 cX8_leader 5 (some .int)) {S : Mem} {x1 : Int32} {x2 : Int32} {x3 : Int32}  {r : Int32} (hf : f_X8_leader_7 S x1 x2 x3 = some r) : Mj v p l e (rmF 2 32) s m args below meth c 5 (MQ below (Qc v (some (.int r)) S) args s 0 0 (eG v)) 0 S 7 [(0, .ref (eA v (198))), (1, .int x1), (2, .int x2), (3, .int x3)] [] :=
  lp_ind (P := fun s9 : (Int32 × Int32 × Int32) => Mj v p l e (rmF 2 32) s m args below meth c 5 (MQ below (Qc v (some (.int r)) S) args s 0 0 (eG v)) 0 S 7 [(0, .ref (eA v (198))), (1, .int (s9.1)), (2, .int (s9.2.1)), (3, .int (s9.2.2))] []) (fun ih s9 hih hf => b_X8_leader_7_b hC   hih hf) _ _ hf
set_option maxHeartbeats 4000000 in
set_option maxRecDepth 100000 in
theorem b_X8_leader_0 {v : EV} {p : Program} {l : Launch} {e : Env} {s : State} {m : MethodId} {args : Array Value} {below : List Frame} {meth : Method} {c : Code} (hC : Cx v p l e s m args meth c RX8 cX8_leader 5 (some .int)) {S : Mem}  {r : Int32} (hf : f_X8_leader_0 S = some r) : Mj v p l e (rmF 2 32) s m args below meth c 5 (MQ below (Qc v (some (.int r)) S) args s 0 0 (eG v)) 0 S 0 [(0, .ref (eA v (198)))] [] := by
  refine i_bipush hC dX8_leader_0 lb_m4 ?_
  refine i_istore_n hC dX8_leader_2 (by decide) ?_
  refine i_iconst hC dX8_leader_3 li_0 ?_
  refine i_istore_n hC dX8_leader_4 (by decide) ?_
  refine i_iconst hC dX8_leader_5 li_0 ?_
  refine i_istore_n hC dX8_leader_6 (by decide) ?_
  exact Mj.to (b_X8_leader_7 hC  hf) ⟨rfl, rfl, rfl, rfl, trivial⟩
theorem c_X8_leader {v : EV} {l : Launch} (hst : Stb v) {S : Mem}  {r : Int32} (hf : g_X8_leader S = some r) : Con v l yX8_leader cX8_leader 5 (some .int) 2 32 [.ref (eA v (198))] S (some (.int r)) S := con_of (by decide) hst (Nat.le_of_ble_eq_true rfl) (fun p e s m args below meth c hC => b_X8_leader_0 hC  hf)
def f_X8_refuseCommand_29 (S : Mem)  : Option (Int32 × Mem) := some ((-3 : Int32), S)
def f_X8_refuseCommand_0 (S : Mem) (x1 : Int32) (x2 : Int32) : Option (Int32 × Mem) := (if x2 = (-3 : Int32) then bd1 (g_X5_putAhead S (8 : Int32) x1) (fun S3 => f_X8_refuseCommand_29 S3) else bd1 (g_X5_put S (9 : Int32) x1) (fun S2 => f_X8_refuseCommand_29 S2))
def g_X8_refuseCommand (S : Mem) (x1 : Int32) (x2 : Int32) : Option (Int32 × Mem) := f_X8_refuseCommand_0 S x1 x2
set_option maxHeartbeats 4000000 in
set_option maxRecDepth 100000 in
theorem b_X8_refuseCommand_29 {v : EV} {p : Program} {l : Launch} {e : Env} {s : State} {m : MethodId} {args : Array Value} {below : List Frame} {meth : Method} {c : Code} (hC : Cx v p l e s m args meth c RX8 cX8_refuseCommand 3 (some .int)) {S : Mem}  {r : Int32 × Mem} (hf : f_X8_refuseCommand_29 S = some r) : Mj v p l e (rmF 2 34) s m args below meth c 3 (MQ below (Qc v (some (.int r.1)) r.2) args s 0 0 (eG v)) 0 S 29 [] [] := by
  refine i_bipush hC dX8_refuseCommand_29 lb_m3 ?_
  obtain rfl := Option.some.inj hf
  exact i_iret hC dX8_refuseCommand_31
set_option maxHeartbeats 4000000 in
set_option maxRecDepth 100000 in
theorem b_X8_refuseCommand_0 {v : EV} {p : Program} {l : Launch} {e : Env} {s : State} {m : MethodId} {args : Array Value} {below : List Frame} {meth : Method} {c : Code} (hC : Cx v p l e s m args meth c RX8 cX8_refuseCommand 3 (some .int)) {S : Mem} {x1 : Int32} {x2 : Int32}  {r : Int32 × Mem} (hf : f_X8_refuseCommand_0 S x1 x2 = some r) : Mj v p l e (rmF 2 34) s m args below meth c 3 (MQ below (Qc v (some (.int r.1)) r.2) args s 0 0 (eG v)) 0 S 0 [(0, .ref (eA v (198))), (1, .int x1), (2, .int x2)] [] := by
  refine i_iload_n hC dX8_refuseCommand_0 rfl ?_
  refine i_bipush hC dX8_refuseCommand_1 lb_m3 ?_
  refine i_icmp_ne hC (tgt := 19) dX8_refuseCommand_3 (by decide) (fun c1 => ?_) (fun c1 => ?_)
  · replace hf := (if_neg c1).symm.trans hf
    refine i_aload_n hC dX8_refuseCommand_19 rfl ?_
    refine i_getR hC fl_X8_32 (pln rfl) (lay_p198) rfl dX8_refuseCommand_20 ?_
    refine i_bipush hC dX8_refuseCommand_23 lb_9 ?_
    refine i_iload_n hC dX8_refuseCommand_25 rfl ?_
    obtain ⟨S2, hc2, hf⟩ := bd1_of hf
    refine i_callVv hC mv_X8_245 (c_X5_put hC.2.2.2.2.2.2.2.1 hc2) (pln rfl) (lay_p201) rfl rfl rfl rfl ⟨Nat.le_of_ble_eq_true rfl, Nat.le_of_ble_eq_true rfl⟩ (Nat.le_of_ble_eq_true rfl) dX8_refuseCommand_26 ?_
    exact Mj.to (b_X8_refuseCommand_29 hC  hf) trivial
  · replace hf := (if_pos c1).symm.trans hf
    refine i_aload_n hC dX8_refuseCommand_6 rfl ?_
    refine i_getR hC fl_X8_32 (pln rfl) (lay_p198) rfl dX8_refuseCommand_7 ?_
    refine i_bipush hC dX8_refuseCommand_10 lb_8 ?_
    refine i_iload_n hC dX8_refuseCommand_12 rfl ?_
    obtain ⟨S3, hc3, hf⟩ := bd1_of hf
    refine i_callVv hC mv_X8_249 (c_X5_putAhead hC.2.2.2.2.2.2.2.1 hc3) (pln rfl) (lay_p201) rfl rfl rfl rfl ⟨Nat.le_of_ble_eq_true rfl, Nat.le_of_ble_eq_true rfl⟩ (Nat.le_of_ble_eq_true rfl) dX8_refuseCommand_13 ?_
    refine i_goto hC (tgt := 29) dX8_refuseCommand_16 (by decide) ?_
    exact Mj.to (b_X8_refuseCommand_29 hC  hf) trivial
theorem c_X8_refuseCommand {v : EV} {l : Launch} (hst : Stb v) {S : Mem} {x1 x2 : Int32}  {r : Int32 × Mem} (hf : g_X8_refuseCommand S x1 x2 = some r) : Con v l yX8_refuseCommand cX8_refuseCommand 3 (some .int) 2 34 [.ref (eA v (198)), .int x1, .int x2] S (some (.int r.1)) r.2 := con_of (by decide) hst (Nat.le_of_ble_eq_true rfl) (fun p e s m args below meth c hC => b_X8_refuseCommand_0 hC  hf)
def f_X8_lineOf_50 (S : Mem) (xt0 : Int32) : Option (Int32) := some xt0
def f_X8_lineOf_0 (S : Mem) (x1 : Int32) (x2 : Int32) (x3 : Int32) : Option (Int32) := bd1 (g_X4_hasLine S 0 x1 x2) (fun r1 => (if r1 = 0 then some (-1 : Int32) else ck (inb x1 5) ((if x3 = 0 then ck (inb (x2 - (1 : Int32)) 12) (f_X8_lineOf_50 S (S 0 (33 + 34 * (x1).toNatClampNeg + 10 + ((x2 - (1 : Int32))).toNatClampNeg))) else ck (inb (x2 - (1 : Int32)) 12) (f_X8_lineOf_50 S (S 0 (33 + 34 * (x1).toNatClampNeg + 22 + ((x2 - (1 : Int32))).toNatClampNeg)))))))
def g_X8_lineOf (S : Mem) (x1 : Int32) (x2 : Int32) (x3 : Int32) : Option (Int32) := f_X8_lineOf_0 S x1 x2 x3
set_option maxHeartbeats 4000000 in
set_option maxRecDepth 100000 in
theorem b_X8_lineOf_50 {v : EV} {p : Program} {l : Launch} {e : Env} {s : State} {m : MethodId} {args : Array Value} {below : List Frame} {meth : Method} {c : Code} (hC : Cx v p l e s m args meth c RX8 cX8_lineOf 5 (some .int)) {S : Mem} {xt0 : Int32}  {r : Int32} (hf : f_X8_lineOf_50 S xt0 = some r) : Mj v p l e (rmF 3 55) s m args below meth c 5 (MQ below (Qc v (some (.int r)) S) args s 0 0 (eG v)) 0 S 50 [] [.int xt0] := by
  obtain rfl := Option.some.inj hf
  exact i_iret hC dX8_lineOf_50
set_option maxHeartbeats 4000000 in
set_option maxRecDepth 100000 in
theorem b_X8_lineOf_0 {v : EV} {p : Program} {l : Launch} {e : Env} {s : State} {m : MethodId} {args : Array Value} {below : List Frame} {meth : Method} {c : Code} (hC : Cx v p l e s m args meth c RX8 cX8_lineOf 5 (some .int)) {S : Mem} {x1 : Int32} {x2 : Int32} {x3 : Int32}  {r : Int32} (hf : f_X8_lineOf_0 S x1 x2 x3 = some r) : Mj v p l e (rmF 3 55) s m args below meth c 5 (MQ below (Qc v (some (.int r)) S) args s 0 0 (eG v)) 0 S 0 [(0, .ref (eA v (198))), (1, .int x1), (2, .int x2), (3, .int x3)] [] := by
  refine i_aload_n hC dX8_lineOf_0 rfl ?_
  refine i_getR (x := pR 0) hC fl_X8_12 (pln rfl) (lay_p198) rfl dX8_lineOf_1 ?_
  refine i_iload_n hC dX8_lineOf_4 rfl ?_
  refine i_iload_n hC dX8_lineOf_5 rfl ?_
  obtain ⟨r1, hc1, hf⟩ := bd1_of hf
  refine i_callVi hC mv_X8_282 (c_X4_hasLine hC.2.2.2.2.2.2.2.1 (by decide) hc1) (pl_R (by decide)) (lay_R (by decide)) rfl rfl rfl rfl ⟨Nat.le_of_ble_eq_true rfl, Nat.le_of_ble_eq_true rfl⟩ (Nat.le_of_ble_eq_true rfl) dX8_lineOf_6 ?_
  refine i_if_ne hC (tgt := 14) dX8_lineOf_9 (by decide) (fun c2 => ?_) (fun c2 => ?_)
  · replace hf := (if_neg c2).symm.trans hf
    refine i_aload_n hC dX8_lineOf_14 rfl ?_
    refine i_getR (x := pR 0) hC fl_X8_12 (pln rfl) (lay_p198) rfl dX8_lineOf_15 ?_
    refine i_getR hC fl_X8_191 (pl_R (by decide)) (lay_R (by decide)) rfl dX8_lineOf_18 ?_
    refine i_iload_n hC dX8_lineOf_21 rfl ?_
    obtain ⟨k3, hf⟩ := ck_of hf
    refine i_aald hC (pl_AD (by decide)) (lay_AD (by decide)) (by decide) (inb_in k3) dX8_lineOf_22 ?_
    refine i_astore hC dX8_lineOf_23 (by decide) ?_
    refine i_iload_n hC dX8_lineOf_25 rfl ?_
    refine i_if_eq hC (tgt := 41) dX8_lineOf_26 (by decide) (fun c4 => ?_) (fun c4 => ?_)
    · replace hf := (if_pos c4).symm.trans hf
      refine i_aload hC dX8_lineOf_41 rfl ?_
      refine i_getR hC fl_X8_289 (pl_D ⟨(by decide), inb_lt k3⟩) (lay_D ⟨(by decide), inb_lt k3⟩) rfl dX8_lineOf_43 ?_
      refine i_iload_n hC dX8_lineOf_46 rfl ?_
      refine i_iconst hC dX8_lineOf_47 li_1 ?_
      refine i_isub hC dX8_lineOf_48 ?_
      obtain ⟨k5, hf⟩ := ck_of hf
      refine i_iald hC (j0 := (33 + 34 * (x1).toNatClampNeg + 10 + ((x2 - (1 : Int32))).toNatClampNeg)) (pl_AT ⟨(by decide), inb_lt k3⟩) (lay_AT ⟨(by decide), inb_lt k3⟩) (inb_in k5) rfl dX8_lineOf_49 ?_
      exact Mj.to (b_X8_lineOf_50 hC  hf) trivial
    · replace hf := (if_neg c4).symm.trans hf
      refine i_aload hC dX8_lineOf_29 rfl ?_
      refine i_getR hC fl_X8_285 (pl_D ⟨(by decide), inb_lt k3⟩) (lay_D ⟨(by decide), inb_lt k3⟩) rfl dX8_lineOf_31 ?_
      refine i_iload_n hC dX8_lineOf_34 rfl ?_
      refine i_iconst hC dX8_lineOf_35 li_1 ?_
      refine i_isub hC dX8_lineOf_36 ?_
      obtain ⟨k6, hf⟩ := ck_of hf
      refine i_cald hC (j0 := (33 + 34 * (x1).toNatClampNeg + 22 + ((x2 - (1 : Int32))).toNatClampNeg)) (pl_AL ⟨(by decide), inb_lt k3⟩) (lay_AL ⟨(by decide), inb_lt k3⟩) (inb_in k6) rfl dX8_lineOf_37 ?_
      refine i_goto hC (tgt := 50) dX8_lineOf_38 (by decide) ?_
      exact Mj.to (b_X8_lineOf_50 hC  hf) trivial
  · replace hf := (if_pos c2).symm.trans hf
    refine i_iconst hC dX8_lineOf_12 li_m1 ?_
    obtain rfl := Option.some.inj hf
    exact i_iret hC dX8_lineOf_13
theorem c_X8_lineOf {v : EV} {l : Launch} (hst : Stb v) {S : Mem} {x1 x2 x3 : Int32}  {r : Int32} (hf : g_X8_lineOf S x1 x2 x3 = some r) : Con v l yX8_lineOf cX8_lineOf 5 (some .int) 3 55 [.ref (eA v (198)), .int x1, .int x2, .int x3] S (some (.int r)) S := con_of (by decide) hst (Nat.le_of_ble_eq_true rfl) (fun p e s m args below meth c hC => b_X8_lineOf_0 hC  hf)
def f_X8_longer_22 (S : Mem)  : Option (Int32) := some (-4 : Int32)
def f_X8_longer_80 (S : Mem) (xt0 : Int32) : Option (Int32) := some xt0
def f_X8_longer_0 (S : Mem) (x1 : Int32) (x2 : Int32) : Option (Int32) := bd1 (g_X4_has S 0 x1) (fun r1 => (if r1 = 0 then f_X8_longer_22 S else bd1 (g_X4_has S 0 x2) (fun r3 => (if r3 = 0 then f_X8_longer_22 S else ck (inb x1 5) (ck (inb x2 5) (bd1 (g_X2_hasLongerTaleThan S 0 (x1).toNatClampNeg 0 (x2).toNatClampNeg) (fun r7 => (if r7 = 0 then ck (inb x2 5) (ck (inb x1 5) (bd1 (g_X2_hasLongerTaleThan S 0 (x2).toNatClampNeg 0 (x1).toNatClampNeg) (fun r11 => (if r11 = 0 then f_X8_longer_80 S (0 : Int32) else f_X8_longer_80 S (-1 : Int32))))) else some (1 : Int32)))))))))
def g_X8_longer (S : Mem) (x1 : Int32) (x2 : Int32) : Option (Int32) := f_X8_longer_0 S x1 x2
set_option maxHeartbeats 4000000 in
set_option maxRecDepth 100000 in
theorem b_X8_longer_22 {v : EV} {p : Program} {l : Launch} {e : Env} {s : State} {m : MethodId} {args : Array Value} {below : List Frame} {meth : Method} {c : Code} (hC : Cx v p l e s m args meth c RX8 cX8_longer 3 (some .int)) {S : Mem}  {r : Int32} (hf : f_X8_longer_22 S = some r) : Mj v p l e (rmF 2 35) s m args below meth c 3 (MQ below (Qc v (some (.int r)) S) args s 0 0 (eG v)) 0 S 22 [] [] := by
  refine i_bipush hC dX8_longer_22 lb_m4 ?_
  obtain rfl := Option.some.inj hf
  exact i_iret hC dX8_longer_24
set_option maxHeartbeats 4000000 in
set_option maxRecDepth 100000 in
theorem b_X8_longer_80 {v : EV} {p : Program} {l : Launch} {e : Env} {s : State} {m : MethodId} {args : Array Value} {below : List Frame} {meth : Method} {c : Code} (hC : Cx v p l e s m args meth c RX8 cX8_longer 3 (some .int)) {S : Mem} {xt0 : Int32}  {r : Int32} (hf : f_X8_longer_80 S xt0 = some r) : Mj v p l e (rmF 2 35) s m args below meth c 3 (MQ below (Qc v (some (.int r)) S) args s 0 0 (eG v)) 0 S 80 [] [.int xt0] := by
  obtain rfl := Option.some.inj hf
  exact i_iret hC dX8_longer_80
set_option maxHeartbeats 4000000 in
set_option maxRecDepth 100000 in
theorem b_X8_longer_0 {v : EV} {p : Program} {l : Launch} {e : Env} {s : State} {m : MethodId} {args : Array Value} {below : List Frame} {meth : Method} {c : Code} (hC : Cx v p l e s m args meth c RX8 cX8_longer 3 (some .int)) {S : Mem} {x1 : Int32} {x2 : Int32}  {r : Int32} (hf : f_X8_longer_0 S x1 x2 = some r) : Mj v p l e (rmF 2 35) s m args below meth c 3 (MQ below (Qc v (some (.int r)) S) args s 0 0 (eG v)) 0 S 0 [(0, .ref (eA v (198))), (1, .int x1), (2, .int x2)] [] := by
  refine i_aload_n hC dX8_longer_0 rfl ?_
  refine i_getR (x := pR 0) hC fl_X8_12 (pln rfl) (lay_p198) rfl dX8_longer_1 ?_
  refine i_iload_n hC dX8_longer_4 rfl ?_
  obtain ⟨r1, hc1, hf⟩ := bd1_of hf
  refine i_callVi hC mv_X8_187 (c_X4_has hC.2.2.2.2.2.2.2.1 (by decide) hc1) (pl_R (by decide)) (lay_R (by decide)) rfl rfl rfl rfl ⟨Nat.le_of_ble_eq_true rfl, Nat.le_of_ble_eq_true rfl⟩ (Nat.le_of_ble_eq_true rfl) dX8_longer_5 ?_
  refine i_if_eq hC (tgt := 22) dX8_longer_8 (by decide) (fun c2 => ?_) (fun c2 => ?_)
  · replace hf := (if_pos c2).symm.trans hf
    exact Mj.to (b_X8_longer_22 hC  hf) trivial
  · replace hf := (if_neg c2).symm.trans hf
    refine i_aload_n hC dX8_longer_11 rfl ?_
    refine i_getR (x := pR 0) hC fl_X8_12 (pln rfl) (lay_p198) rfl dX8_longer_12 ?_
    refine i_iload_n hC dX8_longer_15 rfl ?_
    obtain ⟨r3, hc3, hf⟩ := bd1_of hf
    refine i_callVi hC mv_X8_187 (c_X4_has hC.2.2.2.2.2.2.2.1 (by decide) hc3) (pl_R (by decide)) (lay_R (by decide)) rfl rfl rfl rfl ⟨Nat.le_of_ble_eq_true rfl, Nat.le_of_ble_eq_true rfl⟩ (Nat.le_of_ble_eq_true rfl) dX8_longer_16 ?_
    refine i_if_ne hC (tgt := 25) dX8_longer_19 (by decide) (fun c4 => ?_) (fun c4 => ?_)
    · replace hf := (if_neg c4).symm.trans hf
      refine i_aload_n hC dX8_longer_25 rfl ?_
      refine i_getR (x := pR 0) hC fl_X8_12 (pln rfl) (lay_p198) rfl dX8_longer_26 ?_
      refine i_getR hC fl_X8_191 (pl_R (by decide)) (lay_R (by decide)) rfl dX8_longer_29 ?_
      refine i_iload_n hC dX8_longer_32 rfl ?_
      obtain ⟨k5, hf⟩ := ck_of hf
      refine i_aald hC (pl_AD (by decide)) (lay_AD (by decide)) (by decide) (inb_in k5) dX8_longer_33 ?_
      refine i_aload_n hC dX8_longer_34 rfl ?_
      refine i_getR (x := pR 0) hC fl_X8_12 (pln rfl) (lay_p198) rfl dX8_longer_35 ?_
      refine i_getR hC fl_X8_191 (pl_R (by decide)) (lay_R (by decide)) rfl dX8_longer_38 ?_
      refine i_iload_n hC dX8_longer_41 rfl ?_
      obtain ⟨k6, hf⟩ := ck_of hf
      refine i_aald hC (pl_AD (by decide)) (lay_AD (by decide)) (by decide) (inb_in k6) dX8_longer_42 ?_
      obtain ⟨r7, hc7, hf⟩ := bd1_of hf
      refine i_callVi hC mv_X8_307 (c_X2_hasLongerTaleThan hC.2.2.2.2.2.2.2.1 ⟨(by decide), inb_lt k5⟩ ⟨(by decide), inb_lt k6⟩ hc7) (pl_D ⟨(by decide), inb_lt k5⟩) (lay_D ⟨(by decide), inb_lt k5⟩) rfl rfl rfl rfl ⟨Nat.le_of_ble_eq_true rfl, Nat.le_of_ble_eq_true rfl⟩ (Nat.le_of_ble_eq_true rfl) dX8_longer_43 ?_
      refine i_if_eq hC (tgt := 51) dX8_longer_46 (by decide) (fun c8 => ?_) (fun c8 => ?_)
      · replace hf := (if_pos c8).symm.trans hf
        refine i_aload_n hC dX8_longer_51 rfl ?_
        refine i_getR (x := pR 0) hC fl_X8_12 (pln rfl) (lay_p198) rfl dX8_longer_52 ?_
        refine i_getR hC fl_X8_191 (pl_R (by decide)) (lay_R (by decide)) rfl dX8_longer_55 ?_
        refine i_iload_n hC dX8_longer_58 rfl ?_
        obtain ⟨k9, hf⟩ := ck_of hf
        refine i_aald hC (pl_AD (by decide)) (lay_AD (by decide)) (by decide) (inb_in k9) dX8_longer_59 ?_
        refine i_aload_n hC dX8_longer_60 rfl ?_
        refine i_getR (x := pR 0) hC fl_X8_12 (pln rfl) (lay_p198) rfl dX8_longer_61 ?_
        refine i_getR hC fl_X8_191 (pl_R (by decide)) (lay_R (by decide)) rfl dX8_longer_64 ?_
        refine i_iload_n hC dX8_longer_67 rfl ?_
        obtain ⟨k10, hf⟩ := ck_of hf
        refine i_aald hC (pl_AD (by decide)) (lay_AD (by decide)) (by decide) (inb_in k10) dX8_longer_68 ?_
        obtain ⟨r11, hc11, hf⟩ := bd1_of hf
        refine i_callVi hC mv_X8_307 (c_X2_hasLongerTaleThan hC.2.2.2.2.2.2.2.1 ⟨(by decide), inb_lt k9⟩ ⟨(by decide), inb_lt k10⟩ hc11) (pl_D ⟨(by decide), inb_lt k9⟩) (lay_D ⟨(by decide), inb_lt k9⟩) rfl rfl rfl rfl ⟨Nat.le_of_ble_eq_true rfl, Nat.le_of_ble_eq_true rfl⟩ (Nat.le_of_ble_eq_true rfl) dX8_longer_69 ?_
        refine i_if_eq hC (tgt := 79) dX8_longer_72 (by decide) (fun c12 => ?_) (fun c12 => ?_)
        · replace hf := (if_pos c12).symm.trans hf
          refine i_iconst hC dX8_longer_79 li_0 ?_
          exact Mj.to (b_X8_longer_80 hC  hf) trivial
        · replace hf := (if_neg c12).symm.trans hf
          refine i_iconst hC dX8_longer_75 li_m1 ?_
          refine i_goto hC (tgt := 80) dX8_longer_76 (by decide) ?_
          exact Mj.to (b_X8_longer_80 hC  hf) trivial
      · replace hf := (if_neg c8).symm.trans hf
        refine i_iconst hC dX8_longer_49 li_1 ?_
        obtain rfl := Option.some.inj hf
        exact i_iret hC dX8_longer_50
    · replace hf := (if_pos c4).symm.trans hf
      exact Mj.to (b_X8_longer_22 hC  hf) trivial
theorem c_X8_longer {v : EV} {l : Launch} (hst : Stb v) {S : Mem} {x1 x2 : Int32}  {r : Int32} (hf : g_X8_longer S x1 x2 = some r) : Con v l yX8_longer cX8_longer 3 (some .int) 2 35 [.ref (eA v (198)), .int x1, .int x2] S (some (.int r)) S := con_of (by decide) hst (Nat.le_of_ble_eq_true rfl) (fun p e s m args below meth c hC => b_X8_longer_0 hC  hf)
def f_X8_alike_22 (S : Mem)  : Option (Int32) := some (-1 : Int32)
def f_X8_alike_0 (S : Mem) (x1 : Int32) (x2 : Int32) : Option (Int32) := bd1 (g_X4_has S 0 x1) (fun r1 => (if r1 = 0 then f_X8_alike_22 S else bd1 (g_X4_has S 0 x2) (fun r3 => (if r3 = 0 then f_X8_alike_22 S else ck (inb x1 5) (ck (inb x2 5) (bd1 (g_X2_countSameLines S 0 (x1).toNatClampNeg 0 (x2).toNatClampNeg) (fun r7 => some r7)))))))
def g_X8_alike (S : Mem) (x1 : Int32) (x2 : Int32) : Option (Int32) := f_X8_alike_0 S x1 x2
set_option maxHeartbeats 4000000 in
set_option maxRecDepth 100000 in
theorem b_X8_alike_22 {v : EV} {p : Program} {l : Launch} {e : Env} {s : State} {m : MethodId} {args : Array Value} {below : List Frame} {meth : Method} {c : Code} (hC : Cx v p l e s m args meth c RX8 cX8_alike 3 (some .int)) {S : Mem}  {r : Int32} (hf : f_X8_alike_22 S = some r) : Mj v p l e (rmF 2 44) s m args below meth c 3 (MQ below (Qc v (some (.int r)) S) args s 0 0 (eG v)) 0 S 22 [] [] := by
  refine i_iconst hC dX8_alike_22 li_m1 ?_
  obtain rfl := Option.some.inj hf
  exact i_iret hC dX8_alike_23
set_option maxHeartbeats 4000000 in
set_option maxRecDepth 100000 in
theorem b_X8_alike_0 {v : EV} {p : Program} {l : Launch} {e : Env} {s : State} {m : MethodId} {args : Array Value} {below : List Frame} {meth : Method} {c : Code} (hC : Cx v p l e s m args meth c RX8 cX8_alike 3 (some .int)) {S : Mem} {x1 : Int32} {x2 : Int32}  {r : Int32} (hf : f_X8_alike_0 S x1 x2 = some r) : Mj v p l e (rmF 2 44) s m args below meth c 3 (MQ below (Qc v (some (.int r)) S) args s 0 0 (eG v)) 0 S 0 [(0, .ref (eA v (198))), (1, .int x1), (2, .int x2)] [] := by
  refine i_aload_n hC dX8_alike_0 rfl ?_
  refine i_getR (x := pR 0) hC fl_X8_12 (pln rfl) (lay_p198) rfl dX8_alike_1 ?_
  refine i_iload_n hC dX8_alike_4 rfl ?_
  obtain ⟨r1, hc1, hf⟩ := bd1_of hf
  refine i_callVi hC mv_X8_187 (c_X4_has hC.2.2.2.2.2.2.2.1 (by decide) hc1) (pl_R (by decide)) (lay_R (by decide)) rfl rfl rfl rfl ⟨Nat.le_of_ble_eq_true rfl, Nat.le_of_ble_eq_true rfl⟩ (Nat.le_of_ble_eq_true rfl) dX8_alike_5 ?_
  refine i_if_eq hC (tgt := 22) dX8_alike_8 (by decide) (fun c2 => ?_) (fun c2 => ?_)
  · replace hf := (if_pos c2).symm.trans hf
    exact Mj.to (b_X8_alike_22 hC  hf) trivial
  · replace hf := (if_neg c2).symm.trans hf
    refine i_aload_n hC dX8_alike_11 rfl ?_
    refine i_getR (x := pR 0) hC fl_X8_12 (pln rfl) (lay_p198) rfl dX8_alike_12 ?_
    refine i_iload_n hC dX8_alike_15 rfl ?_
    obtain ⟨r3, hc3, hf⟩ := bd1_of hf
    refine i_callVi hC mv_X8_187 (c_X4_has hC.2.2.2.2.2.2.2.1 (by decide) hc3) (pl_R (by decide)) (lay_R (by decide)) rfl rfl rfl rfl ⟨Nat.le_of_ble_eq_true rfl, Nat.le_of_ble_eq_true rfl⟩ (Nat.le_of_ble_eq_true rfl) dX8_alike_16 ?_
    refine i_if_ne hC (tgt := 24) dX8_alike_19 (by decide) (fun c4 => ?_) (fun c4 => ?_)
    · replace hf := (if_neg c4).symm.trans hf
      refine i_aload_n hC dX8_alike_24 rfl ?_
      refine i_getR (x := pR 0) hC fl_X8_12 (pln rfl) (lay_p198) rfl dX8_alike_25 ?_
      refine i_getR hC fl_X8_191 (pl_R (by decide)) (lay_R (by decide)) rfl dX8_alike_28 ?_
      refine i_iload_n hC dX8_alike_31 rfl ?_
      obtain ⟨k5, hf⟩ := ck_of hf
      refine i_aald hC (pl_AD (by decide)) (lay_AD (by decide)) (by decide) (inb_in k5) dX8_alike_32 ?_
      refine i_aload_n hC dX8_alike_33 rfl ?_
      refine i_getR (x := pR 0) hC fl_X8_12 (pln rfl) (lay_p198) rfl dX8_alike_34 ?_
      refine i_getR hC fl_X8_191 (pl_R (by decide)) (lay_R (by decide)) rfl dX8_alike_37 ?_
      refine i_iload_n hC dX8_alike_40 rfl ?_
      obtain ⟨k6, hf⟩ := ck_of hf
      refine i_aald hC (pl_AD (by decide)) (lay_AD (by decide)) (by decide) (inb_in k6) dX8_alike_41 ?_
      obtain ⟨r7, hc7, hf⟩ := bd1_of hf
      refine i_callVi hC mv_X8_311 (c_X2_countSameLines hC.2.2.2.2.2.2.2.1 ⟨(by decide), inb_lt k5⟩ ⟨(by decide), inb_lt k6⟩ hc7) (pl_D ⟨(by decide), inb_lt k5⟩) (lay_D ⟨(by decide), inb_lt k5⟩) rfl rfl rfl rfl ⟨Nat.le_of_ble_eq_true rfl, Nat.le_of_ble_eq_true rfl⟩ (Nat.le_of_ble_eq_true rfl) dX8_alike_42 ?_
      obtain rfl := Option.some.inj hf
      exact i_iret hC dX8_alike_45
    · replace hf := (if_pos c4).symm.trans hf
      exact Mj.to (b_X8_alike_22 hC  hf) trivial
theorem c_X8_alike {v : EV} {l : Launch} (hst : Stb v) {S : Mem} {x1 x2 : Int32}  {r : Int32} (hf : g_X8_alike S x1 x2 = some r) : Con v l yX8_alike cX8_alike 3 (some .int) 2 44 [.ref (eA v (198)), .int x1, .int x2] S (some (.int r)) S := con_of (by decide) hst (Nat.le_of_ble_eq_true rfl) (fun p e s m args below meth c hC => b_X8_alike_0 hC  hf)
