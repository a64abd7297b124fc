def f_L_does_170 (S : Mem) (xt0 : Int32) : Option (Int32 × Mem) := bd2 (g_X8_send S xt0) (fun r14 S14 => some (r14, S14))
def f_L_does_168 (S : Mem) (x5 : Int32) : Option (Int32 × Mem) := f_L_does_170 S x5
def f_L_does_193 (S : Mem) (x4 : Int32) (xt0 : Int32) : Option (Int32 × Mem) := bd2 (g_X8_shout S xt0 ((((97 : Int32) + (x4 - x4 / (26 : Int32) * (26 : Int32))).toUInt32 % 65536).toInt32)) (fun r24 S24 => some (r24, S24))
def f_L_does_191 (S : Mem) (x4 : Int32) (x5 : Int32) : Option (Int32 × Mem) := f_L_does_193 S x4 x5
def f_L_does_0 (S : Mem) (d1_0 : IY) (x2 : Int32) : Option (Int32 × Mem) := bd1 (g_L_in S d1_0 (x2 + (1 : Int32)) (1000 : Int32)) (fun r1 => bd1 (g_L_in S d1_0 (x2 + (2 : Int32)) (1000 : Int32)) (fun r2 => bd1 (g_X8_account S (1 : Int32)) (fun r3 => ck (nz r3) (bd1 (g_X8_account S (1 : Int32)) (fun r5 => ck (nz r5) (bd1 (g_X8_leader S) (fun r7 => bd1 (g_L_in S d1_0 x2 (20 : Int32)) (fun r8 => (if r8 = (0 : Int32) then bd2 (g_X8_ask S (r1 - r1 / r3 * r3)) (fun r9 S9 => some (r9, S9)) else if r8 = (1 : Int32) then bd2 (g_X8_ask S (r1 - r1 / r3 * r3)) (fun r11 S11 => some (r11, S11)) else if r8 = (2 : Int32) then (if r7 < 0 then f_L_does_168 S (r1 - r1 / r3 * r3) else (if (r1 - r1 / (4 : Int32) * (4 : Int32)) ≤ 0 then f_L_does_168 S (r1 - r1 / r3 * r3) else f_L_does_170 S r7)) else if r8 = (3 : Int32) then (if r7 < 0 then f_L_does_168 S (r1 - r1 / r3 * r3) else (if (r1 - r1 / (4 : Int32) * (4 : Int32)) ≤ 0 then f_L_does_168 S (r1 - r1 / r3 * r3) else f_L_does_170 S r7)) else if r8 = (4 : Int32) then (if r7 < 0 then f_L_does_168 S (r1 - r1 / r3 * r3) else (if (r1 - r1 / (4 : Int32) * (4 : Int32)) ≤ 0 then f_L_does_168 S (r1 - r1 / r3 * r3) else f_L_does_170 S r7)) else if r8 = (5 : Int32) then (if r7 < 0 then f_L_does_191 S r2 (r1 - r1 / r3 * r3) else (if (r1 - r1 / (5 : Int32) * (5 : Int32)) ≤ 0 then f_L_does_191 S r2 (r1 - r1 / r3 * r3) else f_L_does_193 S r2 r7)) else if r8 = (6 : Int32) then (if r7 < 0 then f_L_does_191 S r2 (r1 - r1 / r3 * r3) else (if (r1 - r1 / (5 : Int32) * (5 : Int32)) ≤ 0 then f_L_does_191 S r2 (r1 - r1 / r3 * r3) else f_L_does_193 S r2 r7)) else if r8 = (7 : Int32) then (if r7 < 0 then f_L_does_191 S r2 (r1 - r1 / r3 * r3) else (if (r1 - r1 / (5 : Int32) * (5 : Int32)) ≤ 0 then f_L_does_191 S r2 (r1 - r1 / r3 * r3) else f_L_does_193 S r2 r7)) else if r8 = (8 : Int32) then (if r7 < 0 then f_L_does_191 S r2 (r1 - r1 / r3 * r3) else (if (r1 - r1 / (5 : Int32) * (5 : Int32)) ≤ 0 then f_L_does_191 S r2 (r1 - r1 / r3 * r3) else f_L_does_193 S r2 r7)) else if r8 = (9 : Int32) then bd2 (g_X8_wash S (r1 - r1 / r3 * r3)) (fun r36 S36 => some (r36, S36)) else if r8 = (10 : Int32) then bd2 (g_X8_wash S (r1 - r1 / r3 * r3)) (fun r38 S38 => some (r38, S38)) else if r8 = (11 : Int32) then bd2 (g_X8_back S (r1 - r1 / r3 * r3)) (fun r40 S40 => some (r40, S40)) else if r8 = (12 : Int32) then bd2 (g_X8_back S (r1 - r1 / r3 * r3)) (fun r42 S42 => some (r42, S42)) else if r8 = (13 : Int32) then bd2 (g_X8_back S (r1 - r1 / r3 * r3)) (fun r44 S44 => some (r44, S44)) else if r8 = (14 : Int32) then bd2 (g_X8_cut S (r1 - r1 / r3 * r3) (r2 - r2 / r5 * r5)) (fun r46 S46 => some (r46, S46)) else if r8 = (15 : Int32) then bd2 (g_X8_cut S (r1 - r1 / r3 * r3) (r2 - r2 / r5 * r5)) (fun r48 S48 => some (r48, S48)) else if r8 = (16 : Int32) then bd2 (g_X8_tie S (r1 - r1 / r3 * r3) (r2 - r2 / r5 * r5)) (fun r50 S50 => some (r50, S50)) else if r8 = (17 : Int32) then bd2 (g_X8_tie S (r1 - r1 / r3 * r3) (r2 - r2 / r5 * r5)) (fun r52 S52 => some (r52, S52)) else if r8 = (18 : Int32) then g_L_d18 S r1 r2 else bd2 (g_X8_beats S ((1 : Int32) + (r1 - r1 / (9 : Int32) * (9 : Int32)))) (fun r55 S55 => some (r55, S55)))))))))))
def g_L_does (S : Mem) (d1_0 : IY) (x2 : Int32) : Option (Int32 × Mem) := f_L_does_0 S d1_0 x2
set_option maxHeartbeats 4000000 in
set_option maxRecDepth 100000 in
theorem b_L_does_170 {v : EV} {p : Program} {l : Launch} {e : Env} {s : State} {m : MethodId} {args : Array Value} {below : List Frame} {meth : Method} {c : Code} (hC : Cx v p l e s m args meth c RL cL_does 8 (some .int)) {S : Mem} {xt0 : Int32}  {qb : Nat} (hq : 0 ≤ qb) {r : Int32 × Mem} (hf : f_L_does_170 S xt0 = some r) : Mj v p l e (rmK 80 13 277) s m args below meth c 8 (MQ below (Qc v (some (.int r.1)) r.2) args s 80 (160 * 80) (eG v)) qb S 170 [] [.int xt0, .ref (eA v (198))] := by
  obtain ⟨r14, S14, hc14, hf⟩ := bd2_of hf
  refine i_callVi hC mv_L_56 (c_X8_send hC.2.2.2.2.2.2.2.1 hc14) (pln rfl) (lay_p198) rfl rfl rfl rfl ⟨Nat.le_of_ble_eq_true rfl, Nat.le_of_ble_eq_true rfl⟩ (Nat.le_of_ble_eq_true rfl) dL_does_170 ?_
  obtain rfl := Option.some.inj hf
  exact i_iret hC dL_does_173
set_option maxHeartbeats 4000000 in
set_option maxRecDepth 100000 in
theorem b_L_does_168 {v : EV} {p : Program} {l : Launch} {e : Env} {s : State} {m : MethodId} {args : Array Value} {below : List Frame} {meth : Method} {c : Code} (hC : Cx v p l e s m args meth c RL cL_does 8 (some .int)) {S : Mem} {x5 : Int32}  {qb : Nat} (hq : 0 ≤ qb) {r : Int32 × Mem} (hf : f_L_does_168 S x5 = some r) : Mj v p l e (rmK 80 13 277) s m args below meth c 8 (MQ below (Qc v (some (.int r.1)) r.2) args s 80 (160 * 80) (eG v)) qb S 168 [(5, .int x5)] [.ref (eA v (198))] := by
  refine i_iload hC dL_does_168 rfl ?_
  exact Mj.to (b_L_does_170 hC (by omega) hf) trivial
set_option maxHeartbeats 4000000 in
set_option maxRecDepth 100000 in
theorem b_L_does_193 {v : EV} {p : Program} {l : Launch} {e : Env} {s : State} {m : MethodId} {args : Array Value} {below : List Frame} {meth : Method} {c : Code} (hC : Cx v p l e s m args meth c RL cL_does 8 (some .int)) {S : Mem} {x4 : Int32} {xt0 : Int32}  {qb : Nat} (hq : 0 ≤ qb) {r : Int32 × Mem} (hf : f_L_does_193 S x4 xt0 = some r) : Mj v p l e (rmK 80 13 277) s m args below meth c 8 (MQ below (Qc v (some (.int r.1)) r.2) args s 80 (160 * 80) (eG v)) qb S 193 [(4, .int x4)] [.int xt0, .ref (eA v (198))] := by
  refine i_bipush hC dL_does_193 lb_97 ?_
  refine i_iload hC dL_does_195 rfl ?_
  refine i_bipush hC dL_does_197 lb_26 ?_
  refine i_irem hC dL_does_199 (by decide) ?_
  refine i_iadd hC dL_does_200 ?_
  refine i_i2c hC dL_does_201 ?_
  obtain ⟨r24, S24, hc24, hf⟩ := bd2_of hf
  refine i_callVi hC mv_L_59 (c_X8_shout hC.2.2.2.2.2.2.2.1 hc24) (pln rfl) (lay_p198) rfl rfl rfl rfl ⟨Nat.le_of_ble_eq_true rfl, Nat.le_of_ble_eq_true rfl⟩ (Nat.le_of_ble_eq_true rfl) dL_does_202 ?_
  obtain rfl := Option.some.inj hf
  exact i_iret hC dL_does_205
set_option maxHeartbeats 4000000 in
set_option maxRecDepth 100000 in
theorem b_L_does_191 {v : EV} {p : Program} {l : Launch} {e : Env} {s : State} {m : MethodId} {args : Array Value} {below : List Frame} {meth : Method} {c : Code} (hC : Cx v p l e s m args meth c RL cL_does 8 (some .int)) {S : Mem} {x4 : Int32} {x5 : Int32}  {qb : Nat} (hq : 0 ≤ qb) {r : Int32 × Mem} (hf : f_L_does_191 S x4 x5 = some r) : Mj v p l e (rmK 80 13 277) s m args below meth c 8 (MQ below (Qc v (some (.int r.1)) r.2) args s 80 (160 * 80) (eG v)) qb S 191 [(4, .int x4), (5, .int x5)] [.ref (eA v (198))] := by
  refine i_iload hC dL_does_191 rfl ?_
  exact Mj.to (b_L_does_193 hC (by omega) hf) ⟨rfl, trivial⟩
set_option maxHeartbeats 4000000 in
set_option maxRecDepth 100000 in
theorem b_L_does_0 {v : EV} {p : Program} {l : Launch} {e : Env} {s : State} {m : MethodId} {args : Array Value} {below : List Frame} {meth : Method} {c : Code} (hC : Cx v p l e s m args meth c RL cL_does 8 (some .int)) {S : Mem} {d1_0 : IY} {x2 : Int32} (h1 : d1_0 ∈ eI v) {qb : Nat} (hq : 80 ≤ qb) {r : Int32 × Mem} (hLY : LY v) (hf : f_L_does_0 S d1_0 x2 = some r) : Mj v p l e (rmK 80 13 277) s m args below meth c 8 (MQ below (Qc v (some (.int r.1)) r.2) args s 80 (160 * 80) (eG v)) qb S 0 [(0, .ref (eA v (198))), (1, .ref d1_0.1), (2, .int x2)] [] := by
  refine i_aload_n hC dL_does_0 rfl ?_
  refine i_iload_n hC dL_does_1 rfl ?_
  refine i_iconst hC dL_does_2 li_1 ?_
  refine i_iadd hC dL_does_3 ?_
  refine i_sipush hC dL_does_4 lh_1000 ?_
  obtain ⟨r1, hc1, hf⟩ := bd1_of hf
  refine i_callSi hC mv_L_36 (c_L_in hC.2.2.2.2.2.2.2.1 h1 hc1) rfl rfl rfl ⟨Nat.le_of_ble_eq_true rfl, Nat.le_of_ble_eq_true rfl⟩ (Nat.le_of_ble_eq_true rfl) dL_does_7 ?_
  refine i_istore_n hC dL_does_10 (by decide) ?_
  refine i_aload_n hC dL_does_11 rfl ?_
  refine i_iload_n hC dL_does_12 rfl ?_
  refine i_iconst hC dL_does_13 li_2 ?_
  refine i_iadd hC dL_does_14 ?_
  refine i_sipush hC dL_does_15 lh_1000 ?_
  obtain ⟨r2, hc2, hf⟩ := bd1_of hf
  refine i_callSi hC mv_L_36 (c_L_in hC.2.2.2.2.2.2.2.1 h1 hc2) rfl rfl rfl ⟨Nat.le_of_ble_eq_true rfl, Nat.le_of_ble_eq_true rfl⟩ (Nat.le_of_ble_eq_true rfl) dL_does_18 ?_
  refine i_istore hC dL_does_21 (by decide) ?_
  refine i_iload_n hC dL_does_23 rfl ?_
  refine i_aload_n hC dL_does_24 rfl ?_
  refine i_iconst hC dL_does_25 li_1 ?_
  obtain ⟨r3, hc3, hf⟩ := bd1_of hf
  refine i_callVi hC mv_L_47 (c_X8_account hC.2.2.2.2.2.2.2.1 hc3) (pln rfl) (lay_p198) rfl rfl rfl rfl ⟨Nat.le_of_ble_eq_true rfl, Nat.le_of_ble_eq_true rfl⟩ (Nat.le_of_ble_eq_true rfl) dL_does_26 ?_
  obtain ⟨k4, hf⟩ := ck_of hf
  refine i_irem hC dL_does_29 (nz_ne k4) ?_
  refine i_istore hC dL_does_30 (by decide) ?_
  refine i_iload hC dL_does_32 rfl ?_
  refine i_aload_n hC dL_does_34 rfl ?_
  refine i_iconst hC dL_does_35 li_1 ?_
  obtain ⟨r5, hc5, hf⟩ := bd1_of hf
  refine i_callVi hC mv_L_47 (c_X8_account hC.2.2.2.2.2.2.2.1 hc5) (pln rfl) (lay_p198) rfl rfl rfl rfl ⟨Nat.le_of_ble_eq_true rfl, Nat.le_of_ble_eq_true rfl⟩ (Nat.le_of_ble_eq_true rfl) dL_does_36 ?_
  obtain ⟨k6, hf⟩ := ck_of hf
  refine i_irem hC dL_does_39 (nz_ne k6) ?_
  refine i_istore hC dL_does_40 (by decide) ?_
  refine i_aload_n hC dL_does_42 rfl ?_
  obtain ⟨r7, hc7, hf⟩ := bd1_of hf
  refine i_callVi hC mv_L_50 (c_X8_leader hC.2.2.2.2.2.2.2.1 hc7) (pln rfl) (lay_p198) rfl rfl rfl rfl ⟨Nat.le_of_ble_eq_true rfl, Nat.le_of_ble_eq_true rfl⟩ (Nat.le_of_ble_eq_true rfl) dL_does_43 ?_
  refine i_istore hC dL_does_46 (by decide) ?_
  refine i_aload_n hC dL_does_48 rfl ?_
  refine i_iload_n hC dL_does_49 rfl ?_
  refine i_bipush hC dL_does_50 lb_20 ?_
  obtain ⟨r8, hc8, hf⟩ := bd1_of hf
  refine i_callSi hC mv_L_36 (c_L_in hC.2.2.2.2.2.2.2.1 h1 hc8) rfl rfl rfl ⟨Nat.le_of_ble_eq_true rfl, Nat.le_of_ble_eq_true rfl⟩ (Nat.le_of_ble_eq_true rfl) dL_does_52 ?_
  by_cases c10 : r8 = (0 : Int32)
  · replace hf := (if_pos c10).symm.trans hf
    refine i_tabIn hC (tgt := 144) dL_does_55 c10 (show ((0 : Int32)).toInt = 0 by decide) (by decide) (by decide) rfl (by decide) ?_
    refine i_aload_n hC dL_does_144 rfl ?_
    refine i_iload hC dL_does_145 rfl ?_
    obtain ⟨r9, S9, hc9, hf⟩ := bd2_of hf
    refine i_callVi hC mv_L_53 (c_X8_ask hC.2.2.2.2.2.2.2.1 hc9) (pln rfl) (lay_p198) rfl rfl rfl rfl ⟨Nat.le_of_ble_eq_true rfl, Nat.le_of_ble_eq_true rfl⟩ (Nat.le_of_ble_eq_true rfl) dL_does_147 ?_
    obtain rfl := Option.some.inj hf
    exact i_iret hC dL_does_150
  replace hf := (if_neg c10).symm.trans hf
  by_cases c12 : r8 = (1 : Int32)
  · replace hf := (if_pos c12).symm.trans hf
    refine i_tabIn hC (tgt := 144) dL_does_55 c12 (show ((1 : Int32)).toInt = 1 by decide) (by decide) (by decide) rfl (by decide) ?_
    refine i_aload_n hC dL_does_144 rfl ?_
    refine i_iload hC dL_does_145 rfl ?_
    obtain ⟨r11, S11, hc11, hf⟩ := bd2_of hf
    refine i_callVi hC mv_L_53 (c_X8_ask hC.2.2.2.2.2.2.2.1 hc11) (pln rfl) (lay_p198) rfl rfl rfl rfl ⟨Nat.le_of_ble_eq_true rfl, Nat.le_of_ble_eq_true rfl⟩ (Nat.le_of_ble_eq_true rfl) dL_does_147 ?_
    obtain rfl := Option.some.inj hf
    exact i_iret hC dL_does_150
  replace hf := (if_neg c12).symm.trans hf
  by_cases c16 : r8 = (2 : Int32)
  · replace hf := (if_pos c16).symm.trans hf
    refine i_tabIn hC (tgt := 151) dL_does_55 c16 (show ((2 : Int32)).toInt = 2 by decide) (by decide) (by decide) rfl (by decide) ?_
    refine i_aload_n hC dL_does_151 rfl ?_
    refine i_iload hC dL_does_152 rfl ?_
    refine i_if_lt hC (tgt := 168) dL_does_154 (by decide) (fun c13 => ?_) (fun c13 => ?_)
    · replace hf := (if_pos c13).symm.trans hf
      exact Mj.to (b_L_does_168 hC (by omega) hf) ⟨rfl, trivial⟩
    · replace hf := (if_neg c13).symm.trans hf
      refine i_iload_n hC dL_does_157 rfl ?_
      refine i_iconst hC dL_does_158 li_4 ?_
      refine i_irem hC dL_does_159 (by decide) ?_
      refine i_if_le hC (tgt := 168) dL_does_160 (by decide) (fun c15 => ?_) (fun c15 => ?_)
      · replace hf := (if_pos c15).symm.trans hf
        exact Mj.to (b_L_does_168 hC (by omega) hf) ⟨rfl, trivial⟩
      · replace hf := (if_neg c15).symm.trans hf
        refine i_iload hC dL_does_163 rfl ?_
        refine i_goto hC (tgt := 170) dL_does_165 (by decide) ?_
        exact Mj.to (b_L_does_170 hC (by omega) hf) trivial
  replace hf := (if_neg c16).symm.trans hf
  by_cases c19 : r8 = (3 : Int32)
  · replace hf := (if_pos c19).symm.trans hf
    refine i_tabIn hC (tgt := 151) dL_does_55 c19 (show ((3 : Int32)).toInt = 3 by decide) (by decide) (by decide) rfl (by decide) ?_
    refine i_aload_n hC dL_does_151 rfl ?_
    refine i_iload hC dL_does_152 rfl ?_
    refine i_if_lt hC (tgt := 168) dL_does_154 (by decide) (fun c17 => ?_) (fun c17 => ?_)
    · replace hf := (if_pos c17).symm.trans hf
      exact Mj.to (b_L_does_168 hC (by omega) hf) ⟨rfl, trivial⟩
    · replace hf := (if_neg c17).symm.trans hf
      refine i_iload_n hC dL_does_157 rfl ?_
      refine i_iconst hC dL_does_158 li_4 ?_
      refine i_irem hC dL_does_159 (by decide) ?_
      refine i_if_le hC (tgt := 168) dL_does_160 (by decide) (fun c18 => ?_) (fun c18 => ?_)
      · replace hf := (if_pos c18).symm.trans hf
        exact Mj.to (b_L_does_168 hC (by omega) hf) ⟨rfl, trivial⟩
      · replace hf := (if_neg c18).symm.trans hf
        refine i_iload hC dL_does_163 rfl ?_
        refine i_goto hC (tgt := 170) dL_does_165 (by decide) ?_
        exact Mj.to (b_L_does_170 hC (by omega) hf) trivial
  replace hf := (if_neg c19).symm.trans hf
  by_cases c22 : r8 = (4 : Int32)
  · replace hf := (if_pos c22).symm.trans hf
    refine i_tabIn hC (tgt := 151) dL_does_55 c22 (show ((4 : Int32)).toInt = 4 by decide) (by decide) (by decide) rfl (by decide) ?_
    refine i_aload_n hC dL_does_151 rfl ?_
    refine i_iload hC dL_does_152 rfl ?_
    refine i_if_lt hC (tgt := 168) dL_does_154 (by decide) (fun c20 => ?_) (fun c20 => ?_)
    · replace hf := (if_pos c20).symm.trans hf
      exact Mj.to (b_L_does_168 hC (by omega) hf) ⟨rfl, trivial⟩
    · replace hf := (if_neg c20).symm.trans hf
      refine i_iload_n hC dL_does_157 rfl ?_
      refine i_iconst hC dL_does_158 li_4 ?_
      refine i_irem hC dL_does_159 (by decide) ?_
      refine i_if_le hC (tgt := 168) dL_does_160 (by decide) (fun c21 => ?_) (fun c21 => ?_)
      · replace hf := (if_pos c21).symm.trans hf
        exact Mj.to (b_L_does_168 hC (by omega) hf) ⟨rfl, trivial⟩
      · replace hf := (if_neg c21).symm.trans hf
        refine i_iload hC dL_does_163 rfl ?_
        refine i_goto hC (tgt := 170) dL_does_165 (by decide) ?_
        exact Mj.to (b_L_does_170 hC (by omega) hf) trivial
  replace hf := (if_neg c22).symm.trans hf
  by_cases c26 : r8 = (5 : Int32)
  · replace hf := (if_pos c26).symm.trans hf
    refine i_tabIn hC (tgt := 174) dL_does_55 c26 (show ((5 : Int32)).toInt = 5 by decide) (by decide) (by decide) rfl (by decide) ?_
    refine i_aload_n hC dL_does_174 rfl ?_
    refine i_iload hC dL_does_175 rfl ?_
    refine i_if_lt hC (tgt := 191) dL_does_177 (by decide) (fun c23 => ?_) (fun c23 => ?_)
    · replace hf := (if_pos c23).symm.trans hf
      exact Mj.to (b_L_does_191 hC (by omega) hf) ⟨rfl, rfl, trivial⟩
    · replace hf := (if_neg c23).symm.trans hf
      refine i_iload_n hC dL_does_180 rfl ?_
      refine i_iconst hC dL_does_181 li_5 ?_
      refine i_irem hC dL_does_182 (by decide) ?_
      refine i_if_le hC (tgt := 191) dL_does_183 (by decide) (fun c25 => ?_) (fun c25 => ?_)
      · replace hf := (if_pos c25).symm.trans hf
        exact Mj.to (b_L_does_191 hC (by omega) hf) ⟨rfl, rfl, trivial⟩
      · replace hf := (if_neg c25).symm.trans hf
        refine i_iload hC dL_does_186 rfl ?_
        refine i_goto hC (tgt := 193) dL_does_188 (by decide) ?_
        exact Mj.to (b_L_does_193 hC (by omega) hf) ⟨rfl, trivial⟩
  replace hf := (if_neg c26).symm.trans hf
  by_cases c29 : r8 = (6 : Int32)
  · replace hf := (if_pos c29).symm.trans hf
    refine i_tabIn hC (tgt := 174) dL_does_55 c29 (show ((6 : Int32)).toInt = 6 by decide) (by decide) (by decide) rfl (by decide) ?_
    refine i_aload_n hC dL_does_174 rfl ?_
    refine i_iload hC dL_does_175 rfl ?_
    refine i_if_lt hC (tgt := 191) dL_does_177 (by decide) (fun c27 => ?_) (fun c27 => ?_)
    · replace hf := (if_pos c27).symm.trans hf
      exact Mj.to (b_L_does_191 hC (by omega) hf) ⟨rfl, rfl, trivial⟩
    · replace hf := (if_neg c27).symm.trans hf
      refine i_iload_n hC dL_does_180 rfl ?_
      refine i_iconst hC dL_does_181 li_5 ?_
      refine i_irem hC dL_does_182 (by decide) ?_
      refine i_if_le hC (tgt := 191) dL_does_183 (by decide) (fun c28 => ?_) (fun c28 => ?_)
      · replace hf := (if_pos c28).symm.trans hf
        exact Mj.to (b_L_does_191 hC (by omega) hf) ⟨rfl, rfl, trivial⟩
      · replace hf := (if_neg c28).symm.trans hf
        refine i_iload hC dL_does_186 rfl ?_
        refine i_goto hC (tgt := 193) dL_does_188 (by decide) ?_
        exact Mj.to (b_L_does_193 hC (by omega) hf) ⟨rfl, trivial⟩
  replace hf := (if_neg c29).symm.trans hf
  by_cases c32 : r8 = (7 : Int32)
  · replace hf := (if_pos c32).symm.trans hf
    refine i_tabIn hC (tgt := 174) dL_does_55 c32 (show ((7 : Int32)).toInt = 7 by decide) (by decide) (by decide) rfl (by decide) ?_
    refine i_aload_n hC dL_does_174 rfl ?_
    refine i_iload hC dL_does_175 rfl ?_
    refine i_if_lt hC (tgt := 191) dL_does_177 (by decide) (fun c30 => ?_) (fun c30 => ?_)
    · replace hf := (if_pos c30).symm.trans hf
      exact Mj.to (b_L_does_191 hC (by omega) hf) ⟨rfl, rfl, trivial⟩
    · replace hf := (if_neg c30).symm.trans hf
      refine i_iload_n hC dL_does_180 rfl ?_
      refine i_iconst hC dL_does_181 li_5 ?_
      refine i_irem hC dL_does_182 (by decide) ?_
      refine i_if_le hC (tgt := 191) dL_does_183 (by decide) (fun c31 => ?_) (fun c31 => ?_)
      · replace hf := (if_pos c31).symm.trans hf
        exact Mj.to (b_L_does_191 hC (by omega) hf) ⟨rfl, rfl, trivial⟩
      · replace hf := (if_neg c31).symm.trans hf
        refine i_iload hC dL_does_186 rfl ?_
        refine i_goto hC (tgt := 193) dL_does_188 (by decide) ?_
        exact Mj.to (b_L_does_193 hC (by omega) hf) ⟨rfl, trivial⟩
  replace hf := (if_neg c32).symm.trans hf
  by_cases c35 : r8 = (8 : Int32)
  · replace hf := (if_pos c35).symm.trans hf
    refine i_tabIn hC (tgt := 174) dL_does_55 c35 (show ((8 : Int32)).toInt = 8 by decide) (by decide) (by decide) rfl (by decide) ?_
    refine i_aload_n hC dL_does_174 rfl ?_
    refine i_iload hC dL_does_175 rfl ?_
    refine i_if_lt hC (tgt := 191) dL_does_177 (by decide) (fun c33 => ?_) (fun c33 => ?_)
    · replace hf := (if_pos c33).symm.trans hf
      exact Mj.to (b_L_does_191 hC (by omega) hf) ⟨rfl, rfl, trivial⟩
    · replace hf := (if_neg c33).symm.trans hf
      refine i_iload_n hC dL_does_180 rfl ?_
      refine i_iconst hC dL_does_181 li_5 ?_
      refine i_irem hC dL_does_182 (by decide) ?_
      refine i_if_le hC (tgt := 191) dL_does_183 (by decide) (fun c34 => ?_) (fun c34 => ?_)
      · replace hf := (if_pos c34).symm.trans hf
        exact Mj.to (b_L_does_191 hC (by omega) hf) ⟨rfl, rfl, trivial⟩
      · replace hf := (if_neg c34).symm.trans hf
        refine i_iload hC dL_does_186 rfl ?_
        refine i_goto hC (tgt := 193) dL_does_188 (by decide) ?_
        exact Mj.to (b_L_does_193 hC (by omega) hf) ⟨rfl, trivial⟩
  replace hf := (if_neg c35).symm.trans hf
  by_cases c37 : r8 = (9 : Int32)
  · replace hf := (if_pos c37).symm.trans hf
    refine i_tabIn hC (tgt := 206) dL_does_55 c37 (show ((9 : Int32)).toInt = 9 by decide) (by decide) (by decide) rfl (by decide) ?_
    refine i_aload_n hC dL_does_206 rfl ?_
    refine i_iload hC dL_does_207 rfl ?_
    obtain ⟨r36, S36, hc36, hf⟩ := bd2_of hf
    refine i_callVi hC mv_L_63 (c_X8_wash hC.2.2.2.2.2.2.2.1 hc36) (pln rfl) (lay_p198) rfl rfl rfl rfl ⟨Nat.le_of_ble_eq_true rfl, Nat.le_of_ble_eq_true rfl⟩ (Nat.le_of_ble_eq_true rfl) dL_does_209 ?_
    obtain rfl := Option.some.inj hf
    exact i_iret hC dL_does_212
  replace hf := (if_neg c37).symm.trans hf
  by_cases c39 : r8 = (10 : Int32)
  · replace hf := (if_pos c39).symm.trans hf
    refine i_tabIn hC (tgt := 206) dL_does_55 c39 (show ((10 : Int32)).toInt = 10 by decide) (by decide) (by decide) rfl (by decide) ?_
    refine i_aload_n hC dL_does_206 rfl ?_
    refine i_iload hC dL_does_207 rfl ?_
    obtain ⟨r38, S38, hc38, hf⟩ := bd2_of hf
    refine i_callVi hC mv_L_63 (c_X8_wash hC.2.2.2.2.2.2.2.1 hc38) (pln rfl) (lay_p198) rfl rfl rfl rfl ⟨Nat.le_of_ble_eq_true rfl, Nat.le_of_ble_eq_true rfl⟩ (Nat.le_of_ble_eq_true rfl) dL_does_209 ?_
    obtain rfl := Option.some.inj hf
    exact i_iret hC dL_does_212
  replace hf := (if_neg c39).symm.trans hf
  by_cases c41 : r8 = (11 : Int32)
  · replace hf := (if_pos c41).symm.trans hf
    refine i_tabIn hC (tgt := 213) dL_does_55 c41 (show ((11 : Int32)).toInt = 11 by decide) (by decide) (by decide) rfl (by decide) ?_
    refine i_aload_n hC dL_does_213 rfl ?_
    refine i_iload hC dL_does_214 rfl ?_
    obtain ⟨r40, S40, hc40, hf⟩ := bd2_of hf
    refine i_callVi hC mv_L_66 (c_X8_back hC.2.2.2.2.2.2.2.1 hc40) (pln rfl) (lay_p198) rfl rfl rfl rfl ⟨Nat.le_of_ble_eq_true rfl, Nat.le_of_ble_eq_true rfl⟩ (Nat.le_of_ble_eq_true rfl) dL_does_216 ?_
    obtain rfl := Option.some.inj hf
    exact i_iret hC dL_does_219
  replace hf := (if_neg c41).symm.trans hf
  by_cases c43 : r8 = (12 : Int32)
  · replace hf := (if_pos c43).symm.trans hf
    refine i_tabIn hC (tgt := 213) dL_does_55 c43 (show ((12 : Int32)).toInt = 12 by decide) (by decide) (by decide) rfl (by decide) ?_
    refine i_aload_n hC dL_does_213 rfl ?_
    refine i_iload hC dL_does_214 rfl ?_
    obtain ⟨r42, S42, hc42, hf⟩ := bd2_of hf
    refine i_callVi hC mv_L_66 (c_X8_back hC.2.2.2.2.2.2.2.1 hc42) (pln rfl) (lay_p198) rfl rfl rfl rfl ⟨Nat.le_of_ble_eq_true rfl, Nat.le_of_ble_eq_true rfl⟩ (Nat.le_of_ble_eq_true rfl) dL_does_216 ?_
    obtain rfl := Option.some.inj hf
    exact i_iret hC dL_does_219
  replace hf := (if_neg c43).symm.trans hf
  by_cases c45 : r8 = (13 : Int32)
  · replace hf := (if_pos c45).symm.trans hf
    refine i_tabIn hC (tgt := 213) dL_does_55 c45 (show ((13 : Int32)).toInt = 13 by decide) (by decide) (by decide) rfl (by decide) ?_
    refine i_aload_n hC dL_does_213 rfl ?_
    refine i_iload hC dL_does_214 rfl ?_
    obtain ⟨r44, S44, hc44, hf⟩ := bd2_of hf
    refine i_callVi hC mv_L_66 (c_X8_back hC.2.2.2.2.2.2.2.1 hc44) (pln rfl) (lay_p198) rfl rfl rfl rfl ⟨Nat.le_of_ble_eq_true rfl, Nat.le_of_ble_eq_true rfl⟩ (Nat.le_of_ble_eq_true rfl) dL_does_216 ?_
    obtain rfl := Option.some.inj hf
    exact i_iret hC dL_does_219
  replace hf := (if_neg c45).symm.trans hf
  by_cases c47 : r8 = (14 : Int32)
  · replace hf := (if_pos c47).symm.trans hf
    refine i_tabIn hC (tgt := 220) dL_does_55 c47 (show ((14 : Int32)).toInt = 14 by decide) (by decide) (by decide) rfl (by decide) ?_
    refine i_aload_n hC dL_does_220 rfl ?_
    refine i_iload hC dL_does_221 rfl ?_
    refine i_iload hC dL_does_223 rfl ?_
    obtain ⟨r46, S46, hc46, hf⟩ := bd2_of hf
    refine i_callVi hC mv_L_69 (c_X8_cut hC.2.2.2.2.2.2.2.1 hc46) (pln rfl) (lay_p198) rfl rfl rfl rfl ⟨Nat.le_of_ble_eq_true rfl, Nat.le_of_ble_eq_true rfl⟩ (Nat.le_of_ble_eq_true rfl) dL_does_225 ?_
    obtain rfl := Option.some.inj hf
    exact i_iret hC dL_does_228
  replace hf := (if_neg c47).symm.trans hf
  by_cases c49 : r8 = (15 : Int32)
  · replace hf := (if_pos c49).symm.trans hf
    refine i_tabIn hC (tgt := 220) dL_does_55 c49 (show ((15 : Int32)).toInt = 15 by decide) (by decide) (by decide) rfl (by decide) ?_
    refine i_aload_n hC dL_does_220 rfl ?_
    refine i_iload hC dL_does_221 rfl ?_
    refine i_iload hC dL_does_223 rfl ?_
    obtain ⟨r48, S48, hc48, hf⟩ := bd2_of hf
    refine i_callVi hC mv_L_69 (c_X8_cut hC.2.2.2.2.2.2.2.1 hc48) (pln rfl) (lay_p198) rfl rfl rfl rfl ⟨Nat.le_of_ble_eq_true rfl, Nat.le_of_ble_eq_true rfl⟩ (Nat.le_of_ble_eq_true rfl) dL_does_225 ?_
    obtain rfl := Option.some.inj hf
    exact i_iret hC dL_does_228
  replace hf := (if_neg c49).symm.trans hf
  by_cases c51 : r8 = (16 : Int32)
  · replace hf := (if_pos c51).symm.trans hf
    refine i_tabIn hC (tgt := 229) dL_does_55 c51 (show ((16 : Int32)).toInt = 16 by decide) (by decide) (by decide) rfl (by decide) ?_
    refine i_aload_n hC dL_does_229 rfl ?_
    refine i_iload hC dL_does_230 rfl ?_
    refine i_iload hC dL_does_232 rfl ?_
    obtain ⟨r50, S50, hc50, hf⟩ := bd2_of hf
    refine i_callVi hC mv_L_73 (c_X8_tie hC.2.2.2.2.2.2.2.1 hc50) (pln rfl) (lay_p198) rfl rfl rfl rfl ⟨Nat.le_of_ble_eq_true rfl, Nat.le_of_ble_eq_true rfl⟩ (Nat.le_of_ble_eq_true rfl) dL_does_234 ?_
    obtain rfl := Option.some.inj hf
    exact i_iret hC dL_does_237
  replace hf := (if_neg c51).symm.trans hf
  by_cases c53 : r8 = (17 : Int32)
  · replace hf := (if_pos c53).symm.trans hf
    refine i_tabIn hC (tgt := 229) dL_does_55 c53 (show ((17 : Int32)).toInt = 17 by decide) (by decide) (by decide) rfl (by decide) ?_
    refine i_aload_n hC dL_does_229 rfl ?_
    refine i_iload hC dL_does_230 rfl ?_
    refine i_iload hC dL_does_232 rfl ?_
    obtain ⟨r52, S52, hc52, hf⟩ := bd2_of hf
    refine i_callVi hC mv_L_73 (c_X8_tie hC.2.2.2.2.2.2.2.1 hc52) (pln rfl) (lay_p198) rfl rfl rfl rfl ⟨Nat.le_of_ble_eq_true rfl, Nat.le_of_ble_eq_true rfl⟩ (Nat.le_of_ble_eq_true rfl) dL_does_234 ?_
    obtain rfl := Option.some.inj hf
    exact i_iret hC dL_does_237
  replace hf := (if_neg c53).symm.trans hf
  by_cases c54 : r8 = (18 : Int32)
  · replace hf := (if_pos c54).symm.trans hf
    refine i_tabIn hC (tgt := 238) dL_does_55 c54 (show ((18 : Int32)).toInt = 18 by decide) (by decide) (by decide) rfl (by decide) ?_
    exact Mj.to (c_d18 hC hLY (by omega) hf) ⟨rfl, rfl, rfl, trivial⟩
  replace hf := (if_neg c54).symm.trans hf
  refine i_tabOut hC (x := r8) (tgt := 340) dL_does_55 (by
      have z10 := lv_neT c10 (show ((0 : Int32)).toInt = 0 by decide)
      have z12 := lv_neT c12 (show ((1 : Int32)).toInt = 1 by decide)
      have z16 := lv_neT c16 (show ((2 : Int32)).toInt = 2 by decide)
      have z19 := lv_neT c19 (show ((3 : Int32)).toInt = 3 by decide)
      have z22 := lv_neT c22 (show ((4 : Int32)).toInt = 4 by decide)
      have z26 := lv_neT c26 (show ((5 : Int32)).toInt = 5 by decide)
      have z29 := lv_neT c29 (show ((6 : Int32)).toInt = 6 by decide)
      have z32 := lv_neT c32 (show ((7 : Int32)).toInt = 7 by decide)
      have z35 := lv_neT c35 (show ((8 : Int32)).toInt = 8 by decide)
      have z37 := lv_neT c37 (show ((9 : Int32)).toInt = 9 by decide)
      have z39 := lv_neT c39 (show ((10 : Int32)).toInt = 10 by decide)
      have z41 := lv_neT c41 (show ((11 : Int32)).toInt = 11 by decide)
      have z43 := lv_neT c43 (show ((12 : Int32)).toInt = 12 by decide)
      have z45 := lv_neT c45 (show ((13 : Int32)).toInt = 13 by decide)
      have z47 := lv_neT c47 (show ((14 : Int32)).toInt = 14 by decide)
      have z49 := lv_neT c49 (show ((15 : Int32)).toInt = 15 by decide)
      have z51 := lv_neT c51 (show ((16 : Int32)).toInt = 16 by decide)
      have z53 := lv_neT c53 (show ((17 : Int32)).toInt = 17 by decide)
      have z54 := lv_neT c54 (show ((18 : Int32)).toInt = 18 by decide)
      omega) (by decide) ?_
  refine i_aload_n hC dL_does_340 rfl ?_
  refine i_iconst hC dL_does_341 li_1 ?_
  refine i_iload_n hC dL_does_342 rfl ?_
  refine i_bipush hC dL_does_343 lb_9 ?_
  refine i_irem hC dL_does_345 (by decide) ?_
  refine i_iadd hC dL_does_346 ?_
  obtain ⟨r55, S55, hc55, hf⟩ := bd2_of hf
  refine i_callVi hC mv_L_44 (c_X8_beats hC.2.2.2.2.2.2.2.1 hc55) (pln rfl) (lay_p198) rfl rfl rfl rfl ⟨Nat.le_of_ble_eq_true rfl, Nat.le_of_ble_eq_true rfl⟩ (Nat.le_of_ble_eq_true rfl) dL_does_347 ?_
  obtain rfl := Option.some.inj hf
  exact i_iret hC dL_does_350
theorem c_L_does {v : EV} {l : Launch} (hst : Stb v) (hLY : LY v) {S : Mem} {d1_0 : IY} {x2 : Int32} (h1 : d1_0 ∈ eI v) {r : Int32 × Mem} (hf : g_L_does S d1_0 x2 = some r) : ConK 80 v l yL_does cL_does 8 (some .int) 13 277 [.ref (eA v (198)), .ref d1_0.1, .int x2] S (some (.int r.1)) r.2 := con_ofK (by decide) hst (Nat.le_of_ble_eq_true rfl) (fun p e s m args below meth c hC => b_L_does_0 hC h1 (Nat.le_refl _) hLY hf)
