def f_X6_size_0 (S : Mem)  : Option (Int32) := some (S (13 + 2 * 0) 0)
def g_X6_size (S : Mem)  : Option (Int32) := f_X6_size_0 S
set_option maxHeartbeats 4000000 in
set_option maxRecDepth 100000 in
theorem b_X6_size_0 {v : EV} {p : Program} {l : Launch} {e : Env} {s : State} {m : MethodId} {args : Array Value} {below : List Frame} {meth : Method} {c : Code} (hC : Cx v p l e s m args meth c RX6 cX6_size 1 (some .int)) {S : Mem}  {r : Int32} (hf : f_X6_size_0 S = some r) : Mj v p l e (rmF 3 52) s m args below meth c 1 (MQ below (Qc v (some (.int r)) S) args s 0 0 (eG v)) 0 S 0 [(0, .ref (eA v (202)))] [] := by
  refine i_aload_n hC dX6_size_0 rfl ?_
  refine i_getR (x := pB 0) hC fl_X6_12 (pln rfl) (lay_p202) rfl dX6_size_1 ?_
  refine i_sbLen hC (by decide) mv_X6_25 ⟨Nat.le_of_ble_eq_true rfl, Nat.le_of_ble_eq_true rfl⟩ (Nat.le_of_ble_eq_true rfl) dX6_size_4 ?_
  obtain rfl := Option.some.inj hf
  exact i_iret hC dX6_size_7
theorem c_X6_size {v : EV} {l : Launch} (hst : Stb v) {S : Mem}  {r : Int32} (hf : g_X6_size S = some r) : Con v l yX6_size cX6_size 1 (some .int) 3 52 [.ref (eA v (202))] S (some (.int r)) S := con_of (by decide) hst (Nat.le_of_ble_eq_true rfl) (fun p e s m args below meth c hC => b_X6_size_0 hC  hf)
def f_X6_add_24 (S : Mem)  : Option (Int32 × Mem) := some ((0 : Int32), S)
def f_X6_add_0 (S : Mem) (x1 : Int32) : Option (Int32 × Mem) := (if x1 < (32 : Int32) then f_X6_add_24 S else (if (126 : Int32) < x1 then f_X6_add_24 S else (if (S (13 + 2 * 0) 0) < (60 : Int32) then ck (sbapC S 0 x1) (some ((1 : Int32), (appCn S 0 x1))) else f_X6_add_24 S)))
def g_X6_add (S : Mem) (x1 : Int32) : Option (Int32 × Mem) := f_X6_add_0 S x1
set_option maxHeartbeats 4000000 in
set_option maxRecDepth 100000 in
theorem b_X6_add_24 {v : EV} {p : Program} {l : Launch} {e : Env} {s : State} {m : MethodId} {args : Array Value} {below : List Frame} {meth : Method} {c : Code} (hC : Cx v p l e s m args meth c RX6 cX6_add 2 (some .boolean)) {S : Mem}  {qb : Nat} (hq : 0 ≤ qb) {r : Int32 × Mem} (hf : f_X6_add_24 S = some r) : Mj v p l e (rmK 1 7 144) s m args below meth c 2 (MQ below (Qc v (some (.int r.1)) r.2) args s 1 (160 * 1) (eG v)) qb S 24 [] [] := by
  refine i_iconst hC dX6_add_24 li_0 ?_
  obtain rfl := Option.some.inj hf
  exact i_zret hC dX6_add_25 (isb_z (x := (0 : Int32)) (by decide)).1
set_option maxHeartbeats 4000000 in
set_option maxRecDepth 100000 in
theorem b_X6_add_0 {v : EV} {p : Program} {l : Launch} {e : Env} {s : State} {m : MethodId} {args : Array Value} {below : List Frame} {meth : Method} {c : Code} (hC : Cx v p l e s m args meth c RX6 cX6_add 2 (some .boolean)) {S : Mem} {x1 : Int32}  {qb : Nat} (hq : 1 ≤ qb) {r : Int32 × Mem} (hf : f_X6_add_0 S x1 = some r) : Mj v p l e (rmK 1 7 144) s m args below meth c 2 (MQ below (Qc v (some (.int r.1)) r.2) args s 1 (160 * 1) (eG v)) qb S 0 [(0, .ref (eA v (202))), (1, .int x1)] [] := by
  refine i_iload_n hC dX6_add_0 rfl ?_
  refine i_bipush hC dX6_add_1 lb_32 ?_
  refine i_icmp_lt hC (tgt := 24) dX6_add_3 (by decide) (fun c1 => ?_) (fun c1 => ?_)
  · replace hf := (if_pos c1).symm.trans hf
    exact Mj.to (b_X6_add_24 hC (by omega) hf) trivial
  · replace hf := (if_neg c1).symm.trans hf
    refine i_iload_n hC dX6_add_6 rfl ?_
    refine i_bipush hC dX6_add_7 lb_126 ?_
    refine i_icmp_gt hC (tgt := 24) dX6_add_9 (by decide) (fun c2 => ?_) (fun c2 => ?_)
    · replace hf := (if_pos c2).symm.trans hf
      exact Mj.to (b_X6_add_24 hC (by omega) hf) trivial
    · replace hf := (if_neg c2).symm.trans hf
      refine i_aload_n hC dX6_add_12 rfl ?_
      refine i_getR (x := pB 0) hC fl_X6_12 (pln rfl) (lay_p202) rfl dX6_add_13 ?_
      refine i_sbLen hC (by decide) mv_X6_25 ⟨Nat.le_of_ble_eq_true rfl, Nat.le_of_ble_eq_true rfl⟩ (Nat.le_of_ble_eq_true rfl) dX6_add_16 ?_
      refine i_bipush hC dX6_add_19 lb_60 ?_
      refine i_icmp_lt hC (tgt := 26) dX6_add_21 (by decide) (fun c3 => ?_) (fun c3 => ?_)
      · replace hf := (if_pos c3).symm.trans hf
        refine i_aload_n hC dX6_add_26 rfl ?_
        refine i_getR (x := pB 0) hC fl_X6_12 (pln rfl) (lay_p202) rfl dX6_add_27 ?_
        refine i_iload_n hC dX6_add_30 rfl ?_
        obtain ⟨k4, hf⟩ := ck_of hf
        obtain ⟨q5, rfl⟩ : ∃ z, qb = z + 1 := ⟨qb - 1, by omega⟩
        refine i_sbC (q2 := q5) hC (by decide) mv_X6_29 k4 rfl ⟨Nat.le_of_ble_eq_true rfl, Nat.le_of_ble_eq_true rfl⟩ (Nat.le_of_ble_eq_true rfl) dX6_add_31 ?_
        refine i_pop hC dX6_add_34 rfl ?_
        refine i_iconst hC dX6_add_35 li_1 ?_
        obtain rfl := Option.some.inj hf
        exact i_zret hC dX6_add_36 (isb_z (x := (1 : Int32)) (by decide)).1
      · replace hf := (if_neg c3).symm.trans hf
        exact Mj.to (b_X6_add_24 hC (by omega) hf) trivial
theorem c_X6_add {v : EV} {l : Launch} (hst : Stb v) {S : Mem} {x1 : Int32}  {r : Int32 × Mem} (hf : g_X6_add S x1 = some r) : ConK 1 v l yX6_add cX6_add 2 (some .boolean) 7 144 [.ref (eA v (202)), .int x1] S (some (.int r.1)) r.2 := con_ofK (by decide) hst (Nat.le_of_ble_eq_true rfl) (fun p e s m args below meth c hC => b_X6_add_0 hC  (Nat.le_refl _) hf)
def f_X6_isHere_39 (S : Mem) (xt0 : Int32) : Option (Int32) := ck (isb xt0) (some xt0)
def f_X6_isHere_38 (S : Mem)  : Option (Int32) := f_X6_isHere_39 S (0 : Int32)
def f_X6_isHere_0 (S : Mem) (x1 : Int32) (x2 : Int32) : Option (Int32) := (if ((S 11 9) + x1) < 0 then f_X6_isHere_38 S else (if (S (13 + 2 * 0) 0) ≤ ((S 11 9) + x1) then f_X6_isHere_38 S else ck (sbat S 0 ((S 11 9) + x1)) ((if (sbch S 0 ((S 11 9) + x1)) = x2 then f_X6_isHere_39 S (1 : Int32) else f_X6_isHere_38 S))))
def g_X6_isHere (S : Mem) (x1 : Int32) (x2 : Int32) : Option (Int32) := f_X6_isHere_0 S x1 x2
set_option maxHeartbeats 4000000 in
set_option maxRecDepth 100000 in
theorem b_X6_isHere_39 {v : EV} {p : Program} {l : Launch} {e : Env} {s : State} {m : MethodId} {args : Array Value} {below : List Frame} {meth : Method} {c : Code} (hC : Cx v p l e s m args meth c RX6 cX6_isHere 4 (some .boolean)) {S : Mem} {xt0 : Int32}  {r : Int32} (hf : f_X6_isHere_39 S xt0 = some r) : Mj v p l e (rmF 5 100) s m args below meth c 4 (MQ below (Qc v (some (.int r)) S) args s 0 0 (eG v)) 0 S 39 [] [.int xt0] := by
  obtain ⟨k2, hf⟩ := ck_of hf
  obtain rfl := Option.some.inj hf
  exact i_zret hC dX6_isHere_39 (isb_z k2).1
set_option maxHeartbeats 4000000 in
set_option maxRecDepth 100000 in
theorem b_X6_isHere_38 {v : EV} {p : Program} {l : Launch} {e : Env} {s : State} {m : MethodId} {args : Array Value} {below : List Frame} {meth : Method} {c : Code} (hC : Cx v p l e s m args meth c RX6 cX6_isHere 4 (some .boolean)) {S : Mem}  {r : Int32} (hf : f_X6_isHere_38 S = some r) : Mj v p l e (rmF 5 100) s m args below meth c 4 (MQ below (Qc v (some (.int r)) S) args s 0 0 (eG v)) 0 S 38 [] [] := by
  refine i_iconst hC dX6_isHere_38 li_0 ?_
  exact Mj.to (b_X6_isHere_39 hC  hf) trivial
set_option maxHeartbeats 4000000 in
set_option maxRecDepth 100000 in
theorem b_X6_isHere_0 {v : EV} {p : Program} {l : Launch} {e : Env} {s : State} {m : MethodId} {args : Array Value} {below : List Frame} {meth : Method} {c : Code} (hC : Cx v p l e s m args meth c RX6 cX6_isHere 4 (some .boolean)) {S : Mem} {x1 : Int32} {x2 : Int32}  {r : Int32} (hf : f_X6_isHere_0 S x1 x2 = some r) : Mj v p l e (rmF 5 100) s m args below meth c 4 (MQ below (Qc v (some (.int r)) S) args s 0 0 (eG v)) 0 S 0 [(0, .ref (eA v (202))), (1, .int x1), (2, .int x2)] [] := by
  refine i_aload_n hC dX6_isHere_0 rfl ?_
  refine i_getI hC fl_X6_41 (pln rfl) (lay_p202) rfl dX6_isHere_1 ?_
  refine i_iload_n hC dX6_isHere_4 rfl ?_
  refine i_iadd hC dX6_isHere_5 ?_
  refine i_istore_n hC dX6_isHere_6 (by decide) ?_
  refine i_iload_n hC dX6_isHere_7 rfl ?_
  refine i_if_lt hC (tgt := 38) dX6_isHere_8 (by decide) (fun c1 => ?_) (fun c1 => ?_)
  · replace hf := (if_pos c1).symm.trans hf
    exact Mj.to (b_X6_isHere_38 hC  hf) trivial
  · replace hf := (if_neg c1).symm.trans hf
    refine i_iload_n hC dX6_isHere_11 rfl ?_
    refine i_aload_n hC dX6_isHere_12 rfl ?_
    refine i_getR (x := pB 0) hC fl_X6_12 (pln rfl) (lay_p202) rfl dX6_isHere_13 ?_
    refine i_sbLen hC (by decide) mv_X6_25 ⟨Nat.le_of_ble_eq_true rfl, Nat.le_of_ble_eq_true rfl⟩ (Nat.le_of_ble_eq_true rfl) dX6_isHere_16 ?_
    refine i_icmp_ge hC (tgt := 38) dX6_isHere_19 (by decide) (fun c3 => ?_) (fun c3 => ?_)
    · replace hf := (if_pos c3).symm.trans hf
      exact Mj.to (b_X6_isHere_38 hC  hf) trivial
    · replace hf := (if_neg c3).symm.trans hf
      refine i_aload_n hC dX6_isHere_22 rfl ?_
      refine i_getR (x := pB 0) hC fl_X6_12 (pln rfl) (lay_p202) rfl dX6_isHere_23 ?_
      refine i_iload_n hC dX6_isHere_26 rfl ?_
      obtain ⟨k4, hf⟩ := ck_of hf
      refine i_sbAt hC (by decide) mv_X6_97 k4 ⟨Nat.le_of_ble_eq_true rfl, Nat.le_of_ble_eq_true rfl⟩ (Nat.le_of_ble_eq_true rfl) dX6_isHere_27 ?_
      refine i_iload_n hC dX6_isHere_30 rfl ?_
      refine i_icmp_ne hC (tgt := 38) dX6_isHere_31 (by decide) (fun c5 => ?_) (fun c5 => ?_)
      · replace hf := (if_neg c5).symm.trans hf
        exact Mj.to (b_X6_isHere_38 hC  hf) trivial
      · replace hf := (if_pos c5).symm.trans hf
        refine i_iconst hC dX6_isHere_34 li_1 ?_
        refine i_goto hC (tgt := 39) dX6_isHere_35 (by decide) ?_
        exact Mj.to (b_X6_isHere_39 hC  hf) trivial
theorem c_X6_isHere {v : EV} {l : Launch} (hst : Stb v) {S : Mem} {x1 x2 : Int32}  {r : Int32} (hf : g_X6_isHere S x1 x2 = some r) : Con v l yX6_isHere cX6_isHere 4 (some .boolean) 5 100 [.ref (eA v (202)), .int x1, .int x2] S (some (.int r)) S := con_of (by decide) hst (Nat.le_of_ble_eq_true rfl) (fun p e s m args below meth c hC => b_X6_isHere_0 hC  hf)
def f_X6_takeBetween_21 (S : Mem)  : Option (Int32 × Mem) := some ((-1 : Int32), S)
def f_X6_takeBetween_45 (S : Mem)  : Option (Int32 × Mem) := some ((-1 : Int32), S)
def f_X6_takeBetween_0 (S : Mem) (x1 : Int32) (x2 : Int32) : Option (Int32 × Mem) := (if (S 11 9) < 0 then f_X6_takeBetween_21 S else (if (S 11 9) < (S (13 + 2 * 0) 0) then ck (sbat S 0 (S 11 9)) ((if (sbch S 0 (S 11 9)) < x1 then f_X6_takeBetween_45 S else (if (sbch S 0 (S 11 9)) ≤ x2 then some ((sbch S 0 (S 11 9)), (up S 11 9 ((S 11 9) + (1 : Int32)))) else f_X6_takeBetween_45 S))) else f_X6_takeBetween_21 S))
def g_X6_takeBetween (S : Mem) (x1 : Int32) (x2 : Int32) : Option (Int32 × Mem) := f_X6_takeBetween_0 S x1 x2
set_option maxHeartbeats 4000000 in
set_option maxRecDepth 100000 in
theorem b_X6_takeBetween_21 {v : EV} {p : Program} {l : Launch} {e : Env} {s : State} {m : MethodId} {args : Array Value} {below : List Frame} {meth : Method} {c : Code} (hC : Cx v p l e s m args meth c RX6 cX6_takeBetween 4 (some .int)) {S : Mem}  {r : Int32 × Mem} (hf : f_X6_takeBetween_21 S = some r) : Mj v p l e (rmF 5 100) s m args below meth c 4 (MQ below (Qc v (some (.int r.1)) r.2) args s 0 0 (eG v)) 0 S 21 [] [] := by
  refine i_iconst hC dX6_takeBetween_21 li_m1 ?_
  obtain rfl := Option.some.inj hf
  exact i_iret hC dX6_takeBetween_22
set_option maxHeartbeats 4000000 in
set_option maxRecDepth 100000 in
theorem b_X6_takeBetween_45 {v : EV} {p : Program} {l : Launch} {e : Env} {s : State} {m : MethodId} {args : Array Value} {below : List Frame} {meth : Method} {c : Code} (hC : Cx v p l e s m args meth c RX6 cX6_takeBetween 4 (some .int)) {S : Mem}  {r : Int32 × Mem} (hf : f_X6_takeBetween_45 S = some r) : Mj v p l e (rmF 5 100) s m args below meth c 4 (MQ below (Qc v (some (.int r.1)) r.2) args s 0 0 (eG v)) 0 S 45 [] [] := by
  refine i_iconst hC dX6_takeBetween_45 li_m1 ?_
  obtain rfl := Option.some.inj hf
  exact i_iret hC dX6_takeBetween_46
set_option maxHeartbeats 4000000 in
set_option maxRecDepth 100000 in
theorem b_X6_takeBetween_0 {v : EV} {p : Program} {l : Launch} {e : Env} {s : State} {m : MethodId} {args : Array Value} {below : List Frame} {meth : Method} {c : Code} (hC : Cx v p l e s m args meth c RX6 cX6_takeBetween 4 (some .int)) {S : Mem} {x1 : Int32} {x2 : Int32}  {r : Int32 × Mem} (hf : f_X6_takeBetween_0 S x1 x2 = some r) : Mj v p l e (rmF 5 100) s m args below meth c 4 (MQ below (Qc v (some (.int r.1)) r.2) args s 0 0 (eG v)) 0 S 0 [(0, .ref (eA v (202))), (1, .int x1), (2, .int x2)] [] := by
  refine i_aload_n hC dX6_takeBetween_0 rfl ?_
  refine i_getI hC fl_X6_41 (pln rfl) (lay_p202) rfl dX6_takeBetween_1 ?_
  refine i_if_lt hC (tgt := 21) dX6_takeBetween_4 (by decide) (fun c1 => ?_) (fun c1 => ?_)
  · replace hf := (if_pos c1).symm.trans hf
    exact Mj.to (b_X6_takeBetween_21 hC  hf) trivial
  · replace hf := (if_neg c1).symm.trans hf
    refine i_aload_n hC dX6_takeBetween_7 rfl ?_
    refine i_getI hC fl_X6_41 (pln rfl) (lay_p202) rfl dX6_takeBetween_8 ?_
    refine i_aload_n hC dX6_takeBetween_11 rfl ?_
    refine i_getR (x := pB 0) hC fl_X6_12 (pln rfl) (lay_p202) rfl dX6_takeBetween_12 ?_
    refine i_sbLen hC (by decide) mv_X6_25 ⟨Nat.le_of_ble_eq_true rfl, Nat.le_of_ble_eq_true rfl⟩ (Nat.le_of_ble_eq_true rfl) dX6_takeBetween_15 ?_
    refine i_icmp_lt hC (tgt := 23) dX6_takeBetween_18 (by decide) (fun c2 => ?_) (fun c2 => ?_)
    · replace hf := (if_pos c2).symm.trans hf
      refine i_aload_n hC dX6_takeBetween_23 rfl ?_
      refine i_getR (x := pB 0) hC fl_X6_12 (pln rfl) (lay_p202) rfl dX6_takeBetween_24 ?_
      refine i_aload_n hC dX6_takeBetween_27 rfl ?_
      refine i_getI hC fl_X6_41 (pln rfl) (lay_p202) rfl dX6_takeBetween_28 ?_
      obtain ⟨k3, hf⟩ := ck_of hf
      refine i_sbAt hC (by decide) mv_X6_97 k3 ⟨Nat.le_of_ble_eq_true rfl, Nat.le_of_ble_eq_true rfl⟩ (Nat.le_of_ble_eq_true rfl) dX6_takeBetween_31 ?_
      refine i_istore_n hC dX6_takeBetween_34 (by decide) ?_
      refine i_iload_n hC dX6_takeBetween_35 rfl ?_
      refine i_iload_n hC dX6_takeBetween_36 rfl ?_
      refine i_icmp_lt hC (tgt := 45) dX6_takeBetween_37 (by decide) (fun c4 => ?_) (fun c4 => ?_)
      · replace hf := (if_pos c4).symm.trans hf
        exact Mj.to (b_X6_takeBetween_45 hC  hf) trivial
      · replace hf := (if_neg c4).symm.trans hf
        refine i_iload_n hC dX6_takeBetween_40 rfl ?_
        refine i_iload_n hC dX6_takeBetween_41 rfl ?_
        refine i_icmp_le hC (tgt := 47) dX6_takeBetween_42 (by decide) (fun c5 => ?_) (fun c5 => ?_)
        · replace hf := (if_pos c5).symm.trans hf
          refine i_aload_n hC dX6_takeBetween_47 rfl ?_
          refine i_dup hC dX6_takeBetween_48 rfl ?_
          refine i_getI hC fl_X6_41 (pln rfl) (lay_p202) rfl dX6_takeBetween_49 ?_
          refine i_iconst hC dX6_takeBetween_52 li_1 ?_
          refine i_iadd hC dX6_takeBetween_53 ?_
          refine i_putI hC fl_X6_41 (pln rfl) (lay_p202) rfl (bk_l ⟨rfl, rfl, rfl, rfl⟩) (nf_int _) dX6_takeBetween_54 ?_
          refine i_iload_n hC dX6_takeBetween_57 rfl ?_
          obtain rfl := Option.some.inj hf
          exact i_iret hC dX6_takeBetween_58
        · replace hf := (if_neg c5).symm.trans hf
          exact Mj.to (b_X6_takeBetween_45 hC  hf) trivial
    · replace hf := (if_neg c2).symm.trans hf
      exact Mj.to (b_X6_takeBetween_21 hC  hf) trivial
theorem c_X6_takeBetween {v : EV} {l : Launch} (hst : Stb v) {S : Mem} {x1 x2 : Int32}  {r : Int32 × Mem} (hf : g_X6_takeBetween S x1 x2 = some r) : Con v l yX6_takeBetween cX6_takeBetween 4 (some .int) 5 100 [.ref (eA v (202)), .int x1, .int x2] S (some (.int r.1)) r.2 := con_of (by decide) hst (Nat.le_of_ble_eq_true rfl) (fun p e s m args below meth c hC => b_X6_takeBetween_0 hC  hf)
def f_X6_takeSign_14 (S : Mem) (xt0 : Int32) : Option (Int32 × Mem) := ck (isb xt0) (some (xt0, S))
def f_X6_takeSign_0 (S : Mem) (x1 : Int32) : Option (Int32 × Mem) := bd2 (g_X6_takeBetween S x1 x1) (fun r1 S1 => (if r1 < 0 then f_X6_takeSign_14 S1 (0 : Int32) else f_X6_takeSign_14 S1 (1 : Int32)))
def g_X6_takeSign (S : Mem) (x1 : Int32) : Option (Int32 × Mem) := f_X6_takeSign_0 S x1
set_option maxHeartbeats 4000000 in
set_option maxRecDepth 100000 in
theorem b_X6_takeSign_14 {v : EV} {p : Program} {l : Launch} {e : Env} {s : State} {m : MethodId} {args : Array Value} {below : List Frame} {meth : Method} {c : Code} (hC : Cx v p l e s m args meth c RX6 cX6_takeSign 2 (some .boolean)) {S : Mem} {xt0 : Int32}  {r : Int32 × Mem} (hf : f_X6_takeSign_14 S xt0 = some r) : Mj v p l e (rmF 6 123) s m args below meth c 2 (MQ below (Qc v (some (.int r.1)) r.2) args s 0 0 (eG v)) 0 S 14 [] [.int xt0] := by
  obtain ⟨k3, hf⟩ := ck_of hf
  obtain rfl := Option.some.inj hf
  exact i_zret hC dX6_takeSign_14 (isb_z k3).1
set_option maxHeartbeats 4000000 in
set_option maxRecDepth 100000 in
theorem b_X6_takeSign_0 {v : EV} {p : Program} {l : Launch} {e : Env} {s : State} {m : MethodId} {args : Array Value} {below : List Frame} {meth : Method} {c : Code} (hC : Cx v p l e s m args meth c RX6 cX6_takeSign 2 (some .boolean)) {S : Mem} {x1 : Int32}  {r : Int32 × Mem} (hf : f_X6_takeSign_0 S x1 = some r) : Mj v p l e (rmF 6 123) s m args below meth c 2 (MQ below (Qc v (some (.int r.1)) r.2) args s 0 0 (eG v)) 0 S 0 [(0, .ref (eA v (202))), (1, .int x1)] [] := by
  refine i_aload_n hC dX6_takeSign_0 rfl ?_
  refine i_iload_n hC dX6_takeSign_1 rfl ?_
  refine i_iload_n hC dX6_takeSign_2 rfl ?_
  obtain ⟨r1, S1, hc1, hf⟩ := bd2_of hf
  refine i_callVi hC mv_X6_122 (c_X6_takeBetween hC.2.2.2.2.2.2.2.1 hc1) (pln rfl) (lay_p202) rfl rfl rfl rfl ⟨Nat.le_of_ble_eq_true rfl, Nat.le_of_ble_eq_true rfl⟩ (Nat.le_of_ble_eq_true rfl) dX6_takeSign_3 ?_
  refine i_if_lt hC (tgt := 13) dX6_takeSign_6 (by decide) (fun c2 => ?_) (fun c2 => ?_)
  · replace hf := (if_pos c2).symm.trans hf
    refine i_iconst hC dX6_takeSign_13 li_0 ?_
    exact Mj.to (b_X6_takeSign_14 hC  hf) trivial
  · replace hf := (if_neg c2).symm.trans hf
    refine i_iconst hC dX6_takeSign_9 li_1 ?_
    refine i_goto hC (tgt := 14) dX6_takeSign_10 (by decide) ?_
    exact Mj.to (b_X6_takeSign_14 hC  hf) trivial
theorem c_X6_takeSign {v : EV} {l : Launch} (hst : Stb v) {S : Mem} {x1 : Int32}  {r : Int32 × Mem} (hf : g_X6_takeSign S x1 = some r) : Con v l yX6_takeSign cX6_takeSign 2 (some .boolean) 6 123 [.ref (eA v (202)), .int x1] S (some (.int r.1)) r.2 := con_of (by decide) hst (Nat.le_of_ble_eq_true rfl) (fun p e s m args below meth c hC => b_X6_takeSign_0 hC  hf)
def f_X6_takeLetter_24 (S : Mem) (xt0 : Int32) : Option (Int32 × Mem) := ck (isb xt0) (some (xt0, S))
def f_X6_takeLetter_0 (S : Mem) (d1_0 : Nat) : Option (Int32 × Mem) := bd2 (g_X6_takeBetween S (97 : Int32) (122 : Int32)) (fun r1 S1 => (if ((up S1 12 (3 * d1_0 + 2) r1) 12 (3 * d1_0 + 2)) < 0 then f_X6_takeLetter_24 (up S1 12 (3 * d1_0 + 2) r1) (0 : Int32) else f_X6_takeLetter_24 (up S1 12 (3 * d1_0 + 2) r1) (1 : Int32)))
def g_X6_takeLetter (S : Mem) (d1_0 : Nat) : Option (Int32 × Mem) := f_X6_takeLetter_0 S d1_0
set_option maxHeartbeats 4000000 in
set_option maxRecDepth 100000 in
theorem b_X6_takeLetter_24 {v : EV} {p : Program} {l : Launch} {e : Env} {s : State} {m : MethodId} {args : Array Value} {below : List Frame} {meth : Method} {c : Code} (hC : Cx v p l e s m args meth c RX6 cX6_takeLetter 2 (some .boolean)) {S : Mem} {xt0 : Int32}  {r : Int32 × Mem} (hf : f_X6_takeLetter_24 S xt0 = some r) : Mj v p l e (rmF 6 123) s m args below meth c 2 (MQ below (Qc v (some (.int r.1)) r.2) args s 0 0 (eG v)) 0 S 24 [] [.int xt0] := by
  obtain ⟨k3, hf⟩ := ck_of hf
  obtain rfl := Option.some.inj hf
  exact i_zret hC dX6_takeLetter_24 (isb_z k3).1
set_option maxHeartbeats 4000000 in
set_option maxRecDepth 100000 in
theorem b_X6_takeLetter_0 {v : EV} {p : Program} {l : Launch} {e : Env} {s : State} {m : MethodId} {args : Array Value} {below : List Frame} {meth : Method} {c : Code} (hC : Cx v p l e s m args meth c RX6 cX6_takeLetter 2 (some .boolean)) {S : Mem} {d1_0 : Nat} (h1 : d1_0 < 12) {r : Int32 × Mem} (hf : f_X6_takeLetter_0 S d1_0 = some r) : Mj v p l e (rmF 6 123) s m args below meth c 2 (MQ below (Qc v (some (.int r.1)) r.2) args s 0 0 (eG v)) 0 S 0 [(0, .ref (eA v (202))), (1, .ref (eA v (pC d1_0)))] [] := by
  refine i_aload_n hC dX6_takeLetter_0 rfl ?_
  refine i_aload_n hC dX6_takeLetter_1 rfl ?_
  refine i_bipush hC dX6_takeLetter_2 lb_97 ?_
  refine i_bipush hC dX6_takeLetter_4 lb_122 ?_
  obtain ⟨r1, S1, hc1, hf⟩ := bd2_of hf
  refine i_callVi hC mv_X6_122 (c_X6_takeBetween hC.2.2.2.2.2.2.2.1 hc1) (pln rfl) (lay_p202) rfl rfl rfl rfl ⟨Nat.le_of_ble_eq_true rfl, Nat.le_of_ble_eq_true rfl⟩ (Nat.le_of_ble_eq_true rfl) dX6_takeLetter_6 ?_
  refine i_putI hC fl_X6_60 (pl_C h1) (lay_C h1) rfl (bk_l ⟨rfl, rfl, rfl, rfl⟩) (nf_int _) dX6_takeLetter_9 ?_
  refine i_aload_n hC dX6_takeLetter_12 rfl ?_
  refine i_getI hC fl_X6_60 (pl_C h1) (lay_C h1) rfl dX6_takeLetter_13 ?_
  refine i_if_lt hC (tgt := 23) dX6_takeLetter_16 (by decide) (fun c2 => ?_) (fun c2 => ?_)
  · replace hf := (if_pos c2).symm.trans hf
    refine i_iconst hC dX6_takeLetter_23 li_0 ?_
    exact Mj.to (b_X6_takeLetter_24 hC  hf) trivial
  · replace hf := (if_neg c2).symm.trans hf
    refine i_iconst hC dX6_takeLetter_19 li_1 ?_
    refine i_goto hC (tgt := 24) dX6_takeLetter_20 (by decide) ?_
    exact Mj.to (b_X6_takeLetter_24 hC  hf) trivial
theorem c_X6_takeLetter {v : EV} {l : Launch} (hst : Stb v) {S : Mem} {d1_0 : Nat} (h1 : d1_0 < 12) {r : Int32 × Mem} (hf : g_X6_takeLetter S d1_0 = some r) : Con v l yX6_takeLetter cX6_takeLetter 2 (some .boolean) 6 123 [.ref (eA v (202)), .ref (eA v (pC d1_0))] S (some (.int r.1)) r.2 := con_of (by decide) hst (Nat.le_of_ble_eq_true rfl) (fun p e s m args below meth c hC => b_X6_takeLetter_0 hC h1 hf)
def f_X6_empty_0 (S : Mem)  : Option (Mem) := ck (sbset S 0) (some (setl S 0))
def g_X6_empty (S : Mem)  : Option (Mem) := f_X6_empty_0 S
set_option maxHeartbeats 4000000 in
set_option maxRecDepth 100000 in
theorem b_X6_empty_0 {v : EV} {p : Program} {l : Launch} {e : Env} {s : State} {m : MethodId} {args : Array Value} {below : List Frame} {meth : Method} {c : Code} (hC : Cx v p l e s m args meth c RX6 cX6_empty 1 none) {S : Mem}  {r : Mem} (hf : f_X6_empty_0 S = some r) : Mj v p l e (rmF 7 144) s m args below meth c 1 (MQ below (Qc v (none) r) args s 0 0 (eG v)) 0 S 0 [(0, .ref (eA v (202)))] [] := by
  refine i_aload_n hC dX6_empty_0 rfl ?_
  refine i_getR (x := pB 0) hC fl_X6_12 (pln rfl) (lay_p202) rfl dX6_empty_1 ?_
  refine i_iconst hC dX6_empty_4 li_0 ?_
  obtain ⟨k1, hf⟩ := ck_of hf
  refine i_sbSet hC (by decide) mv_X6_33 k1 ⟨Nat.le_of_ble_eq_true rfl, Nat.le_of_ble_eq_true rfl⟩ (Nat.le_of_ble_eq_true rfl) dX6_empty_5 ?_
  obtain rfl := Option.some.inj hf
  exact i_vret hC dX6_empty_8
theorem c_X6_empty {v : EV} {l : Launch} (hst : Stb v) {S : Mem}  {r : Mem} (hf : g_X6_empty S = some r) : Con v l yX6_empty cX6_empty 1 none 7 144 [.ref (eA v (202))] S (none) r := con_of (by decide) hst (Nat.le_of_ble_eq_true rfl) (fun p e s m args below meth c hC => b_X6_empty_0 hC  hf)
def f_X8_account_0 (S : Mem) (x1 : Int32) : Option (Int32) := (if x1 = (0 : Int32) then some (S 0 0) else if x1 = (1 : Int32) then some (S 0 1) else if x1 = (2 : Int32) then bd1 (g_X4_countAboard S 0) (fun r3 => some r3) else if x1 = (3 : Int32) then bd1 (g_X4_countCutRopes S 0) (fun r5 => some r5) else if x1 = (4 : Int32) then bd1 (g_X4_greatestTerm S 0) (fun r7 => some r7) else if x1 = (5 : Int32) then some (S 0 2) else if x1 = (6 : Int32) then some (S 0 3) else if x1 = (7 : Int32) then some (S 0 4) else if x1 = (8 : Int32) then some (S 0 5) else if x1 = (9 : Int32) then some (S 0 6) else if x1 = (10 : Int32) then some (S 0 7) else if x1 = (11 : Int32) then bd1 (g_X6_size S) (fun r15 => some r15) else if x1 = (12 : Int32) then some (S 11 3) else some (-2 : Int32))
def g_X8_account (S : Mem) (x1 : Int32) : Option (Int32) := f_X8_account_0 S x1
set_option maxHeartbeats 4000000 in
set_option maxRecDepth 100000 in
theorem b_X8_account_0 {v : EV} {p : Program} {l : Launch} {e : Env} {s : State} {m : MethodId} {args : Array Value} {below : List Frame} {meth : Method} {c : Code} (hC : Cx v p l e s m args meth c RX8 cX8_account 2 (some .int)) {S : Mem} {x1 : Int32}  {r : Int32} (hf : f_X8_account_0 S x1 = some r) : Mj v p l e (rmF 4 72) s m args below meth c 2 (MQ below (Qc v (some (.int r)) S) args s 0 0 (eG v)) 0 S 0 [(0, .ref (eA v (198))), (1, .int x1)] [] := by
  refine i_iload_n hC dX8_account_0 rfl ?_
  by_cases c1 : x1 = (0 : Int32)
  · replace hf := (if_pos c1).symm.trans hf
    refine i_tabIn hC (tgt := 68) dX8_account_1 c1 (show ((0 : Int32)).toInt = 0 by decide) (by decide) (by decide) rfl (by decide) ?_
    refine i_aload_n hC dX8_account_68 rfl ?_
    refine i_getR (x := pR 0) hC fl_X8_12 (pln rfl) (lay_p198) rfl dX8_account_69 ?_
    refine i_getI hC fl_X8_361 (pl_R (by decide)) (lay_R (by decide)) rfl dX8_account_72 ?_
    obtain rfl := Option.some.inj hf
    exact i_iret hC dX8_account_75
  replace hf := (if_neg c1).symm.trans hf
  by_cases c2 : x1 = (1 : Int32)
  · replace hf := (if_pos c2).symm.trans hf
    refine i_tabIn hC (tgt := 76) dX8_account_1 c2 (show ((1 : Int32)).toInt = 1 by decide) (by decide) (by decide) rfl (by decide) ?_
    refine i_aload_n hC dX8_account_76 rfl ?_
    refine i_getR (x := pR 0) hC fl_X8_12 (pln rfl) (lay_p198) rfl dX8_account_77 ?_
    refine i_getI hC fl_X8_54 (pl_R (by decide)) (lay_R (by decide)) rfl dX8_account_80 ?_
    obtain rfl := Option.some.inj hf
    exact i_iret hC dX8_account_83
  replace hf := (if_neg c2).symm.trans hf
  by_cases c4 : x1 = (2 : Int32)
  · replace hf := (if_pos c4).symm.trans hf
    refine i_tabIn hC (tgt := 84) dX8_account_1 c4 (show ((2 : Int32)).toInt = 2 by decide) (by decide) (by decide) rfl (by decide) ?_
    refine i_aload_n hC dX8_account_84 rfl ?_
    refine i_getR (x := pR 0) hC fl_X8_12 (pln rfl) (lay_p198) rfl dX8_account_85 ?_
    obtain ⟨r3, hc3, hf⟩ := bd1_of hf
    refine i_callVi hC mv_X8_223 (c_X4_countAboard hC.2.2.2.2.2.2.2.1 (by decide) hc3) (pl_R (by decide)) (lay_R (by decide)) rfl rfl rfl rfl ⟨Nat.le_of_ble_eq_true rfl, Nat.le_of_ble_eq_true rfl⟩ (Nat.le_of_ble_eq_true rfl) dX8_account_88 ?_
    obtain rfl := Option.some.inj hf
    exact i_iret hC dX8_account_91
  replace hf := (if_neg c4).symm.trans hf
  by_cases c6 : x1 = (3 : Int32)
  · replace hf := (if_pos c6).symm.trans hf
    refine i_tabIn hC (tgt := 92) dX8_account_1 c6 (show ((3 : Int32)).toInt = 3 by decide) (by decide) (by decide) rfl (by decide) ?_
    refine i_aload_n hC dX8_account_92 rfl ?_
    refine i_getR (x := pR 0) hC fl_X8_12 (pln rfl) (lay_p198) rfl dX8_account_93 ?_
    obtain ⟨r5, hc5, hf⟩ := bd1_of hf
    refine i_callVi hC mv_X8_242 (c_X4_countCutRopes hC.2.2.2.2.2.2.2.1 (by decide) hc5) (pl_R (by decide)) (lay_R (by decide)) rfl rfl rfl rfl ⟨Nat.le_of_ble_eq_true rfl, Nat.le_of_ble_eq_true rfl⟩ (Nat.le_of_ble_eq_true rfl) dX8_account_96 ?_
    obtain rfl := Option.some.inj hf
    exact i_iret hC dX8_account_99
  replace hf := (if_neg c6).symm.trans hf
  by_cases c8 : x1 = (4 : Int32)
  · replace hf := (if_pos c8).symm.trans hf
    refine i_tabIn hC (tgt := 100) dX8_account_1 c8 (show ((4 : Int32)).toInt = 4 by decide) (by decide) (by decide) rfl (by decide) ?_
    refine i_aload_n hC dX8_account_100 rfl ?_
    refine i_getR (x := pR 0) hC fl_X8_12 (pln rfl) (lay_p198) rfl dX8_account_101 ?_
    obtain ⟨r7, hc7, hf⟩ := bd1_of hf
    refine i_callVi hC mv_X8_364 (c_X4_greatestTerm hC.2.2.2.2.2.2.2.1 (by decide) hc7) (pl_R (by decide)) (lay_R (by decide)) rfl rfl rfl rfl ⟨Nat.le_of_ble_eq_true rfl, Nat.le_of_ble_eq_true rfl⟩ (Nat.le_of_ble_eq_true rfl) dX8_account_104 ?_
    obtain rfl := Option.some.inj hf
    exact i_iret hC dX8_account_107
  replace hf := (if_neg c8).symm.trans hf
  by_cases c9 : x1 = (5 : Int32)
  · replace hf := (if_pos c9).symm.trans hf
    refine i_tabIn hC (tgt := 108) dX8_account_1 c9 (show ((5 : Int32)).toInt = 5 by decide) (by decide) (by decide) rfl (by decide) ?_
    refine i_aload_n hC dX8_account_108 rfl ?_
    refine i_getR (x := pR 0) hC fl_X8_12 (pln rfl) (lay_p198) rfl dX8_account_109 ?_
    refine i_getI hC fl_X8_178 (pl_R (by decide)) (lay_R (by decide)) rfl dX8_account_112 ?_
    obtain rfl := Option.some.inj hf
    exact i_iret hC dX8_account_115
  replace hf := (if_neg c9).symm.trans hf
  by_cases c10 : x1 = (6 : Int32)
  · replace hf := (if_pos c10).symm.trans hf
    refine i_tabIn hC (tgt := 116) dX8_account_1 c10 (show ((6 : Int32)).toInt = 6 by decide) (by decide) (by decide) rfl (by decide) ?_
    refine i_aload_n hC dX8_account_116 rfl ?_
    refine i_getR (x := pR 0) hC fl_X8_12 (pln rfl) (lay_p198) rfl dX8_account_117 ?_
    refine i_getI hC fl_X8_367 (pl_R (by decide)) (lay_R (by decide)) rfl dX8_account_120 ?_
    obtain rfl := Option.some.inj hf
    exact i_iret hC dX8_account_123
  replace hf := (if_neg c10).symm.trans hf
  by_cases c11 : x1 = (7 : Int32)
  · replace hf := (if_pos c11).symm.trans hf
    refine i_tabIn hC (tgt := 124) dX8_account_1 c11 (show ((7 : Int32)).toInt = 7 by decide) (by decide) (by decide) rfl (by decide) ?_
    refine i_aload_n hC dX8_account_124 rfl ?_
    refine i_getR (x := pR 0) hC fl_X8_12 (pln rfl) (lay_p198) rfl dX8_account_125 ?_
    refine i_getI hC fl_X8_216 (pl_R (by decide)) (lay_R (by decide)) rfl dX8_account_128 ?_
    obtain rfl := Option.some.inj hf
    exact i_iret hC dX8_account_131
  replace hf := (if_neg c11).symm.trans hf
  by_cases c12 : x1 = (8 : Int32)
  · replace hf := (if_pos c12).symm.trans hf
    refine i_tabIn hC (tgt := 132) dX8_account_1 c12 (show ((8 : Int32)).toInt = 8 by decide) (by decide) (by decide) rfl (by decide) ?_
    refine i_aload_n hC dX8_account_132 rfl ?_
    refine i_getR (x := pR 0) hC fl_X8_12 (pln rfl) (lay_p198) rfl dX8_account_133 ?_
    refine i_getI hC fl_X8_370 (pl_R (by decide)) (lay_R (by decide)) rfl dX8_account_136 ?_
    obtain rfl := Option.some.inj hf
    exact i_iret hC dX8_account_139
  replace hf := (if_neg c12).symm.trans hf
  by_cases c13 : x1 = (9 : Int32)
  · replace hf := (if_pos c13).symm.trans hf
    refine i_tabIn hC (tgt := 140) dX8_account_1 c13 (show ((9 : Int32)).toInt = 9 by decide) (by decide) (by decide) rfl (by decide) ?_
    refine i_aload_n hC dX8_account_140 rfl ?_
    refine i_getR (x := pR 0) hC fl_X8_12 (pln rfl) (lay_p198) rfl dX8_account_141 ?_
    refine i_getI hC fl_X8_373 (pl_R (by decide)) (lay_R (by decide)) rfl dX8_account_144 ?_
    obtain rfl := Option.some.inj hf
    exact i_iret hC dX8_account_147
  replace hf := (if_neg c13).symm.trans hf
  by_cases c14 : x1 = (10 : Int32)
  · replace hf := (if_pos c14).symm.trans hf
    refine i_tabIn hC (tgt := 148) dX8_account_1 c14 (show ((10 : Int32)).toInt = 10 by decide) (by decide) (by decide) rfl (by decide) ?_
    refine i_aload_n hC dX8_account_148 rfl ?_
    refine i_getR (x := pR 0) hC fl_X8_12 (pln rfl) (lay_p198) rfl dX8_account_149 ?_
    refine i_getI hC fl_X8_376 (pl_R (by decide)) (lay_R (by decide)) rfl dX8_account_152 ?_
    obtain rfl := Option.some.inj hf
    exact i_iret hC dX8_account_155
  replace hf := (if_neg c14).symm.trans hf
  by_cases c16 : x1 = (11 : Int32)
  · replace hf := (if_pos c16).symm.trans hf
    refine i_tabIn hC (tgt := 156) dX8_account_1 c16 (show ((11 : Int32)).toInt = 11 by decide) (by decide) (by decide) rfl (by decide) ?_
    refine i_aload_n hC dX8_account_156 rfl ?_
    refine i_getR hC fl_X8_39 (pln rfl) (lay_p198) rfl dX8_account_157 ?_
    obtain ⟨r15, hc15, hf⟩ := bd1_of hf
    refine i_callVi hC mv_X8_67 (c_X6_size hC.2.2.2.2.2.2.2.1 hc15) (pln rfl) (lay_p202) rfl rfl rfl rfl ⟨Nat.le_of_ble_eq_true rfl, Nat.le_of_ble_eq_true rfl⟩ (Nat.le_of_ble_eq_true rfl) dX8_account_160 ?_
    obtain rfl := Option.some.inj hf
    exact i_iret hC dX8_account_163
  replace hf := (if_neg c16).symm.trans hf
  by_cases c17 : x1 = (12 : Int32)
  · replace hf := (if_pos c17).symm.trans hf
    refine i_tabIn hC (tgt := 164) dX8_account_1 c17 (show ((12 : Int32)).toInt = 12 by decide) (by decide) (by decide) rfl (by decide) ?_
    refine i_aload_n hC dX8_account_164 rfl ?_
    refine i_getR hC fl_X8_25 (pln rfl) (lay_p198) rfl dX8_account_165 ?_
    refine i_getI hC fl_X8_379 (pln rfl) (lay_p199) rfl dX8_account_168 ?_
    obtain rfl := Option.some.inj hf
    exact i_iret hC dX8_account_171
  replace hf := (if_neg c17).symm.trans hf
  refine i_tabOut hC (x := x1) (tgt := 172) dX8_account_1 (by
      have z1 := lv_neT c1 (show ((0 : Int32)).toInt = 0 by decide)
      have z2 := lv_neT c2 (show ((1 : Int32)).toInt = 1 by decide)
      have z4 := lv_neT c4 (show ((2 : Int32)).toInt = 2 by decide)
      have z6 := lv_neT c6 (show ((3 : Int32)).toInt = 3 by decide)
      have z8 := lv_neT c8 (show ((4 : Int32)).toInt = 4 by decide)
      have z9 := lv_neT c9 (show ((5 : Int32)).toInt = 5 by decide)
      have z10 := lv_neT c10 (show ((6 : Int32)).toInt = 6 by decide)
      have z11 := lv_neT c11 (show ((7 : Int32)).toInt = 7 by decide)
      have z12 := lv_neT c12 (show ((8 : Int32)).toInt = 8 by decide)
      have z13 := lv_neT c13 (show ((9 : Int32)).toInt = 9 by decide)
      have z14 := lv_neT c14 (show ((10 : Int32)).toInt = 10 by decide)
      have z16 := lv_neT c16 (show ((11 : Int32)).toInt = 11 by decide)
      have z17 := lv_neT c17 (show ((12 : Int32)).toInt = 12 by decide)
      omega) (by decide) ?_
  refine i_bipush hC dX8_account_172 lb_m2 ?_
  obtain rfl := Option.some.inj hf
  exact i_iret hC dX8_account_174
theorem c_X8_account {v : EV} {l : Launch} (hst : Stb v) {S : Mem} {x1 : Int32}  {r : Int32} (hf : g_X8_account S x1 = some r) : Con v l yX8_account cX8_account 2 (some .int) 4 72 [.ref (eA v (198)), .int x1] S (some (.int r)) S := con_of (by decide) hst (Nat.le_of_ble_eq_true rfl) (fun p e s m args below meth c hC => b_X8_account_0 hC  hf)
def f_X8_append_23 (S : Mem) (xt0 : Int32) : Option (Int32 × Mem) := some (xt0, S)
def f_X8_append_0 (S : Mem) (x1 : Int32) : Option (Int32 × Mem) := bd2 (g_X6_add S x1) (fun r1 S1 => (if r1 = 0 then f_X8_append_23 S1 (-2 : Int32) else bd1 (g_X6_size S1) (fun r4 => f_X8_append_23 S1 r4)))
def g_X8_append (S : Mem) (x1 : Int32) : Option (Int32 × Mem) := f_X8_append_0 S x1
set_option maxHeartbeats 4000000 in
set_option maxRecDepth 100000 in
theorem b_X8_append_23 {v : EV} {p : Program} {l : Launch} {e : Env} {s : State} {m : MethodId} {args : Array Value} {below : List Frame} {meth : Method} {c : Code} (hC : Cx v p l e s m args meth c RX8 cX8_append 2 (some .int)) {S : Mem} {xt0 : Int32}  {qb : Nat} (hq : 0 ≤ qb) {r : Int32 × Mem} (hf : f_X8_append_23 S xt0 = some r) : Mj v p l e (rmK 1 8 165) s m args below meth c 2 (MQ below (Qc v (some (.int r.1)) r.2) args s 1 (160 * 1) (eG v)) qb S 23 [] [.int xt0] := by
  obtain rfl := Option.some.inj hf
  exact i_iret hC dX8_append_23
set_option maxHeartbeats 4000000 in
set_option maxRecDepth 100000 in
theorem b_X8_append_0 {v : EV} {p : Program} {l : Launch} {e : Env} {s : State} {m : MethodId} {args : Array Value} {below : List Frame} {meth : Method} {c : Code} (hC : Cx v p l e s m args meth c RX8 cX8_append 2 (some .int)) {S : Mem} {x1 : Int32}  {qb : Nat} (hq : 1 ≤ qb) {r : Int32 × Mem} (hf : f_X8_append_0 S x1 = some r) : Mj v p l e (rmK 1 8 165) s m args below meth c 2 (MQ below (Qc v (some (.int r.1)) r.2) args s 1 (160 * 1) (eG v)) qb S 0 [(0, .ref (eA v (198))), (1, .int x1)] [] := by
  refine i_aload_n hC dX8_append_0 rfl ?_
  refine i_getR hC fl_X8_39 (pln rfl) (lay_p198) rfl dX8_append_1 ?_
  refine i_iload_n hC dX8_append_4 rfl ?_
  obtain ⟨r1, S1, hc1, hf⟩ := bd2_of hf
  obtain ⟨q2, rfl⟩ : ∃ z, qb = z + 1 := ⟨qb - 1, by omega⟩
  refine i_callVi hC mv_X8_63 (c_X6_add hC.2.2.2.2.2.2.2.1 hc1) (pln rfl) (lay_p202) rfl rfl rfl rfl ⟨Nat.le_of_ble_eq_true rfl, Nat.le_of_ble_eq_true rfl⟩ (Nat.le_of_ble_eq_true rfl) dX8_append_5 ?_
  refine i_if_eq hC (tgt := 21) dX8_append_8 (by decide) (fun c3 => ?_) (fun c3 => ?_)
  · replace hf := (if_pos c3).symm.trans hf
    refine i_bipush hC dX8_append_21 lb_m2 ?_
    exact Mj.to (b_X8_append_23 hC (by omega) hf) trivial
  · replace hf := (if_neg c3).symm.trans hf
    refine i_aload_n hC dX8_append_11 rfl ?_
    refine i_getR hC fl_X8_39 (pln rfl) (lay_p198) rfl dX8_append_12 ?_
    obtain ⟨r4, hc4, hf⟩ := bd1_of hf
    refine i_callVi hC mv_X8_67 (c_X6_size hC.2.2.2.2.2.2.2.1 hc4) (pln rfl) (lay_p202) rfl rfl rfl rfl ⟨Nat.le_of_ble_eq_true rfl, Nat.le_of_ble_eq_true rfl⟩ (Nat.le_of_ble_eq_true rfl) dX8_append_15 ?_
    refine i_goto hC (tgt := 23) dX8_append_18 (by decide) ?_
    exact Mj.to (b_X8_append_23 hC (by omega) hf) trivial
theorem c_X8_append {v : EV} {l : Launch} (hst : Stb v) {S : Mem} {x1 : Int32}  {r : Int32 × Mem} (hf : g_X8_append S x1 = some r) : ConK 1 v l yX8_append cX8_append 2 (some .int) 8 165 [.ref (eA v (198)), .int x1] S (some (.int r.1)) r.2 := con_ofK (by decide) hst (Nat.le_of_ble_eq_true rfl) (fun p e s m args below meth c hC => b_X8_append_0 hC  (Nat.le_refl _) hf)
def f_X6_countFitting_29 (S : Mem) (x2 : Int32) : Option (Int32) := some x2
def f_X6_countFitting_2_b (ih2 : Int32 → Option (Int32)) (S : Mem) (d1_0 : Nat) (x2 : Int32) : Option (Int32) := bd1 (g_J0_length_8abf5 S d1_0) (fun r1 => (if r1 ≤ x2 then f_X6_countFitting_29 S x2 else bd1 (g_J0_charAt_5068e S d1_0 x2) (fun r3 => bd1 (g_X6_isHere S x2 r3) (fun r4 => (if r4 = 0 then f_X6_countFitting_29 S x2 else ih2 ((x2 + (1 : Int32))))))))
def f_X6_countFitting_2 (S : Mem) (d1_0 : Nat) (x2 : Int32) : Option (Int32) := lp (fun ih2 s9 => f_X6_countFitting_2_b ih2 S d1_0 s9) 2000 (x2)
def f_X6_countFitting_0 (S : Mem) (d1_0 : Nat) : Option (Int32) := f_X6_countFitting_2 S d1_0 (0 : Int32)
def g_X6_countFitting (S : Mem) (d1_0 : Nat) : Option (Int32) := f_X6_countFitting_0 S d1_0
set_option maxHeartbeats 4000000 in
set_option maxRecDepth 100000 in
theorem b_X6_countFitting_29 {v : EV} {p : Program} {l : Launch} {e : Env} {s : State} {m : MethodId} {args : Array Value} {below : List Frame} {meth : Method} {c : Code} (hC : Cx v p l e s m args meth c RX6 cX6_countFitting 3 (some .int)) {S : Mem} {x2 : Int32}  {r : Int32} (hf : f_X6_countFitting_29 S x2 = some r) : Mj v p l e (rmF 6 123) s m args below meth c 3 (MQ below (Qc v (some (.int r)) S) args s 0 0 (eG v)) 0 S 29 [(2, .int x2)] [] := by
  refine i_iload_n hC dX6_countFitting_29 rfl ?_
  obtain rfl := Option.some.inj hf
  exact i_iret hC dX6_countFitting_30
set_option maxHeartbeats 4000000 in
set_option maxRecDepth 100000 in
theorem b_X6_countFitting_2_b {v : EV} {p : Program} {l : Launch} {e : Env} {s : State} {m : MethodId} {args : Array Value} {below : List Frame} {meth : Method} {c : Code} (hC : Cx v p l e s m args meth c RX6 cX6_countFitting 3 (some .int)) {S : Mem} {d1_0 : Nat} {x2 : Int32} (h1 : d1_0 < 9) {r : Int32} {ih2 : Int32 → Option (Int32)} (hih2 : ∀ s9 : Int32, ih2 s9 = some r → Mj v p l e (rmF 6 123) s m args below meth c 3 (MQ below (Qc v (some (.int r)) S) args s 0 0 (eG v)) 0 S 2 [(0, .ref (eA v (202))), (1, .ref (eT v (10 + d1_0))), (2, .int (s9))] []) (hf : f_X6_countFitting_2_b ih2 S d1_0 x2 = some r) : Mj v p l e (rmF 6 123) s m args below meth c 3 (MQ below (Qc v (some (.int r)) S) args s 0 0 (eG v)) 0 S 2 [(0, .ref (eA v (202))), (1, .ref (eT v (10 + d1_0))), (2, .int x2)] [] := by
  refine i_iload_n hC dX6_countFitting_2 rfl ?_
  refine i_aload_n hC dX6_countFitting_3 rfl ?_
  obtain ⟨r1, hc1, hf⟩ := bd1_of hf
  refine i_callT hC h1 mv_X6_86 (c_J0_length_8abf5 hC.2.2.2.2.2.2.2.1 h1 hc1) rfl rfl rfl ⟨Nat.le_of_ble_eq_true rfl, Nat.le_of_ble_eq_true rfl⟩ (Nat.le_of_ble_eq_true rfl) dX6_countFitting_4 ?_
  refine i_icmp_ge hC (tgt := 29) dX6_countFitting_7 (by decide) (fun c2 => ?_) (fun c2 => ?_)
  · replace hf := (if_pos c2).symm.trans hf
    exact Mj.to (b_X6_countFitting_29 hC  hf) ⟨rfl, trivial⟩
  · replace hf := (if_neg c2).symm.trans hf
    refine i_aload_n hC dX6_countFitting_10 rfl ?_
    refine i_iload_n hC dX6_countFitting_11 rfl ?_
    refine i_aload_n hC dX6_countFitting_12 rfl ?_
    refine i_iload_n hC dX6_countFitting_13 rfl ?_
    obtain ⟨r3, hc3, hf⟩ := bd1_of hf
    refine i_callT hC h1 mv_X6_89 (c_J0_charAt_5068e hC.2.2.2.2.2.2.2.1 h1 hc3) rfl rfl rfl ⟨Nat.le_of_ble_eq_true rfl, Nat.le_of_ble_eq_true rfl⟩ (Nat.le_of_ble_eq_true rfl) dX6_countFitting_14 ?_
    obtain ⟨r4, hc4, hf⟩ := bd1_of hf
    refine i_callVi hC mv_X6_93 (c_X6_isHere hC.2.2.2.2.2.2.2.1 hc4) (pln rfl) (lay_p202) rfl rfl rfl rfl ⟨Nat.le_of_ble_eq_true rfl, Nat.le_of_ble_eq_true rfl⟩ (Nat.le_of_ble_eq_true rfl) dX6_countFitting_17 ?_
    refine i_if_eq hC (tgt := 29) dX6_countFitting_20 (by decide) (fun c5 => ?_) (fun c5 => ?_)
    · replace hf := (if_pos c5).symm.trans hf
      exact Mj.to (b_X6_countFitting_29 hC  hf) ⟨rfl, trivial⟩
    · replace hf := (if_neg c5).symm.trans hf
      refine i_iinc hC dX6_countFitting_23 rfl li_1 (by decide) ?_
      refine i_goto hC (tgt := 2) dX6_countFitting_26 (by decide) ?_
      exact Mj.to (hih2 _ hf) ⟨rfl, rfl, rfl, trivial⟩
theorem b_X6_countFitting_2 {v : EV} {p : Program} {l : Launch} {e : Env} {s : State} {m : MethodId} {args : Array Value} {below : List Frame} {meth : Method} {c : Code} (hC : Cx v p l e s m args meth c RX6 cX6_countFitting 3 (some .int)) {S : Mem} {d1_0 : Nat} {x2 : Int32} (h1 : d1_0 < 9) {r : Int32} (hf : f_X6_countFitting_2 S d1_0 x2 = some r) : Mj v p l e (rmF 6 123) s m args below meth c 3 (MQ below (Qc v (some (.int r)) S) args s 0 0 (eG v)) 0 S 2 [(0, .ref (eA v (202))), (1, .ref (eT v (10 + d1_0))), (2, .int x2)] [] :=
  lp_ind (P := fun s9 : Int32 => Mj v p l e (rmF 6 123) s m args below meth c 3 (MQ below (Qc v (some (.int r)) S) args s 0 0 (eG v)) 0 S 2 [(0, .ref (eA v (202))), (1, .ref (eT v (10 + d1_0))), (2, .int (s9))] []) (fun ih s9 hih hf => b_X6_countFitting_2_b hC h1  hih hf) _ _ hf
set_option maxHeartbeats 4000000 in
set_option maxRecDepth 100000 in
theorem b_X6_countFitting_0 {v : EV} {p : Program} {l : Launch} {e : Env} {s : State} {m : MethodId} {args : Array Value} {below : List Frame} {meth : Method} {c : Code} (hC : Cx v p l e s m args meth c RX6 cX6_countFitting 3 (some .int)) {S : Mem} {d1_0 : Nat} (h1 : d1_0 < 9) {r : Int32} (hf : f_X6_countFitting_0 S d1_0 = some r) : Mj v p l e (rmF 6 123) s m args below meth c 3 (MQ below (Qc v (some (.int r)) S) args s 0 0 (eG v)) 0 S 0 [(0, .ref (eA v (202))), (1, .ref (eT v (10 + d1_0)))] [] := by
  refine i_iconst hC dX6_countFitting_0 li_0 ?_
  refine i_istore_n hC dX6_countFitting_1 (by decide) ?_
  exact Mj.to (b_X6_countFitting_2 hC h1 hf) ⟨rfl, rfl, rfl, trivial⟩
theorem c_X6_countFitting {v : EV} {l : Launch} (hst : Stb v) {S : Mem} {d1_0 : Nat} (h1 : d1_0 < 9) {r : Int32} (hf : g_X6_countFitting S d1_0 = some r) : Con v l yX6_countFitting cX6_countFitting 3 (some .int) 6 123 [.ref (eA v (202)), .ref (eT v (10 + d1_0))] S (some (.int r)) S := con_of (by decide) hst (Nat.le_of_ble_eq_true rfl) (fun p e s m args below meth c hC => b_X6_countFitting_0 hC h1 hf)
def f_X6_takeDigit_21 (S : Mem) (xt0 : Int32) : Option (Int32 × Mem) := some (xt0, S)
def f_X6_takeDigit_0 (S : Mem)  : Option (Int32 × Mem) := bd2 (g_X6_takeBetween S (48 : Int32) (57 : Int32)) (fun r1 S1 => (if 0 ≤ r1 then f_X6_takeDigit_21 S1 (r1 - (48 : Int32)) else f_X6_takeDigit_21 S1 (-1 : Int32)))
def g_X6_takeDigit (S : Mem)  : Option (Int32 × Mem) := f_X6_takeDigit_0 S
set_option maxHeartbeats 4000000 in
set_option maxRecDepth 100000 in
theorem b_X6_takeDigit_21 {v : EV} {p : Program} {l : Launch} {e : Env} {s : State} {m : MethodId} {args : Array Value} {below : List Frame} {meth : Method} {c : Code} (hC : Cx v p l e s m args meth c RX6 cX6_takeDigit 2 (some .int)) {S : Mem} {xt0 : Int32}  {r : Int32 × Mem} (hf : f_X6_takeDigit_21 S xt0 = some r) : Mj v p l e (rmF 6 123) s m args below meth c 2 (MQ below (Qc v (some (.int r.1)) r.2) args s 0 0 (eG v)) 0 S 21 [] [.int xt0] := by
  obtain rfl := Option.some.inj hf
  exact i_iret hC dX6_takeDigit_21
set_option maxHeartbeats 4000000 in
set_option maxRecDepth 100000 in
theorem b_X6_takeDigit_0 {v : EV} {p : Program} {l : Launch} {e : Env} {s : State} {m : MethodId} {args : Array Value} {below : List Frame} {meth : Method} {c : Code} (hC : Cx v p l e s m args meth c RX6 cX6_takeDigit 2 (some .int)) {S : Mem}  {r : Int32 × Mem} (hf : f_X6_takeDigit_0 S = some r) : Mj v p l e (rmF 6 123) s m args below meth c 2 (MQ below (Qc v (some (.int r.1)) r.2) args s 0 0 (eG v)) 0 S 0 [(0, .ref (eA v (202)))] [] := by
  refine i_aload_n hC dX6_takeDigit_0 rfl ?_
  refine i_bipush hC dX6_takeDigit_1 lb_48 ?_
  refine i_bipush hC dX6_takeDigit_3 lb_57 ?_
  obtain ⟨r1, S1, hc1, hf⟩ := bd2_of hf
  refine i_callVi hC mv_X6_122 (c_X6_takeBetween hC.2.2.2.2.2.2.2.1 hc1) (pln rfl) (lay_p202) rfl rfl rfl rfl ⟨Nat.le_of_ble_eq_true rfl, Nat.le_of_ble_eq_true rfl⟩ (Nat.le_of_ble_eq_true rfl) dX6_takeDigit_5 ?_
  refine i_istore_n hC dX6_takeDigit_8 (by decide) ?_
  refine i_iload_n hC dX6_takeDigit_9 rfl ?_
  refine i_if_ge hC (tgt := 17) dX6_takeDigit_10 (by decide) (fun c2 => ?_) (fun c2 => ?_)
  · replace hf := (if_pos c2).symm.trans hf
    refine i_iload_n hC dX6_takeDigit_17 rfl ?_
    refine i_bipush hC dX6_takeDigit_18 lb_48 ?_
    refine i_isub hC dX6_takeDigit_20 ?_
    exact Mj.to (b_X6_takeDigit_21 hC  hf) trivial
  · replace hf := (if_neg c2).symm.trans hf
    refine i_iconst hC dX6_takeDigit_13 li_m1 ?_
    refine i_goto hC (tgt := 21) dX6_takeDigit_14 (by decide) ?_
    exact Mj.to (b_X6_takeDigit_21 hC  hf) trivial
theorem c_X6_takeDigit {v : EV} {l : Launch} (hst : Stb v) {S : Mem}  {r : Int32 × Mem} (hf : g_X6_takeDigit S = some r) : Con v l yX6_takeDigit cX6_takeDigit 2 (some .int) 6 123 [.ref (eA v (202))] S (some (.int r.1)) r.2 := con_of (by decide) hst (Nat.le_of_ble_eq_true rfl) (fun p e s m args below meth c hC => b_X6_takeDigit_0 hC  hf)
def f_X6_takeSecond_20 (S : Mem) (xt0 : Int32) : Option (Int32 × Mem) := ck (isb xt0) (some (xt0, S))
def f_X6_takeSecond_0 (S : Mem) (d1_0 : Nat) : Option (Int32 × Mem) := bd2 (g_X6_takeDigit S) (fun r1 S1 => (if ((up S1 12 (3 * d1_0 + 2) r1) 12 (3 * d1_0 + 2)) < 0 then f_X6_takeSecond_20 (up S1 12 (3 * d1_0 + 2) r1) (0 : Int32) else f_X6_takeSecond_20 (up S1 12 (3 * d1_0 + 2) r1) (1 : Int32)))
def g_X6_takeSecond (S : Mem) (d1_0 : Nat) : Option (Int32 × Mem) := f_X6_takeSecond_0 S d1_0
set_option maxHeartbeats 4000000 in
set_option maxRecDepth 100000 in
theorem b_X6_takeSecond_20 {v : EV} {p : Program} {l : Launch} {e : Env} {s : State} {m : MethodId} {args : Array Value} {below : List Frame} {meth : Method} {c : Code} (hC : Cx v p l e s m args meth c RX6 cX6_takeSecond 2 (some .boolean)) {S : Mem} {xt0 : Int32}  {r : Int32 × Mem} (hf : f_X6_takeSecond_20 S xt0 = some r) : Mj v p l e (rmF 7 144) s m args below meth c 2 (MQ below (Qc v (some (.int r.1)) r.2) args s 0 0 (eG v)) 0 S 20 [] [.int xt0] := by
  obtain ⟨k3, hf⟩ := ck_of hf
  obtain rfl := Option.some.inj hf
  exact i_zret hC dX6_takeSecond_20 (isb_z k3).1
set_option maxHeartbeats 4000000 in
set_option maxRecDepth 100000 in
theorem b_X6_takeSecond_0 {v : EV} {p : Program} {l : Launch} {e : Env} {s : State} {m : MethodId} {args : Array Value} {below : List Frame} {meth : Method} {c : Code} (hC : Cx v p l e s m args meth c RX6 cX6_takeSecond 2 (some .boolean)) {S : Mem} {d1_0 : Nat} (h1 : d1_0 < 12) {r : Int32 × Mem} (hf : f_X6_takeSecond_0 S d1_0 = some r) : Mj v p l e (rmF 7 144) s m args below meth c 2 (MQ below (Qc v (some (.int r.1)) r.2) args s 0 0 (eG v)) 0 S 0 [(0, .ref (eA v (202))), (1, .ref (eA v (pC d1_0)))] [] := by
  refine i_aload_n hC dX6_takeSecond_0 rfl ?_
  refine i_aload_n hC dX6_takeSecond_1 rfl ?_
  obtain ⟨r1, S1, hc1, hf⟩ := bd2_of hf
  refine i_callVi hC mv_X6_119 (c_X6_takeDigit hC.2.2.2.2.2.2.2.1 hc1) (pln rfl) (lay_p202) rfl rfl rfl rfl ⟨Nat.le_of_ble_eq_true rfl, Nat.le_of_ble_eq_true rfl⟩ (Nat.le_of_ble_eq_true rfl) dX6_takeSecond_2 ?_
  refine i_putI hC fl_X6_60 (pl_C h1) (lay_C h1) rfl (bk_l ⟨rfl, rfl, rfl, rfl⟩) (nf_int _) dX6_takeSecond_5 ?_
  refine i_aload_n hC dX6_takeSecond_8 rfl ?_
  refine i_getI hC fl_X6_60 (pl_C h1) (lay_C h1) rfl dX6_takeSecond_9 ?_
  refine i_if_lt hC (tgt := 19) dX6_takeSecond_12 (by decide) (fun c2 => ?_) (fun c2 => ?_)
  · replace hf := (if_pos c2).symm.trans hf
    refine i_iconst hC dX6_takeSecond_19 li_0 ?_
    exact Mj.to (b_X6_takeSecond_20 hC  hf) trivial
  · replace hf := (if_neg c2).symm.trans hf
    refine i_iconst hC dX6_takeSecond_15 li_1 ?_
    refine i_goto hC (tgt := 20) dX6_takeSecond_16 (by decide) ?_
    exact Mj.to (b_X6_takeSecond_20 hC  hf) trivial
theorem c_X6_takeSecond {v : EV} {l : Launch} (hst : Stb v) {S : Mem} {d1_0 : Nat} (h1 : d1_0 < 12) {r : Int32 × Mem} (hf : g_X6_takeSecond S d1_0 = some r) : Con v l yX6_takeSecond cX6_takeSecond 2 (some .boolean) 7 144 [.ref (eA v (202)), .ref (eA v (pC d1_0))] S (some (.int r.1)) r.2 := con_of (by decide) hst (Nat.le_of_ble_eq_true rfl) (fun p e s m args below meth c hC => b_X6_takeSecond_0 hC h1 hf)
def f_X6_takeWord_57 (ih6 : (Int32 × Int32 × Int32) → Option (Int32 × Mem)) (S : Mem) (x1 : Int32) (x2 : Int32) (x3 : Int32) : Option (Int32 × Mem) := ih6 (x1, x2, (x3 + (1 : Int32)))
def f_X6_takeWord_6_b (ih6 : (Int32 × Int32 × Int32) → Option (Int32 × Mem)) (S : Mem) (x1 : Int32) (x2 : Int32) (x3 : Int32) : Option (Int32 × Mem) := (if (9 : Int32) ≤ x3 then some (x1, (up S 11 9 ((S 11 9) + x2))) else ck (inb x3 9) (ck (isw (x3 + (1 : Int32))) (bd1 (g_X6_countFitting S (((x3 + (1 : Int32)) - 1).toNatClampNeg)) (fun r4 => ck (inb x3 9) (ck (isw (x3 + (1 : Int32))) (bd1 (g_J0_length_8abf5 S (((x3 + (1 : Int32)) - 1).toNatClampNeg)) (fun r7 => (if r4 = r7 then ck (inb x3 9) (f_X6_takeWord_57 ih6 S (x3 + (1 : Int32)) (mx x2 r4) x3) else f_X6_takeWord_57 ih6 S x1 (mx x2 r4) x3))))))))
def f_X6_takeWord_6 (S : Mem) (x1 : Int32) (x2 : Int32) (x3 : Int32) : Option (Int32 × Mem) := lp (fun ih6 s9 => f_X6_takeWord_6_b ih6 S s9.1 s9.2.1 s9.2.2) 2000 (x1, x2, x3)
def f_X6_takeWord_0 (S : Mem)  : Option (Int32 × Mem) := f_X6_takeWord_6 S (0 : Int32) (0 : Int32) (0 : Int32)
def g_X6_takeWord (S : Mem)  : Option (Int32 × Mem) := f_X6_takeWord_0 S
set_option maxHeartbeats 4000000 in
set_option maxRecDepth 100000 in
theorem b_X6_takeWord_57 {v : EV} {p : Program} {l : Launch} {e : Env} {s : State} {m : MethodId} {args : Array Value} {below : List Frame} {meth : Method} {c : Code} (hC : Cx v p l e s m args meth c RX6 cX6_takeWord 5 (some (.object "LogRaft$Word"))) {S : Mem} {x1 : Int32} {x2 : Int32} {x3 : Int32}  {r : Int32 × Mem} {ih6 : (Int32 × Int32 × Int32) → Option (Int32 × Mem)} (hih6 : ∀ s9 : (Int32 × Int32 × Int32), ih6 s9 = some r → Mj v p l e (rmF 7 145) s m args below meth c 5 (MQ below (Qc v (some (wv v r.1)) r.2) args s 0 0 (eG v)) 0 S 6 [(0, .ref (eA v (202))), (1, wv v (s9.1)), (2, .int (s9.2.1)), (3, .int (s9.2.2))] []) (hf : f_X6_takeWord_57 ih6 S x1 x2 x3 = some r) : Mj v p l e (rmF 7 145) s m args below meth c 5 (MQ below (Qc v (some (wv v r.1)) r.2) args s 0 0 (eG v)) 0 S 57 [(0, .ref (eA v (202))), (1, wv v x1), (2, .int x2), (3, .int x3)] [] := by
  refine i_iinc hC (x := x3) dX6_takeWord_57 (by repeat (first | rfl | refine lk_w (by first | rfl | exact isR_cat (wv_R v _) | exact isR_cat (by assumption)) (by first | decide | (dsimp only; decide)) ?_)) li_1 (by decide) ?_
  refine i_goto hC (tgt := 6) dX6_takeWord_60 (by decide) ?_
  exact Mj.to (hih6 _ hf) ⟨(by repeat (first | rfl | refine lk_w (by first | rfl | exact isR_cat (wv_R v _) | exact isR_cat (by assumption)) (by first | decide | (dsimp only; decide)) ?_)), (by repeat (first | rfl | refine lk_w (by first | rfl | exact isR_cat (wv_R v _) | exact isR_cat (by assumption)) (by first | decide | (dsimp only; decide)) ?_)), (by repeat (first | rfl | refine lk_w (by first | rfl | exact isR_cat (wv_R v _) | exact isR_cat (by assumption)) (by first | decide | (dsimp only; decide)) ?_)), (by repeat (first | rfl | refine lk_w (by first | rfl | exact isR_cat (wv_R v _) | exact isR_cat (by assumption)) (by first | decide | (dsimp only; decide)) ?_)), trivial⟩
set_option maxHeartbeats 4000000 in
set_option maxRecDepth 100000 in
theorem b_X6_takeWord_6_b {v : EV} {p : Program} {l : Launch} {e : Env} {s : State} {m : MethodId} {args : Array Value} {below : List Frame} {meth : Method} {c : Code} (hC : Cx v p l e s m args meth c RX6 cX6_takeWord 5 (some (.object "LogRaft$Word"))) {S : Mem} {x1 : Int32} {x2 : Int32} {x3 : Int32}  {r : Int32 × Mem} {ih6 : (Int32 × Int32 × Int32) → Option (Int32 × Mem)} (hih6 : ∀ s9 : (Int32 × Int32 × Int32), ih6 s9 = some r → Mj v p l e (rmF 7 145) s m args below meth c 5 (MQ below (Qc v (some (wv v r.1)) r.2) args s 0 0 (eG v)) 0 S 6 [(0, .ref (eA v (202))), (1, wv v (s9.1)), (2, .int (s9.2.1)), (3, .int (s9.2.2))] []) (hf : f_X6_takeWord_6_b ih6 S x1 x2 x3 = some r) : Mj v p l e (rmF 7 145) s m args below meth c 5 (MQ below (Qc v (some (wv v r.1)) r.2) args s 0 0 (eG v)) 0 S 6 [(0, .ref (eA v (202))), (1, wv v x1), (2, .int x2), (3, .int x3)] [] := by
  refine i_iload_n hC (x := x3) dX6_takeWord_6 (by repeat (first | rfl | refine lk_w (by first | rfl | exact isR_cat (wv_R v _) | exact isR_cat (by assumption)) (by first | decide | (dsimp only; decide)) ?_)) ?_
  refine i_wordsN hC dX6_takeWord_7 ?_
  refine i_wordsLen hC dX6_takeWord_10 ?_
  refine i_icmp_ge hC (tgt := 63) dX6_takeWord_11 (by decide) (fun c1 => ?_) (fun c1 => ?_)
  · replace hf := (if_pos c1).symm.trans hf
    refine i_aload_n hC (x := (eA v (202))) dX6_takeWord_63 (by repeat (first | rfl | refine lk_w (by first | rfl | exact isR_cat (wv_R v _) | exact isR_cat (by assumption)) (by first | decide | (dsimp only; decide)) ?_)) ?_
    refine i_dup hC dX6_takeWord_64 rfl ?_
    refine i_getI hC fl_X6_41 (pln rfl) (lay_p202) rfl dX6_takeWord_65 ?_
    refine i_iload_n hC (x := x2) dX6_takeWord_68 (by repeat (first | rfl | refine lk_w (by first | rfl | exact isR_cat (wv_R v _) | exact isR_cat (by assumption)) (by first | decide | (dsimp only; decide)) ?_)) ?_
    refine i_iadd hC dX6_takeWord_69 ?_
    refine i_putI hC fl_X6_41 (pln rfl) (lay_p202) rfl (bk_l ⟨rfl, rfl, rfl, rfl⟩) (nf_int _) dX6_takeWord_70 ?_
    refine i_aloadG_n hC (u := wv v x1) (wv_R v _) dX6_takeWord_73 (by repeat (first | rfl | refine lk_w (by first | rfl | exact isR_cat (wv_R v _) | exact isR_cat (by assumption)) (by first | decide | (dsimp only; decide)) ?_)) ?_
    obtain rfl := Option.some.inj hf
    exact i_aretG hC (wv_R v _) dX6_takeWord_74
  · replace hf := (if_neg c1).symm.trans hf
    refine i_aload_n hC (x := (eA v (202))) dX6_takeWord_14 (by repeat (first | rfl | refine lk_w (by first | rfl | exact isR_cat (wv_R v _) | exact isR_cat (by assumption)) (by first | decide | (dsimp only; decide)) ?_)) ?_
    refine i_wordsN hC dX6_takeWord_15 ?_
    refine i_iload_n hC (x := x3) dX6_takeWord_18 (by repeat (first | rfl | refine lk_w (by first | rfl | exact isR_cat (wv_R v _) | exact isR_cat (by assumption)) (by first | decide | (dsimp only; decide)) ?_)) ?_
    obtain ⟨k2, hf⟩ := ck_of hf
    refine i_wordsLd hC k2 dX6_takeWord_19 ?_
    obtain ⟨k3, hf⟩ := ck_of hf
    refine i_signs hC k3 mw_1049 dX6_takeWord_20 ?_
    obtain ⟨r4, hc4, hf⟩ := bd1_of hf
    refine i_callVi hC mv_X6_76 (c_X6_countFitting hC.2.2.2.2.2.2.2.1 (isw_t k3) hc4) (pln rfl) (lay_p202) rfl rfl rfl rfl ⟨Nat.le_of_ble_eq_true rfl, Nat.le_of_ble_eq_true rfl⟩ (Nat.le_of_ble_eq_true rfl) dX6_takeWord_23 ?_
    refine i_istore hC dX6_takeWord_26 (by decide) ?_
    refine i_iload_n hC (x := x2) dX6_takeWord_28 (by repeat (first | rfl | refine lk_w (by first | rfl | exact isR_cat (wv_R v _) | exact isR_cat (by assumption)) (by first | decide | (dsimp only; decide)) ?_)) ?_
    refine i_iload hC (x := r4) dX6_takeWord_29 (by repeat (first | rfl | refine lk_w (by first | rfl | exact isR_cat (wv_R v _) | exact isR_cat (by assumption)) (by first | decide | (dsimp only; decide)) ?_)) ?_
    refine i_mmax hC mw_925 mw_164 mw_40 mw_165 ⟨Nat.le_of_ble_eq_true rfl, Nat.le_of_ble_eq_true rfl⟩ dX6_takeWord_31 ?_
    refine i_istore_n hC dX6_takeWord_34 (by decide) ?_
    refine i_iload hC (x := r4) dX6_takeWord_35 (by repeat (first | rfl | refine lk_w (by first | rfl | exact isR_cat (wv_R v _) | exact isR_cat (by assumption)) (by first | decide | (dsimp only; decide)) ?_)) ?_
    refine i_wordsN hC dX6_takeWord_37 ?_
    refine i_iload_n hC (x := x3) dX6_takeWord_40 (by repeat (first | rfl | refine lk_w (by first | rfl | exact isR_cat (wv_R v _) | exact isR_cat (by assumption)) (by first | decide | (dsimp only; decide)) ?_)) ?_
    obtain ⟨k5, hf⟩ := ck_of hf
    refine i_wordsLd hC k5 dX6_takeWord_41 ?_
    obtain ⟨k6, hf⟩ := ck_of hf
    refine i_signs hC k6 mw_1049 dX6_takeWord_42 ?_
    obtain ⟨r7, hc7, hf⟩ := bd1_of hf
    refine i_callT hC (isw_t k6) mv_X6_86 (c_J0_length_8abf5 hC.2.2.2.2.2.2.2.1 (isw_t k6) hc7) rfl rfl rfl ⟨Nat.le_of_ble_eq_true rfl, Nat.le_of_ble_eq_true rfl⟩ (Nat.le_of_ble_eq_true rfl) dX6_takeWord_45 ?_
    refine i_icmp_ne hC (tgt := 57) dX6_takeWord_48 (by decide) (fun c8 => ?_) (fun c8 => ?_)
    · replace hf := (if_neg c8).symm.trans hf
      exact Mj.to (b_X6_takeWord_57 hC hih6 hf) ⟨(by repeat (first | rfl | refine lk_w (by first | rfl | exact isR_cat (wv_R v _) | exact isR_cat (by assumption)) (by first | decide | (dsimp only; decide)) ?_)), (by repeat (first | rfl | refine lk_w (by first | rfl | exact isR_cat (wv_R v _) | exact isR_cat (by assumption)) (by first | decide | (dsimp only; decide)) ?_)), (by repeat (first | rfl | refine lk_w (by first | rfl | exact isR_cat (wv_R v _) | exact isR_cat (by assumption)) (by first | decide | (dsimp only; decide)) ?_)), (by repeat (first | rfl | refine lk_w (by first | rfl | exact isR_cat (wv_R v _) | exact isR_cat (by assumption)) (by first | decide | (dsimp only; decide)) ?_)), trivial⟩
    · replace hf := (if_pos c8).symm.trans hf
      refine i_wordsN hC dX6_takeWord_51 ?_
      refine i_iload_n hC (x := x3) dX6_takeWord_54 (by repeat (first | rfl | refine lk_w (by first | rfl | exact isR_cat (wv_R v _) | exact isR_cat (by assumption)) (by first | decide | (dsimp only; decide)) ?_)) ?_
      obtain ⟨k9, hf⟩ := ck_of hf
      refine i_wordsLd hC k9 dX6_takeWord_55 ?_
      refine i_astoreG_n hC (wv_R v _) dX6_takeWord_56 (by decide) ?_
      exact Mj.to (b_X6_takeWord_57 hC hih6 hf) ⟨(by repeat (first | rfl | refine lk_w (by first | rfl | exact isR_cat (wv_R v _) | exact isR_cat (by assumption)) (by first | decide | (dsimp only; decide)) ?_)), (by repeat (first | rfl | refine lk_w (by first | rfl | exact isR_cat (wv_R v _) | exact isR_cat (by assumption)) (by first | decide | (dsimp only; decide)) ?_)), (by repeat (first | rfl | refine lk_w (by first | rfl | exact isR_cat (wv_R v _) | exact isR_cat (by assumption)) (by first | decide | (dsimp only; decide)) ?_)), (by repeat (first | rfl | refine lk_w (by first | rfl | exact isR_cat (wv_R v _) | exact isR_cat (by assumption)) (by first | decide | (dsimp only; decide)) ?_)), trivial⟩
theorem b_X6_takeWord_6 {v : EV} {p : Program} {l : Launch} {e : Env} {s : State} {m : MethodId} {args : Array Value} {below : List Frame} {meth : Method} {c : Code} (hC : Cx v p l e s m args meth c RX6 cX6_takeWord 5 (some (.object "LogRaft$Word"))) {S : Mem} {x1 : Int32} {x2 : Int32} {x3 : Int32}  {r : Int32 × Mem} (hf : f_X6_takeWord_6 S x1 x2 x3 = some r) : Mj v p l e (rmF 7 145) s m args below meth c 5 (MQ below (Qc v (some (wv v r.1)) r.2) args s 0 0 (eG v)) 0 S 6 [(0, .ref (eA v (202))), (1, wv v x1), (2, .int x2), (3, .int x3)] [] :=
  lp_ind (P := fun s9 : (Int32 × Int32 × Int32) => Mj v p l e (rmF 7 145) s m args below meth c 5 (MQ below (Qc v (some (wv v r.1)) r.2) args s 0 0 (eG v)) 0 S 6 [(0, .ref (eA v (202))), (1, wv v (s9.1)), (2, .int (s9.2.1)), (3, .int (s9.2.2))] []) (fun ih s9 hih hf => b_X6_takeWord_6_b hC   hih hf) _ _ hf
set_option maxHeartbeats 4000000 in
set_option maxRecDepth 100000 in
theorem b_X6_takeWord_0 {v : EV} {p : Program} {l : Launch} {e : Env} {s : State} {m : MethodId} {args : Array Value} {below : List Frame} {meth : Method} {c : Code} (hC : Cx v p l e s m args meth c RX6 cX6_takeWord 5 (some (.object "LogRaft$Word"))) {S : Mem}  {r : Int32 × Mem} (hf : f_X6_takeWord_0 S = some r) : Mj v p l e (rmF 7 145) s m args below meth c 5 (MQ below (Qc v (some (wv v r.1)) r.2) args s 0 0 (eG v)) 0 S 0 [(0, .ref (eA v (202)))] [] := by
  refine i_acnullW hC dX6_takeWord_0 ?_
  refine i_astoreG_n hC (wv_R v _) dX6_takeWord_1 (by decide) ?_
  refine i_iconst hC dX6_takeWord_2 li_0 ?_
  refine i_istore_n hC dX6_takeWord_3 (by decide) ?_
  refine i_iconst hC dX6_takeWord_4 li_0 ?_
  refine i_istore_n hC dX6_takeWord_5 (by decide) ?_
  exact Mj.to (b_X6_takeWord_6 hC  hf) ⟨(by repeat (first | rfl | refine lk_w (by first | rfl | exact isR_cat (wv_R v _) | exact isR_cat (by assumption)) (by first | decide | (dsimp only; decide)) ?_)), (by repeat (first | rfl | refine lk_w (by first | rfl | exact isR_cat (wv_R v _) | exact isR_cat (by assumption)) (by first | decide | (dsimp only; decide)) ?_)), (by repeat (first | rfl | refine lk_w (by first | rfl | exact isR_cat (wv_R v _) | exact isR_cat (by assumption)) (by first | decide | (dsimp only; decide)) ?_)), (by repeat (first | rfl | refine lk_w (by first | rfl | exact isR_cat (wv_R v _) | exact isR_cat (by assumption)) (by first | decide | (dsimp only; decide)) ?_)), trivial⟩
theorem c_X6_takeWord {v : EV} {l : Launch} (hst : Stb v) {S : Mem}  {r : Int32 × Mem} (hf : g_X6_takeWord S = some r) : Con v l yX6_takeWord cX6_takeWord 5 (some (.object "LogRaft$Word")) 7 145 [.ref (eA v (202))] S (some (wv v r.1)) r.2 := con_of (by decide) hst (Nat.le_of_ble_eq_true rfl) (fun p e s m args below meth c hC => b_X6_takeWord_0 hC  hf)
