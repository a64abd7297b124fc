def f_X9_undo_0 (S : Mem)  : Option (Int32 × Mem) := (if (S 28 5) = 0 then some ((-4 : Int32), S) else bd1 (g_X9_copies (up S 28 5 ((S 28 5) - (1 : Int32))) 24 ((203 : Int32) * ((up S 28 5 ((S 28 5) - (1 : Int32))) 28 5)) 20 (0 : Int32)) (fun S2 => some ((S2 28 5), S2)))
def g_X9_undo (S : Mem)  : Option (Int32 × Mem) := f_X9_undo_0 S
set_option maxHeartbeats 4000000 in
set_option maxRecDepth 100000 in
theorem b_X9_undo_0 {v : EV} {p : Program} {l : Launch} {e : Env} {s : State} {m : MethodId} {args : Array Value} {below : List Frame} {meth : Method} {c : Code} (hC : Cx v p l e s m args meth c RX9 cX9_undo 1 (some .int)) {S : Mem}  {r : Int32 × Mem} (hf : f_X9_undo_0 S = some r) : Mj v p l e (rmF 2 36) s m args below meth c 1 (MQ below (Qc v (some (.int r.1)) r.2) args s 0 0 (eG v)) 0 S 0 [(0, .ref (eA v (218)))] [] := by
  refine i_aload_n hC dX9_undo_0 rfl ?_
  refine i_getI hC fl_X9_42 (pln rfl) (lay_p218) rfl dX9_undo_1 ?_
  refine i_if_ne hC (tgt := 10) dX9_undo_4 (by decide) (fun c1 => ?_) (fun c1 => ?_)
  · replace hf := (if_neg c1).symm.trans hf
    refine i_aload_n hC dX9_undo_10 rfl ?_
    refine i_dup hC dX9_undo_11 rfl ?_
    refine i_getI hC fl_X9_42 (pln rfl) (lay_p218) rfl dX9_undo_12 ?_
    refine i_iconst hC dX9_undo_15 li_1 ?_
    refine i_isub hC dX9_undo_16 ?_
    refine i_putI hC fl_X9_42 (pln rfl) (lay_p218) rfl (bk_l ⟨rfl, rfl, rfl, rfl⟩) (nf_int _) dX9_undo_17 ?_
    refine i_aload_n hC dX9_undo_20 rfl ?_
    refine i_getR hC fl_X9_22 (pln rfl) (lay_p218) rfl dX9_undo_21 ?_
    refine i_sipush hC dX9_undo_24 lh_203 ?_
    refine i_aload_n hC dX9_undo_27 rfl ?_
    refine i_getI hC fl_X9_42 (pln rfl) (lay_p218) rfl dX9_undo_28 ?_
    refine i_imul hC dX9_undo_31 ?_
    refine i_aload_n hC dX9_undo_32 rfl ?_
    refine i_getR hC fl_X9_9 (pln rfl) (lay_p218) rfl dX9_undo_33 ?_
    refine i_iconst hC dX9_undo_36 li_0 ?_
    obtain ⟨S2, hc2, hf⟩ := bd1_of hf
    refine i_callSv hC mv_X9_38 (c_X9_copies hC.2.2.2.2.2.2.2.1 (by decide) (by decide) hc2) rfl rfl rfl ⟨Nat.le_of_ble_eq_true rfl, Nat.le_of_ble_eq_true rfl⟩ (Nat.le_of_ble_eq_true rfl) dX9_undo_37 ?_
    refine i_aload_n hC dX9_undo_40 rfl ?_
    refine i_getI hC fl_X9_42 (pln rfl) (lay_p218) rfl dX9_undo_41 ?_
    obtain rfl := Option.some.inj hf
    exact i_iret hC dX9_undo_44
  · replace hf := (if_pos c1).symm.trans hf
    refine i_bipush hC dX9_undo_7 lb_m4 ?_
    obtain rfl := Option.some.inj hf
    exact i_iret hC dX9_undo_9
theorem c_X9_undo {v : EV} {l : Launch} (hst : Stb v) {S : Mem}  {r : Int32 × Mem} (hf : g_X9_undo S = some r) : Con v l yX9_undo cX9_undo 1 (some .int) 2 36 [.ref (eA v (218))] S (some (.int r.1)) r.2 := con_of (by decide) hst (Nat.le_of_ble_eq_true rfl) (fun p e s m args below meth c hC => b_X9_undo_0 hC  hf)
def f_X9_save_0 (S : Mem)  : Option (Int32 × Mem) := bd1 (g_X9_copies S 20 (0 : Int32) 23 (0 : Int32)) (fun S1 => some (((up S1 28 11 (1 : Int32)) 20 0), (up S1 28 11 (1 : Int32))))
def g_X9_save (S : Mem)  : Option (Int32 × Mem) := f_X9_save_0 S
set_option maxHeartbeats 4000000 in
set_option maxRecDepth 100000 in
theorem b_X9_save_0 {v : EV} {p : Program} {l : Launch} {e : Env} {s : State} {m : MethodId} {args : Array Value} {below : List Frame} {meth : Method} {c : Code} (hC : Cx v p l e s m args meth c RX9 cX9_save 1 (some .int)) {S : Mem}  {r : Int32 × Mem} (hf : f_X9_save_0 S = some r) : Mj v p l e (rmF 2 36) s m args below meth c 1 (MQ below (Qc v (some (.int r.1)) r.2) args s 0 0 (eG v)) 0 S 0 [(0, .ref (eA v (218)))] [] := by
  refine i_aload_n hC dX9_save_0 rfl ?_
  refine i_getR hC fl_X9_9 (pln rfl) (lay_p218) rfl dX9_save_1 ?_
  refine i_iconst hC dX9_save_4 li_0 ?_
  refine i_aload_n hC dX9_save_5 rfl ?_
  refine i_getR hC fl_X9_19 (pln rfl) (lay_p218) rfl dX9_save_6 ?_
  refine i_iconst hC dX9_save_9 li_0 ?_
  obtain ⟨S1, hc1, hf⟩ := bd1_of hf
  refine i_callSv hC mv_X9_38 (c_X9_copies hC.2.2.2.2.2.2.2.1 (by decide) (by decide) hc1) rfl rfl rfl ⟨Nat.le_of_ble_eq_true rfl, Nat.le_of_ble_eq_true rfl⟩ (Nat.le_of_ble_eq_true rfl) dX9_save_10 ?_
  refine i_aload_n hC dX9_save_13 rfl ?_
  refine i_iconst hC dX9_save_14 li_1 ?_
  refine i_putI hC fl_X9_297 (pln rfl) (lay_p218) rfl (bk_l ⟨rfl, rfl, rfl, rfl⟩) (isb_z (by decide)) dX9_save_15 ?_
  refine i_aload_n hC dX9_save_18 rfl ?_
  refine i_getR hC fl_X9_9 (pln rfl) (lay_p218) rfl dX9_save_19 ?_
  refine i_iconst hC dX9_save_22 li_0 ?_
  refine i_iald hC (j0 := 0) (pln rfl) (lay_p219) (inb_in (by decide)) (by decide) dX9_save_23 ?_
  obtain rfl := Option.some.inj hf
  exact i_iret hC dX9_save_24
theorem c_X9_save {v : EV} {l : Launch} (hst : Stb v) {S : Mem}  {r : Int32 × Mem} (hf : g_X9_save S = some r) : Con v l yX9_save cX9_save 1 (some .int) 2 36 [.ref (eA v (218))] S (some (.int r.1)) r.2 := con_of (by decide) hst (Nat.le_of_ble_eq_true rfl) (fun p e s m args below meth c hC => b_X9_save_0 hC  hf)
def f_X9_restore_0 (S : Mem)  : Option (Int32 × Mem) := (if (S 28 11) = 0 then some ((-4 : Int32), S) else bd1 (g_X9_copies S 23 (0 : Int32) 20 (0 : Int32)) (fun S2 => some (((up S2 28 5 (0 : Int32)) 20 0), (up S2 28 5 (0 : Int32)))))
def g_X9_restore (S : Mem)  : Option (Int32 × Mem) := f_X9_restore_0 S
set_option maxHeartbeats 4000000 in
set_option maxRecDepth 100000 in
theorem b_X9_restore_0 {v : EV} {p : Program} {l : Launch} {e : Env} {s : State} {m : MethodId} {args : Array Value} {below : List Frame} {meth : Method} {c : Code} (hC : Cx v p l e s m args meth c RX9 cX9_restore 1 (some .int)) {S : Mem}  {r : Int32 × Mem} (hf : f_X9_restore_0 S = some r) : Mj v p l e (rmF 2 36) s m args below meth c 1 (MQ below (Qc v (some (.int r.1)) r.2) args s 0 0 (eG v)) 0 S 0 [(0, .ref (eA v (218)))] [] := by
  refine i_aload_n hC dX9_restore_0 rfl ?_
  refine i_getI hC fl_X9_297 (pln rfl) (lay_p218) rfl dX9_restore_1 ?_
  refine i_if_ne hC (tgt := 10) dX9_restore_4 (by decide) (fun c1 => ?_) (fun c1 => ?_)
  · replace hf := (if_neg c1).symm.trans hf
    refine i_aload_n hC dX9_restore_10 rfl ?_
    refine i_getR hC fl_X9_19 (pln rfl) (lay_p218) rfl dX9_restore_11 ?_
    refine i_iconst hC dX9_restore_14 li_0 ?_
    refine i_aload_n hC dX9_restore_15 rfl ?_
    refine i_getR hC fl_X9_9 (pln rfl) (lay_p218) rfl dX9_restore_16 ?_
    refine i_iconst hC dX9_restore_19 li_0 ?_
    obtain ⟨S2, hc2, hf⟩ := bd1_of hf
    refine i_callSv hC mv_X9_38 (c_X9_copies hC.2.2.2.2.2.2.2.1 (by decide) (by decide) hc2) rfl rfl rfl ⟨Nat.le_of_ble_eq_true rfl, Nat.le_of_ble_eq_true rfl⟩ (Nat.le_of_ble_eq_true rfl) dX9_restore_20 ?_
    refine i_aload_n hC dX9_restore_23 rfl ?_
    refine i_iconst hC dX9_restore_24 li_0 ?_
    refine i_putI hC fl_X9_42 (pln rfl) (lay_p218) rfl (bk_l ⟨rfl, rfl, rfl, rfl⟩) (nf_int _) dX9_restore_25 ?_
    refine i_aload_n hC dX9_restore_28 rfl ?_
    refine i_getR hC fl_X9_9 (pln rfl) (lay_p218) rfl dX9_restore_29 ?_
    refine i_iconst hC dX9_restore_32 li_0 ?_
    refine i_iald hC (j0 := 0) (pln rfl) (lay_p219) (inb_in (by decide)) (by decide) dX9_restore_33 ?_
    obtain rfl := Option.some.inj hf
    exact i_iret hC dX9_restore_34
  · replace hf := (if_pos c1).symm.trans hf
    refine i_bipush hC dX9_restore_7 lb_m4 ?_
    obtain rfl := Option.some.inj hf
    exact i_iret hC dX9_restore_9
theorem c_X9_restore {v : EV} {l : Launch} (hst : Stb v) {S : Mem}  {r : Int32 × Mem} (hf : g_X9_restore S = some r) : Con v l yX9_restore cX9_restore 1 (some .int) 2 36 [.ref (eA v (218))] S (some (.int r.1)) r.2 := con_of (by decide) hst (Nat.le_of_ble_eq_true rfl) (fun p e s m args below meth c hC => b_X9_restore_0 hC  hf)
def f_X9_keeps_0 (S : Mem)  : Option (Mem) := bd1 (g_X9_copies S 20 (0 : Int32) 21 (0 : Int32)) (fun S1 => some S1)
def g_X9_keeps (S : Mem)  : Option (Mem) := f_X9_keeps_0 S
set_option maxHeartbeats 4000000 in
set_option maxRecDepth 100000 in
theorem b_X9_keeps_0 {v : EV} {p : Program} {l : Launch} {e : Env} {s : State} {m : MethodId} {args : Array Value} {below : List Frame} {meth : Method} {c : Code} (hC : Cx v p l e s m args meth c RX9 cX9_keeps 1 none) {S : Mem}  {r : Mem} (hf : f_X9_keeps_0 S = some r) : Mj v p l e (rmF 2 36) s m args below meth c 1 (MQ below (Qc v (none) r) args s 0 0 (eG v)) 0 S 0 [(0, .ref (eA v (218)))] [] := by
  refine i_aload_n hC dX9_keeps_0 rfl ?_
  refine i_getR hC fl_X9_9 (pln rfl) (lay_p218) rfl dX9_keeps_1 ?_
  refine i_iconst hC dX9_keeps_4 li_0 ?_
  refine i_aload_n hC dX9_keeps_5 rfl ?_
  refine i_getR hC fl_X9_13 (pln rfl) (lay_p218) rfl dX9_keeps_6 ?_
  refine i_iconst hC dX9_keeps_9 li_0 ?_
  obtain ⟨S1, hc1, hf⟩ := bd1_of hf
  refine i_callSv hC mv_X9_38 (c_X9_copies hC.2.2.2.2.2.2.2.1 (by decide) (by decide) hc1) rfl rfl rfl ⟨Nat.le_of_ble_eq_true rfl, Nat.le_of_ble_eq_true rfl⟩ (Nat.le_of_ble_eq_true rfl) dX9_keeps_10 ?_
  obtain rfl := Option.some.inj hf
  exact i_vret hC dX9_keeps_13
theorem c_X9_keeps {v : EV} {l : Launch} (hst : Stb v) {S : Mem}  {r : Mem} (hf : g_X9_keeps S = some r) : Con v l yX9_keeps cX9_keeps 1 none 2 36 [.ref (eA v (218))] S (none) r := con_of (by decide) hst (Nat.le_of_ble_eq_true rfl) (fun p e s m args below meth c hC => b_X9_keeps_0 hC  hf)
def f_X9_sets_0 (S : Mem) (x1 : Int32) (x2 : Int32) (x3 : Int32) : Option (Mem) := bd1 (g_X9_at x1 x2) (fun r1 => ck (inb r1 203) (some (up S 20 ((r1).toNatClampNeg) x3)))
def g_X9_sets (S : Mem) (x1 : Int32) (x2 : Int32) (x3 : Int32) : Option (Mem) := f_X9_sets_0 S x1 x2 x3
set_option maxHeartbeats 4000000 in
set_option maxRecDepth 100000 in
theorem b_X9_sets_0 {v : EV} {p : Program} {l : Launch} {e : Env} {s : State} {m : MethodId} {args : Array Value} {below : List Frame} {meth : Method} {c : Code} (hC : Cx v p l e s m args meth c RX9 cX9_sets 4 none) {S : Mem} {x1 : Int32} {x2 : Int32} {x3 : Int32}  {r : Mem} (hf : f_X9_sets_0 S x1 x2 x3 = some r) : Mj v p l e (rmF 2 33) s m args below meth c 4 (MQ below (Qc v (none) r) args s 0 0 (eG v)) 0 S 0 [(0, .ref (eA v (218))), (1, .int x1), (2, .int x2), (3, .int x3)] [] := by
  refine i_aload_n hC dX9_sets_0 rfl ?_
  refine i_getR hC fl_X9_9 (pln rfl) (lay_p218) rfl dX9_sets_1 ?_
  refine i_iload_n hC dX9_sets_4 rfl ?_
  refine i_iload_n hC dX9_sets_5 rfl ?_
  obtain ⟨r1, hc1, hf⟩ := bd1_of hf
  refine i_callSi hC mv_X9_57 (c_X9_at hC.2.2.2.2.2.2.2.1 hc1) rfl rfl rfl ⟨Nat.le_of_ble_eq_true rfl, Nat.le_of_ble_eq_true rfl⟩ (Nat.le_of_ble_eq_true rfl) dX9_sets_6 ?_
  refine i_iload_n hC dX9_sets_9 rfl ?_
  obtain ⟨k2, hf⟩ := ck_of hf
  refine i_iast hC (j0 := ((r1).toNatClampNeg)) (pln rfl) (lay_p219) (bk_l ⟨rfl, rfl, rfl, rfl⟩) (inb_in k2) (Nat.zero_add _) dX9_sets_10 ?_
  obtain rfl := Option.some.inj hf
  exact i_vret hC dX9_sets_11
theorem c_X9_sets {v : EV} {l : Launch} (hst : Stb v) {S : Mem} {x1 x2 x3 : Int32}  {r : Mem} (hf : g_X9_sets S x1 x2 x3 = some r) : Con v l yX9_sets cX9_sets 4 none 2 33 [.ref (eA v (218)), .int x1, .int x2, .int x3] S (none) r := con_of (by decide) hst (Nat.le_of_ble_eq_true rfl) (fun p e s m args below meth c hC => b_X9_sets_0 hC  hf)
def f_X9_ends_8 (S : Mem) (x1 : Int32) : Option (Int32 × Mem) := some (x1, S)
def f_X9_ends_0 (S : Mem) (x1 : Int32) : Option (Int32 × Mem) := (if x1 < 0 then f_X9_ends_8 S x1 else bd1 (g_X9_changed S) (fun S2 => f_X9_ends_8 S2 x1))
def g_X9_ends (S : Mem) (x1 : Int32) : Option (Int32 × Mem) := f_X9_ends_0 S x1
set_option maxHeartbeats 4000000 in
set_option maxRecDepth 100000 in
theorem b_X9_ends_8 {v : EV} {p : Program} {l : Launch} {e : Env} {s : State} {m : MethodId} {args : Array Value} {below : List Frame} {meth : Method} {c : Code} (hC : Cx v p l e s m args meth c RX9 cX9_ends 2 (some .int)) {S : Mem} {x1 : Int32}  {r : Int32 × Mem} (hf : f_X9_ends_8 S x1 = some r) : Mj v p l e (rmF 3 57) s m args below meth c 2 (MQ below (Qc v (some (.int r.1)) r.2) args s 0 0 (eG v)) 0 S 8 [(1, .int x1)] [] := by
  refine i_iload_n hC dX9_ends_8 rfl ?_
  obtain rfl := Option.some.inj hf
  exact i_iret hC dX9_ends_9
set_option maxHeartbeats 4000000 in
set_option maxRecDepth 100000 in
theorem b_X9_ends_0 {v : EV} {p : Program} {l : Launch} {e : Env} {s : State} {m : MethodId} {args : Array Value} {below : List Frame} {meth : Method} {c : Code} (hC : Cx v p l e s m args meth c RX9 cX9_ends 2 (some .int)) {S : Mem} {x1 : Int32}  {r : Int32 × Mem} (hf : f_X9_ends_0 S x1 = some r) : Mj v p l e (rmF 3 57) s m args below meth c 2 (MQ below (Qc v (some (.int r.1)) r.2) args s 0 0 (eG v)) 0 S 0 [(0, .ref (eA v (218))), (1, .int x1)] [] := by
  refine i_iload_n hC dX9_ends_0 rfl ?_
  refine i_if_lt hC (tgt := 8) dX9_ends_1 (by decide) (fun c1 => ?_) (fun c1 => ?_)
  · replace hf := (if_pos c1).symm.trans hf
    exact Mj.to (b_X9_ends_8 hC  hf) ⟨rfl, trivial⟩
  · replace hf := (if_neg c1).symm.trans hf
    refine i_aload_n hC dX9_ends_4 rfl ?_
    obtain ⟨S2, hc2, hf⟩ := bd1_of hf
    refine i_callVv hC mv_X9_45 (c_X9_changed hC.2.2.2.2.2.2.2.1 hc2) (pln rfl) (lay_p218) rfl rfl rfl rfl ⟨Nat.le_of_ble_eq_true rfl, Nat.le_of_ble_eq_true rfl⟩ (Nat.le_of_ble_eq_true rfl) dX9_ends_5 ?_
    exact Mj.to (b_X9_ends_8 hC  hf) ⟨rfl, trivial⟩
theorem c_X9_ends {v : EV} {l : Launch} (hst : Stb v) {S : Mem} {x1 : Int32}  {r : Int32 × Mem} (hf : g_X9_ends S x1 = some r) : Con v l yX9_ends cX9_ends 2 (some .int) 3 57 [.ref (eA v (218)), .int x1] S (some (.int r.1)) r.2 := con_of (by decide) hst (Nat.le_of_ble_eq_true rfl) (fun p e s m args below meth c hC => b_X9_ends_0 hC  hf)
def f_X9_isAboard_16 (S : Mem) (xt0 : Int32) : Option (Int32) := ck (isb xt0) (some xt0)
def f_X9_isAboard_0 (S : Mem) (x1 : Int32) : Option (Int32) := bd1 (g_X9_of S x1 (7 : Int32)) (fun r1 => (if r1 = (1 : Int32) then f_X9_isAboard_16 S (1 : Int32) else f_X9_isAboard_16 S (0 : Int32)))
def g_X9_isAboard (S : Mem) (x1 : Int32) : Option (Int32) := f_X9_isAboard_0 S x1
set_option maxHeartbeats 4000000 in
set_option maxRecDepth 100000 in
theorem b_X9_isAboard_16 {v : EV} {p : Program} {l : Launch} {e : Env} {s : State} {m : MethodId} {args : Array Value} {below : List Frame} {meth : Method} {c : Code} (hC : Cx v p l e s m args meth c RX9 cX9_isAboard 2 (some .boolean)) {S : Mem} {xt0 : Int32}  {r : Int32} (hf : f_X9_isAboard_16 S xt0 = some r) : Mj v p l e (rmF 3 55) s m args below meth c 2 (MQ below (Qc v (some (.int r)) S) args s 0 0 (eG v)) 0 S 16 [] [.int xt0] := by
  obtain ⟨k3, hf⟩ := ck_of hf
  obtain rfl := Option.some.inj hf
  exact i_zret hC dX9_isAboard_16 (isb_z k3).1
set_option maxHeartbeats 4000000 in
set_option maxRecDepth 100000 in
theorem b_X9_isAboard_0 {v : EV} {p : Program} {l : Launch} {e : Env} {s : State} {m : MethodId} {args : Array Value} {below : List Frame} {meth : Method} {c : Code} (hC : Cx v p l e s m args meth c RX9 cX9_isAboard 2 (some .boolean)) {S : Mem} {x1 : Int32}  {r : Int32} (hf : f_X9_isAboard_0 S x1 = some r) : Mj v p l e (rmF 3 55) s m args below meth c 2 (MQ below (Qc v (some (.int r)) S) args s 0 0 (eG v)) 0 S 0 [(0, .ref (eA v (218))), (1, .int x1)] [] := by
  refine i_aload_n hC dX9_isAboard_0 rfl ?_
  refine i_iload_n hC dX9_isAboard_1 rfl ?_
  refine i_bipush hC dX9_isAboard_2 lb_7 ?_
  obtain ⟨r1, hc1, hf⟩ := bd1_of hf
  refine i_callVi hC mv_X9_69 (c_X9_of hC.2.2.2.2.2.2.2.1 hc1) (pln rfl) (lay_p218) rfl rfl rfl rfl ⟨Nat.le_of_ble_eq_true rfl, Nat.le_of_ble_eq_true rfl⟩ (Nat.le_of_ble_eq_true rfl) dX9_isAboard_4 ?_
  refine i_iconst hC dX9_isAboard_7 li_1 ?_
  refine i_icmp_ne hC (tgt := 15) dX9_isAboard_8 (by decide) (fun c2 => ?_) (fun c2 => ?_)
  · replace hf := (if_neg c2).symm.trans hf
    refine i_iconst hC dX9_isAboard_15 li_0 ?_
    exact Mj.to (b_X9_isAboard_16 hC  hf) trivial
  · replace hf := (if_pos c2).symm.trans hf
    refine i_iconst hC dX9_isAboard_11 li_1 ?_
    refine i_goto hC (tgt := 16) dX9_isAboard_12 (by decide) ?_
    exact Mj.to (b_X9_isAboard_16 hC  hf) trivial
theorem c_X9_isAboard {v : EV} {l : Launch} (hst : Stb v) {S : Mem} {x1 : Int32}  {r : Int32} (hf : g_X9_isAboard S x1 = some r) : Con v l yX9_isAboard cX9_isAboard 2 (some .boolean) 3 55 [.ref (eA v (218)), .int x1] S (some (.int r)) S := con_of (by decide) hst (Nat.le_of_ble_eq_true rfl) (fun p e s m args below meth c hC => b_X9_isAboard_0 hC  hf)
def f_X9_ropeAt_0 (x1 : Int32) (x2 : Int32) : Option (Int32) := bd1 (g_X9_lesser x1 x2) (fun r1 => bd1 (g_X9_greater x1 x2) (fun r2 => some (((8 : Int32) + ((5 : Int32) * r1)) + r2)))
def g_X9_ropeAt (x1 : Int32) (x2 : Int32) : Option (Int32) := f_X9_ropeAt_0 x1 x2
set_option maxHeartbeats 4000000 in
set_option maxRecDepth 100000 in
theorem b_X9_ropeAt_0 {v : EV} {p : Program} {l : Launch} {e : Env} {s : State} {m : MethodId} {args : Array Value} {below : List Frame} {meth : Method} {c : Code} (hC : Cx v p l e s m args meth c RX9 cX9_ropeAt 3 (some .int)) {S : Mem} {x1 : Int32} {x2 : Int32}  {r : Int32} (hf : f_X9_ropeAt_0 x1 x2 = some r) : Mj v p l e (rmF 2 33) s m args below meth c 3 (MQ below (Qc v (some (.int r)) S) args s 0 0 (eG v)) 0 S 0 [(0, .ref (eA v (218))), (1, .int x1), (2, .int x2)] [] := by
  refine i_bipush hC dX9_ropeAt_0 lb_8 ?_
  refine i_iconst hC dX9_ropeAt_2 li_5 ?_
  refine i_iload_n hC dX9_ropeAt_3 rfl ?_
  refine i_iload_n hC dX9_ropeAt_4 rfl ?_
  obtain ⟨r1, hc1, hf⟩ := bd1_of hf
  refine i_callSi hC mv_X9_72 (c_X9_lesser hC.2.2.2.2.2.2.2.1 hc1) rfl rfl rfl ⟨Nat.le_of_ble_eq_true rfl, Nat.le_of_ble_eq_true rfl⟩ (Nat.le_of_ble_eq_true rfl) dX9_ropeAt_5 ?_
  refine i_imul hC dX9_ropeAt_8 ?_
  refine i_iadd hC dX9_ropeAt_9 ?_
  refine i_iload_n hC dX9_ropeAt_10 rfl ?_
  refine i_iload_n hC dX9_ropeAt_11 rfl ?_
  obtain ⟨r2, hc2, hf⟩ := bd1_of hf
  refine i_callSi hC mv_X9_75 (c_X9_greater hC.2.2.2.2.2.2.2.1 hc2) rfl rfl rfl ⟨Nat.le_of_ble_eq_true rfl, Nat.le_of_ble_eq_true rfl⟩ (Nat.le_of_ble_eq_true rfl) dX9_ropeAt_12 ?_
  refine i_iadd hC dX9_ropeAt_15 ?_
  obtain rfl := Option.some.inj hf
  exact i_iret hC dX9_ropeAt_16
theorem c_X9_ropeAt {v : EV} {l : Launch} (hst : Stb v) {S : Mem} {x1 x2 : Int32}  {r : Int32} (hf : g_X9_ropeAt x1 x2 = some r) : Con v l yX9_ropeAt cX9_ropeAt 3 (some .int) 2 33 [.ref (eA v (218)), .int x1, .int x2] S (some (.int r)) S := con_of (by decide) hst (Nat.le_of_ble_eq_true rfl) (fun p e s m args below meth c hC => b_X9_ropeAt_0 hC  hf)
def f_X9_takesOver_0 (S : Mem) (x1 : Int32) (x2 : Int32) : Option (Mem) := bd1 (g_X9_sets S x1 (1 : Int32) x2) (fun S1 => bd1 (g_X9_sets S1 x1 (0 : Int32) (0 : Int32)) (fun S2 => bd1 (g_X9_sets S2 x1 (4 : Int32) (-1 : Int32)) (fun S3 => some S3)))
def g_X9_takesOver (S : Mem) (x1 : Int32) (x2 : Int32) : Option (Mem) := f_X9_takesOver_0 S x1 x2
set_option maxHeartbeats 4000000 in
set_option maxRecDepth 100000 in
theorem b_X9_takesOver_0 {v : EV} {p : Program} {l : Launch} {e : Env} {s : State} {m : MethodId} {args : Array Value} {below : List Frame} {meth : Method} {c : Code} (hC : Cx v p l e s m args meth c RX9 cX9_takesOver 3 none) {S : Mem} {x1 : Int32} {x2 : Int32}  {r : Mem} (hf : f_X9_takesOver_0 S x1 x2 = some r) : Mj v p l e (rmF 3 56) s m args below meth c 3 (MQ below (Qc v (none) r) args s 0 0 (eG v)) 0 S 0 [(0, .ref (eA v (218))), (1, .int x1), (2, .int x2)] [] := by
  refine i_aload_n hC dX9_takesOver_0 rfl ?_
  refine i_iload_n hC dX9_takesOver_1 rfl ?_
  refine i_iconst hC dX9_takesOver_2 li_1 ?_
  refine i_iload_n hC dX9_takesOver_3 rfl ?_
  obtain ⟨S1, hc1, hf⟩ := bd1_of hf
  refine i_callVv hC mv_X9_92 (c_X9_sets hC.2.2.2.2.2.2.2.1 hc1) (pln rfl) (lay_p218) rfl rfl rfl rfl ⟨Nat.le_of_ble_eq_true rfl, Nat.le_of_ble_eq_true rfl⟩ (Nat.le_of_ble_eq_true rfl) dX9_takesOver_4 ?_
  refine i_aload_n hC dX9_takesOver_7 rfl ?_
  refine i_iload_n hC dX9_takesOver_8 rfl ?_
  refine i_iconst hC dX9_takesOver_9 li_0 ?_
  refine i_iconst hC dX9_takesOver_10 li_0 ?_
  obtain ⟨S2, hc2, hf⟩ := bd1_of hf
  refine i_callVv hC mv_X9_92 (c_X9_sets hC.2.2.2.2.2.2.2.1 hc2) (pln rfl) (lay_p218) rfl rfl rfl rfl ⟨Nat.le_of_ble_eq_true rfl, Nat.le_of_ble_eq_true rfl⟩ (Nat.le_of_ble_eq_true rfl) dX9_takesOver_11 ?_
  refine i_aload_n hC dX9_takesOver_14 rfl ?_
  refine i_iload_n hC dX9_takesOver_15 rfl ?_
  refine i_iconst hC dX9_takesOver_16 li_4 ?_
  refine i_iconst hC dX9_takesOver_17 li_m1 ?_
  obtain ⟨S3, hc3, hf⟩ := bd1_of hf
  refine i_callVv hC mv_X9_92 (c_X9_sets hC.2.2.2.2.2.2.2.1 hc3) (pln rfl) (lay_p218) rfl rfl rfl rfl ⟨Nat.le_of_ble_eq_true rfl, Nat.le_of_ble_eq_true rfl⟩ (Nat.le_of_ble_eq_true rfl) dX9_takesOver_18 ?_
  obtain rfl := Option.some.inj hf
  exact i_vret hC dX9_takesOver_21
theorem c_X9_takesOver {v : EV} {l : Launch} (hst : Stb v) {S : Mem} {x1 x2 : Int32}  {r : Mem} (hf : g_X9_takesOver S x1 x2 = some r) : Con v l yX9_takesOver cX9_takesOver 3 none 3 56 [.ref (eA v (218)), .int x1, .int x2] S (none) r := con_of (by decide) hst (Nat.le_of_ble_eq_true rfl) (fun p e s m args below meth c hC => b_X9_takesOver_0 hC  hf)
def f_X9_longerOf_51 (S : Mem) (xt0 : Int32) : Option (Int32) := some xt0
def f_X9_longerOf_33 (S : Mem) (xt0 : Int32) : Option (Int32) := (if xt0 ≤ 0 then (if 0 ≤ xt0 then f_X9_longerOf_51 S (0 : Int32) else f_X9_longerOf_51 S (-1 : Int32)) else f_X9_longerOf_51 S (1 : Int32))
def f_X9_longerOf_0 (S : Mem) (x1 : Int32) (x2 : Int32) : Option (Int32) := bd1 (g_X9_lastTerm S x1) (fun r1 => bd1 (g_X9_lastTerm S x2) (fun r2 => (if (r1 - r2) = 0 then bd1 (g_X9_of S x1 (5 : Int32)) (fun r4 => bd1 (g_X9_of S x2 (5 : Int32)) (fun r5 => f_X9_longerOf_33 S (r4 - r5))) else f_X9_longerOf_33 S (r1 - r2))))
def g_X9_longerOf (S : Mem) (x1 : Int32) (x2 : Int32) : Option (Int32) := f_X9_longerOf_0 S x1 x2
set_option maxHeartbeats 4000000 in
set_option maxRecDepth 100000 in
theorem b_X9_longerOf_51 {v : EV} {p : Program} {l : Launch} {e : Env} {s : State} {m : MethodId} {args : Array Value} {below : List Frame} {meth : Method} {c : Code} (hC : Cx v p l e s m args meth c RX9 cX9_longerOf 4 (some .int)) {S : Mem} {xt0 : Int32}  {r : Int32} (hf : f_X9_longerOf_51 S xt0 = some r) : Mj v p l e (rmF 4 77) s m args below meth c 4 (MQ below (Qc v (some (.int r)) S) args s 0 0 (eG v)) 0 S 51 [] [.int xt0] := by
  obtain rfl := Option.some.inj hf
  exact i_iret hC dX9_longerOf_51
set_option maxHeartbeats 4000000 in
set_option maxRecDepth 100000 in
theorem b_X9_longerOf_33 {v : EV} {p : Program} {l : Launch} {e : Env} {s : State} {m : MethodId} {args : Array Value} {below : List Frame} {meth : Method} {c : Code} (hC : Cx v p l e s m args meth c RX9 cX9_longerOf 4 (some .int)) {S : Mem} {xt0 : Int32}  {r : Int32} (hf : f_X9_longerOf_33 S xt0 = some r) : Mj v p l e (rmF 4 77) s m args below meth c 4 (MQ below (Qc v (some (.int r)) S) args s 0 0 (eG v)) 0 S 33 [] [.int xt0] := by
  refine i_istore_n hC dX9_longerOf_33 (by decide) ?_
  refine i_iload_n hC dX9_longerOf_34 rfl ?_
  refine i_if_le hC (tgt := 42) dX9_longerOf_35 (by decide) (fun c6 => ?_) (fun c6 => ?_)
  · replace hf := (if_pos c6).symm.trans hf
    refine i_iload_n hC dX9_longerOf_42 rfl ?_
    refine i_if_ge hC (tgt := 50) dX9_longerOf_43 (by decide) (fun c7 => ?_) (fun c7 => ?_)
    · replace hf := (if_pos c7).symm.trans hf
      refine i_iconst hC dX9_longerOf_50 li_0 ?_
      exact Mj.to (b_X9_longerOf_51 hC  hf) trivial
    · replace hf := (if_neg c7).symm.trans hf
      refine i_iconst hC dX9_longerOf_46 li_m1 ?_
      refine i_goto hC (tgt := 51) dX9_longerOf_47 (by decide) ?_
      exact Mj.to (b_X9_longerOf_51 hC  hf) trivial
  · replace hf := (if_neg c6).symm.trans hf
    refine i_iconst hC dX9_longerOf_38 li_1 ?_
    refine i_goto hC (tgt := 51) dX9_longerOf_39 (by decide) ?_
    exact Mj.to (b_X9_longerOf_51 hC  hf) trivial
set_option maxHeartbeats 4000000 in
set_option maxRecDepth 100000 in
theorem b_X9_longerOf_0 {v : EV} {p : Program} {l : Launch} {e : Env} {s : State} {m : MethodId} {args : Array Value} {below : List Frame} {meth : Method} {c : Code} (hC : Cx v p l e s m args meth c RX9 cX9_longerOf 4 (some .int)) {S : Mem} {x1 : Int32} {x2 : Int32}  {r : Int32} (hf : f_X9_longerOf_0 S x1 x2 = some r) : Mj v p l e (rmF 4 77) s m args below meth c 4 (MQ below (Qc v (some (.int r)) S) args s 0 0 (eG v)) 0 S 0 [(0, .ref (eA v (218))), (1, .int x1), (2, .int x2)] [] := by
  refine i_aload_n hC dX9_longerOf_0 rfl ?_
  refine i_iload_n hC dX9_longerOf_1 rfl ?_
  obtain ⟨r1, hc1, hf⟩ := bd1_of hf
  refine i_callVi hC mv_X9_84 (c_X9_lastTerm hC.2.2.2.2.2.2.2.1 hc1) (pln rfl) (lay_p218) rfl rfl rfl rfl ⟨Nat.le_of_ble_eq_true rfl, Nat.le_of_ble_eq_true rfl⟩ (Nat.le_of_ble_eq_true rfl) dX9_longerOf_2 ?_
  refine i_aload_n hC dX9_longerOf_5 rfl ?_
  refine i_iload_n hC dX9_longerOf_6 rfl ?_
  obtain ⟨r2, hc2, hf⟩ := bd1_of hf
  refine i_callVi hC mv_X9_84 (c_X9_lastTerm hC.2.2.2.2.2.2.2.1 hc2) (pln rfl) (lay_p218) rfl rfl rfl rfl ⟨Nat.le_of_ble_eq_true rfl, Nat.le_of_ble_eq_true rfl⟩ (Nat.le_of_ble_eq_true rfl) dX9_longerOf_7 ?_
  refine i_isub hC dX9_longerOf_10 ?_
  refine i_istore_n hC dX9_longerOf_11 (by decide) ?_
  refine i_iload_n hC dX9_longerOf_12 rfl ?_
  refine i_if_eq hC (tgt := 20) dX9_longerOf_13 (by decide) (fun c3 => ?_) (fun c3 => ?_)
  · replace hf := (if_pos c3).symm.trans hf
    refine i_aload_n hC dX9_longerOf_20 rfl ?_
    refine i_iload_n hC dX9_longerOf_21 rfl ?_
    refine i_iconst hC dX9_longerOf_22 li_5 ?_
    obtain ⟨r4, hc4, hf⟩ := bd1_of hf
    refine i_callVi hC mv_X9_69 (c_X9_of hC.2.2.2.2.2.2.2.1 hc4) (pln rfl) (lay_p218) rfl rfl rfl rfl ⟨Nat.le_of_ble_eq_true rfl, Nat.le_of_ble_eq_true rfl⟩ (Nat.le_of_ble_eq_true rfl) dX9_longerOf_23 ?_
    refine i_aload_n hC dX9_longerOf_26 rfl ?_
    refine i_iload_n hC dX9_longerOf_27 rfl ?_
    refine i_iconst hC dX9_longerOf_28 li_5 ?_
    obtain ⟨r5, hc5, hf⟩ := bd1_of hf
    refine i_callVi hC mv_X9_69 (c_X9_of hC.2.2.2.2.2.2.2.1 hc5) (pln rfl) (lay_p218) rfl rfl rfl rfl ⟨Nat.le_of_ble_eq_true rfl, Nat.le_of_ble_eq_true rfl⟩ (Nat.le_of_ble_eq_true rfl) dX9_longerOf_29 ?_
    refine i_isub hC dX9_longerOf_32 ?_
    exact Mj.to (b_X9_longerOf_33 hC  hf) trivial
  · replace hf := (if_neg c3).symm.trans hf
    refine i_iload_n hC dX9_longerOf_16 rfl ?_
    refine i_goto hC (tgt := 33) dX9_longerOf_17 (by decide) ?_
    exact Mj.to (b_X9_longerOf_33 hC  hf) trivial
theorem c_X9_longerOf {v : EV} {l : Launch} (hst : Stb v) {S : Mem} {x1 x2 : Int32}  {r : Int32} (hf : g_X9_longerOf S x1 x2 = some r) : Con v l yX9_longerOf cX9_longerOf 4 (some .int) 4 77 [.ref (eA v (218)), .int x1, .int x2] S (some (.int r)) S := con_of (by decide) hst (Nat.le_of_ble_eq_true rfl) (fun p e s m args below meth c hC => b_X9_longerOf_0 hC  hf)
def f_X9_gets_178 (S : Mem) (x1 : Int32) (x2 : Int32) : Option (Mem) := bd1 (g_X9_of S x2 (6 : Int32)) (fun r9 => bd1 (g_X9_of S x1 (5 : Int32)) (fun r10 => bd1 (g_X9_lesser r9 r10) (fun r11 => bd1 (g_X9_of S x1 (6 : Int32)) (fun r12 => bd1 (g_X9_greater r12 r11) (fun r13 => bd1 (g_X9_sets S x1 (6 : Int32) r13) (fun S14 => some S14))))))
def f_X9_gets_157 (ih77 : (Mem × Int32) → Option (Mem)) (S : Mem) (x1 : Int32) (x2 : Int32) (x4 : Int32) (xt0 : Int32) (xt1 : Int32) (xt2 : Int32) : Option (Mem) := bd1 (g_X9_sets S xt2 xt1 xt0) (fun S24 => ih77 (S24, (x4 + (1 : Int32))))
def f_X9_gets_128 (ih77 : (Mem × Int32) → Option (Mem)) (S : Mem) (x1 : Int32) (x2 : Int32) (x4 : Int32) (x5 : Int32) (xt0 : Int32) (xt1 : Int32) (xt2 : Int32) : Option (Mem) := bd1 (g_X9_sets S xt2 xt1 xt0) (fun S22 => (if x5 = 0 then f_X9_gets_157 ih77 S22 x1 x2 x4 (0 : Int32) ((22 : Int32) + x4) x1 else bd1 (g_X9_of S22 x2 ((22 : Int32) + x4)) (fun r25 => f_X9_gets_157 ih77 S22 x1 x2 x4 r25 ((22 : Int32) + x4) x1)))
def f_X9_gets_100 (ih77 : (Mem × Int32) → Option (Mem)) (S : Mem) (x1 : Int32) (x2 : Int32) (x4 : Int32) (xt0 : Int32) : Option (Mem) := (if xt0 = 0 then f_X9_gets_128 ih77 S x1 x2 x4 xt0 (0 : Int32) ((10 : Int32) + x4) x1 else bd1 (g_X9_of S x2 ((10 : Int32) + x4)) (fun r26 => f_X9_gets_128 ih77 S x1 x2 x4 xt0 r26 ((10 : Int32) + x4) x1))
def f_X9_gets_77_b (ih77 : (Mem × Int32) → Option (Mem)) (S : Mem) (x1 : Int32) (x2 : Int32) (x4 : Int32) : Option (Mem) := (if (12 : Int32) ≤ x4 then bd1 (g_X9_of S x2 (5 : Int32)) (fun r17 => bd1 (g_X9_sets S x1 (5 : Int32) r17) (fun S18 => f_X9_gets_178 S18 x1 x2)) else bd1 (g_X9_of S x2 (5 : Int32)) (fun r19 => (if r19 ≤ x4 then f_X9_gets_100 ih77 S x1 x2 x4 (0 : Int32) else f_X9_gets_100 ih77 S x1 x2 x4 (1 : Int32))))
def f_X9_gets_77 (S : Mem) (x1 : Int32) (x2 : Int32) (x4 : Int32) : Option (Mem) := lp (fun ih77 s9 => f_X9_gets_77_b ih77 s9.1 x1 x2 s9.2) 2000 (S, x4)
def f_X9_gets_26 (S : Mem) (x1 : Int32) (x2 : Int32) : Option (Mem) := bd1 (g_X9_sets S x1 (0 : Int32) (0 : Int32)) (fun S4 => bd1 (g_X9_sets S4 x1 (3 : Int32) (0 : Int32)) (fun S5 => bd1 (g_X9_alikeTo S5 x1 x2) (fun r6 => bd1 (g_X9_of S5 x2 (5 : Int32)) (fun r7 => (if r7 ≤ r6 then f_X9_gets_178 S5 x1 x2 else bd1 (g_X9_of S5 x1 (5 : Int32)) (fun r15 => f_X9_gets_77 (up S5 20 5 ((S5 20 5) + (r15 - r6))) x1 x2 (0 : Int32)))))))
def f_X9_gets_0 (S : Mem) (x1 : Int32) (x2 : Int32) : Option (Mem) := bd1 (g_X9_of S x1 (1 : Int32)) (fun r1 => bd1 (g_X9_of S x2 (1 : Int32)) (fun r2 => (if r2 ≤ r1 then f_X9_gets_26 S x1 x2 else bd1 (g_X9_of S x2 (1 : Int32)) (fun r27 => bd1 (g_X9_takesOver S x1 r27) (fun S28 => f_X9_gets_26 S28 x1 x2)))))
def g_X9_gets (S : Mem) (x1 : Int32) (x2 : Int32) : Option (Mem) := f_X9_gets_0 S x1 x2
set_option maxHeartbeats 4000000 in
set_option maxRecDepth 100000 in
theorem b_X9_gets_178 {v : EV} {p : Program} {l : Launch} {e : Env} {s : State} {m : MethodId} {args : Array Value} {below : List Frame} {meth : Method} {c : Code} (hC : Cx v p l e s m args meth c RX9 cX9_gets 6 none) {S : Mem} {x1 : Int32} {x2 : Int32}  {r : Mem} (hf : f_X9_gets_178 S x1 x2 = some r) : Mj v p l e (rmF 4 79) s m args below meth c 6 (MQ below (Qc v (none) r) args s 0 0 (eG v)) 0 S 178 [(0, .ref (eA v (218))), (1, .int x1), (2, .int x2)] [] := by
  refine i_aload_n hC dX9_gets_178 rfl ?_
  refine i_iload_n hC dX9_gets_179 rfl ?_
  refine i_bipush hC dX9_gets_180 lb_6 ?_
  obtain ⟨r9, hc9, hf⟩ := bd1_of hf
  refine i_callVi hC mv_X9_69 (c_X9_of hC.2.2.2.2.2.2.2.1 hc9) (pln rfl) (lay_p218) rfl rfl rfl rfl ⟨Nat.le_of_ble_eq_true rfl, Nat.le_of_ble_eq_true rfl⟩ (Nat.le_of_ble_eq_true rfl) dX9_gets_182 ?_
  refine i_aload_n hC dX9_gets_185 rfl ?_
  refine i_iload_n hC dX9_gets_186 rfl ?_
  refine i_iconst hC dX9_gets_187 li_5 ?_
  obtain ⟨r10, hc10, hf⟩ := bd1_of hf
  refine i_callVi hC mv_X9_69 (c_X9_of hC.2.2.2.2.2.2.2.1 hc10) (pln rfl) (lay_p218) rfl rfl rfl rfl ⟨Nat.le_of_ble_eq_true rfl, Nat.le_of_ble_eq_true rfl⟩ (Nat.le_of_ble_eq_true rfl) dX9_gets_188 ?_
  obtain ⟨r11, hc11, hf⟩ := bd1_of hf
  refine i_callSi hC mv_X9_72 (c_X9_lesser hC.2.2.2.2.2.2.2.1 hc11) rfl rfl rfl ⟨Nat.le_of_ble_eq_true rfl, Nat.le_of_ble_eq_true rfl⟩ (Nat.le_of_ble_eq_true rfl) dX9_gets_191 ?_
  refine i_istore hC dX9_gets_194 (by decide) ?_
  refine i_aload_n hC dX9_gets_196 rfl ?_
  refine i_iload_n hC dX9_gets_197 rfl ?_
  refine i_bipush hC dX9_gets_198 lb_6 ?_
  refine i_aload_n hC dX9_gets_200 rfl ?_
  refine i_iload_n hC dX9_gets_201 rfl ?_
  refine i_bipush hC dX9_gets_202 lb_6 ?_
  obtain ⟨r12, hc12, hf⟩ := bd1_of hf
  refine i_callVi hC mv_X9_69 (c_X9_of hC.2.2.2.2.2.2.2.1 hc12) (pln rfl) (lay_p218) rfl rfl rfl rfl ⟨Nat.le_of_ble_eq_true rfl, Nat.le_of_ble_eq_true rfl⟩ (Nat.le_of_ble_eq_true rfl) dX9_gets_204 ?_
  refine i_iload hC dX9_gets_207 rfl ?_
  obtain ⟨r13, hc13, hf⟩ := bd1_of hf
  refine i_callSi hC mv_X9_75 (c_X9_greater hC.2.2.2.2.2.2.2.1 hc13) rfl rfl rfl ⟨Nat.le_of_ble_eq_true rfl, Nat.le_of_ble_eq_true rfl⟩ (Nat.le_of_ble_eq_true rfl) dX9_gets_209 ?_
  obtain ⟨S14, hc14, hf⟩ := bd1_of hf
  refine i_callVv hC mv_X9_92 (c_X9_sets hC.2.2.2.2.2.2.2.1 hc14) (pln rfl) (lay_p218) rfl rfl rfl rfl ⟨Nat.le_of_ble_eq_true rfl, Nat.le_of_ble_eq_true rfl⟩ (Nat.le_of_ble_eq_true rfl) dX9_gets_212 ?_
  obtain rfl := Option.some.inj hf
  exact i_vret hC dX9_gets_215
set_option maxHeartbeats 4000000 in
set_option maxRecDepth 100000 in
theorem b_X9_gets_157 {v : EV} {p : Program} {l : Launch} {e : Env} {s : State} {m : MethodId} {args : Array Value} {below : List Frame} {meth : Method} {c : Code} (hC : Cx v p l e s m args meth c RX9 cX9_gets 6 none) {S : Mem} {x1 : Int32} {x2 : Int32} {x4 : Int32} {xt0 : Int32} {xt1 : Int32} {xt2 : Int32}  {r : Mem} {ih77 : (Mem × Int32) → Option (Mem)} (hih77 : ∀ s9 : (Mem × Int32), ih77 s9 = some r → Mj v p l e (rmF 4 79) s m args below meth c 6 (MQ below (Qc v (none) r) args s 0 0 (eG v)) 0 s9.1 77 [(0, .ref (eA v (218))), (1, .int x1), (2, .int x2), (4, .int (s9.2))] []) (hf : f_X9_gets_157 ih77 S x1 x2 x4 xt0 xt1 xt2 = some r) : Mj v p l e (rmF 4 79) s m args below meth c 6 (MQ below (Qc v (none) r) args s 0 0 (eG v)) 0 S 157 [(0, .ref (eA v (218))), (1, .int x1), (2, .int x2), (4, .int x4)] [.int xt0, .int xt1, .int xt2, .ref (eA v (218))] := by
  obtain ⟨S24, hc24, hf⟩ := bd1_of hf
  refine i_callVv hC mv_X9_92 (c_X9_sets hC.2.2.2.2.2.2.2.1 hc24) (pln rfl) (lay_p218) rfl rfl rfl rfl ⟨Nat.le_of_ble_eq_true rfl, Nat.le_of_ble_eq_true rfl⟩ (Nat.le_of_ble_eq_true rfl) dX9_gets_157 ?_
  refine i_iinc hC dX9_gets_160 rfl li_1 (by decide) ?_
  refine i_goto hC (tgt := 77) dX9_gets_163 (by decide) ?_
  exact Mj.to (hih77 _ hf) ⟨rfl, rfl, rfl, rfl, trivial⟩
set_option maxHeartbeats 4000000 in
set_option maxRecDepth 100000 in
theorem b_X9_gets_128 {v : EV} {p : Program} {l : Launch} {e : Env} {s : State} {m : MethodId} {args : Array Value} {below : List Frame} {meth : Method} {c : Code} (hC : Cx v p l e s m args meth c RX9 cX9_gets 6 none) {S : Mem} {x1 : Int32} {x2 : Int32} {x4 : Int32} {x5 : Int32} {xt0 : Int32} {xt1 : Int32} {xt2 : Int32}  {r : Mem} {ih77 : (Mem × Int32) → Option (Mem)} (hih77 : ∀ s9 : (Mem × Int32), ih77 s9 = some r → Mj v p l e (rmF 4 79) s m args below meth c 6 (MQ below (Qc v (none) r) args s 0 0 (eG v)) 0 s9.1 77 [(0, .ref (eA v (218))), (1, .int x1), (2, .int x2), (4, .int (s9.2))] []) (hf : f_X9_gets_128 ih77 S x1 x2 x4 x5 xt0 xt1 xt2 = some r) : Mj v p l e (rmF 4 79) s m args below meth c 6 (MQ below (Qc v (none) r) args s 0 0 (eG v)) 0 S 128 [(0, .ref (eA v (218))), (1, .int x1), (2, .int x2), (4, .int x4), (5, .int x5)] [.int xt0, .int xt1, .int xt2, .ref (eA v (218))] := by
  obtain ⟨S22, hc22, hf⟩ := bd1_of hf
  refine i_callVv hC mv_X9_92 (c_X9_sets hC.2.2.2.2.2.2.2.1 hc22) (pln rfl) (lay_p218) rfl rfl rfl rfl ⟨Nat.le_of_ble_eq_true rfl, Nat.le_of_ble_eq_true rfl⟩ (Nat.le_of_ble_eq_true rfl) dX9_gets_128 ?_
  refine i_aload_n hC dX9_gets_131 rfl ?_
  refine i_iload_n hC dX9_gets_132 rfl ?_
  refine i_bipush hC dX9_gets_133 lb_22 ?_
  refine i_iload hC dX9_gets_135 rfl ?_
  refine i_iadd hC dX9_gets_137 ?_
  refine i_iload hC dX9_gets_138 rfl ?_
  refine i_if_eq hC (tgt := 156) dX9_gets_140 (by decide) (fun c23 => ?_) (fun c23 => ?_)
  · replace hf := (if_pos c23).symm.trans hf
    refine i_iconst hC dX9_gets_156 li_0 ?_
    exact Mj.to (b_X9_gets_157 hC hih77 hf) ⟨rfl, rfl, rfl, rfl, trivial⟩
  · replace hf := (if_neg c23).symm.trans hf
    refine i_aload_n hC dX9_gets_143 rfl ?_
    refine i_iload_n hC dX9_gets_144 rfl ?_
    refine i_bipush hC dX9_gets_145 lb_22 ?_
    refine i_iload hC dX9_gets_147 rfl ?_
    refine i_iadd hC dX9_gets_149 ?_
    obtain ⟨r25, hc25, hf⟩ := bd1_of hf
    refine i_callVi hC mv_X9_69 (c_X9_of hC.2.2.2.2.2.2.2.1 hc25) (pln rfl) (lay_p218) rfl rfl rfl rfl ⟨Nat.le_of_ble_eq_true rfl, Nat.le_of_ble_eq_true rfl⟩ (Nat.le_of_ble_eq_true rfl) dX9_gets_150 ?_
    refine i_goto hC (tgt := 157) dX9_gets_153 (by decide) ?_
    exact Mj.to (b_X9_gets_157 hC hih77 hf) ⟨rfl, rfl, rfl, rfl, trivial⟩
set_option maxHeartbeats 4000000 in
set_option maxRecDepth 100000 in
theorem b_X9_gets_100 {v : EV} {p : Program} {l : Launch} {e : Env} {s : State} {m : MethodId} {args : Array Value} {below : List Frame} {meth : Method} {c : Code} (hC : Cx v p l e s m args meth c RX9 cX9_gets 6 none) {S : Mem} {x1 : Int32} {x2 : Int32} {x4 : Int32} {xt0 : Int32}  {r : Mem} {ih77 : (Mem × Int32) → Option (Mem)} (hih77 : ∀ s9 : (Mem × Int32), ih77 s9 = some r → Mj v p l e (rmF 4 79) s m args below meth c 6 (MQ below (Qc v (none) r) args s 0 0 (eG v)) 0 s9.1 77 [(0, .ref (eA v (218))), (1, .int x1), (2, .int x2), (4, .int (s9.2))] []) (hf : f_X9_gets_100 ih77 S x1 x2 x4 xt0 = some r) : Mj v p l e (rmF 4 79) s m args below meth c 6 (MQ below (Qc v (none) r) args s 0 0 (eG v)) 0 S 100 [(0, .ref (eA v (218))), (1, .int x1), (2, .int x2), (4, .int x4)] [.int xt0] := by
  refine i_istore hC dX9_gets_100 (by decide) ?_
  refine i_aload_n hC dX9_gets_102 rfl ?_
  refine i_iload_n hC dX9_gets_103 rfl ?_
  refine i_bipush hC dX9_gets_104 lb_10 ?_
  refine i_iload hC dX9_gets_106 rfl ?_
  refine i_iadd hC dX9_gets_108 ?_
  refine i_iload hC dX9_gets_109 rfl ?_
  refine i_if_eq hC (tgt := 127) dX9_gets_111 (by decide) (fun c21 => ?_) (fun c21 => ?_)
  · replace hf := (if_pos c21).symm.trans hf
    refine i_iconst hC dX9_gets_127 li_0 ?_
    exact Mj.to (b_X9_gets_128 hC hih77 hf) ⟨rfl, rfl, rfl, rfl, rfl, trivial⟩
  · replace hf := (if_neg c21).symm.trans hf
    refine i_aload_n hC dX9_gets_114 rfl ?_
    refine i_iload_n hC dX9_gets_115 rfl ?_
    refine i_bipush hC dX9_gets_116 lb_10 ?_
    refine i_iload hC dX9_gets_118 rfl ?_
    refine i_iadd hC dX9_gets_120 ?_
    obtain ⟨r26, hc26, hf⟩ := bd1_of hf
    refine i_callVi hC mv_X9_69 (c_X9_of hC.2.2.2.2.2.2.2.1 hc26) (pln rfl) (lay_p218) rfl rfl rfl rfl ⟨Nat.le_of_ble_eq_true rfl, Nat.le_of_ble_eq_true rfl⟩ (Nat.le_of_ble_eq_true rfl) dX9_gets_121 ?_
    refine i_goto hC (tgt := 128) dX9_gets_124 (by decide) ?_
    exact Mj.to (b_X9_gets_128 hC hih77 hf) ⟨rfl, rfl, rfl, rfl, rfl, trivial⟩
set_option maxHeartbeats 4000000 in
set_option maxRecDepth 100000 in
theorem b_X9_gets_77_b {v : EV} {p : Program} {l : Launch} {e : Env} {s : State} {m : MethodId} {args : Array Value} {below : List Frame} {meth : Method} {c : Code} (hC : Cx v p l e s m args meth c RX9 cX9_gets 6 none) {S : Mem} {x1 : Int32} {x2 : Int32} {x4 : Int32}  {r : Mem} {ih77 : (Mem × Int32) → Option (Mem)} (hih77 : ∀ s9 : (Mem × Int32), ih77 s9 = some r → Mj v p l e (rmF 4 79) s m args below meth c 6 (MQ below (Qc v (none) r) args s 0 0 (eG v)) 0 s9.1 77 [(0, .ref (eA v (218))), (1, .int x1), (2, .int x2), (4, .int (s9.2))] []) (hf : f_X9_gets_77_b ih77 S x1 x2 x4 = some r) : Mj v p l e (rmF 4 79) s m args below meth c 6 (MQ below (Qc v (none) r) args s 0 0 (eG v)) 0 S 77 [(0, .ref (eA v (218))), (1, .int x1), (2, .int x2), (4, .int x4)] [] := by
  refine i_iload hC dX9_gets_77 rfl ?_
  refine i_bipush hC dX9_gets_79 lb_12 ?_
  refine i_icmp_ge hC (tgt := 166) dX9_gets_81 (by decide) (fun c16 => ?_) (fun c16 => ?_)
  · replace hf := (if_pos c16).symm.trans hf
    refine i_aload_n hC dX9_gets_166 rfl ?_
    refine i_iload_n hC dX9_gets_167 rfl ?_
    refine i_iconst hC dX9_gets_168 li_5 ?_
    refine i_aload_n hC dX9_gets_169 rfl ?_
    refine i_iload_n hC dX9_gets_170 rfl ?_
    refine i_iconst hC dX9_gets_171 li_5 ?_
    obtain ⟨r17, hc17, hf⟩ := bd1_of hf
    refine i_callVi hC mv_X9_69 (c_X9_of hC.2.2.2.2.2.2.2.1 hc17) (pln rfl) (lay_p218) rfl rfl rfl rfl ⟨Nat.le_of_ble_eq_true rfl, Nat.le_of_ble_eq_true rfl⟩ (Nat.le_of_ble_eq_true rfl) dX9_gets_172 ?_
    obtain ⟨S18, hc18, hf⟩ := bd1_of hf
    refine i_callVv hC mv_X9_92 (c_X9_sets hC.2.2.2.2.2.2.2.1 hc18) (pln rfl) (lay_p218) rfl rfl rfl rfl ⟨Nat.le_of_ble_eq_true rfl, Nat.le_of_ble_eq_true rfl⟩ (Nat.le_of_ble_eq_true rfl) dX9_gets_175 ?_
    exact Mj.to (b_X9_gets_178 hC  hf) ⟨rfl, rfl, rfl, trivial⟩
  · replace hf := (if_neg c16).symm.trans hf
    refine i_iload hC dX9_gets_84 rfl ?_
    refine i_aload_n hC dX9_gets_86 rfl ?_
    refine i_iload_n hC dX9_gets_87 rfl ?_
    refine i_iconst hC dX9_gets_88 li_5 ?_
    obtain ⟨r19, hc19, hf⟩ := bd1_of hf
    refine i_callVi hC mv_X9_69 (c_X9_of hC.2.2.2.2.2.2.2.1 hc19) (pln rfl) (lay_p218) rfl rfl rfl rfl ⟨Nat.le_of_ble_eq_true rfl, Nat.le_of_ble_eq_true rfl⟩ (Nat.le_of_ble_eq_true rfl) dX9_gets_89 ?_
    refine i_icmp_ge hC (tgt := 99) dX9_gets_92 (by decide) (fun c20 => ?_) (fun c20 => ?_)
    · replace hf := (if_pos c20).symm.trans hf
      refine i_iconst hC dX9_gets_99 li_0 ?_
      exact Mj.to (b_X9_gets_100 hC hih77 hf) ⟨rfl, rfl, rfl, rfl, trivial⟩
    · replace hf := (if_neg c20).symm.trans hf
      refine i_iconst hC dX9_gets_95 li_1 ?_
      refine i_goto hC (tgt := 100) dX9_gets_96 (by decide) ?_
      exact Mj.to (b_X9_gets_100 hC hih77 hf) ⟨rfl, rfl, rfl, rfl, trivial⟩
theorem b_X9_gets_77 {v : EV} {p : Program} {l : Launch} {e : Env} {s : State} {m : MethodId} {args : Array Value} {below : List Frame} {meth : Method} {c : Code} (hC : Cx v p l e s m args meth c RX9 cX9_gets 6 none) {S : Mem} {x1 : Int32} {x2 : Int32} {x4 : Int32}  {r : Mem} (hf : f_X9_gets_77 S x1 x2 x4 = some r) : Mj v p l e (rmF 4 79) s m args below meth c 6 (MQ below (Qc v (none) r) args s 0 0 (eG v)) 0 S 77 [(0, .ref (eA v (218))), (1, .int x1), (2, .int x2), (4, .int x4)] [] :=
  lp_ind (P := fun s9 : (Mem × Int32) => Mj v p l e (rmF 4 79) s m args below meth c 6 (MQ below (Qc v (none) r) args s 0 0 (eG v)) 0 s9.1 77 [(0, .ref (eA v (218))), (1, .int x1), (2, .int x2), (4, .int (s9.2))] []) (fun ih s9 hih hf => b_X9_gets_77_b hC   hih hf) _ _ hf
set_option maxHeartbeats 4000000 in
set_option maxRecDepth 100000 in
theorem b_X9_gets_26 {v : EV} {p : Program} {l : Launch} {e : Env} {s : State} {m : MethodId} {args : Array Value} {below : List Frame} {meth : Method} {c : Code} (hC : Cx v p l e s m args meth c RX9 cX9_gets 6 none) {S : Mem} {x1 : Int32} {x2 : Int32}  {r : Mem} (hf : f_X9_gets_26 S x1 x2 = some r) : Mj v p l e (rmF 4 79) s m args below meth c 6 (MQ below (Qc v (none) r) args s 0 0 (eG v)) 0 S 26 [(0, .ref (eA v (218))), (1, .int x1), (2, .int x2)] [] := by
  refine i_aload_n hC dX9_gets_26 rfl ?_
  refine i_iload_n hC dX9_gets_27 rfl ?_
  refine i_iconst hC dX9_gets_28 li_0 ?_
  refine i_iconst hC dX9_gets_29 li_0 ?_
  obtain ⟨S4, hc4, hf⟩ := bd1_of hf
  refine i_callVv hC mv_X9_92 (c_X9_sets hC.2.2.2.2.2.2.2.1 hc4) (pln rfl) (lay_p218) rfl rfl rfl rfl ⟨Nat.le_of_ble_eq_true rfl, Nat.le_of_ble_eq_true rfl⟩ (Nat.le_of_ble_eq_true rfl) dX9_gets_30 ?_
  refine i_aload_n hC dX9_gets_33 rfl ?_
  refine i_iload_n hC dX9_gets_34 rfl ?_
  refine i_iconst hC dX9_gets_35 li_3 ?_
  refine i_iconst hC dX9_gets_36 li_0 ?_
  obtain ⟨S5, hc5, hf⟩ := bd1_of hf
  refine i_callVv hC mv_X9_92 (c_X9_sets hC.2.2.2.2.2.2.2.1 hc5) (pln rfl) (lay_p218) rfl rfl rfl rfl ⟨Nat.le_of_ble_eq_true rfl, Nat.le_of_ble_eq_true rfl⟩ (Nat.le_of_ble_eq_true rfl) dX9_gets_37 ?_
  refine i_aload_n hC dX9_gets_40 rfl ?_
  refine i_iload_n hC dX9_gets_41 rfl ?_
  refine i_iload_n hC dX9_gets_42 rfl ?_
  obtain ⟨r6, hc6, hf⟩ := bd1_of hf
  refine i_callVi hC mv_X9_131 (c_X9_alikeTo hC.2.2.2.2.2.2.2.1 hc6) (pln rfl) (lay_p218) rfl rfl rfl rfl ⟨Nat.le_of_ble_eq_true rfl, Nat.le_of_ble_eq_true rfl⟩ (Nat.le_of_ble_eq_true rfl) dX9_gets_43 ?_
  refine i_istore_n hC dX9_gets_46 (by decide) ?_
  refine i_aload_n hC dX9_gets_47 rfl ?_
  refine i_iload_n hC dX9_gets_48 rfl ?_
  refine i_iconst hC dX9_gets_49 li_5 ?_
  obtain ⟨r7, hc7, hf⟩ := bd1_of hf
  refine i_callVi hC mv_X9_69 (c_X9_of hC.2.2.2.2.2.2.2.1 hc7) (pln rfl) (lay_p218) rfl rfl rfl rfl ⟨Nat.le_of_ble_eq_true rfl, Nat.le_of_ble_eq_true rfl⟩ (Nat.le_of_ble_eq_true rfl) dX9_gets_50 ?_
  refine i_iload_n hC dX9_gets_53 rfl ?_
  refine i_icmp_le hC (tgt := 178) dX9_gets_54 (by decide) (fun c8 => ?_) (fun c8 => ?_)
  · replace hf := (if_pos c8).symm.trans hf
    exact Mj.to (b_X9_gets_178 hC  hf) ⟨rfl, rfl, rfl, trivial⟩
  · replace hf := (if_neg c8).symm.trans hf
    refine i_aload_n hC dX9_gets_57 rfl ?_
    refine i_getR hC fl_X9_9 (pln rfl) (lay_p218) rfl dX9_gets_58 ?_
    refine i_iconst hC dX9_gets_61 li_5 ?_
    refine i_dup2 hC dX9_gets_62 rfl rfl ?_
    refine i_iald hC (j0 := 5) (pln rfl) (lay_p219) (inb_in (by decide)) (by decide) dX9_gets_63 ?_
    refine i_aload_n hC dX9_gets_64 rfl ?_
    refine i_iload_n hC dX9_gets_65 rfl ?_
    refine i_iconst hC dX9_gets_66 li_5 ?_
    obtain ⟨r15, hc15, hf⟩ := bd1_of hf
    refine i_callVi hC mv_X9_69 (c_X9_of hC.2.2.2.2.2.2.2.1 hc15) (pln rfl) (lay_p218) rfl rfl rfl rfl ⟨Nat.le_of_ble_eq_true rfl, Nat.le_of_ble_eq_true rfl⟩ (Nat.le_of_ble_eq_true rfl) dX9_gets_67 ?_
    refine i_iload_n hC dX9_gets_70 rfl ?_
    refine i_isub hC dX9_gets_71 ?_
    refine i_iadd hC dX9_gets_72 ?_
    refine i_iast hC (j0 := 5) (pln rfl) (lay_p219) (bk_l ⟨rfl, rfl, rfl, rfl⟩) (inb_in (by decide)) (by decide) dX9_gets_73 ?_
    refine i_iconst hC dX9_gets_74 li_0 ?_
    refine i_istore hC dX9_gets_75 (by decide) ?_
    exact Mj.to (b_X9_gets_77 hC  hf) ⟨rfl, rfl, rfl, rfl, trivial⟩
set_option maxHeartbeats 4000000 in
set_option maxRecDepth 100000 in
theorem b_X9_gets_0 {v : EV} {p : Program} {l : Launch} {e : Env} {s : State} {m : MethodId} {args : Array Value} {below : List Frame} {meth : Method} {c : Code} (hC : Cx v p l e s m args meth c RX9 cX9_gets 6 none) {S : Mem} {x1 : Int32} {x2 : Int32}  {r : Mem} (hf : f_X9_gets_0 S x1 x2 = some r) : Mj v p l e (rmF 4 79) s m args below meth c 6 (MQ below (Qc v (none) r) args s 0 0 (eG v)) 0 S 0 [(0, .ref (eA v (218))), (1, .int x1), (2, .int x2)] [] := by
  refine i_aload_n hC dX9_gets_0 rfl ?_
  refine i_iload_n hC dX9_gets_1 rfl ?_
  refine i_iconst hC dX9_gets_2 li_1 ?_
  obtain ⟨r1, hc1, hf⟩ := bd1_of hf
  refine i_callVi hC mv_X9_69 (c_X9_of hC.2.2.2.2.2.2.2.1 hc1) (pln rfl) (lay_p218) rfl rfl rfl rfl ⟨Nat.le_of_ble_eq_true rfl, Nat.le_of_ble_eq_true rfl⟩ (Nat.le_of_ble_eq_true rfl) dX9_gets_3 ?_
  refine i_aload_n hC dX9_gets_6 rfl ?_
  refine i_iload_n hC dX9_gets_7 rfl ?_
  refine i_iconst hC dX9_gets_8 li_1 ?_
  obtain ⟨r2, hc2, hf⟩ := bd1_of hf
  refine i_callVi hC mv_X9_69 (c_X9_of hC.2.2.2.2.2.2.2.1 hc2) (pln rfl) (lay_p218) rfl rfl rfl rfl ⟨Nat.le_of_ble_eq_true rfl, Nat.le_of_ble_eq_true rfl⟩ (Nat.le_of_ble_eq_true rfl) dX9_gets_9 ?_
  refine i_icmp_ge hC (tgt := 26) dX9_gets_12 (by decide) (fun c3 => ?_) (fun c3 => ?_)
  · replace hf := (if_pos c3).symm.trans hf
    exact Mj.to (b_X9_gets_26 hC  hf) ⟨rfl, rfl, rfl, trivial⟩
  · replace hf := (if_neg c3).symm.trans hf
    refine i_aload_n hC dX9_gets_15 rfl ?_
    refine i_iload_n hC dX9_gets_16 rfl ?_
    refine i_aload_n hC dX9_gets_17 rfl ?_
    refine i_iload_n hC dX9_gets_18 rfl ?_
    refine i_iconst hC dX9_gets_19 li_1 ?_
    obtain ⟨r27, hc27, hf⟩ := bd1_of hf
    refine i_callVi hC mv_X9_69 (c_X9_of hC.2.2.2.2.2.2.2.1 hc27) (pln rfl) (lay_p218) rfl rfl rfl rfl ⟨Nat.le_of_ble_eq_true rfl, Nat.le_of_ble_eq_true rfl⟩ (Nat.le_of_ble_eq_true rfl) dX9_gets_20 ?_
    obtain ⟨S28, hc28, hf⟩ := bd1_of hf
    refine i_callVv hC mv_X9_112 (c_X9_takesOver hC.2.2.2.2.2.2.2.1 hc28) (pln rfl) (lay_p218) rfl rfl rfl rfl ⟨Nat.le_of_ble_eq_true rfl, Nat.le_of_ble_eq_true rfl⟩ (Nat.le_of_ble_eq_true rfl) dX9_gets_23 ?_
    exact Mj.to (b_X9_gets_26 hC  hf) ⟨rfl, rfl, rfl, trivial⟩
theorem c_X9_gets {v : EV} {l : Launch} (hst : Stb v) {S : Mem} {x1 x2 : Int32}  {r : Mem} (hf : g_X9_gets S x1 x2 = some r) : Con v l yX9_gets cX9_gets 6 none 4 79 [.ref (eA v (218)), .int x1, .int x2] S (none) r := con_of (by decide) hst (Nat.le_of_ble_eq_true rfl) (fun p e s m args below meth c hC => b_X9_gets_0 hC  hf)
def f_X9_comesBack_0 (S : Mem) (x1 : Int32) : Option (Int32 × Mem) := bd1 (g_X9_isDriver S x1) (fun r1 => (if r1 = 0 then some ((-1 : Int32), S) else bd1 (g_X9_isAboard S x1) (fun r3 => bd2 (g_X9_isRefused S r3 (6 : Int32) x1) (fun r4 S4 => (if r4 = 0 then bd1 (g_X9_sets S4 x1 (7 : Int32) (1 : Int32)) (fun S6 => bd1 (g_X9_sets S6 x1 (0 : Int32) (0 : Int32)) (fun S7 => bd1 (g_X9_sets S7 x1 (3 : Int32) (0 : Int32)) (fun S8 => bd1 (g_X9_aboard S8) (fun r9 => some (r9, S8))))) else some ((-3 : Int32), S4))))))
def g_X9_comesBack (S : Mem) (x1 : Int32) : Option (Int32 × Mem) := f_X9_comesBack_0 S x1
set_option maxHeartbeats 4000000 in
set_option maxRecDepth 100000 in
theorem b_X9_comesBack_0 {v : EV} {p : Program} {l : Launch} {e : Env} {s : State} {m : MethodId} {args : Array Value} {below : List Frame} {meth : Method} {c : Code} (hC : Cx v p l e s m args meth c RX9 cX9_comesBack 2 (some .int)) {S : Mem} {x1 : Int32}  {r : Int32 × Mem} (hf : f_X9_comesBack_0 S x1 = some r) : Mj v p l e (rmF 4 77) s m args below meth c 2 (MQ below (Qc v (some (.int r.1)) r.2) args s 0 0 (eG v)) 0 S 0 [(0, .ref (eA v (218))), (1, .int x1)] [] := by
  refine i_aload_n hC dX9_comesBack_0 rfl ?_
  refine i_iload_n hC dX9_comesBack_1 rfl ?_
  obtain ⟨r1, hc1, hf⟩ := bd1_of hf
  refine i_callVi hC mv_X9_65 (c_X9_isDriver hC.2.2.2.2.2.2.2.1 hc1) (pln rfl) (lay_p218) rfl rfl rfl rfl ⟨Nat.le_of_ble_eq_true rfl, Nat.le_of_ble_eq_true rfl⟩ (Nat.le_of_ble_eq_true rfl) dX9_comesBack_2 ?_
  refine i_if_ne hC (tgt := 10) dX9_comesBack_5 (by decide) (fun c2 => ?_) (fun c2 => ?_)
  · replace hf := (if_neg c2).symm.trans hf
    refine i_aload_n hC dX9_comesBack_10 rfl ?_
    refine i_aload_n hC dX9_comesBack_11 rfl ?_
    refine i_iload_n hC dX9_comesBack_12 rfl ?_
    obtain ⟨r3, hc3, hf⟩ := bd1_of hf
    refine i_callVi hC mv_X9_78 (c_X9_isAboard hC.2.2.2.2.2.2.2.1 hc3) (pln rfl) (lay_p218) rfl rfl rfl rfl ⟨Nat.le_of_ble_eq_true rfl, Nat.le_of_ble_eq_true rfl⟩ (Nat.le_of_ble_eq_true rfl) dX9_comesBack_13 ?_
    refine i_bipush hC dX9_comesBack_16 lb_6 ?_
    refine i_iload_n hC dX9_comesBack_18 rfl ?_
    obtain ⟨r4, S4, hc4, hf⟩ := bd2_of hf
    refine i_callVi hC mv_X9_88 (c_X9_isRefused hC.2.2.2.2.2.2.2.1 hc4) (pln rfl) (lay_p218) rfl rfl rfl rfl ⟨Nat.le_of_ble_eq_true rfl, Nat.le_of_ble_eq_true rfl⟩ (Nat.le_of_ble_eq_true rfl) dX9_comesBack_19 ?_
    refine i_if_eq hC (tgt := 28) dX9_comesBack_22 (by decide) (fun c5 => ?_) (fun c5 => ?_)
    · replace hf := (if_pos c5).symm.trans hf
      refine i_aload_n hC dX9_comesBack_28 rfl ?_
      refine i_iload_n hC dX9_comesBack_29 rfl ?_
      refine i_bipush hC dX9_comesBack_30 lb_7 ?_
      refine i_iconst hC dX9_comesBack_32 li_1 ?_
      obtain ⟨S6, hc6, hf⟩ := bd1_of hf
      refine i_callVv hC mv_X9_92 (c_X9_sets hC.2.2.2.2.2.2.2.1 hc6) (pln rfl) (lay_p218) rfl rfl rfl rfl ⟨Nat.le_of_ble_eq_true rfl, Nat.le_of_ble_eq_true rfl⟩ (Nat.le_of_ble_eq_true rfl) dX9_comesBack_33 ?_
      refine i_aload_n hC dX9_comesBack_36 rfl ?_
      refine i_iload_n hC dX9_comesBack_37 rfl ?_
      refine i_iconst hC dX9_comesBack_38 li_0 ?_
      refine i_iconst hC dX9_comesBack_39 li_0 ?_
      obtain ⟨S7, hc7, hf⟩ := bd1_of hf
      refine i_callVv hC mv_X9_92 (c_X9_sets hC.2.2.2.2.2.2.2.1 hc7) (pln rfl) (lay_p218) rfl rfl rfl rfl ⟨Nat.le_of_ble_eq_true rfl, Nat.le_of_ble_eq_true rfl⟩ (Nat.le_of_ble_eq_true rfl) dX9_comesBack_40 ?_
      refine i_aload_n hC dX9_comesBack_43 rfl ?_
      refine i_iload_n hC dX9_comesBack_44 rfl ?_
      refine i_iconst hC dX9_comesBack_45 li_3 ?_
      refine i_iconst hC dX9_comesBack_46 li_0 ?_
      obtain ⟨S8, hc8, hf⟩ := bd1_of hf
      refine i_callVv hC mv_X9_92 (c_X9_sets hC.2.2.2.2.2.2.2.1 hc8) (pln rfl) (lay_p218) rfl rfl rfl rfl ⟨Nat.le_of_ble_eq_true rfl, Nat.le_of_ble_eq_true rfl⟩ (Nat.le_of_ble_eq_true rfl) dX9_comesBack_47 ?_
      refine i_aload_n hC dX9_comesBack_50 rfl ?_
      obtain ⟨r9, hc9, hf⟩ := bd1_of hf
      refine i_callVi hC mv_X9_152 (c_X9_aboard hC.2.2.2.2.2.2.2.1 hc9) (pln rfl) (lay_p218) rfl rfl rfl rfl ⟨Nat.le_of_ble_eq_true rfl, Nat.le_of_ble_eq_true rfl⟩ (Nat.le_of_ble_eq_true rfl) dX9_comesBack_51 ?_
      obtain rfl := Option.some.inj hf
      exact i_iret hC dX9_comesBack_54
    · replace hf := (if_neg c5).symm.trans hf
      refine i_bipush hC dX9_comesBack_25 lb_m3 ?_
      obtain rfl := Option.some.inj hf
      exact i_iret hC dX9_comesBack_27
  · replace hf := (if_pos c2).symm.trans hf
    refine i_iconst hC dX9_comesBack_8 li_m1 ?_
    obtain rfl := Option.some.inj hf
    exact i_iret hC dX9_comesBack_9
theorem c_X9_comesBack {v : EV} {l : Launch} (hst : Stb v) {S : Mem} {x1 : Int32}  {r : Int32 × Mem} (hf : g_X9_comesBack S x1 = some r) : Con v l yX9_comesBack cX9_comesBack 2 (some .int) 4 77 [.ref (eA v (218)), .int x1] S (some (.int r.1)) r.2 := con_of (by decide) hst (Nat.le_of_ble_eq_true rfl) (fun p e s m args below meth c hC => b_X9_comesBack_0 hC  hf)
def f_X9_ropes_64 (S : Mem)  : Option (Int32 × Mem) := some ((-3 : Int32), S)
def f_X9_ropes_51 (S : Mem) (x1 : Int32) (x2 : Int32) (x3 : Int32) (xt0 : Int32) : Option (Int32 × Mem) := bd1 (g_X9_greater x1 x2) (fun r9 => bd2 (g_X9_isRefused S xt0 (6 : Int32) r9) (fun r10 S10 => (if r10 = 0 then bd1 (g_X9_ropeAt x1 x2) (fun r12 => ck (inb r12 203) (bd1 (g_X9_ropesCut (up S10 20 ((r12).toNatClampNeg) x3)) (fun r14 => some (r14, (up S10 20 ((r12).toNatClampNeg) x3))))) else f_X9_ropes_64 S10)))
def f_X9_ropes_22 (S : Mem) (x1 : Int32) (x2 : Int32) (x3 : Int32) (xt0 : Int32) : Option (Int32 × Mem) := bd2 (g_X9_isRefused S xt0 (5 : Int32) x1) (fun r4 S4 => (if r4 = 0 then bd1 (g_X9_ropeAt x1 x2) (fun r6 => ck (inb r6 203) ((if (S4 20 ((r6).toNatClampNeg)) = x3 then f_X9_ropes_51 S4 x1 x2 x3 (1 : Int32) else f_X9_ropes_51 S4 x1 x2 x3 (0 : Int32)))) else f_X9_ropes_64 S4))
def f_X9_ropes_0 (S : Mem) (x1 : Int32) (x2 : Int32) (x3 : Int32) : Option (Int32 × Mem) := bd1 (g_X9_areDrivers S x1 x2) (fun r1 => (if r1 = 0 then some ((-1 : Int32), S) else (if x1 = x2 then f_X9_ropes_22 S x1 x2 x3 (1 : Int32) else f_X9_ropes_22 S x1 x2 x3 (0 : Int32))))
def g_X9_ropes (S : Mem) (x1 : Int32) (x2 : Int32) (x3 : Int32) : Option (Int32 × Mem) := f_X9_ropes_0 S x1 x2 x3
set_option maxHeartbeats 4000000 in
set_option maxRecDepth 100000 in
theorem b_X9_ropes_64 {v : EV} {p : Program} {l : Launch} {e : Env} {s : State} {m : MethodId} {args : Array Value} {below : List Frame} {meth : Method} {c : Code} (hC : Cx v p l e s m args meth c RX9 cX9_ropes 4 (some .int)) {S : Mem}  {r : Int32 × Mem} (hf : f_X9_ropes_64 S = some r) : Mj v p l e (rmF 4 77) s m args below meth c 4 (MQ below (Qc v (some (.int r.1)) r.2) args s 0 0 (eG v)) 0 S 64 [] [] := by
  refine i_bipush hC dX9_ropes_64 lb_m3 ?_
  obtain rfl := Option.some.inj hf
  exact i_iret hC dX9_ropes_66
set_option maxHeartbeats 4000000 in
set_option maxRecDepth 100000 in
theorem b_X9_ropes_51 {v : EV} {p : Program} {l : Launch} {e : Env} {s : State} {m : MethodId} {args : Array Value} {below : List Frame} {meth : Method} {c : Code} (hC : Cx v p l e s m args meth c RX9 cX9_ropes 4 (some .int)) {S : Mem} {x1 : Int32} {x2 : Int32} {x3 : Int32} {xt0 : Int32}  {r : Int32 × Mem} (hf : f_X9_ropes_51 S x1 x2 x3 xt0 = some r) : Mj v p l e (rmF 4 77) s m args below meth c 4 (MQ below (Qc v (some (.int r.1)) r.2) args s 0 0 (eG v)) 0 S 51 [(0, .ref (eA v (218))), (1, .int x1), (2, .int x2), (3, .int x3)] [.int xt0, .ref (eA v (218))] := by
  refine i_bipush hC dX9_ropes_51 lb_6 ?_
  refine i_iload_n hC dX9_ropes_53 rfl ?_
  refine i_iload_n hC dX9_ropes_54 rfl ?_
  obtain ⟨r9, hc9, hf⟩ := bd1_of hf
  refine i_callSi hC mv_X9_75 (c_X9_greater hC.2.2.2.2.2.2.2.1 hc9) rfl rfl rfl ⟨Nat.le_of_ble_eq_true rfl, Nat.le_of_ble_eq_true rfl⟩ (Nat.le_of_ble_eq_true rfl) dX9_ropes_55 ?_
  obtain ⟨r10, S10, hc10, hf⟩ := bd2_of hf
  refine i_callVi hC mv_X9_88 (c_X9_isRefused hC.2.2.2.2.2.2.2.1 hc10) (pln rfl) (lay_p218) rfl rfl rfl rfl ⟨Nat.le_of_ble_eq_true rfl, Nat.le_of_ble_eq_true rfl⟩ (Nat.le_of_ble_eq_true rfl) dX9_ropes_58 ?_
  refine i_if_eq hC (tgt := 67) dX9_ropes_61 (by decide) (fun c11 => ?_) (fun c11 => ?_)
  · replace hf := (if_pos c11).symm.trans hf
    refine i_aload_n hC dX9_ropes_67 rfl ?_
    refine i_getR hC fl_X9_9 (pln rfl) (lay_p218) rfl dX9_ropes_68 ?_
    refine i_aload_n hC dX9_ropes_71 rfl ?_
    refine i_iload_n hC dX9_ropes_72 rfl ?_
    refine i_iload_n hC dX9_ropes_73 rfl ?_
    obtain ⟨r12, hc12, hf⟩ := bd1_of hf
    refine i_callVi hC mv_X9_81 (c_X9_ropeAt hC.2.2.2.2.2.2.2.1 hc12) (pln rfl) (lay_p218) rfl rfl rfl rfl ⟨Nat.le_of_ble_eq_true rfl, Nat.le_of_ble_eq_true rfl⟩ (Nat.le_of_ble_eq_true rfl) dX9_ropes_74 ?_
    refine i_iload_n hC dX9_ropes_77 rfl ?_
    obtain ⟨k13, hf⟩ := ck_of hf
    refine i_iast hC (j0 := ((r12).toNatClampNeg)) (pln rfl) (lay_p219) (bk_l ⟨rfl, rfl, rfl, rfl⟩) (inb_in k13) (Nat.zero_add _) dX9_ropes_78 ?_
    refine i_aload_n hC dX9_ropes_79 rfl ?_
    obtain ⟨r14, hc14, hf⟩ := bd1_of hf
    refine i_callVi hC mv_X9_165 (c_X9_ropesCut hC.2.2.2.2.2.2.2.1 hc14) (pln rfl) (lay_p218) rfl rfl rfl rfl ⟨Nat.le_of_ble_eq_true rfl, Nat.le_of_ble_eq_true rfl⟩ (Nat.le_of_ble_eq_true rfl) dX9_ropes_80 ?_
    obtain rfl := Option.some.inj hf
    exact i_iret hC dX9_ropes_83
  · replace hf := (if_neg c11).symm.trans hf
    exact Mj.to (b_X9_ropes_64 hC  hf) trivial
set_option maxHeartbeats 4000000 in
set_option maxRecDepth 100000 in
theorem b_X9_ropes_22 {v : EV} {p : Program} {l : Launch} {e : Env} {s : State} {m : MethodId} {args : Array Value} {below : List Frame} {meth : Method} {c : Code} (hC : Cx v p l e s m args meth c RX9 cX9_ropes 4 (some .int)) {S : Mem} {x1 : Int32} {x2 : Int32} {x3 : Int32} {xt0 : Int32}  {r : Int32 × Mem} (hf : f_X9_ropes_22 S x1 x2 x3 xt0 = some r) : Mj v p l e (rmF 4 77) s m args below meth c 4 (MQ below (Qc v (some (.int r.1)) r.2) args s 0 0 (eG v)) 0 S 22 [(0, .ref (eA v (218))), (1, .int x1), (2, .int x2), (3, .int x3)] [.int xt0, .ref (eA v (218))] := by
  refine i_iconst hC dX9_ropes_22 li_5 ?_
  refine i_iload_n hC dX9_ropes_23 rfl ?_
  obtain ⟨r4, S4, hc4, hf⟩ := bd2_of hf
  refine i_callVi hC mv_X9_88 (c_X9_isRefused hC.2.2.2.2.2.2.2.1 hc4) (pln rfl) (lay_p218) rfl rfl rfl rfl ⟨Nat.le_of_ble_eq_true rfl, Nat.le_of_ble_eq_true rfl⟩ (Nat.le_of_ble_eq_true rfl) dX9_ropes_24 ?_
  refine i_if_ne hC (tgt := 64) dX9_ropes_27 (by decide) (fun c5 => ?_) (fun c5 => ?_)
  · replace hf := (if_neg c5).symm.trans hf
    exact Mj.to (b_X9_ropes_64 hC  hf) trivial
  · replace hf := (if_pos c5).symm.trans hf
    refine i_aload_n hC dX9_ropes_30 rfl ?_
    refine i_aload_n hC dX9_ropes_31 rfl ?_
    refine i_getR hC fl_X9_9 (pln rfl) (lay_p218) rfl dX9_ropes_32 ?_
    refine i_aload_n hC dX9_ropes_35 rfl ?_
    refine i_iload_n hC dX9_ropes_36 rfl ?_
    refine i_iload_n hC dX9_ropes_37 rfl ?_
    obtain ⟨r6, hc6, hf⟩ := bd1_of hf
    refine i_callVi hC mv_X9_81 (c_X9_ropeAt hC.2.2.2.2.2.2.2.1 hc6) (pln rfl) (lay_p218) rfl rfl rfl rfl ⟨Nat.le_of_ble_eq_true rfl, Nat.le_of_ble_eq_true rfl⟩ (Nat.le_of_ble_eq_true rfl) dX9_ropes_38 ?_
    obtain ⟨k7, hf⟩ := ck_of hf
    refine i_iald hC (j0 := ((r6).toNatClampNeg)) (pln rfl) (lay_p219) (inb_in k7) (Nat.zero_add _) dX9_ropes_41 ?_
    refine i_iload_n hC dX9_ropes_42 rfl ?_
    refine i_icmp_ne hC (tgt := 50) dX9_ropes_43 (by decide) (fun c8 => ?_) (fun c8 => ?_)
    · replace hf := (if_neg c8).symm.trans hf
      refine i_iconst hC dX9_ropes_50 li_0 ?_
      exact Mj.to (b_X9_ropes_51 hC  hf) ⟨rfl, rfl, rfl, rfl, trivial⟩
    · replace hf := (if_pos c8).symm.trans hf
      refine i_iconst hC dX9_ropes_46 li_1 ?_
      refine i_goto hC (tgt := 51) dX9_ropes_47 (by decide) ?_
      exact Mj.to (b_X9_ropes_51 hC  hf) ⟨rfl, rfl, rfl, rfl, trivial⟩
set_option maxHeartbeats 4000000 in
set_option maxRecDepth 100000 in
theorem b_X9_ropes_0 {v : EV} {p : Program} {l : Launch} {e : Env} {s : State} {m : MethodId} {args : Array Value} {below : List Frame} {meth : Method} {c : Code} (hC : Cx v p l e s m args meth c RX9 cX9_ropes 4 (some .int)) {S : Mem} {x1 : Int32} {x2 : Int32} {x3 : Int32}  {r : Int32 × Mem} (hf : f_X9_ropes_0 S x1 x2 x3 = some r) : Mj v p l e (rmF 4 77) s m args below meth c 4 (MQ below (Qc v (some (.int r.1)) r.2) args s 0 0 (eG v)) 0 S 0 [(0, .ref (eA v (218))), (1, .int x1), (2, .int x2), (3, .int x3)] [] := by
  refine i_aload_n hC dX9_ropes_0 rfl ?_
  refine i_iload_n hC dX9_ropes_1 rfl ?_
  refine i_iload_n hC dX9_ropes_2 rfl ?_
  obtain ⟨r1, hc1, hf⟩ := bd1_of hf
  refine i_callVi hC mv_X9_162 (c_X9_areDrivers hC.2.2.2.2.2.2.2.1 hc1) (pln rfl) (lay_p218) rfl rfl rfl rfl ⟨Nat.le_of_ble_eq_true rfl, Nat.le_of_ble_eq_true rfl⟩ (Nat.le_of_ble_eq_true rfl) dX9_ropes_3 ?_
  refine i_if_ne hC (tgt := 11) dX9_ropes_6 (by decide) (fun c2 => ?_) (fun c2 => ?_)
  · replace hf := (if_neg c2).symm.trans hf
    refine i_aload_n hC dX9_ropes_11 rfl ?_
    refine i_iload_n hC dX9_ropes_12 rfl ?_
    refine i_iload_n hC dX9_ropes_13 rfl ?_
    refine i_icmp_ne hC (tgt := 21) dX9_ropes_14 (by decide) (fun c3 => ?_) (fun c3 => ?_)
    · replace hf := (if_neg c3).symm.trans hf
      refine i_iconst hC dX9_ropes_21 li_0 ?_
      exact Mj.to (b_X9_ropes_22 hC  hf) ⟨rfl, rfl, rfl, rfl, trivial⟩
    · replace hf := (if_pos c3).symm.trans hf
      refine i_iconst hC dX9_ropes_17 li_1 ?_
      refine i_goto hC (tgt := 22) dX9_ropes_18 (by decide) ?_
      exact Mj.to (b_X9_ropes_22 hC  hf) ⟨rfl, rfl, rfl, rfl, trivial⟩
  · replace hf := (if_pos c2).symm.trans hf
    refine i_iconst hC dX9_ropes_9 li_m1 ?_
    obtain rfl := Option.some.inj hf
    exact i_iret hC dX9_ropes_10
theorem c_X9_ropes {v : EV} {l : Launch} (hst : Stb v) {S : Mem} {x1 x2 x3 : Int32}  {r : Int32 × Mem} (hf : g_X9_ropes S x1 x2 x3 = some r) : Con v l yX9_ropes cX9_ropes 4 (some .int) 4 77 [.ref (eA v (218)), .int x1, .int x2, .int x3] S (some (.int r.1)) r.2 := con_of (by decide) hst (Nat.le_of_ble_eq_true rfl) (fun p e s m args below meth c hC => b_X9_ropes_0 hC  hf)
