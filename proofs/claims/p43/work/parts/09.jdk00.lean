def f_J0_coder_7d493_14 (S : Mem) (xt0 : Int32) : Option (Int32) := ck (isy xt0) (some xt0)
def f_J0_coder_7d493_0 (S : Mem) (d0_0 : Nat) : Option (Int32) := (if (1 : Int32) = 0 then f_J0_coder_7d493_14 S (1 : Int32) else f_J0_coder_7d493_14 S (0 : Int32))
def g_J0_coder_7d493 (S : Mem) (d0_0 : Nat) : Option (Int32) := f_J0_coder_7d493_0 S d0_0
set_option maxHeartbeats 4000000 in
set_option maxRecDepth 100000 in
theorem b_J0_coder_7d493_14 {v : EV} {p : Program} {l : Launch} {e : Env} {s : State} {m : MethodId} {args : Array Value} {below : List Frame} {meth : Method} {c : Code} (hC : Cx v p l e s m args meth c RJ0 cJ0_coder_7d493 1 (some .byte)) {S : Mem} {xt0 : Int32}  {r : Int32} (hf : f_J0_coder_7d493_14 S xt0 = some r) : Mj v p l e (rmF 1 12) s m args below meth c 1 (MQ below (Qc v (some (.int r)) S) args s 0 0 (eG v)) 0 S 14 [] [.int xt0] := by
  obtain ⟨k2, hf⟩ := ck_of hf
  obtain rfl := Option.some.inj hf
  exact i_zret hC dJ0_coder_7d493_14 (isy_n k2)
set_option maxHeartbeats 4000000 in
set_option maxRecDepth 100000 in
theorem b_J0_coder_7d493_0 {v : EV} {p : Program} {l : Launch} {e : Env} {s : State} {m : MethodId} {args : Array Value} {below : List Frame} {meth : Method} {c : Code} (hC : Cx v p l e s m args meth c RJ0 cJ0_coder_7d493 1 (some .byte)) {S : Mem} {d0_0 : Nat} (h0 : d0_0 < 9) {r : Int32} (hf : f_J0_coder_7d493_0 S d0_0 = some r) : Mj v p l e (rmF 1 12) s m args below meth c 1 (MQ below (Qc v (some (.int r)) S) args s 0 0 (eG v)) 0 S 0 [(0, .ref (eT v (10 + d0_0)))] [] := by
  refine i_compact hC mw_721 dJ0_coder_7d493_0 ?_
  refine i_if_eq hC (tgt := 13) dJ0_coder_7d493_3 (by decide) (fun c1 => ?_) (fun c1 => ?_)
  · replace hf := (if_pos c1).symm.trans hf
    refine i_iconst hC dJ0_coder_7d493_13 li_1 ?_
    exact Mj.to (b_J0_coder_7d493_14 hC  hf) trivial
  · replace hf := (if_neg c1).symm.trans hf
    refine i_aload_n hC dJ0_coder_7d493_6 rfl ?_
    refine i_strC hC h0 mw_826 dJ0_coder_7d493_7 ?_
    refine i_goto hC (tgt := 14) dJ0_coder_7d493_10 (by decide) ?_
    exact Mj.to (b_J0_coder_7d493_14 hC  hf) trivial
theorem c_J0_coder_7d493 {v : EV} {l : Launch} (hst : Stb v) {S : Mem} {d0_0 : Nat} (h0 : d0_0 < 9) {r : Int32} (hf : g_J0_coder_7d493 S d0_0 = some r) : Con v l yJ0_coder_7d493 cJ0_coder_7d493 1 (some .byte) 1 12 [.ref (eT v (10 + d0_0))] S (some (.int r)) S := con_of (by decide) hst (Nat.le_of_ble_eq_true rfl) (fun p e s m args below meth c hC => b_J0_coder_7d493_0 hC h0 hf)
def f_J0_length_8abf5_0 (S : Mem) (d0_0 : Nat) : Option (Int32) := bd1 (g_J0_coder_7d493 S d0_0) (fun r1 => some ((Int32.ofNat (lenT d0_0)) >>> (r1 &&& 31)))
def g_J0_length_8abf5 (S : Mem) (d0_0 : Nat) : Option (Int32) := f_J0_length_8abf5_0 S d0_0
set_option maxHeartbeats 4000000 in
set_option maxRecDepth 100000 in
theorem b_J0_length_8abf5_0 {v : EV} {p : Program} {l : Launch} {e : Env} {s : State} {m : MethodId} {args : Array Value} {below : List Frame} {meth : Method} {c : Code} (hC : Cx v p l e s m args meth c RJ0 cJ0_length_8abf5 1 (some .int)) {S : Mem} {d0_0 : Nat} (h0 : d0_0 < 9) {r : Int32} (hf : f_J0_length_8abf5_0 S d0_0 = some r) : Mj v p l e (rmF 2 32) s m args below meth c 1 (MQ below (Qc v (some (.int r)) S) args s 0 0 (eG v)) 0 S 0 [(0, .ref (eT v (10 + d0_0)))] [] := by
  refine i_aload_n hC dJ0_length_8abf5_0 rfl ?_
  refine i_strV hC h0 mw_825 dJ0_length_8abf5_1 ?_
  refine i_svLen hC h0 dJ0_length_8abf5_4 ?_
  refine i_aload_n hC dJ0_length_8abf5_5 rfl ?_
  obtain ⟨r1, hc1, hf⟩ := bd1_of hf
  refine i_callT hC h0 mv_J0_335 (c_J0_coder_7d493 hC.2.2.2.2.2.2.2.1 h0 hc1) rfl rfl rfl ⟨Nat.le_of_ble_eq_true rfl, Nat.le_of_ble_eq_true rfl⟩ (Nat.le_of_ble_eq_true rfl) dJ0_length_8abf5_6 ?_
  refine i_ishr hC dJ0_length_8abf5_9 ?_
  obtain rfl := Option.some.inj hf
  exact i_iret hC dJ0_length_8abf5_10
theorem c_J0_length_8abf5 {v : EV} {l : Launch} (hst : Stb v) {S : Mem} {d0_0 : Nat} (h0 : d0_0 < 9) {r : Int32} (hf : g_J0_length_8abf5 S d0_0 = some r) : Con v l yJ0_length_8abf5 cJ0_length_8abf5 1 (some .int) 2 32 [.ref (eT v (10 + d0_0))] S (some (.int r)) S := con_of (by decide) hst (Nat.le_of_ble_eq_true rfl) (fun p e s m args below meth c hC => b_J0_length_8abf5_0 hC h0 hf)
def f_J0_isLatin1_aae02_18 (S : Mem) (xt0 : Int32) : Option (Int32) := ck (isb xt0) (some xt0)
def f_J0_isLatin1_aae02_17 (S : Mem)  : Option (Int32) := f_J0_isLatin1_aae02_18 S (0 : Int32)
def f_J0_isLatin1_aae02_0 (S : Mem) (d0_0 : Nat) : Option (Int32) := (if (1 : Int32) = 0 then f_J0_isLatin1_aae02_17 S else (if (0 : Int32) = 0 then f_J0_isLatin1_aae02_18 S (1 : Int32) else f_J0_isLatin1_aae02_17 S))
def g_J0_isLatin1_aae02 (S : Mem) (d0_0 : Nat) : Option (Int32) := f_J0_isLatin1_aae02_0 S d0_0
set_option maxHeartbeats 4000000 in
set_option maxRecDepth 100000 in
theorem b_J0_isLatin1_aae02_18 {v : EV} {p : Program} {l : Launch} {e : Env} {s : State} {m : MethodId} {args : Array Value} {below : List Frame} {meth : Method} {c : Code} (hC : Cx v p l e s m args meth c RJ0 cJ0_isLatin1_aae02 1 (some .boolean)) {S : Mem} {xt0 : Int32}  {r : Int32} (hf : f_J0_isLatin1_aae02_18 S xt0 = some r) : Mj v p l e (rmF 1 12) s m args below meth c 1 (MQ below (Qc v (some (.int r)) S) args s 0 0 (eG v)) 0 S 18 [] [.int xt0] := by
  obtain ⟨k2, hf⟩ := ck_of hf
  obtain rfl := Option.some.inj hf
  exact i_zret hC dJ0_isLatin1_aae02_18 (isb_z k2).1
set_option maxHeartbeats 4000000 in
set_option maxRecDepth 100000 in
theorem b_J0_isLatin1_aae02_17 {v : EV} {p : Program} {l : Launch} {e : Env} {s : State} {m : MethodId} {args : Array Value} {below : List Frame} {meth : Method} {c : Code} (hC : Cx v p l e s m args meth c RJ0 cJ0_isLatin1_aae02 1 (some .boolean)) {S : Mem}  {r : Int32} (hf : f_J0_isLatin1_aae02_17 S = some r) : Mj v p l e (rmF 1 12) s m args below meth c 1 (MQ below (Qc v (some (.int r)) S) args s 0 0 (eG v)) 0 S 17 [] [] := by
  refine i_iconst hC dJ0_isLatin1_aae02_17 li_0 ?_
  exact Mj.to (b_J0_isLatin1_aae02_18 hC  hf) trivial
set_option maxHeartbeats 4000000 in
set_option maxRecDepth 100000 in
theorem b_J0_isLatin1_aae02_0 {v : EV} {p : Program} {l : Launch} {e : Env} {s : State} {m : MethodId} {args : Array Value} {below : List Frame} {meth : Method} {c : Code} (hC : Cx v p l e s m args meth c RJ0 cJ0_isLatin1_aae02 1 (some .boolean)) {S : Mem} {d0_0 : Nat} (h0 : d0_0 < 9) {r : Int32} (hf : f_J0_isLatin1_aae02_0 S d0_0 = some r) : Mj v p l e (rmF 1 12) s m args below meth c 1 (MQ below (Qc v (some (.int r)) S) args s 0 0 (eG v)) 0 S 0 [(0, .ref (eT v (10 + d0_0)))] [] := by
  refine i_compact hC mw_721 dJ0_isLatin1_aae02_0 ?_
  refine i_if_eq hC (tgt := 17) dJ0_isLatin1_aae02_3 (by decide) (fun c1 => ?_) (fun c1 => ?_)
  · replace hf := (if_pos c1).symm.trans hf
    exact Mj.to (b_J0_isLatin1_aae02_17 hC  hf) trivial
  · replace hf := (if_neg c1).symm.trans hf
    refine i_aload_n hC dJ0_isLatin1_aae02_6 rfl ?_
    refine i_strC hC h0 mw_826 dJ0_isLatin1_aae02_7 ?_
    refine i_if_ne hC (tgt := 17) dJ0_isLatin1_aae02_10 (by decide) (fun c3 => ?_) (fun c3 => ?_)
    · replace hf := (if_neg c3).symm.trans hf
      exact Mj.to (b_J0_isLatin1_aae02_17 hC  hf) trivial
    · replace hf := (if_pos c3).symm.trans hf
      refine i_iconst hC dJ0_isLatin1_aae02_13 li_1 ?_
      refine i_goto hC (tgt := 18) dJ0_isLatin1_aae02_14 (by decide) ?_
      exact Mj.to (b_J0_isLatin1_aae02_18 hC  hf) trivial
theorem c_J0_isLatin1_aae02 {v : EV} {l : Launch} (hst : Stb v) {S : Mem} {d0_0 : Nat} (h0 : d0_0 < 9) {r : Int32} (hf : g_J0_isLatin1_aae02 S d0_0 = some r) : Con v l yJ0_isLatin1_aae02 cJ0_isLatin1_aae02 1 (some .boolean) 1 12 [.ref (eT v (10 + d0_0))] S (some (.int r)) S := con_of (by decide) hst (Nat.le_of_ble_eq_true rfl) (fun p e s m args below meth c hC => b_J0_isLatin1_aae02_0 hC h0 hf)
def f_J3_checkIndex_8e157_9 (x0 : Int32) (x1 : Int32) : Option (Int32) := none
def f_J3_checkIndex_8e157_0 (x0 : Int32) (x1 : Int32) : Option (Int32) := (if x0 < 0 then f_J3_checkIndex_8e157_9 x0 x1 else (if x0 < x1 then some x0 else f_J3_checkIndex_8e157_9 x0 x1))
def g_J3_checkIndex_8e157 (x0 : Int32) (x1 : Int32) : Option (Int32) := f_J3_checkIndex_8e157_0 x0 x1
set_option maxHeartbeats 4000000 in
set_option maxRecDepth 100000 in
theorem b_J3_checkIndex_8e157_9 {v : EV} {p : Program} {l : Launch} {e : Env} {s : State} {m : MethodId} {args : Array Value} {below : List Frame} {meth : Method} {c : Code} (hC : Cx v p l e s m args meth c RJ3 cJ3_checkIndex_8e157 3 (some .int)) {S : Mem} {x0 : Int32} {x1 : Int32} {u2 : Value} (h2 : isR u2) {r : Int32} (hf : f_J3_checkIndex_8e157_9 x0 x1 = some r) : Mj v p l e (rmF 1 12) s m args below meth c 3 (MQ below (Qc v (some (.int r)) S) args s 0 0 (eG v)) 0 S 9 [(0, .int x0), (1, .int x1), (2, u2)] [] := by
  refine i_aloadG_n hC (u := u2) h2 dJ3_checkIndex_8e157_9 (by repeat (first | rfl | refine lk_w (by first | rfl | exact isR_cat (wv_R v _) | exact isR_cat (by assumption)) (by decide) ?_)) ?_
  refine i_iload_n hC (x := x0) dJ3_checkIndex_8e157_10 (by repeat (first | rfl | refine lk_w (by first | rfl | exact isR_cat (wv_R v _) | exact isR_cat (by assumption)) (by decide) ?_)) ?_
  refine i_iload_n hC (x := x1) dJ3_checkIndex_8e157_11 (by repeat (first | rfl | refine lk_w (by first | rfl | exact isR_cat (wv_R v _) | exact isR_cat (by assumption)) (by decide) ?_)) ?_
  exact nn_of hf
set_option maxHeartbeats 4000000 in
set_option maxRecDepth 100000 in
theorem b_J3_checkIndex_8e157_0 {v : EV} {p : Program} {l : Launch} {e : Env} {s : State} {m : MethodId} {args : Array Value} {below : List Frame} {meth : Method} {c : Code} (hC : Cx v p l e s m args meth c RJ3 cJ3_checkIndex_8e157 3 (some .int)) {S : Mem} {x0 : Int32} {x1 : Int32} {u2 : Value} (h2 : isR u2) {r : Int32} (hf : f_J3_checkIndex_8e157_0 x0 x1 = some r) : Mj v p l e (rmF 1 12) s m args below meth c 3 (MQ below (Qc v (some (.int r)) S) args s 0 0 (eG v)) 0 S 0 [(0, .int x0), (1, .int x1), (2, u2)] [] := by
  refine i_iload_n hC (x := x0) dJ3_checkIndex_8e157_0 (by repeat (first | rfl | refine lk_w (by first | rfl | exact isR_cat (wv_R v _) | exact isR_cat (by assumption)) (by decide) ?_)) ?_
  refine i_if_lt hC (tgt := 9) dJ3_checkIndex_8e157_1 (by decide) (fun c1 => ?_) (fun c1 => ?_)
  · replace hf := (if_pos c1).symm.trans hf
    exact Mj.to (b_J3_checkIndex_8e157_9 hC h2 hf) ⟨(by repeat (first | rfl | refine lk_w (by first | rfl | exact isR_cat (wv_R v _) | exact isR_cat (by assumption)) (by decide) ?_)), (by repeat (first | rfl | refine lk_w (by first | rfl | exact isR_cat (wv_R v _) | exact isR_cat (by assumption)) (by decide) ?_)), (by repeat (first | rfl | refine lk_w (by first | rfl | exact isR_cat (wv_R v _) | exact isR_cat (by assumption)) (by decide) ?_)), trivial⟩
  · replace hf := (if_neg c1).symm.trans hf
    refine i_iload_n hC (x := x0) dJ3_checkIndex_8e157_4 (by repeat (first | rfl | refine lk_w (by first | rfl | exact isR_cat (wv_R v _) | exact isR_cat (by assumption)) (by decide) ?_)) ?_
    refine i_iload_n hC (x := x1) dJ3_checkIndex_8e157_5 (by repeat (first | rfl | refine lk_w (by first | rfl | exact isR_cat (wv_R v _) | exact isR_cat (by assumption)) (by decide) ?_)) ?_
    refine i_icmp_lt hC (tgt := 16) dJ3_checkIndex_8e157_6 (by decide) (fun c2 => ?_) (fun c2 => ?_)
    · replace hf := (if_pos c2).symm.trans hf
      refine i_iload_n hC (x := x0) dJ3_checkIndex_8e157_16 (by repeat (first | rfl | refine lk_w (by first | rfl | exact isR_cat (wv_R v _) | exact isR_cat (by assumption)) (by decide) ?_)) ?_
      obtain rfl := Option.some.inj hf
      exact i_iret hC dJ3_checkIndex_8e157_17
    · replace hf := (if_neg c2).symm.trans hf
      exact Mj.to (b_J3_checkIndex_8e157_9 hC h2 hf) ⟨(by repeat (first | rfl | refine lk_w (by first | rfl | exact isR_cat (wv_R v _) | exact isR_cat (by assumption)) (by decide) ?_)), (by repeat (first | rfl | refine lk_w (by first | rfl | exact isR_cat (wv_R v _) | exact isR_cat (by assumption)) (by decide) ?_)), (by repeat (first | rfl | refine lk_w (by first | rfl | exact isR_cat (wv_R v _) | exact isR_cat (by assumption)) (by decide) ?_)), trivial⟩
theorem c_J3_checkIndex_8e157 {v : EV} {l : Launch} (hst : Stb v) {S : Mem} {x0 x1 : Int32} {u2 : Value} (h2 : isR u2) {r : Int32} (hf : g_J3_checkIndex_8e157 x0 x1 = some r) : Con v l yJ3_checkIndex_8e157 cJ3_checkIndex_8e157 3 (some .int) 1 12 [.int x0, .int x1, u2] S (some (.int r)) S := con_of (by decide) hst (by simp [lg_sl, isR_cat (wv_R v _), cat_i, cat_r, isR_cat h2]) (fun p e s m args below meth c hC => by
  have e1 : lv_args 0 [.int x0, .int x1, u2] = [(0, .int x0), (1, .int x1), (2, u2)] := by simp [lv_args, isR_cat (wv_R v _), cat_i, cat_r, isR_cat h2]
  rw [e1]
  exact b_J3_checkIndex_8e157_0 hC h2 hf)
def f_J0_checkIndex_df160_0 (x0 : Int32) (x1 : Int32) : Option (Unit) := bd1 (g_J3_checkIndex_8e157 x0 x1) (fun r2 => some ())
def g_J0_checkIndex_df160 (x0 : Int32) (x1 : Int32) : Option (Unit) := f_J0_checkIndex_df160_0 x0 x1
set_option maxHeartbeats 4000000 in
set_option maxRecDepth 100000 in
theorem b_J0_checkIndex_df160_0 {v : EV} {p : Program} {l : Launch} {e : Env} {s : State} {m : MethodId} {args : Array Value} {below : List Frame} {meth : Method} {c : Code} (hC : Cx v p l e s m args meth c RJ0 cJ0_checkIndex_df160 2 none) {S : Mem} {x0 : Int32} {x1 : Int32}  {r : Unit} (hf : f_J0_checkIndex_df160_0 x0 x1 = some r) : Mj v p l e (rmF 2 34) s m args below meth c 2 (MQ below (Qc v (none) S) args s 0 0 (eG v)) 0 S 0 [(0, .int x0), (1, .int x1)] [] := by
  refine i_iload_n hC dJ0_checkIndex_df160_0 rfl ?_
  refine i_iload_n hC dJ0_checkIndex_df160_1 rfl ?_
  refine i_form hC mw_699 dJ0_checkIndex_df160_2 (fun u1 hu1 => ?_)
  obtain ⟨r2, hc2, hf⟩ := bd1_of hf
  refine i_callSi hC mv_J0_1059 (c_J3_checkIndex_8e157 hC.2.2.2.2.2.2.2.1 hu1 hc2) rfl rfl rfl ⟨Nat.le_of_ble_eq_true rfl, Nat.le_of_ble_eq_true rfl⟩ (Nat.le_of_ble_eq_true rfl) dJ0_checkIndex_df160_5 ?_
  refine i_pop hC dJ0_checkIndex_df160_8 rfl ?_
  exact i_vret hC dJ0_checkIndex_df160_9
theorem c_J0_checkIndex_df160 {v : EV} {l : Launch} (hst : Stb v) {S : Mem} {x0 x1 : Int32}  {r : Unit} (hf : g_J0_checkIndex_df160 x0 x1 = some r) : Con v l yJ0_checkIndex_df160 cJ0_checkIndex_df160 2 none 2 34 [.int x0, .int x1] S (none) S := con_of (by decide) hst (Nat.le_of_ble_eq_true rfl) (fun p e s m args below meth c hC => b_J0_checkIndex_df160_0 hC  hf)
def f_J1_charAt_3b067_0 (S : Mem) (d0_0 : Nat) (x1 : Int32) : Option (Int32) := bd1 (g_J0_checkIndex_df160 x1 (Int32.ofNat (lenT d0_0))) (fun r1 => ck (inb x1 (lenT d0_0)) (some ((((chT d0_0 x1) &&& (255 : Int32)).toUInt32 % 65536).toInt32)))
def g_J1_charAt_3b067 (S : Mem) (d0_0 : Nat) (x1 : Int32) : Option (Int32) := f_J1_charAt_3b067_0 S d0_0 x1
set_option maxHeartbeats 4000000 in
set_option maxRecDepth 100000 in
theorem b_J1_charAt_3b067_0 {v : EV} {p : Program} {l : Launch} {e : Env} {s : State} {m : MethodId} {args : Array Value} {below : List Frame} {meth : Method} {c : Code} (hC : Cx v p l e s m args meth c RJ1 cJ1_charAt_3b067 2 (some .char)) {S : Mem} {d0_0 : Nat} {x1 : Int32} (h0 : d0_0 < 9) {r : Int32} (hf : f_J1_charAt_3b067_0 S d0_0 x1 = some r) : Mj v p l e (rmF 3 55) s m args below meth c 2 (MQ below (Qc v (some (.int r)) S) args s 0 0 (eG v)) 0 S 0 [(0, .ref (eT v (20 + d0_0))), (1, .int x1)] [] := by
  refine i_iload_n hC dJ1_charAt_3b067_0 rfl ?_
  refine i_aload_n hC dJ1_charAt_3b067_1 rfl ?_
  refine i_svLen hC h0 dJ1_charAt_3b067_2 ?_
  obtain ⟨r1, hc1, hf⟩ := bd1_of hf
  refine i_callSv hC mv_J1_9 (c_J0_checkIndex_df160 hC.2.2.2.2.2.2.2.1 hc1) rfl rfl rfl ⟨Nat.le_of_ble_eq_true rfl, Nat.le_of_ble_eq_true rfl⟩ (Nat.le_of_ble_eq_true rfl) dJ1_charAt_3b067_3 ?_
  refine i_aload_n hC dJ1_charAt_3b067_6 rfl ?_
  refine i_iload_n hC dJ1_charAt_3b067_7 rfl ?_
  obtain ⟨k2, hf⟩ := ck_of hf
  refine i_svLd hC h0 (inb_in k2) dJ1_charAt_3b067_8 ?_
  refine i_sipush hC dJ1_charAt_3b067_9 lh_255 ?_
  refine i_iand hC dJ1_charAt_3b067_12 ?_
  refine i_i2c hC dJ1_charAt_3b067_13 ?_
  obtain rfl := Option.some.inj hf
  exact i_zret hC dJ1_charAt_3b067_14 (pk_nc _)
theorem c_J1_charAt_3b067 {v : EV} {l : Launch} (hst : Stb v) {S : Mem} {d0_0 : Nat} {x1 : Int32} (h0 : d0_0 < 9) {r : Int32} (hf : g_J1_charAt_3b067 S d0_0 x1 = some r) : Con v l yJ1_charAt_3b067 cJ1_charAt_3b067 2 (some .char) 3 55 [.ref (eT v (20 + d0_0)), .int x1] S (some (.int r)) S := con_of (by decide) hst (Nat.le_of_ble_eq_true rfl) (fun p e s m args below meth c hC => b_J1_charAt_3b067_0 hC h0 hf)
def f_J0_charAt_5068e_0 (S : Mem) (d0_0 : Nat) (x1 : Int32) : Option (Int32) := bd1 (g_J0_isLatin1_aae02 S d0_0) (fun r1 => (if r1 = 0 then none else bd1 (g_J1_charAt_3b067 S d0_0 x1) (fun r3 => ck (isc r3) (some r3))))
def g_J0_charAt_5068e (S : Mem) (d0_0 : Nat) (x1 : Int32) : Option (Int32) := f_J0_charAt_5068e_0 S d0_0 x1
set_option maxHeartbeats 4000000 in
set_option maxRecDepth 100000 in
theorem b_J0_charAt_5068e_0 {v : EV} {p : Program} {l : Launch} {e : Env} {s : State} {m : MethodId} {args : Array Value} {below : List Frame} {meth : Method} {c : Code} (hC : Cx v p l e s m args meth c RJ0 cJ0_charAt_5068e 2 (some .char)) {S : Mem} {d0_0 : Nat} {x1 : Int32} (h0 : d0_0 < 9) {r : Int32} (hf : f_J0_charAt_5068e_0 S d0_0 x1 = some r) : Mj v p l e (rmF 4 76) s m args below meth c 2 (MQ below (Qc v (some (.int r)) S) args s 0 0 (eG v)) 0 S 0 [(0, .ref (eT v (10 + d0_0))), (1, .int x1)] [] := by
  refine i_aload_n hC dJ0_charAt_5068e_0 rfl ?_
  obtain ⟨r1, hc1, hf⟩ := bd1_of hf
  refine i_callT hC h0 mv_J0_492 (c_J0_isLatin1_aae02 hC.2.2.2.2.2.2.2.1 h0 hc1) rfl rfl rfl ⟨Nat.le_of_ble_eq_true rfl, Nat.le_of_ble_eq_true rfl⟩ (Nat.le_of_ble_eq_true rfl) dJ0_charAt_5068e_1 ?_
  refine i_if_eq hC (tgt := 16) dJ0_charAt_5068e_4 (by decide) (fun c2 => ?_) (fun c2 => ?_)
  · replace hf := (if_pos c2).symm.trans hf
    refine i_aload_n hC dJ0_charAt_5068e_16 rfl ?_
    refine i_strV hC h0 mw_825 dJ0_charAt_5068e_17 ?_
    refine i_iload_n hC dJ0_charAt_5068e_20 rfl ?_
    exact nn_of hf
  · replace hf := (if_neg c2).symm.trans hf
    refine i_aload_n hC dJ0_charAt_5068e_7 rfl ?_
    refine i_strV hC h0 mw_825 dJ0_charAt_5068e_8 ?_
    refine i_iload_n hC dJ0_charAt_5068e_11 rfl ?_
    obtain ⟨r3, hc3, hf⟩ := bd1_of hf
    refine i_callSi hC mv_J0_495 (c_J1_charAt_3b067 hC.2.2.2.2.2.2.2.1 h0 hc3) rfl rfl rfl ⟨Nat.le_of_ble_eq_true rfl, Nat.le_of_ble_eq_true rfl⟩ (Nat.le_of_ble_eq_true rfl) dJ0_charAt_5068e_12 ?_
    obtain ⟨k4, hf⟩ := ck_of hf
    obtain rfl := Option.some.inj hf
    exact i_zret hC dJ0_charAt_5068e_15 (isc_n k4)
theorem c_J0_charAt_5068e {v : EV} {l : Launch} (hst : Stb v) {S : Mem} {d0_0 : Nat} {x1 : Int32} (h0 : d0_0 < 9) {r : Int32} (hf : g_J0_charAt_5068e S d0_0 x1 = some r) : Con v l yJ0_charAt_5068e cJ0_charAt_5068e 2 (some .char) 4 76 [.ref (eT v (10 + d0_0)), .int x1] S (some (.int r)) S := con_of (by decide) hst (Nat.le_of_ble_eq_true rfl) (fun p e s m args below meth c hC => b_J0_charAt_5068e_0 hC h0 hf)
