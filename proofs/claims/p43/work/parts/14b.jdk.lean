/-! ===== the builder's methods, 1 ===== -/
section JDK1
variable {v : EV} {l : Launch} {da : Nat → Nat} {S : Mem} {b : Nat}
set_option maxHeartbeats 4000000 in
set_option maxRecDepth 100000 in
theorem c_J5_isLatin1 (hst : Stb v) (hb : b < 2) : ConG 0 v l yJ5_isLatin1_aae02 cJ5_isLatin1_aae02 1 (some .boolean) 1 12 [.ref (eA v (pB b))] (WDa v da S) (some (.int 1)) (WDa v da S) := con_ofA (by decide) hst (Nat.le_of_ble_eq_true rfl) (fun p e s m args below meth c hC => by
  refine Mj.to (lv2 := [(0, .ref (eA v (pB b)))]) ?_ ⟨rfl, trivial⟩
  refine i_compact hC mz_504 dJ5_isLatin1_aae02_0 ?_
  refine i_if_eq hC (tgt := 17) dJ5_isLatin1_aae02_3 (by decide) (fun z9 => absurd z9 (by decide)) (fun _ => ?_)
  refine i_aload_n hC dJ5_isLatin1_aae02_6 rfl ?_
  refine j_getK hC hb flb_22 dJ5_isLatin1_aae02_7 ?_
  refine i_if_ne hC (tgt := 17) dJ5_isLatin1_aae02_10 (by decide) (fun z9 => absurd z9 (fun h => h rfl)) (fun _ => ?_)
  refine i_iconst hC (x := (1 : Int32)) dJ5_isLatin1_aae02_13 (by decide) ?_
  refine i_goto hC (tgt := 18) dJ5_isLatin1_aae02_14 (by decide) ?_
  exact q_zret (fun _ h => h) hC dJ5_isLatin1_aae02_18 (by decide))
set_option maxHeartbeats 4000000 in
set_option maxRecDepth 100000 in
theorem c_J5_length (hst : Stb v) (hb : b < 2) : ConG 0 v l yJ5_length_8abf5 cJ5_length_8abf5 1 (some .int) 1 12 [.ref (eA v (pB b))] (WDa v da S) (some (.int (S (13 + 2 * b) 0))) (WDa v da S) := con_ofA (by decide) hst (Nat.le_of_ble_eq_true rfl) (fun p e s m args below meth c hC => by
  refine Mj.to (lv2 := [(0, .ref (eA v (pB b)))]) ?_ ⟨rfl, trivial⟩
  refine i_aload_n hC dJ5_length_8abf5_0 rfl ?_
  refine j_getI hC flb_79 (pl_B hb) (lay_B hb) rfl dJ5_length_8abf5_1 ?_
  exact q_iret (fun _ h => h) hC dJ5_length_8abf5_4)
set_option maxHeartbeats 4000000 in
set_option maxRecDepth 100000 in
theorem c_J1_canEncode (hst : Stb v) {x : Int32} (hx : x ≤ 255) : ConG 0 v l yJ1_canEncode_fc78d cJ1_canEncode_fc78d 1 (some .boolean) 1 12 [.int x] (WDa v da S) (some (.int 1)) (WDa v da S) := con_ofA (by decide) hst (Nat.le_of_ble_eq_true rfl) (fun p e s m args below meth c hC => by
  refine Mj.to (lv2 := [(0, .int x)]) ?_ ⟨rfl, trivial⟩
  refine i_iload_n hC dJ1_canEncode_fc78d_0 rfl ?_
  refine i_sipush hC (x := (255 : Int32)) dJ1_canEncode_fc78d_1 (by decide) ?_
  refine i_icmp_gt hC (tgt := 11) dJ1_canEncode_fc78d_4 (by decide) (fun z9 => absurd z9 (Int32.not_lt.mpr hx)) (fun _ => ?_)
  refine i_iconst hC (x := (1 : Int32)) dJ1_canEncode_fc78d_7 (by decide) ?_
  refine i_goto hC (tgt := 12) dJ1_canEncode_fc78d_8 (by decide) ?_
  exact q_zret (fun _ h => h) hC dJ1_canEncode_fc78d_12 (by decide))
set_option maxHeartbeats 4000000 in
set_option maxRecDepth 100000 in
theorem c_J8_newLength (hst : Stb v) {x y w z : Int32} (hz : x + mx y w = z) (h0 : 0 < z) (h1 : z ≤ 2147483639) : ConG 0 v l yJ8_newLength_cabcc cJ8_newLength_cabcc 4 (some .int) 2 32 [.int x, .int y, .int w] (WDa v da S) (some (.int z)) (WDa v da S) := con_ofA (by decide) hst (Nat.le_of_ble_eq_true rfl) (fun p e s m args below meth c hC => by
  refine Mj.to (lv2 := [(0, .int x), (1, .int y), (2, .int w)]) ?_ ⟨rfl, rfl, rfl, trivial⟩
  refine i_iload_n hC dJ8_newLength_cabcc_0 rfl ?_
  refine i_iload_n hC dJ8_newLength_cabcc_1 rfl ?_
  refine i_iload_n hC dJ8_newLength_cabcc_2 rfl ?_
  refine i_mmax hC mz_662 mz_164 mz_40 mz_165 ⟨Nat.le_of_ble_eq_true rfl, Nat.le_of_ble_eq_true rfl⟩ dJ8_newLength_cabcc_3 ?_
  refine i_iadd hC dJ8_newLength_cabcc_6 ?_
  rw [hz]
  refine i_istore_n hC dJ8_newLength_cabcc_7 (by decide) ?_
  refine i_iconst hC (x := (0 : Int32)) dJ8_newLength_cabcc_8 (by decide) ?_
  refine i_iload_n hC dJ8_newLength_cabcc_9 rfl ?_
  refine i_icmp_ge hC (tgt := 21) dJ8_newLength_cabcc_10 (by decide) (fun z9 => absurd z9 (Int32.not_le.mpr h0)) (fun _ => ?_)
  refine i_iload_n hC dJ8_newLength_cabcc_13 rfl ?_
  refine i_ldc hC (x := (2147483639 : Int32)) mz_663 dJ8_newLength_cabcc_14 ?_
  refine i_icmp_gt hC (tgt := 21) dJ8_newLength_cabcc_16 (by decide) (fun z9 => absurd z9 (Int32.not_lt.mpr h1)) (fun _ => ?_)
  refine i_iload_n hC dJ8_newLength_cabcc_19 rfl ?_
  exact q_iret (fun _ h => h) hC dJ8_newLength_cabcc_20)
set_option maxHeartbeats 4000000 in
set_option maxRecDepth 100000 in
theorem c_J5_newCapacity (hst : Stb v) (hb : b < 2) {q z : Int32} (hz : Int32.ofNat (capN S (13 + 2 * b)) + mx (q <<< ((0 : Int32) &&& 31) - Int32.ofNat (capN S (13 + 2 * b))) (Int32.ofNat (capN S (13 + 2 * b)) + (2 : Int32) <<< ((0 : Int32) &&& 31)) = z) (h0 : 0 < z) (h1 : z ≤ 2147483639) (hne : ¬ z = 2147483647) : ConG 0 v l yJ5_newCapacity_0f7a4 cJ5_newCapacity_0f7a4 6 (some .int) 3 55 [.ref (eA v (pB b)), .int q] (WDa v da S) (some (.int z)) (WDa v da S) := con_ofA (by decide) hst (Nat.le_of_ble_eq_true rfl) (fun p e s m args below meth c hC => by
  refine Mj.to (lv2 := [(0, .ref (eA v (pB b))), (1, .int q)]) ?_ ⟨rfl, rfl, trivial⟩
  refine i_aload_n hC dJ5_newCapacity_0f7a4_0 rfl ?_
  refine j_getV hC hb flb_15 dJ5_newCapacity_0f7a4_1 ?_
  refine j_vlen hC hb dJ5_newCapacity_0f7a4_4 ?_
  refine i_istore_n hC dJ5_newCapacity_0f7a4_5 (by decide) ?_
  refine i_iload_n hC dJ5_newCapacity_0f7a4_6 rfl ?_
  refine i_aload_n hC dJ5_newCapacity_0f7a4_7 rfl ?_
  refine j_getK hC hb flb_22 dJ5_newCapacity_0f7a4_8 ?_
  refine i_ishl hC dJ5_newCapacity_0f7a4_11 ?_
  refine i_istore_n hC dJ5_newCapacity_0f7a4_12 (by decide) ?_
  refine i_iload_n hC dJ5_newCapacity_0f7a4_13 rfl ?_
  refine i_iload_n hC dJ5_newCapacity_0f7a4_14 rfl ?_
  refine i_isub hC dJ5_newCapacity_0f7a4_15 ?_
  refine i_istore hC dJ5_newCapacity_0f7a4_16 (by decide) ?_
  refine i_iload_n hC dJ5_newCapacity_0f7a4_18 rfl ?_
  refine i_iload hC dJ5_newCapacity_0f7a4_19 rfl ?_
  refine i_iload_n hC dJ5_newCapacity_0f7a4_21 rfl ?_
  refine i_iconst hC (x := (2 : Int32)) dJ5_newCapacity_0f7a4_22 (by decide) ?_
  refine i_aload_n hC dJ5_newCapacity_0f7a4_23 rfl ?_
  refine j_getK hC hb flb_22 dJ5_newCapacity_0f7a4_24 ?_
  refine i_ishl hC dJ5_newCapacity_0f7a4_27 ?_
  refine i_iadd hC dJ5_newCapacity_0f7a4_28 ?_
  refine g_callS (q2 := 0) hC mS_J5_114 (c_J8_newLength hC.2.2.2.2.2.2.2.1 hz h0 h1) (fun _ h => h) (fun _ h => h) rfl rfl rfl ⟨Nat.le_of_ble_eq_true rfl, Nat.le_of_ble_eq_true rfl⟩ (Nat.le_of_ble_eq_true rfl) dJ5_newCapacity_0f7a4_29 ?_
  refine i_istore hC dJ5_newCapacity_0f7a4_32 (by decide) ?_
  refine i_iload hC dJ5_newCapacity_0f7a4_34 rfl ?_
  refine i_ldc hC (x := (2147483647 : Int32)) mz_667 dJ5_newCapacity_0f7a4_36 ?_
  refine i_icmp_ne hC (tgt := 51) dJ5_newCapacity_0f7a4_38 (by decide) (fun _ => ?_) (fun z9 => absurd z9 (hne))
  refine i_iload hC dJ5_newCapacity_0f7a4_51 rfl ?_
  refine i_aload_n hC dJ5_newCapacity_0f7a4_53 rfl ?_
  refine j_getK hC hb flb_22 dJ5_newCapacity_0f7a4_54 ?_
  refine i_ishr hC dJ5_newCapacity_0f7a4_57 ?_
  rw [sb_shr0]
  exact q_iret (fun _ h => h) hC dJ5_newCapacity_0f7a4_58)
end JDK1
