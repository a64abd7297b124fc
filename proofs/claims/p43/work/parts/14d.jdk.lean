/-! ===== the builder's methods, 3 ===== -/
section JDK3
variable {v : EV} {l : Launch} {da : Nat → Nat} {S : Mem} {b : Nat}
set_option maxHeartbeats 4000000 in
set_option maxRecDepth 100000 in
theorem e_J3_checkIndex (hst : Stb v) {i n : Nat} (hi : i < n) (hn : n < 2 ^ 31) {u : Value} (hu : isR u) : ConG 0 v l yJ3_checkIndex_8e157 cJ3_checkIndex_8e157 3 (some .int) 1 12 [.int (nI i), .int (nI n), u] (WDa v da S) (some (.int (nI i))) (WDa v da S) := con_ofA (by decide) hst (by simp [lg_sl, cat_i, isR_cat hu]) (fun p e s m args below meth c hC => by
  refine Mj.to (lv2 := [(0, .int (nI i)), (1, .int (nI n)), (2, u)]) ?_ ⟨rfl, rfl, rfl, trivial⟩
  refine i_iload_n hC dJ3_checkIndex_8e157_0 rfl ?_
  refine i_if_lt hC (tgt := 9) dJ3_checkIndex_8e157_1 (by decide) (fun z9 => absurd z9 (nI_pos (by omega))) (fun _ => ?_)
  refine i_iload_n hC dJ3_checkIndex_8e157_4 rfl ?_
  refine i_iload_n hC dJ3_checkIndex_8e157_5 rfl ?_
  refine i_icmp_lt hC (tgt := 16) dJ3_checkIndex_8e157_6 (by decide) (fun _ => ?_) (fun z9 => absurd (nI_lt hi hn) z9)
  refine i_iload_n hC dJ3_checkIndex_8e157_16 rfl ?_
  exact q_iret (fun _ h => h) hC dJ3_checkIndex_8e157_17)
set_option maxHeartbeats 4000000 in
set_option maxRecDepth 100000 in
theorem e_J0_checkIndex (hst : Stb v) {i n : Nat} (hi : i < n) (hn : n < 2 ^ 31) : ConG 0 v l yJ0_checkIndex_df160 cJ0_checkIndex_df160 2 none 2 34 [.int (nI i), .int (nI n)] (WDa v da S) none (WDa v da S) := con_ofA (by decide) hst (Nat.le_of_ble_eq_true rfl) (fun p e s m args below meth c hC => by
  refine Mj.to (lv2 := [(0, .int (nI i)), (1, .int (nI n))]) ?_ ⟨rfl, rfl, trivial⟩
  refine i_iload_n hC dJ0_checkIndex_df160_0 rfl ?_
  refine i_iload_n hC dJ0_checkIndex_df160_1 rfl ?_
  refine i_form hC mz_699 dJ0_checkIndex_df160_2 (fun u hu => ?_)
  refine g_callS (q2 := 0) hC mS_J0_1059 (e_J3_checkIndex (da := da) (S := S) hC.2.2.2.2.2.2.2.1 hi hn hu) (fun _ h => h) (fun _ h => h) rfl rfl rfl ⟨Nat.le_of_ble_eq_true rfl, Nat.le_of_ble_eq_true rfl⟩ (Nat.le_of_ble_eq_true rfl) dJ0_checkIndex_df160_5 ?_
  refine i_pop hC dJ0_checkIndex_df160_8 rfl ?_
  exact q_vret (fun _ h => h) hC dJ0_checkIndex_df160_9)
set_option maxHeartbeats 4000000 in
set_option maxRecDepth 100000 in
theorem c_J5_charAt (hst : Stb v) (hb : b < 2) {i k : Nat} (hk : S (13 + 2 * b) 0 = nI k) (hi : i < k) (hkm : k ≤ capN S (13 + 2 * b)) (hm : capN S (13 + 2 * b) ≤ 160) : ConG 0 v l yJ5_charAt_5068e cJ5_charAt_5068e 5 (some .char) 3 55 [.ref (eA v (pB b)), .int (nI i)] (WDa v da S) (some (.int ((((S (14 + 2 * b) i) &&& (255 : Int32)).toUInt32 % 65536).toInt32))) (WDa v da S) := con_ofA (by decide) hst (Nat.le_of_ble_eq_true rfl) (fun p e s m args below meth c hC => by
  refine Mj.to (lv2 := [(0, .ref (eA v (pB b))), (1, .int (nI i))]) ?_ ⟨rfl, rfl, trivial⟩
  have hmn : mn (nI k) (Int32.ofNat (capN S (13 + 2 * b))) = nI k := if_neg (nI_nlt hkm (by omega))
  refine i_aload_n hC dJ5_charAt_5068e_0 rfl ?_
  refine j_getK hC hb flb_22 dJ5_charAt_5068e_1 ?_
  refine i_istore_n hC dJ5_charAt_5068e_4 (by decide) ?_
  refine i_aload_n hC dJ5_charAt_5068e_5 rfl ?_
  refine j_getV hC hb flb_15 dJ5_charAt_5068e_6 ?_
  refine i_astore_n hC dJ5_charAt_5068e_9 (by decide) ?_
  refine i_aload_n hC dJ5_charAt_5068e_10 rfl ?_
  refine j_getI hC flb_79 (pl_B hb) (lay_B hb) rfl dJ5_charAt_5068e_11 ?_
  rw [hk]
  refine i_aload_n hC dJ5_charAt_5068e_14 rfl ?_
  refine j_vlen hC hb dJ5_charAt_5068e_15 ?_
  refine i_iload_n hC dJ5_charAt_5068e_16 rfl ?_
  refine i_ishr hC dJ5_charAt_5068e_17 ?_
  rw [sb_shr0]
  refine i_mmin hC mz_922 mz_161 mz_40 mz_162 ⟨Nat.le_of_ble_eq_true rfl, Nat.le_of_ble_eq_true rfl⟩ dJ5_charAt_5068e_18 ?_
  rw [hmn]
  refine i_istore hC dJ5_charAt_5068e_21 (by decide) ?_
  refine i_iload_n hC dJ5_charAt_5068e_23 rfl ?_
  refine i_iload hC dJ5_charAt_5068e_24 rfl ?_
  refine g_callS (q2 := 0) hC mS_J5_144 (e_J0_checkIndex (da := da) (S := S) hC.2.2.2.2.2.2.2.1 hi (by omega)) (fun _ h => h) (fun _ h => h) rfl rfl rfl ⟨Nat.le_of_ble_eq_true rfl, Nat.le_of_ble_eq_true rfl⟩ (Nat.le_of_ble_eq_true rfl) dJ5_charAt_5068e_26 ?_
  refine i_iload_n hC dJ5_charAt_5068e_29 rfl ?_
  refine i_if_ne hC (tgt := 42) dJ5_charAt_5068e_30 (by decide) (fun z9 => absurd z9 (fun h => h rfl)) (fun _ => ?_)
  refine i_aload_n hC dJ5_charAt_5068e_33 rfl ?_
  refine i_iload_n hC dJ5_charAt_5068e_34 rfl ?_
  refine j_vld hC hb (vp_in_nI (by omega) (by omega)) dJ5_charAt_5068e_35 ?_
  rw [nI_clamp (by omega)]
  refine i_sipush hC (x := (255 : Int32)) dJ5_charAt_5068e_36 (by decide) ?_
  refine i_iand hC dJ5_charAt_5068e_39 ?_
  refine i_i2c hC dJ5_charAt_5068e_40 ?_
  exact q_zret (fun _ h => h) hC dJ5_charAt_5068e_41 (pk_nc _))
def setl (S : Mem) (b : Nat) : Mem := if S (13 + 2 * b) 0 ≤ 0 then up S (13 + 2 * b) 0 0 else up (up S (13 + 2 * b) 2 1) (13 + 2 * b) 0 0

set_option maxHeartbeats 4000000 in
set_option maxRecDepth 100000 in
theorem c_J5_setLength (hst : Stb v) (hb : b < 2) (hc0 : 0 ≤ S (13 + 2 * b) 0) (hm : capN S (13 + 2 * b) ≤ 160) : ConG 0 v l yJ5_setLength_d00df cJ5_setLength_d00df 2 none 5 102 [.ref (eA v (pB b)), .int (nI 0)] (WDa v da S) none (WD v (setl S b)) := con_ofA (by decide) hst (Nat.le_of_ble_eq_true rfl) (fun p e s m args below meth c hC => by
  refine Mj.to (lv2 := [(0, .ref (eA v (pB b))), (1, .int (nI 0))]) ?_ ⟨rfl, rfl, trivial⟩
  refine i_iload_n hC dJ5_setLength_d00df_0 rfl ?_
  refine i_if_ge hC (tgt := 13) dJ5_setLength_d00df_1 (by decide) (fun _ => ?_) (fun z9 => absurd (by decide) z9)
  refine i_aload_n hC dJ5_setLength_d00df_13 rfl ?_
  refine i_iload_n hC dJ5_setLength_d00df_14 rfl ?_
  refine g_callU (q2 := 0) hC hb mU_J5_100 (c_J5_ens0 (q := 0) hC.2.2.2.2.2.2.2.1 hb (by decide) hm (Nat.zero_le _)) (fun _ h => h) rfl rfl rfl ⟨Nat.le_of_ble_eq_true rfl, Nat.le_of_ble_eq_true rfl⟩ (Nat.le_of_ble_eq_true rfl) dJ5_setLength_d00df_15 ?_
  refine ex_da (fun da2 => ?_)
  rw [ens_0 (Nat.zero_le _)]
  refine i_aload_n hC dJ5_setLength_d00df_18 rfl ?_
  refine j_getI hC flb_79 (pl_B hb) (lay_B hb) rfl dJ5_setLength_d00df_19 ?_
  refine i_iload_n hC dJ5_setLength_d00df_22 rfl ?_
  refine i_icmp_ge hC (tgt := 63) dJ5_setLength_d00df_23 (by decide) (fun _ => ?_) (fun z9 => absurd (hc0) z9)
  refine i_aload_n hC dJ5_setLength_d00df_63 rfl ?_
  refine j_getI hC flb_79 (pl_B hb) (lay_B hb) rfl dJ5_setLength_d00df_64 ?_
  refine i_iload_n hC dJ5_setLength_d00df_67 rfl ?_
  by_cases hle : S (13 + 2 * b) 0 ≤ 0
  · refine i_icmp_le hC (tgt := 76) dJ5_setLength_d00df_68 (by decide) (fun _ => ?_) (fun z9 => absurd (hle) z9)
    refine i_aload_n hC dJ5_setLength_d00df_76 rfl ?_
    refine i_iload_n hC dJ5_setLength_d00df_77 rfl ?_
    refine j_putI hC flb_79 (pl_B hb) (lay_B hb) rfl (bk_B (by decide) hb) (nf_int _) dJ5_setLength_d00df_78 ?_
    exact q_vret (fun H h => by unfold setl; rw [if_pos hle]; exact ⟨_, h⟩) hC dJ5_setLength_d00df_81
  · refine i_icmp_le hC (tgt := 76) dJ5_setLength_d00df_68 (by decide) (fun z9 => absurd z9 (hle)) (fun _ => ?_)
    refine i_aload_n hC dJ5_setLength_d00df_71 rfl ?_
    refine i_iconst hC (x := (1 : Int32)) dJ5_setLength_d00df_72 (by decide) ?_
    refine j_putI hC flb_73 (pl_B hb) (lay_B hb) rfl (bk_B (by decide) hb) (isb_z (by decide)) dJ5_setLength_d00df_73 ?_
    refine i_aload_n hC dJ5_setLength_d00df_76 rfl ?_
    refine i_iload_n hC dJ5_setLength_d00df_77 rfl ?_
    refine j_putI hC flb_79 (pl_B hb) (lay_B hb) rfl (bk_B (by decide) hb) (nf_int _) dJ5_setLength_d00df_78 ?_
    exact q_vret (fun H h => by unfold setl; rw [if_neg hle]; exact ⟨_, h⟩) hC dJ5_setLength_d00df_81)
def appC (S : Mem) (b k : Nat) (x : Int32) : Mem := up (up (ens S b (k + 1)) (13 + 2 * b) 0 (nI (k + 1))) (14 + 2 * b) k x.toInt8.toInt32

set_option maxHeartbeats 4000000 in
set_option maxRecDepth 100000 in
theorem c_J5_appC (hst : Stb v) (hb : b < 2) {k : Nat} {x : Int32} (hx : x ≤ 255) (hk : S (13 + 2 * b) 0 = nI k) (hk2 : k ≤ 900) (hm : capN S (13 + 2 * b) ≤ 160) (hN0 : ¬ k + 1 ≤ capN S (13 + 2 * b) → sb_cap (k + 1) (capN S (13 + 2 * b)) ≤ 160) (hf : fitB S b) : ConG 1 v l yJ5_append_3fe6f cJ5_append_3fe6f 2 (some (.object "java/lang/AbstractStringBuilder")) 5 102 [.ref (eA v (pB b)), .int x] (WDa v da S) (some (.ref (eA v (pB b)))) (WD v (appC S b k x)) := con_ofA (by decide) hst (Nat.le_of_ble_eq_true rfl) (fun p e s m args below meth c hC => by
  refine Mj.to (lv2 := [(0, .ref (eA v (pB b))), (1, .int x)]) ?_ ⟨rfl, rfl, trivial⟩
  have hcg := sb_cap_ge (k + 1) (capN S (13 + 2 * b))
  have hcl : sb_cap (k + 1) (capN S (13 + 2 * b)) ≤ 160 := by
    by_cases h9 : k + 1 ≤ capN S (13 + 2 * b)
    · unfold sb_cap; rw [if_pos h9]; exact hm
    · exact hN0 h9
  have hcu : capN (up (ens S b (k + 1)) (13 + 2 * b) 0 (nI (k + 1))) (13 + 2 * b) = sb_cap (k + 1) (capN S (13 + 2 * b)) := by rw [cap_up (by omega), ens_cap hb hN0]
  refine i_aload_n hC dJ5_append_3fe6f_0 rfl ?_
  refine i_aload_n hC dJ5_append_3fe6f_1 rfl ?_
  refine j_getI hC flb_79 (pl_B hb) (lay_B hb) rfl dJ5_append_3fe6f_2 ?_
  rw [hk]
  refine i_iconst hC (x := (1 : Int32)) dJ5_append_3fe6f_5 (by decide) ?_
  refine i_iadd hC dJ5_append_3fe6f_6 ?_
  rw [nI_1]
  refine g_callU (q2 := 0) hC hb mU_J5_100 (c_J5_ens1 (q := (k + 1)) hC.2.2.2.2.2.2.2.1 hb (by omega) hm hN0 hf) (fun _ h => h) rfl rfl rfl ⟨Nat.le_of_ble_eq_true rfl, Nat.le_of_ble_eq_true rfl⟩ (Nat.le_of_ble_eq_true rfl) dJ5_append_3fe6f_7 ?_
  refine ex_da (fun da2 => ?_)
  refine i_aload_n hC dJ5_append_3fe6f_10 rfl ?_
  refine g_callU (q2 := 0) hC hb mU_J5_83 (c_J5_isLatin1 hC.2.2.2.2.2.2.2.1 hb) (fun _ h => h) rfl rfl rfl ⟨Nat.le_of_ble_eq_true rfl, Nat.le_of_ble_eq_true rfl⟩ (Nat.le_of_ble_eq_true rfl) dJ5_append_3fe6f_11 ?_
  refine i_if_eq hC (tgt := 45) dJ5_append_3fe6f_14 (by decide) (fun z9 => absurd z9 (by decide)) (fun _ => ?_)
  refine i_iload_n hC dJ5_append_3fe6f_17 rfl ?_
  refine g_callS (q2 := 0) hC mS_J5_191 (c_J1_canEncode (da := da2) (S := (ens S b (k + 1))) hC.2.2.2.2.2.2.2.1 hx) (fun _ h => h) (fun _ h => h) rfl rfl rfl ⟨Nat.le_of_ble_eq_true rfl, Nat.le_of_ble_eq_true rfl⟩ (Nat.le_of_ble_eq_true rfl) dJ5_append_3fe6f_18 ?_
  refine i_if_eq hC (tgt := 45) dJ5_append_3fe6f_21 (by decide) (fun z9 => absurd z9 (by decide)) (fun _ => ?_)
  refine i_aload_n hC dJ5_append_3fe6f_24 rfl ?_
  refine j_getV hC hb flb_15 dJ5_append_3fe6f_25 ?_
  refine i_aload_n hC dJ5_append_3fe6f_28 rfl ?_
  refine i_dup hC dJ5_append_3fe6f_29 rfl ?_
  refine j_getI hC flb_79 (pl_B hb) (lay_B hb) rfl dJ5_append_3fe6f_30 ?_
  rw [ens_cnt (by decide), hk]
  refine i_dup_x1 hC dJ5_append_3fe6f_33 rfl rfl ?_
  refine i_iconst hC (x := (1 : Int32)) dJ5_append_3fe6f_34 (by decide) ?_
  refine i_iadd hC dJ5_append_3fe6f_35 ?_
  rw [nI_1]
  refine j_putI hC flb_79 (pl_B hb) (lay_B hb) rfl (bk_B (by decide) hb) (nf_int _) dJ5_append_3fe6f_36 ?_
  refine i_iload_n hC dJ5_append_3fe6f_39 rfl ?_
  refine i_i2b hC dJ5_append_3fe6f_40 ?_
  refine j_vst hC hb (vp_in_nI (by rw [hcu]; omega) (by rw [hcu]; omega)) dJ5_append_3fe6f_41 ?_
  rw [nI_clamp (by omega), pk_vb]
  refine i_goto hC (tgt := 75) dJ5_append_3fe6f_42 (by decide) ?_
  refine i_aload_n hC dJ5_append_3fe6f_75 rfl ?_
  exact q_aret (fun H h => ⟨_, h⟩) hC (isR_r _) dJ5_append_3fe6f_76)
end JDK3
