/-! ===== the builder's methods, 5 ===== -/
section JDK5
variable {v : EV} {l : Launch} {da : Nat → Nat} {S : Mem} {b : Nat}
def appI (S : Mem) (b k w : Nat) : Mem := up (gcs b (w + 1) w (k + sb_dg w) (ens S b (k + sb_dg w))) (13 + 2 * b) 0 (nI (k + sb_dg w))

set_option maxHeartbeats 4000000 in
set_option maxRecDepth 100000 in
theorem c_J5_appI (hst : Stb v) (hb : b < 2) {k w : Nat} (hw : w < 2 ^ 31) (hk : S (13 + 2 * b) 0 = nI k) (hk2 : k ≤ 900) (hm : capN S (13 + 2 * b) ≤ 160) (hN0 : ¬ k + sb_dg w ≤ capN S (13 + 2 * b) → sb_cap (k + sb_dg w) (capN S (13 + 2 * b)) ≤ 160) (hf : fitB S b) : ConG 1 v l yJ5_append_c97b9 cJ5_append_c97b9 4 (some (.object "java/lang/AbstractStringBuilder")) 5 102 [.ref (eA v (pB b)), .int (nI w)] (WDa v da S) (some (.ref (eA v (pB b)))) (WD v (appI S b k w)) := con_ofA (by decide) hst (Nat.le_of_ble_eq_true rfl) (fun p e s m args below meth c hC => by
  refine Mj.to (lv2 := [(0, .ref (eA v (pB b))), (1, .int (nI w))]) ?_ ⟨rfl, rfl, trivial⟩
  have hdg := sb_dg_in w
  have hcl : sb_cap (k + sb_dg w) (capN S (13 + 2 * b)) ≤ 160 := by
    by_cases h9 : k + sb_dg w ≤ capN S (13 + 2 * b)
    · unfold sb_cap; rw [if_pos h9]; exact hm
    · exact hN0 h9
  refine i_aload_n hC dJ5_append_c97b9_0 rfl ?_
  refine j_getI hC flb_79 (pl_B hb) (lay_B hb) rfl dJ5_append_c97b9_1 ?_
  rw [hk]
  refine i_istore_n hC dJ5_append_c97b9_4 (by decide) ?_
  refine i_iload_n hC dJ5_append_c97b9_5 rfl ?_
  refine i_iload_n hC dJ5_append_c97b9_6 rfl ?_
  refine g_callS (q2 := 1) hC mS_J5_245 (c_J6_stringSize (da := da) (S := S) hC.2.2.2.2.2.2.2.1 hw) (fun _ h => h) (fun _ h => h) rfl rfl rfl ⟨Nat.le_of_ble_eq_true rfl, Nat.le_of_ble_eq_true rfl⟩ (Nat.le_of_ble_eq_true rfl) dJ5_append_c97b9_7 ?_
  refine i_iadd hC dJ5_append_c97b9_10 ?_
  rw [nI_add]
  refine i_istore_n hC dJ5_append_c97b9_11 (by decide) ?_
  refine i_aload_n hC dJ5_append_c97b9_12 rfl ?_
  refine i_iload_n hC dJ5_append_c97b9_13 rfl ?_
  refine g_callU (q2 := 0) hC hb mU_J5_100 (c_J5_ens1 (q := (k + sb_dg w)) hC.2.2.2.2.2.2.2.1 hb (by omega) hm hN0 hf) (fun _ h => h) rfl rfl rfl ⟨Nat.le_of_ble_eq_true rfl, Nat.le_of_ble_eq_true rfl⟩ (Nat.le_of_ble_eq_true rfl) dJ5_append_c97b9_14 ?_
  refine ex_da (fun da2 => ?_)
  refine i_aload_n hC dJ5_append_c97b9_17 rfl ?_
  refine g_callU (q2 := 0) hC hb mU_J5_83 (c_J5_isLatin1 hC.2.2.2.2.2.2.2.1 hb) (fun _ h => h) rfl rfl rfl ⟨Nat.le_of_ble_eq_true rfl, Nat.le_of_ble_eq_true rfl⟩ (Nat.le_of_ble_eq_true rfl) dJ5_append_c97b9_18 ?_
  refine i_if_eq hC (tgt := 37) dJ5_append_c97b9_21 (by decide) (fun z9 => absurd z9 (by decide)) (fun _ => ?_)
  refine i_iload_n hC dJ5_append_c97b9_24 rfl ?_
  refine i_iload_n hC dJ5_append_c97b9_25 rfl ?_
  refine i_aload_n hC dJ5_append_c97b9_26 rfl ?_
  refine j_getV hC hb flb_15 dJ5_append_c97b9_27 ?_
  refine g_callS (q2 := 0) hC mS_J5_248 (c_J6_getChars (da := da2) (S := (ens S b (k + sb_dg w))) (pp := k + sb_dg w) hC.2.2.2.2.2.2.2.1 hb hw (by omega) (by rw [ens_cap hb hN0]; exact sb_cap_ge _ _) (by rw [ens_cap hb hN0]; exact hcl)) (fun _ h => h) (fun _ h => h) rfl rfl rfl ⟨Nat.le_of_ble_eq_true rfl, Nat.le_of_ble_eq_true rfl⟩ (Nat.le_of_ble_eq_true rfl) dJ5_append_c97b9_30 ?_
  refine i_pop hC dJ5_append_c97b9_33 rfl ?_
  refine i_goto hC (tgt := 48) dJ5_append_c97b9_34 (by decide) ?_
  refine i_aload_n hC dJ5_append_c97b9_48 rfl ?_
  refine i_iload_n hC dJ5_append_c97b9_49 rfl ?_
  refine j_putI hC flb_79 (pl_B hb) (lay_B hb) rfl (bk_B (by decide) hb) (nf_int _) dJ5_append_c97b9_50 ?_
  refine i_aload_n hC dJ5_append_c97b9_53 rfl ?_
  exact q_aret (fun H h => ⟨_, h⟩) hC (isR_r _) dJ5_append_c97b9_54)
set_option maxHeartbeats 4000000 in
set_option maxRecDepth 100000 in
theorem c_SB_length (hst : Stb v) (hb : b < 2)   : ConG 0 v l yJ4_length_8abf5 cJ4_length_8abf5 1 (some .int) 2 32 [.ref (eA v (pB b))] (WD v S) (some (.int (S (13 + 2 * b) 0))) (WD v S) := con_ofG (S := S) (by decide) hst (Nat.le_of_ble_eq_true rfl) (fun _ h => h) (fun da p e s m args below meth c hC => by
  refine Mj.to (lv2 := [(0, .ref (eA v (pB b)))]) ?_ ⟨rfl, trivial⟩
  refine Mw.mono (Wd' := WDa v da) (fun _ h => h.1) ?_
  refine i_aload_n hC dJ4_length_8abf5_0 rfl ?_
  refine g_callP (q2 := 0) hC hb mP_J4_343 (c_J5_length hC.2.2.2.2.2.2.2.1 hb) (fun _ h => h) rfl rfl rfl ⟨Nat.le_of_ble_eq_true rfl, Nat.le_of_ble_eq_true rfl⟩ (Nat.le_of_ble_eq_true rfl) dJ4_length_8abf5_1 ?_
  exact q_iret (fun H h => ⟨_, h⟩) hC dJ4_length_8abf5_4)
set_option maxHeartbeats 4000000 in
set_option maxRecDepth 100000 in
theorem c_SB_charAt (hst : Stb v) (hb : b < 2) {i k : Nat} (hk : S (13 + 2 * b) 0 = nI k) (hi : i < k) (hkm : k ≤ capN S (13 + 2 * b)) (hm : capN S (13 + 2 * b) ≤ 160) : ConG 0 v l yJ4_charAt_5068e cJ4_charAt_5068e 2 (some .char) 4 79 [.ref (eA v (pB b)), .int (nI i)] (WD v S) (some (.int ((((S (14 + 2 * b) i) &&& (255 : Int32)).toUInt32 % 65536).toInt32))) (WD v S) := con_ofG (S := S) (by decide) hst (Nat.le_of_ble_eq_true rfl) (fun _ h => h) (fun da p e s m args below meth c hC => by
  refine Mj.to (lv2 := [(0, .ref (eA v (pB b))), (1, .int (nI i))]) ?_ ⟨rfl, rfl, trivial⟩
  refine Mw.mono (Wd' := WDa v da) (fun _ h => h.1) ?_
  refine i_aload_n hC dJ4_charAt_5068e_0 rfl ?_
  refine i_iload_n hC dJ4_charAt_5068e_1 rfl ?_
  refine g_callP (q2 := 0) hC hb mP_J4_329 (c_J5_charAt hC.2.2.2.2.2.2.2.1 hb hk hi hkm hm) (fun _ h => h) rfl rfl rfl ⟨Nat.le_of_ble_eq_true rfl, Nat.le_of_ble_eq_true rfl⟩ (Nat.le_of_ble_eq_true rfl) dJ4_charAt_5068e_2 ?_
  exact q_zret (fun H h => ⟨_, h⟩) hC dJ4_charAt_5068e_5 (pk_nc _))
set_option maxHeartbeats 4000000 in
set_option maxRecDepth 100000 in
theorem c_SB_setLength (hst : Stb v) (hb : b < 2)  (hc0 : 0 ≤ S (13 + 2 * b) 0) (hm : capN S (13 + 2 * b) ≤ 160) : ConG 0 v l yJ4_setLength_d00df cJ4_setLength_d00df 2 none 6 123 [.ref (eA v (pB b)), .int (nI 0)] (WD v S) (none) (WD v (setl S b)) := con_ofG (S := S) (by decide) hst (Nat.le_of_ble_eq_true rfl) (fun _ h => h) (fun da p e s m args below meth c hC => by
  refine Mj.to (lv2 := [(0, .ref (eA v (pB b))), (1, .int (nI 0))]) ?_ ⟨rfl, rfl, trivial⟩
  refine Mw.mono (Wd' := WDa v da) (fun _ h => h.1) ?_
  refine i_aload_n hC dJ4_setLength_d00df_0 rfl ?_
  refine i_iload_n hC dJ4_setLength_d00df_1 rfl ?_
  refine g_callP (q2 := 0) hC hb mP_J4_333 (c_J5_setLength hC.2.2.2.2.2.2.2.1 hb hc0 hm) (fun _ h => h) rfl rfl rfl ⟨Nat.le_of_ble_eq_true rfl, Nat.le_of_ble_eq_true rfl⟩ (Nat.le_of_ble_eq_true rfl) dJ4_setLength_d00df_2 ?_
  exact q_vret (fun H h => h) hC dJ4_setLength_d00df_5)
set_option maxHeartbeats 4000000 in
set_option maxRecDepth 100000 in
theorem c_SB_appC (hst : Stb v) (hb : b < 2) {k : Nat} {x : Int32} (hx : x ≤ 255) (hk : S (13 + 2 * b) 0 = nI k) (hk2 : k ≤ 900) (hm : capN S (13 + 2 * b) ≤ 160) (hN0 : ¬ k + 1 ≤ capN S (13 + 2 * b) → sb_cap (k + 1) (capN S (13 + 2 * b)) ≤ 160) (hf : fitB S b) : ConG 1 v l yJ4_append_cf468 cJ4_append_cf468 2 (some (.object "java/lang/StringBuilder")) 6 123 [.ref (eA v (pB b)), .int x] (WD v S) (some (.ref (eA v (pB b)))) (WD v (appC S b k x)) := con_ofG (S := S) (by decide) hst (Nat.le_of_ble_eq_true rfl) (fun _ h => h) (fun da p e s m args below meth c hC => by
  refine Mj.to (lv2 := [(0, .ref (eA v (pB b))), (1, .int x)]) ?_ ⟨rfl, rfl, trivial⟩
  refine Mw.mono (Wd' := WDa v da) (fun _ h => h.1) ?_
  refine i_aload_n hC dJ4_append_cf468_0 rfl ?_
  refine i_iload_n hC dJ4_append_cf468_1 rfl ?_
  refine g_callP (q2 := 0) hC hb mP_J4_50 (c_J5_appC hC.2.2.2.2.2.2.2.1 hb hx hk hk2 hm hN0 hf) (fun _ h => h) rfl rfl rfl ⟨Nat.le_of_ble_eq_true rfl, Nat.le_of_ble_eq_true rfl⟩ (Nat.le_of_ble_eq_true rfl) dJ4_append_cf468_2 ?_
  refine i_pop hC dJ4_append_cf468_5 rfl ?_
  refine i_aload_n hC dJ4_append_cf468_6 rfl ?_
  exact q_aret (fun H h => h) hC (isR_r _) dJ4_append_cf468_7)
set_option maxHeartbeats 4000000 in
set_option maxRecDepth 100000 in
theorem c_SB_appI (hst : Stb v) (hb : b < 2) {k w : Nat} (hw : w < 2 ^ 31) (hk : S (13 + 2 * b) 0 = nI k) (hk2 : k ≤ 900) (hm : capN S (13 + 2 * b) ≤ 160) (hN0 : ¬ k + sb_dg w ≤ capN S (13 + 2 * b) → sb_cap (k + sb_dg w) (capN S (13 + 2 * b)) ≤ 160) (hf : fitB S b) : ConG 1 v l yJ4_append_bf812 cJ4_append_bf812 2 (some (.object "java/lang/StringBuilder")) 6 125 [.ref (eA v (pB b)), .int (nI w)] (WD v S) (some (.ref (eA v (pB b)))) (WD v (appI S b k w)) := con_ofG (S := S) (by decide) hst (Nat.le_of_ble_eq_true rfl) (fun _ h => h) (fun da p e s m args below meth c hC => by
  refine Mj.to (lv2 := [(0, .ref (eA v (pB b))), (1, .int (nI w))]) ?_ ⟨rfl, rfl, trivial⟩
  refine Mw.mono (Wd' := WDa v da) (fun _ h => h.1) ?_
  refine i_aload_n hC dJ4_append_bf812_0 rfl ?_
  refine i_iload_n hC dJ4_append_bf812_1 rfl ?_
  refine g_callP (q2 := 0) hC hb mP_J4_53 (c_J5_appI hC.2.2.2.2.2.2.2.1 hb hw hk hk2 hm hN0 hf) (fun _ h => h) rfl rfl rfl ⟨Nat.le_of_ble_eq_true rfl, Nat.le_of_ble_eq_true rfl⟩ (Nat.le_of_ble_eq_true rfl) dJ4_append_bf812_2 ?_
  refine i_pop hC dJ4_append_bf812_5 rfl ?_
  refine i_aload_n hC dJ4_append_bf812_6 rfl ?_
  exact q_aret (fun H h => h) hC (isR_r _) dJ4_append_bf812_7)
end JDK5
