section STR1
variable {v : EV} {l : Launch} {da : Nat → Nat} {S : Mem} {b : Nat}
/-- a row of bytes, whole -/
def setB (S : Mem) (b : Nat) (g : Nat → Int32) : Mem := fun b' j => if b' = 14 + 2 * b then g j else S b' j
theorem wsL_setB (hb : b < 2) {g : Nat → Int32} : wsL v da (setB S b g) = wsL v da S := by
  refine List.map_congr_left fun p hp => ?_
  have hq := List.mem_range.mp hp
  refine congrArg (fun z => (eA v p, z)) (ce_ext (fun q hm => ?_) (fun _ _ => rfl))
  have h2 : ∀ p, p < layN → (srcs (layF p)).all (fun z => !(z.1 == 14) && !(z.1 == 16)) = true := by decide +kernel
  have h3 := List.all_eq_true.mp (h2 p hq) q hm
  simp only [Bool.and_eq_true, Bool.not_eq_true', beq_eq_false_iff_ne, ne_eq] at h3
  exact if_neg fun z => by omega
theorem wsW_setB (hb : b < 2) {g : Nat → Int32} : (wsW v da S).set (layN + b) (da b, .inl (eC v 3, capN S (13 + 2 * b), .inl g)) = wsW v da (setB S b g) := by
  unfold wsW
  rw [List.set_append_right _ _ (by rw [wsL_len]; omega), wsL_len, Nat.add_sub_cancel_left, wsL_setB hb]
  refine congrArg (fun z => wsL v da S ++ z) ?_
  have e1 : capN (setB S b g) 13 = capN S 13 := by unfold capN setB; rw [if_neg (by omega)]
  have e2 : capN (setB S b g) 15 = capN S 15 := by unfold capN setB; rw [if_neg (by omega)]
  match b, hb with
  | 0, _ =>
    show [(da 0, _), (da 1, _)] = [(da 0, _), (da 1, _)]
    rw [e1, e2, show setB S 0 g 14 = g from funext fun k => if_pos rfl, show setB S 0 g 16 = S 16 from funext fun k => if_neg (by decide)]
  | 1, _ =>
    show [(da 0, _), (da 1, _)] = [(da 0, _), (da 1, _)]
    rw [e1, e2, show setB S 1 g 14 = S 14 from funext fun k => if_neg (by decide), show setB S 1 g 16 = g from funext fun k => if_pos rfl]
  | n + 2, h => omega
/-- a text's bytes are bytes -/
def yfit (q : SY) : Prop := ∀ i, i < q.2.2.1 → fits .byte (.int (q.2.2.2 i)) = true
theorem j_copyY {p : Program} {e : Env} {R : Room} {s : State} {m : MethodId} {args : Array Value} {below : List Frame} {meth : Method} {c : Code} {own : String} {cc : ByteArray} {nL : Nat} {ret : Option FieldType} {Q : State → Prop} {qb pc : Nat} {lv : List (Nat × Value)} {st : List Value} (hC : Cx v p l e s m args meth c own cc nL ret) {q : SY} {idx k : Nat} (hb : b < 2) (hq : q ∈ eY v) (w1 : Cond.methodLink own idx arraycopyName ∈ TW) (w2 : Cond.native arraycopyName ∈ TW) (w3 : Cond.static arraycopyName ∈ TW) (w4 : Cond.initialized "java/lang/System" ∈ TW) (hk : k < 2 ^ 31) (hn : q.2.2.1 < 2 ^ 31) (h5 : k + q.2.2.1 ≤ capN S (13 + 2 * b)) (hfit : yfit q)
    (hfr : 1 ≤ R.frames ∧ (st.map fun v => v.category).sum + 18 ≤ R.locals) (hdg : decode cc pc = .ok (.invokestatic idx, 3))
    (kk : Mw (WDa v da) v p l e R s m args below meth c nL Q qb (setB S b (va_cpy q.2.2.2 (S (14 + 2 * b)) 0 k q.2.2.1)) (pc + 3) lv st) : Mw (WDa v da) v p l e R s m args below meth c nL Q qb S pc lv (.int (nI q.2.2.1) :: .int (nI k) :: .ref (da b) :: .int 0 :: .ref q.2.1 :: st) := by
  intro H locs ls cells slots hbu hW hS hl
  refine vk_copyt hC.1 hC.2.1 (hC.2.2.1.trans hl.1.symm) hC.2.2.2.1 (hC.2.2.2.2.1 _ w1) (hC.2.2.2.2.1 _ w2) (hC.2.2.2.2.1 _ w3) (hC.2.2.2.2.1 _ w4) hC.2.2.2.2.2.1 hW.1 hW.2 hS (eF_Y hC.2.2.2.2.2.2.1 q hq).2.2.2 (layN + b) 3 (wsW_dy hb) (tysOf_at v (by decide)) (by decide) (nI_pos hk) (nI_pos hn) (by rw [sb_cl0, nI_clamp hn]; omega) (by rw [nI_clamp hk, nI_clamp hn]; exact h5) (by rw [sb_cl0, nI_clamp hn]; intro i hi; rw [Nat.zero_add]; exact hfit i hi) hfr.1 hfr.2 hdg fun H1 locs1 hP1 hD1 hS1 => ?_
  rw [nI_clamp hn, nI_clamp hk, sb_cl0, wsW_setB hb] at hP1 hD1
  exact kk H1 locs1 ls cells slots hbu ⟨hP1, hD1⟩ hS1 hl
set_option maxHeartbeats 4000000 in
set_option maxRecDepth 100000 in
theorem cs_coder (hst : Stb v) {q : SY} (hq : q ∈ eY v) : ConG 0 v l yJ0_coder_7d493 cJ0_coder_7d493 1 (some .byte) 1 12 [.ref q.1] (WDa v da S) (some (.int 0)) (WDa v da S) := con_ofA (by decide) hst (Nat.le_of_ble_eq_true rfl) (fun p e s m args below meth c hC => by
  refine Mj.to (lv2 := [(0, .ref q.1)]) ?_ ⟨rfl, trivial⟩
  refine i_compact hC mz_721 dJ0_coder_7d493_0 ?_
  refine i_if_eq hC (tgt := 13) dJ0_coder_7d493_3 (by decide) (fun z9 => absurd z9 (by decide)) (fun _ => ?_)
  refine i_aload_n hC dJ0_coder_7d493_6 rfl ?_
  refine i_ytC hC hq mz_826 dJ0_coder_7d493_7 ?_
  refine i_goto hC (tgt := 14) dJ0_coder_7d493_10 (by decide) ?_
  exact q_zret (fun _ h => h) hC dJ0_coder_7d493_14 (by decide))
set_option maxHeartbeats 4000000 in
set_option maxRecDepth 100000 in
theorem cs_length (hst : Stb v) {q : SY} (hq : q ∈ eY v) : ConG 0 v l yJ0_length_8abf5 cJ0_length_8abf5 1 (some .int) 2 32 [.ref q.1] (WDa v da S) (some (.int (nI q.2.2.1))) (WDa v da S) := con_ofA (by decide) hst (Nat.le_of_ble_eq_true rfl) (fun p e s m args below meth c hC => by
  refine Mj.to (lv2 := [(0, .ref q.1)]) ?_ ⟨rfl, trivial⟩
  refine i_aload_n hC dJ0_length_8abf5_0 rfl ?_
  refine i_ytV hC hq mz_825 dJ0_length_8abf5_1 ?_
  refine i_yvLen hC hq dJ0_length_8abf5_4 ?_
  refine i_aload_n hC dJ0_length_8abf5_5 rfl ?_
  refine g_callY (q2 := 0) hC hq rfl mY_J0_335 (cs_coder (da := da) (S := S) hC.2.2.2.2.2.2.2.1 hq) (fun _ h => h) (fun _ h => h) rfl rfl rfl ⟨Nat.le_of_ble_eq_true rfl, Nat.le_of_ble_eq_true rfl⟩ (Nat.le_of_ble_eq_true rfl) dJ0_length_8abf5_6 ?_
  refine i_ishr hC dJ0_length_8abf5_9 ?_
  rw [sb_shr0]
  exact q_iret (fun _ h => h) hC dJ0_length_8abf5_10)
set_option maxHeartbeats 4000000 in
set_option maxRecDepth 100000 in
theorem cs_getBytes (hst : Stb v) (hb : b < 2) {q : SY} (hq : q ∈ eY v) {k : Nat} (hk : k < 2 ^ 31) (hn : q.2.2.1 < 2 ^ 31) (h5 : k + q.2.2.1 ≤ capN S (13 + 2 * b)) (hfit : yfit q) : ConG 0 v l yJ0_getBytes_840e7 cJ0_getBytes_840e7 4 none 2 40 [.ref q.1, .ref (da b), .int (nI k), .int 0] (WDa v da S) none (WDa v da (setB S b (va_cpy q.2.2.2 (S (14 + 2 * b)) 0 k q.2.2.1))) := con_ofA (by decide) hst (Nat.le_of_ble_eq_true rfl) (fun p e s m args below meth c hC => by
  refine Mj.to (lv2 := [(0, .ref q.1), (1, .ref (da b)), (2, .int (nI k)), (3, .int (0 : Int32))]) ?_ ⟨rfl, rfl, rfl, rfl, trivial⟩
  refine i_aload_n hC dJ0_getBytes_840e7_0 rfl ?_
  refine g_callY (q2 := 0) hC hq rfl mY_J0_335 (cs_coder (da := da) (S := S) hC.2.2.2.2.2.2.2.1 hq) (fun _ h => h) (fun _ h => h) rfl rfl rfl ⟨Nat.le_of_ble_eq_true rfl, Nat.le_of_ble_eq_true rfl⟩ (Nat.le_of_ble_eq_true rfl) dJ0_getBytes_840e7_1 ?_
  refine i_iload_n hC dJ0_getBytes_840e7_4 rfl ?_
  refine i_icmp_ne hC (tgt := 28) dJ0_getBytes_840e7_5 (by decide) (fun z9 => absurd z9 (fun h => h rfl)) (fun _ => ?_)
  refine i_aload_n hC dJ0_getBytes_840e7_8 rfl ?_
  refine i_ytV hC hq mz_825 dJ0_getBytes_840e7_9 ?_
  refine i_iconst hC (x := (0 : Int32)) dJ0_getBytes_840e7_12 (by decide) ?_
  refine i_aload_n hC dJ0_getBytes_840e7_13 rfl ?_
  refine i_iload_n hC dJ0_getBytes_840e7_14 rfl ?_
  refine i_iload_n hC dJ0_getBytes_840e7_15 rfl ?_
  refine i_ishl hC dJ0_getBytes_840e7_16 ?_
  rw [sb_shl0]
  refine i_aload_n hC dJ0_getBytes_840e7_17 rfl ?_
  refine i_ytV hC hq mz_825 dJ0_getBytes_840e7_18 ?_
  refine i_yvLen hC hq dJ0_getBytes_840e7_21 ?_
  refine j_copyY hC hb hq mz_754 mz_681 mz_680 mz_43 hk hn h5 hfit ⟨Nat.le_of_ble_eq_true rfl, Nat.le_of_ble_eq_true rfl⟩ dJ0_getBytes_840e7_22 ?_
  refine i_goto hC (tgt := 43) dJ0_getBytes_840e7_25 (by decide) ?_
  exact q_vret (fun _ h => h) hC dJ0_getBytes_840e7_43)
set_option maxHeartbeats 4000000 in
set_option maxRecDepth 100000 in
theorem cs_inflate (hst : Stb v) (hb : b < 2) {q : SY} (hq : q ∈ eY v) : ConG 0 v l yJ5_inflateIfNeededFor_a7421 cJ5_inflateIfNeededFor_a7421 2 none 2 40 [.ref (eA v (pB b)), .ref q.1] (WDa v da S) none (WDa v da S) := con_ofA (by decide) hst (Nat.le_of_ble_eq_true rfl) (fun p e s m args below meth c hC => by
  refine Mj.to (lv2 := [(0, .ref (eA v (pB b))), (1, .ref q.1)]) ?_ ⟨rfl, rfl, trivial⟩
  refine i_compact hC mz_504 dJ5_inflateIfNeededFor_a7421_0 ?_
  refine i_if_eq hC (tgt := 21) dJ5_inflateIfNeededFor_a7421_3 (by decide) (fun z9 => absurd z9 (by decide)) (fun _ => ?_)
  refine i_aload_n hC dJ5_inflateIfNeededFor_a7421_6 rfl ?_
  refine j_getK hC hb flb_22 dJ5_inflateIfNeededFor_a7421_7 ?_
  refine i_aload_n hC dJ5_inflateIfNeededFor_a7421_10 rfl ?_
  refine g_callY (q2 := 0) hC hq rfl mY_J5_40 (cs_coder (da := da) (S := S) hC.2.2.2.2.2.2.2.1 hq) (fun _ h => h) (fun _ h => h) rfl rfl rfl ⟨Nat.le_of_ble_eq_true rfl, Nat.le_of_ble_eq_true rfl⟩ (Nat.le_of_ble_eq_true rfl) dJ5_inflateIfNeededFor_a7421_11 ?_
  refine i_icmp_eq hC (tgt := 21) dJ5_inflateIfNeededFor_a7421_14 (by decide) (fun _ => ?_) (fun z9 => absurd (rfl) z9)
  exact q_vret (fun _ h => h) hC dJ5_inflateIfNeededFor_a7421_21)
set_option maxHeartbeats 4000000 in
set_option maxRecDepth 100000 in
theorem cs_putStringAt (hst : Stb v) (hb : b < 2) {q : SY} (hq : q ∈ eY v) {k : Nat} (hk : k < 2 ^ 31) (hn : q.2.2.1 < 2 ^ 31) (h5 : k + q.2.2.1 ≤ capN S (13 + 2 * b)) (hfit : yfit q) : ConG 0 v l yJ5_putStringAt_47b60 cJ5_putStringAt_47b60 3 none 3 64 [.ref (eA v (pB b)), .int (nI k), .ref q.1] (WDa v da S) none (WDa v da (setB S b (va_cpy q.2.2.2 (S (14 + 2 * b)) 0 k q.2.2.1))) := con_ofA (by decide) hst (Nat.le_of_ble_eq_true rfl) (fun p e s m args below meth c hC => by
  refine Mj.to (lv2 := [(0, .ref (eA v (pB b))), (1, .int (nI k)), (2, .ref q.1)]) ?_ ⟨rfl, rfl, rfl, trivial⟩
  refine i_aload_n hC dJ5_putStringAt_47b60_0 rfl ?_
  refine i_aload_n hC dJ5_putStringAt_47b60_1 rfl ?_
  refine g_callU (q2 := 0) hC hb mU_J5_397 (cs_inflate hC.2.2.2.2.2.2.2.1 hb hq) (fun _ h => h) rfl rfl rfl ⟨Nat.le_of_ble_eq_true rfl, Nat.le_of_ble_eq_true rfl⟩ (Nat.le_of_ble_eq_true rfl) dJ5_putStringAt_47b60_2 ?_
  refine i_aload_n hC dJ5_putStringAt_47b60_5 rfl ?_
  refine i_aload_n hC dJ5_putStringAt_47b60_6 rfl ?_
  refine j_getV hC hb flb_15 dJ5_putStringAt_47b60_7 ?_
  refine i_iload_n hC dJ5_putStringAt_47b60_10 rfl ?_
  refine i_aload_n hC dJ5_putStringAt_47b60_11 rfl ?_
  refine j_getK hC hb flb_22 dJ5_putStringAt_47b60_12 ?_
  refine g_callY (q2 := 0) (Wd1 := WDa v da) (S1 := (setB S b (va_cpy q.2.2.2 (S (14 + 2 * b)) 0 k q.2.2.1))) hC hq rfl mY_J5_399 (cs_getBytes (da := da) (S := S) hC.2.2.2.2.2.2.2.1 hb hq hk hn h5 hfit) (fun _ h => h) (fun _ h => h) rfl rfl rfl ⟨Nat.le_of_ble_eq_true rfl, Nat.le_of_ble_eq_true rfl⟩ (Nat.le_of_ble_eq_true rfl) dJ5_putStringAt_47b60_15 ?_
  exact q_vret (fun _ h => h) hC dJ5_putStringAt_47b60_18)
/-- a builder with a text appended -/
def appY (S : Mem) (b k : Nat) (q : SY) : Mem := up (setB (ens S b (k + q.2.2.1)) b (va_cpy q.2.2.2 (ens S b (k + q.2.2.1) (14 + 2 * b)) 0 k q.2.2.1)) (13 + 2 * b) 0 (nI (k + q.2.2.1))

set_option maxHeartbeats 4000000 in
set_option maxRecDepth 100000 in
theorem cs_appY (hst : Stb v) (hb : b < 2) {q : SY} (hq : q ∈ eY v) {k : Nat} (hk : S (13 + 2 * b) 0 = nI k) (hk2 : k ≤ 900) (hn : q.2.2.1 ≤ 60) (hm : capN S (13 + 2 * b) ≤ 160) (hN0 : ¬ (k + q.2.2.1) ≤ capN S (13 + 2 * b) → sb_cap (k + q.2.2.1) (capN S (13 + 2 * b)) ≤ 160) (hf : fitB S b) (hfit : yfit q) : ConG 1 v l yJ5_append_cf1ce cJ5_append_cf1ce 3 (some (.object "java/lang/AbstractStringBuilder")) 5 102 [.ref (eA v (pB b)), .ref q.1] (WDa v da S) (some (.ref (eA v (pB b)))) (WD v (appY S b k q)) := con_ofA (by decide) hst (Nat.le_of_ble_eq_true rfl) (fun p e s m args below meth c hC => by
  refine Mj.to (lv2 := [(0, .ref (eA v (pB b))), (1, .ref q.1)]) ?_ ⟨rfl, rfl, trivial⟩
  refine i_aload_n hC dJ5_append_cf1ce_0 rfl ?_
  refine i_ifnnR hC (tgt := 9) dJ5_append_cf1ce_1 (by decide) ?_
  refine i_aload_n hC dJ5_append_cf1ce_9 rfl ?_
  refine g_callY (q2 := 1) hC hq rfl mY_J5_32 (cs_length (da := da) (S := S) hC.2.2.2.2.2.2.2.1 hq) (fun _ h => h) (fun _ h => h) rfl rfl rfl ⟨Nat.le_of_ble_eq_true rfl, Nat.le_of_ble_eq_true rfl⟩ (Nat.le_of_ble_eq_true rfl) dJ5_append_cf1ce_10 ?_
  refine i_istore_n hC dJ5_append_cf1ce_13 (by decide) ?_
  refine i_aload_n hC dJ5_append_cf1ce_14 rfl ?_
  refine i_aload_n hC dJ5_append_cf1ce_15 rfl ?_
  refine j_getI hC flb_79 (pl_B hb) (lay_B hb) rfl dJ5_append_cf1ce_16 ?_
  rw [hk]
  refine i_iload_n hC dJ5_append_cf1ce_19 rfl ?_
  refine i_iadd hC dJ5_append_cf1ce_20 ?_
  rw [nI_add]
  refine g_callU (q2 := 0) hC hb mU_J5_100 (c_J5_ens1 (q := (k + q.2.2.1)) hC.2.2.2.2.2.2.2.1 hb (by omega) hm hN0 hf) (fun _ h => h) rfl rfl rfl ⟨Nat.le_of_ble_eq_true rfl, Nat.le_of_ble_eq_true rfl⟩ (Nat.le_of_ble_eq_true rfl) dJ5_append_cf1ce_21 ?_
  refine ex_da (fun da2 => ?_)
  refine i_aload_n hC dJ5_append_cf1ce_24 rfl ?_
  refine i_aload_n hC dJ5_append_cf1ce_25 rfl ?_
  refine j_getI hC flb_79 (pl_B hb) (lay_B hb) rfl dJ5_append_cf1ce_26 ?_
  rw [ens_cnt (by decide), hk]
  refine i_aload_n hC dJ5_append_cf1ce_29 rfl ?_
  refine g_callU (q2 := 0) hC hb mU_J5_208 (cs_putStringAt (da := da2) (S := ens S b (k + q.2.2.1)) hC.2.2.2.2.2.2.2.1 hb hq (k := k) (by omega) (by omega) (by rw [ens_cap hb hN0]; exact sb_cap_ge _ _) hfit) (fun _ h => h) rfl rfl rfl ⟨Nat.le_of_ble_eq_true rfl, Nat.le_of_ble_eq_true rfl⟩ (Nat.le_of_ble_eq_true rfl) dJ5_append_cf1ce_30 ?_
  refine i_aload_n hC dJ5_append_cf1ce_33 rfl ?_
  refine i_dup hC dJ5_append_cf1ce_34 rfl ?_
  refine j_getI hC flb_79 (pl_B hb) (lay_B hb) rfl dJ5_append_cf1ce_35 ?_
  rw [show (setB (ens S b (k + q.2.2.1)) b (va_cpy q.2.2.2 (ens S b (k + q.2.2.1) (14 + 2 * b)) 0 k q.2.2.1)) (13 + 2 * b) 0 = nI k from (if_neg (by omega)).trans ((ens_cnt (by decide)).trans hk)]
  refine i_iload_n hC dJ5_append_cf1ce_38 rfl ?_
  refine i_iadd hC dJ5_append_cf1ce_39 ?_
  rw [nI_add]
  refine j_putI hC flb_79 (pl_B hb) (lay_B hb) rfl (bk_B (by decide) hb) (nf_int _) dJ5_append_cf1ce_40 ?_
  refine i_aload_n hC dJ5_append_cf1ce_43 rfl ?_
  exact q_aret (fun H h => ⟨_, h⟩) hC (isR_r _) dJ5_append_cf1ce_44)
set_option maxHeartbeats 4000000 in
set_option maxRecDepth 100000 in
theorem c_SB_appY (hst : Stb v) (hb : b < 2) {q : SY} (hq : q ∈ eY v) {k : Nat} (hk : S (13 + 2 * b) 0 = nI k) (hk2 : k ≤ 900) (hn : q.2.2.1 ≤ 60) (hm : capN S (13 + 2 * b) ≤ 160) (hN0 : ¬ (k + q.2.2.1) ≤ capN S (13 + 2 * b) → sb_cap (k + q.2.2.1) (capN S (13 + 2 * b)) ≤ 160) (hf : fitB S b) (hfit : yfit q) : ConG 1 v l yJ4_append_15ec4 cJ4_append_15ec4 2 (some (.object "java/lang/StringBuilder")) 6 124 [.ref (eA v (pB b)), .ref q.1] (WD v S) (some (.ref (eA v (pB b)))) (WD v (appY S b k q)) := con_ofG (S := S) (by decide) hst (Nat.le_of_ble_eq_true rfl) (fun _ h => h) (fun da p e s m args below meth c hC => by
  refine Mj.to (lv2 := [(0, .ref (eA v (pB b))), (1, .ref q.1)]) ?_ ⟨rfl, rfl, trivial⟩
  refine Mw.mono (Wd' := WDa v da) (fun _ h => h.1) ?_
  refine i_aload_n hC dJ4_append_15ec4_0 rfl ?_
  refine i_aload_n hC dJ4_append_15ec4_1 rfl ?_
  refine g_callP (q2 := 0) hC hb mP_J4_29 (cs_appY hC.2.2.2.2.2.2.2.1 hb hq hk hk2 hn hm hN0 hf hfit) (fun _ h => h) rfl rfl rfl ⟨Nat.le_of_ble_eq_true rfl, Nat.le_of_ble_eq_true rfl⟩ (Nat.le_of_ble_eq_true rfl) dJ4_append_15ec4_2 ?_
  refine i_pop hC dJ4_append_15ec4_5 rfl ?_
  refine i_aload_n hC dJ4_append_15ec4_6 rfl ?_
  exact q_aret (fun H h => h) hC (isR_r _) dJ4_append_15ec4_7)
end STR1
