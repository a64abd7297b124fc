/-! ===== the builder's methods, 2 ===== -/
section JDK2
variable {v : EV} {l : Launch} {da : Nat → Nat} {S : Mem} {b : Nat}
set_option maxHeartbeats 4000000 in
set_option maxRecDepth 100000 in
theorem c_J7_copyOf (hst : Stb v) (hb : b < 2) {q h : Nat} (hq : capN S (13 + 2 * b) < q) (hN : q ≤ 160) (hf : fitB S b) : ConG 1 v l yJ7_copyOf_9075b cJ7_copyOf_9075b 3 (some (.array .byte)) 2 40 [.ref (da b), .int (nI q)] (fun H => WDa v da S H ∧ H.size = h) (some (.ref h)) (WX v da S h q (va_cpy (S (14 + 2 * b)) (fun _ => 0) 0 0 (capN S (13 + 2 * b)))) := con_ofH (S := S) (by decide) hst (Nat.le_of_ble_eq_true rfl) (fun p e s m args below meth c hC => by
  refine Mj.to (lv2 := [(0, .ref (da b)), (1, .int (nI q))]) ?_ ⟨rfl, rfl, trivial⟩
  have hmn : mn (Int32.ofNat (capN S (13 + 2 * b))) (nI q) = nI (capN S (13 + 2 * b)) := if_neg (nI_nlt (by omega) (by omega))
  refine Mw.mono (Wd' := fun S H => WDa v da S H ∧ H.size = h) (fun _ h => h) ?_
  refine i_iload_n hC dJ7_copyOf_9075b_0 rfl ?_
  refine i_aload_n hC dJ7_copyOf_9075b_1 rfl ?_
  refine w_vlen hC (fun _ h => w_dy hb h.1) dJ7_copyOf_9075b_2 ?_
  refine i_icmp_ne hC (tgt := 14) dJ7_copyOf_9075b_3 (by decide) (fun _ => ?_) (fun z9 => absurd z9 (fun z => absurd ((nI_eq (by omega) (by omega)).mp z) (by omega)))
  refine i_iload_n hC dJ7_copyOf_9075b_14 rfl ?_
  refine j_newb (q2 := 0) hC mz_526 (nI_pos (by omega)) (nI_clamp (by omega)) hN rfl dJ7_copyOf_9075b_15 ?_
  refine i_astore_n hC dJ7_copyOf_9075b_17 (by decide) ?_
  refine i_aload_n hC dJ7_copyOf_9075b_18 rfl ?_
  refine i_iconst hC (x := (0 : Int32)) dJ7_copyOf_9075b_19 (by decide) ?_
  refine i_aload_n hC dJ7_copyOf_9075b_20 rfl ?_
  refine i_iconst hC (x := (0 : Int32)) dJ7_copyOf_9075b_21 (by decide) ?_
  refine i_aload_n hC dJ7_copyOf_9075b_22 rfl ?_
  refine w_vlen hC (fun _ h => x_dy hb h) dJ7_copyOf_9075b_23 ?_
  refine i_iload_n hC dJ7_copyOf_9075b_24 rfl ?_
  refine i_mmin hC mz_678 mz_161 mz_40 mz_162 ⟨Nat.le_of_ble_eq_true rfl, Nat.le_of_ble_eq_true rfl⟩ dJ7_copyOf_9075b_25 ?_
  rw [hmn]
  refine j_copy hC hb mz_679 mz_681 mz_680 mz_43 (nI_pos (by omega)) (by rw [nI_clamp (by omega)]; exact Nat.le_refl _) (by rw [nI_clamp (by omega)]; omega) (by rw [nI_clamp (by omega)]; exact hf) ⟨Nat.le_of_ble_eq_true rfl, Nat.le_of_ble_eq_true rfl⟩ dJ7_copyOf_9075b_28 ?_
  refine i_aload_n hC dJ7_copyOf_9075b_31 rfl ?_
  rw [nI_clamp (by omega)]
  exact q_aretA (fun _ h => h) hC (isR_r _) dJ7_copyOf_9075b_32)
set_option maxHeartbeats 4000000 in
set_option maxRecDepth 100000 in
theorem c_J5_ens0 (hst : Stb v) (hb : b < 2) {q : Nat} (hq : q < 1000) (hm : capN S (13 + 2 * b) ≤ 160) (hle : q ≤ capN S (13 + 2 * b)) : ConG 0 v l yJ5_ensureCapacityInternal_d00df cJ5_ensureCapacityInternal_d00df 3 none 4 80 [.ref (eA v (pB b)), .int (nI q)] (WDa v da S) none (WD v (ens S b q)) := con_ofA (by decide) hst (Nat.le_of_ble_eq_true rfl) (fun p e s m args below meth c hC => by
  refine Mj.to (lv2 := [(0, .ref (eA v (pB b))), (1, .int (nI q))]) ?_ ⟨rfl, rfl, trivial⟩
  refine i_aload_n hC dJ5_ensureCapacityInternal_d00df_0 rfl ?_
  refine j_getV hC hb flb_15 dJ5_ensureCapacityInternal_d00df_1 ?_
  refine j_vlen hC hb dJ5_ensureCapacityInternal_d00df_4 ?_
  refine i_aload_n hC dJ5_ensureCapacityInternal_d00df_5 rfl ?_
  refine j_getK hC hb flb_22 dJ5_ensureCapacityInternal_d00df_6 ?_
  refine i_ishr hC dJ5_ensureCapacityInternal_d00df_9 ?_
  refine i_istore_n hC dJ5_ensureCapacityInternal_d00df_10 (by decide) ?_
  refine i_iload_n hC dJ5_ensureCapacityInternal_d00df_11 rfl ?_
  refine i_iload_n hC dJ5_ensureCapacityInternal_d00df_12 rfl ?_
  refine i_isub hC dJ5_ensureCapacityInternal_d00df_13 ?_
  refine i_if_le hC (tgt := 38) dJ5_ensureCapacityInternal_d00df_14 (by decide) (fun _ => ?_) (fun z9 => absurd ((en_le (by omega) (by omega)).mpr hle) z9)
  exact q_vret (fun H h => by unfold ens; rw [if_pos hle]; exact ⟨da, h⟩) hC dJ5_ensureCapacityInternal_d00df_38)
set_option maxHeartbeats 4000000 in
set_option maxRecDepth 100000 in
theorem c_J5_ens1 (hst : Stb v) (hb : b < 2) {q : Nat} (hq : q < 1000) (hm : capN S (13 + 2 * b) ≤ 160) (hN0 : ¬ q ≤ capN S (13 + 2 * b) → sb_cap q (capN S (13 + 2 * b)) ≤ 160) (hf : fitB S b) : ConG 1 v l yJ5_ensureCapacityInternal_d00df cJ5_ensureCapacityInternal_d00df 3 none 4 80 [.ref (eA v (pB b)), .int (nI q)] (WDa v da S) none (WD v (ens S b q)) := con_ofA (by decide) hst (Nat.le_of_ble_eq_true rfl) (fun p e s m args below meth c hC => by
  refine Mj.to (lv2 := [(0, .ref (eA v (pB b))), (1, .int (nI q))]) ?_ ⟨rfl, rfl, trivial⟩
  refine i_aload_n hC dJ5_ensureCapacityInternal_d00df_0 rfl ?_
  refine j_getV hC hb flb_15 dJ5_ensureCapacityInternal_d00df_1 ?_
  refine j_vlen hC hb dJ5_ensureCapacityInternal_d00df_4 ?_
  refine i_aload_n hC dJ5_ensureCapacityInternal_d00df_5 rfl ?_
  refine j_getK hC hb flb_22 dJ5_ensureCapacityInternal_d00df_6 ?_
  refine i_ishr hC dJ5_ensureCapacityInternal_d00df_9 ?_
  refine i_istore_n hC dJ5_ensureCapacityInternal_d00df_10 (by decide) ?_
  refine i_iload_n hC dJ5_ensureCapacityInternal_d00df_11 rfl ?_
  refine i_iload_n hC dJ5_ensureCapacityInternal_d00df_12 rfl ?_
  refine i_isub hC dJ5_ensureCapacityInternal_d00df_13 ?_
  by_cases hle : q ≤ capN S (13 + 2 * b)
  · refine i_if_le hC (tgt := 38) dJ5_ensureCapacityInternal_d00df_14 (by decide) (fun _ => ?_) (fun z9 => absurd ((en_le (by omega) (by omega)).mpr hle) z9)
    exact q_vret (fun H h => by unfold ens; rw [if_pos hle]; exact ⟨da, h⟩) hC dJ5_ensureCapacityInternal_d00df_38
  · have hgt : capN S (13 + 2 * b) < sb_cap q (capN S (13 + 2 * b)) := Nat.lt_of_lt_of_le (Nat.lt_of_not_le hle) (sb_cap_ge _ _)
    have hN := hN0 hle
    have hz := en_z (q := q) (m := capN S (13 + 2 * b)) (by omega) (by omega) hle
    have h0 : (0 : Int32) < nI (sb_cap q (capN S (13 + 2 * b))) := nI_lt (a := 0) (by omega) (by omega)
    have h1 : nI (sb_cap q (capN S (13 + 2 * b))) ≤ 2147483639 := nI_le (b := 2147483639) (by omega) (by decide)
    have h2 : ¬ nI (sb_cap q (capN S (13 + 2 * b))) = 2147483647 := fun z => absurd ((nI_eq (b := 2147483647) (by omega) (by decide)).mp z) (by omega)
    refine i_if_le hC (tgt := 38) dJ5_ensureCapacityInternal_d00df_14 (by decide) (fun z9 => absurd z9 (fun z => hle ((en_le (by omega) (by omega)).mp z))) (fun _ => ?_)
    refine i_aload_n hC dJ5_ensureCapacityInternal_d00df_17 rfl ?_
    refine i_aload_n hC dJ5_ensureCapacityInternal_d00df_18 rfl ?_
    refine j_getV hC hb flb_15 dJ5_ensureCapacityInternal_d00df_19 ?_
    refine i_aload_n hC dJ5_ensureCapacityInternal_d00df_22 rfl ?_
    refine i_iload_n hC dJ5_ensureCapacityInternal_d00df_23 rfl ?_
    refine g_callU (q2 := 1) hC hb mU_J5_104 (c_J5_newCapacity hC.2.2.2.2.2.2.2.1 hb hz h0 h1 h2) (fun _ h => h) rfl rfl rfl ⟨Nat.le_of_ble_eq_true rfl, Nat.le_of_ble_eq_true rfl⟩ (Nat.le_of_ble_eq_true rfl) dJ5_ensureCapacityInternal_d00df_24 ?_
    refine i_aload_n hC dJ5_ensureCapacityInternal_d00df_27 rfl ?_
    refine j_getK hC hb flb_22 dJ5_ensureCapacityInternal_d00df_28 ?_
    refine i_ishl hC dJ5_ensureCapacityInternal_d00df_31 ?_
    rw [sb_shl0]
    refine ex_sz (fun h => ?_)
    refine g_callS (q2 := 0) (Wd1 := fun _ H => WX v da S h (sb_cap q (capN S (13 + 2 * b))) (va_cpy (S (14 + 2 * b)) (fun _ => 0) 0 0 (capN S (13 + 2 * b))) H) (S1 := S) hC mS_J5_108 (c_J7_copyOf hC.2.2.2.2.2.2.2.1 hb (h := h) hgt hN hf) (fun _ h => h) (fun _ h => h) rfl rfl rfl ⟨Nat.le_of_ble_eq_true rfl, Nat.le_of_ble_eq_true rfl⟩ (Nat.le_of_ble_eq_true rfl) dJ5_ensureCapacityInternal_d00df_32 ?_
    refine j_putV hC hb (by omega) flb_15 dJ5_ensureCapacityInternal_d00df_35 ?_
    exact q_vret (fun H h => by unfold ens; rw [if_neg hle]; exact ⟨_, h⟩) hC dJ5_ensureCapacityInternal_d00df_38)
theorem bk_B {b j : Nat} (hj : j ≠ 1) (hb : b < 2) : plainB (13 + 2 * b) j := by unfold plainB; omega
theorem ens_0 {S : Mem} {b q : Nat} (hq : q ≤ capN S (13 + 2 * b)) : ens S b q = S := if_pos hq
theorem ens_cnt {S : Mem} {b q j : Nat} (hj : j ≠ 1) : ens S b q (13 + 2 * b) j = S (13 + 2 * b) j := by
  unfold ens
  by_cases h : q ≤ capN S (13 + 2 * b)
  · rw [if_pos h]
  · rw [if_neg h]
    unfold grw
    rw [if_neg (by omega), if_neg (fun z => hj z.2)]
theorem ens_cap {S : Mem} {b q : Nat} (hb : b < 2) (h9 : ¬ q ≤ capN S (13 + 2 * b) → sb_cap q (capN S (13 + 2 * b)) ≤ 160) : capN (ens S b q) (13 + 2 * b) = sb_cap q (capN S (13 + 2 * b)) := by
  unfold ens
  by_cases h : q ≤ capN S (13 + 2 * b)
  · rw [if_pos h]; unfold sb_cap; rw [if_pos h]
  · rw [if_neg h]
    exact grw_cap (by have := h9 h; omega) hb
theorem cap_up {S : Mem} {b b' j : Nat} {x : Int32} (h : ¬ (13 + 2 * b = b' ∧ 1 = j)) : capN (up S b' j x) (13 + 2 * b) = capN S (13 + 2 * b) := by unfold capN; rw [up_ne S x h]
theorem nar_dg {c : Nat} (h : c < 128) : vp_nar .byte (nI c) = nI c := by
  have : ∀ c, c < 128 → vp_nar .byte (nI c) = nI c := by decide +kernel
  exact this c h

end JDK2
