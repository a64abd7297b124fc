section STR2
variable {v : EV} {l : Launch} {da : Nat → Nat} {S : Mem} {b : Nat}
set_option maxHeartbeats 4000000 in
set_option maxRecDepth 100000 in
theorem cs_getValue (hst : Stb v) (hb : b < 2) : ConG 0 v l yJ5_getValue_6d5f1 cJ5_getValue_6d5f1 1 (some (.array .byte)) 1 12 [.ref (eA v (pB b))] (WDa v da S) (some (.ref (da b))) (WDa v da S) := con_ofA (by decide) hst (Nat.le_of_ble_eq_true rfl) (fun p e s m args below meth c hC => by
  refine Mj.to (lv2 := [(0, .ref (eA v (pB b)))]) ?_ ⟨rfl, trivial⟩
  refine i_aload_n hC dJ5_getValue_6d5f1_0 rfl ?_
  refine j_getV hC hb flb_15 dJ5_getValue_6d5f1_1 ?_
  exact q_aretA (fun _ h => h) hC (isR_r _) dJ5_getValue_6d5f1_4)
set_option maxHeartbeats 4000000 in
set_option maxRecDepth 100000 in
theorem cs_SBlen (hst : Stb v) (hb : b < 2) : ConG 0 v l yJ4_length_8abf5 cJ4_length_8abf5 1 (some .int) 2 32 [.ref (eA v (pB b))] (WDa v da S) (some (.int (S (13 + 2 * b) 0))) (WDa v da S) := con_ofA (by decide) hst (Nat.le_of_ble_eq_true rfl) (fun p e s m args below meth c hC => by
  refine Mj.to (lv2 := [(0, .ref (eA v (pB b)))]) ?_ ⟨rfl, trivial⟩
  refine i_aload_n hC dJ4_length_8abf5_0 rfl ?_
  refine g_callP (q2 := 0) hC hb mP_J4_343 (c_J5_length hC.2.2.2.2.2.2.2.1 hb) (fun _ h => h) rfl rfl rfl ⟨Nat.le_of_ble_eq_true rfl, Nat.le_of_ble_eq_true rfl⟩ (Nat.le_of_ble_eq_true rfl) dJ4_length_8abf5_1 ?_
  exact q_iret (fun _ h => h) hC dJ4_length_8abf5_4)
set_option maxHeartbeats 4000000 in
set_option maxRecDepth 100000 in
theorem cs_checkLength (hst : Stb v) {n : Nat} (hn : n < 2 ^ 31) {W0 : Heap → Prop} : ConG 0 v l yJ7_checkLength_df160 cJ7_checkLength_df160 2 none 1 12 [.int 0, .int (nI n)] W0 none W0 := con_ofH (S := fun _ _ => 0) (by decide) hst (Nat.le_of_ble_eq_true rfl) (fun p e s m args below meth c hC => by
  refine Mj.to (lv2 := [(0, .int (0 : Int32)), (1, .int (nI n))]) ?_ ⟨rfl, rfl, trivial⟩
  refine i_iload_n hC dJ7_checkLength_df160_0 rfl ?_
  refine i_iload_n hC dJ7_checkLength_df160_1 rfl ?_
  refine i_icmp_ge hC (tgt := 37) dJ7_checkLength_df160_2 (by decide) (fun _ => ?_) (fun z9 => absurd (nI_pos' hn) z9)
  exact q_vret (fun _ h => h) hC dJ7_checkLength_df160_37)
theorem n_copyB {X : va_W} {p : Program} {e : Env} {R : Room} {s : State} {m : MethodId} {args : Array Value} {below : List Frame} {meth : Method} {c : Code} {own : String} {cc : ByteArray} {nL : Nat} {ret : Option FieldType} {Q : State → Prop} {qb pc : Nat} {lv : List (Nat × Value)} {st : List Value} (hC : Cx v p l e s m args meth c own cc nL ret) {idx n a2 : Nat} (hb : b < 2) (w1 : Cond.methodLink own idx arraycopyName ∈ TW) (w2 : Cond.native arraycopyName ∈ TW) (w3 : Cond.static arraycopyName ∈ TW) (w4 : Cond.initialized "java/lang/System" ∈ TW) (hn : n < 2 ^ 31) (h5 : n ≤ capN S (13 + 2 * b)) (hf : fitB S b)
    (hfr : 1 ≤ R.frames ∧ (st.map fun v => v.category).sum + 18 ≤ R.locals) (hdg : decode cc pc = .ok (.invokestatic idx, 3))
    (kk : Mw (fun _ H => Lw v (wsW v da S ++ (X ++ [(a2, .inl (eC v 3, n, .inl (va_cpy (S (14 + 2 * b)) (fun _ => 0) 0 0 n)))])) H) v p l e R s m args below meth c nL Q qb S (pc + 3) lv st) : Mw (fun _ H => Lw v (wsW v da S ++ (X ++ [(a2, .inl (eC v 3, n, .inl (fun _ => 0)))])) H) v p l e R s m args below meth c nL Q qb S pc lv (.int (nI n) :: .int 0 :: .ref a2 :: .int 0 :: .ref (da b) :: st) := by
  intro H locs ls cells slots hbu hW hS hl
  refine va_copyi hC.1 hC.2.1 (hC.2.2.1.trans hl.1.symm) hC.2.2.2.1 (hC.2.2.2.2.1 _ w1) (hC.2.2.2.2.1 _ w2) (hC.2.2.2.2.1 _ w3) (hC.2.2.2.2.1 _ w4) hC.2.2.2.2.2.1 hW.1 hW.2 hS (layN + b) ((wsW v da S).length + X.length) 3 3 (f := S (14 + 2 * b)) (g := fun _ => 0) (n0 := capN S (13 + 2 * b)) (n1 := n) (ty := .byte) (ap_lf (wsW_dy hb)) (ap_in (by rw [List.getElem?_append_right (Nat.le_refl _), Nat.sub_self]; rfl)) (tysOf_at v (by decide)) (tysOf_at v (by decide)) rfl (by decide) (by decide) (nI_pos hn) (by rw [sb_cl0, Nat.zero_add, nI_clamp hn]; exact h5) (by rw [sb_cl0, Nat.zero_add, nI_clamp hn]; exact Nat.le_refl _) (by rw [sb_cl0, nI_clamp hn]; intro i hi; rw [Nat.zero_add]; exact hf i (by omega)) hfr.1 hfr.2 hdg fun H1 locs1 hP1 hD1 hS1 => ?_
  rw [nI_clamp hn, sb_cl0, List.set_append_right _ _ (by omega), Nat.add_sub_cancel_left, List.set_append_right _ _ (Nat.le_refl _), Nat.sub_self] at hP1 hD1
  exact kk H1 locs1 ls cells slots hbu ⟨hP1, hD1⟩ hS1 hl
set_option maxHeartbeats 4000000 in
set_option maxRecDepth 100000 in
theorem cs_copyB (hst : Stb v) (hb : b < 2) {X : va_W} {n : Nat} (hnc : n < capN S (13 + 2 * b)) (hm : capN S (13 + 2 * b) ≤ 160) (hf : fitB S b) : ConP 1 v l yJ7_copyOfRangeByte_39247 cJ7_copyOfRangeByte_39247 5 (some (.array .byte)) 2 40 [.ref (da b), .int 0, .int (nI n)] (Lw v (wsW v da S ++ X)) (fun u H => ∃ a2, u = .ref a2 ∧ Lw v (wsW v da S ++ (X ++ [(a2, (.inl (eC v 3, n, .inl (va_cpy (S (14 + 2 * b)) (fun _ => 0) 0 0 n)) : va_E))])) H) := con_ofP (S := S) (by decide) hst (Nat.le_of_ble_eq_true rfl) (fun p e s m args below meth c hC => by
  refine Mj.to (lv2 := [(0, .ref (da b)), (1, .int (0 : Int32)), (2, .int (nI n))]) ?_ ⟨rfl, rfl, rfl, trivial⟩
  refine i_iload_n hC dJ7_copyOfRangeByte_39247_0 rfl ?_
  refine i_iload_n hC dJ7_copyOfRangeByte_39247_1 rfl ?_
  refine g_callS (q2 := 1) (Wd1 := (fun _ H => Lw v (wsW v da S ++ X) H)) (S1 := S) hC mS_J7_343 (cs_checkLength hC.2.2.2.2.2.2.2.1 (n := n) (by omega)) (fun _ h => h) (fun _ h => h) rfl rfl rfl ⟨Nat.le_of_ble_eq_true rfl, Nat.le_of_ble_eq_true rfl⟩ (Nat.le_of_ble_eq_true rfl) dJ7_copyOfRangeByte_39247_2 ?_
  refine i_iload_n hC dJ7_copyOfRangeByte_39247_5 rfl ?_
  refine i_iload_n hC dJ7_copyOfRangeByte_39247_6 rfl ?_
  refine i_isub hC dJ7_copyOfRangeByte_39247_7 ?_
  rw [show nI n - (0 : Int32) = nI n from pk_sub (a := n) (b := 0) (by omega)]
  refine i_istore_n hC dJ7_copyOfRangeByte_39247_8 (by decide) ?_
  refine i_iload_n hC dJ7_copyOfRangeByte_39247_9 rfl ?_
  refine n_newp (atype := .byte) (q2 := 0) (qd := 1) (N := n) (t := 3) (ty := .byte) hC mz_526 rfl ⟨by decide, rfl⟩ (fun _ _ h => h) (fun _ => rfl) (nI_pos (by omega)) (nI_clamp (by omega)) ⟨by omega, by decide⟩ (Nat.le_trans (Nat.mul_le_mul (show n ≤ 160 by omega) (Nat.le_refl _)) (by decide)) rfl dJ7_copyOfRangeByte_39247_10 (fun a2 => ?_)
  refine n_eq (ws' := wsW v da S ++ (X ++ [(a2, .inl (eC v 3, n, .inl (fun _ => 0)))])) (List.append_assoc _ _ _) ?_
  refine i_astore hC dJ7_copyOfRangeByte_39247_12 (by decide) ?_
  refine i_aload_n hC dJ7_copyOfRangeByte_39247_14 rfl ?_
  refine i_iload_n hC dJ7_copyOfRangeByte_39247_15 rfl ?_
  refine i_aload hC dJ7_copyOfRangeByte_39247_16 rfl ?_
  refine i_iconst hC (x := (0 : Int32)) dJ7_copyOfRangeByte_39247_18 (by decide) ?_
  refine i_aload_n hC dJ7_copyOfRangeByte_39247_19 rfl ?_
  refine n_alen (q0 := layN + b) (t := 3) (x := (capN S (13 + 2 * b), .inl (S (14 + 2 * b)))) hC (ap_lf (wsW_dy hb)) (by decide) rfl dJ7_copyOfRangeByte_39247_20 ?_
  refine i_iload_n hC dJ7_copyOfRangeByte_39247_21 rfl ?_
  refine i_isub hC dJ7_copyOfRangeByte_39247_22 ?_
  rw [show Int32.ofNat (capN S (13 + 2 * b)) - (0 : Int32) = nI (capN S (13 + 2 * b)) from pk_sub (a := capN S (13 + 2 * b)) (b := 0) (by omega)]
  refine i_iload_n hC dJ7_copyOfRangeByte_39247_23 rfl ?_
  refine i_mmin hC mz_678 mz_161 mz_40 mz_162 ⟨Nat.le_of_ble_eq_true rfl, Nat.le_of_ble_eq_true rfl⟩ dJ7_copyOfRangeByte_39247_24 ?_
  rw [show mn (nI (capN S (13 + 2 * b))) (nI n) = nI n from if_pos (nI_lt hnc (by omega))]
  refine n_copyB hC hb mz_679 mz_681 mz_680 mz_43 (n := n) (by omega) (by omega) hf ⟨Nat.le_of_ble_eq_true rfl, Nat.le_of_ble_eq_true rfl⟩ dJ7_copyOfRangeByte_39247_27 ?_
  refine i_aload hC dJ7_copyOfRangeByte_39247_30 rfl ?_
  exact p_aretA (u := .ref a2) (fun H h => ⟨a2, rfl, h⟩) hC (isR_r _) dJ7_copyOfRangeByte_39247_32)
set_option maxHeartbeats 4000000 in
set_option maxRecDepth 100000 in
theorem cs_copyR (hst : Stb v) (hb : b < 2) {X : va_W} {n : Nat} (hnc : n < capN S (13 + 2 * b)) (hm : capN S (13 + 2 * b) ≤ 160) (hf : fitB S b) : ConP 1 v l yJ7_copyOfRange_39247 cJ7_copyOfRange_39247 3 (some (.array .byte)) 3 64 [.ref (da b), .int 0, .int (nI n)] (Lw v (wsW v da S ++ X)) (fun u H => ∃ a2, u = .ref a2 ∧ Lw v (wsW v da S ++ (X ++ [(a2, (.inl (eC v 3, n, .inl (va_cpy (S (14 + 2 * b)) (fun _ => 0) 0 0 n)) : va_E))])) H) := con_ofP (S := S) (by decide) hst (Nat.le_of_ble_eq_true rfl) (fun p e s m args below meth c hC => by
  refine Mj.to (lv2 := [(0, .ref (da b)), (1, .int (0 : Int32)), (2, .int (nI n))]) ?_ ⟨rfl, rfl, rfl, trivial⟩
  refine i_iload_n hC dJ7_copyOfRange_39247_0 rfl ?_
  refine i_if_ne hC (tgt := 10) dJ7_copyOfRange_39247_1 (by decide) (fun z9 => absurd z9 (fun h => h rfl)) (fun _ => ?_)
  refine i_iload_n hC dJ7_copyOfRange_39247_4 rfl ?_
  refine i_aload_n hC dJ7_copyOfRange_39247_5 rfl ?_
  refine n_alen (q0 := layN + b) (t := 3) (x := (capN S (13 + 2 * b), .inl (S (14 + 2 * b)))) hC (ap_lf (wsW_dy hb)) (by decide) rfl dJ7_copyOfRange_39247_6 ?_
  refine i_icmp_eq hC (tgt := 17) dJ7_copyOfRange_39247_7 (by decide) (fun z9 => absurd z9 (fun z => absurd ((nI_eq (by omega) (by omega)).mp z) (by omega))) (fun _ => ?_)
  refine i_aload_n hC dJ7_copyOfRange_39247_10 rfl ?_
  refine i_iload_n hC dJ7_copyOfRange_39247_11 rfl ?_
  refine i_iload_n hC dJ7_copyOfRange_39247_12 rfl ?_
  refine p_callS (q2 := 0) hC mS_J7_339 (cs_copyB (X := X) (n := n) hC.2.2.2.2.2.2.2.1 hb hnc hm hf) (fun _ h => h) rfl rfl rfl ⟨Nat.le_of_ble_eq_true rfl, Nat.le_of_ble_eq_true rfl⟩ (Nat.le_of_ble_eq_true rfl) dJ7_copyOfRange_39247_13 (fun u => ?_)
  refine n_ex (fun a2 => ?_)
  refine n_and (fun e1 => ?_)
  subst e1
  exact p_aretA (u := .ref a2) (fun H h => ⟨a2, rfl, h⟩) hC (isR_r _) dJ7_copyOfRange_39247_16)
set_option maxHeartbeats 4000000 in
set_option maxRecDepth 100000 in
theorem cs_initV (hst : Stb v) (hb : b < 2) {X : va_W} {s1 n : Nat} (hk : S (13 + 2 * b) 0 = nI n) (hnc : n < capN S (13 + 2 * b)) (hm : capN S (13 + 2 * b) ≤ 160) (hf : fitB S b) : ConI 1 v l yJ0_init_db425 cJ0_init_db425 5 4 100 [.ref s1, .ref (eA v (pB b)), .null] (Lw v (wsW v da S ++ (X ++ [(s1, .inr (8, [.null, .int 0, .int 0, .int 0]))]))) (fun H => ∃ a2 : Nat, Lw v (wsW v da S ++ (X ++ [(s1, .inr (8, [.ref a2, .int 0, .int 0, .int 0])), (a2, (.inl (eC v 3, n, .inl (va_cpy (S (14 + 2 * b)) (fun _ => 0) 0 0 n)) : va_E))])) H) := con_ofI (S := S) (by decide) rfl hst (Nat.le_of_ble_eq_true rfl) (fun p e s m args below meth c hC hX hin => by
  refine Mj.to (lv2 := [(0, .ref s1), (1, .ref (eA v (pB b))), (2, .null)]) ?_ ⟨rfl, rfl, rfl, trivial⟩
  refine i_aload_n hC dJ0_init_db425_0 rfl ?_
  refine n_obj hC mz_795 mz_336 mz_337 ⟨Nat.le_of_ble_eq_true rfl, Nat.le_of_ble_eq_true rfl⟩ dJ0_init_db425_1 ?_
  refine i_aload_n hC dJ0_init_db425_4 rfl ?_
  refine gx_callU (R := rmK 1 4 100) (X := (X ++ [(s1, .inr (8, [.null, .int 0, .int 0, .int 0]))])) (As := []) (rest := []) (q2 := 1) hC hb mU_J0_552 (cs_getValue (stb_all _) hb) rfl rfl rfl ⟨by exact Nat.le_of_ble_eq_true rfl, by exact Nat.le_of_ble_eq_true rfl⟩ (by exact Nat.le_of_ble_eq_true rfl) dJ0_init_db425_5 ?_
  refine i_astore_n hC dJ0_init_db425_8 (by decide) ?_
  refine i_aload_n hC dJ0_init_db425_9 rfl ?_
  refine gx_callO (R := rmK 1 4 100) (X := (X ++ [(s1, .inr (8, [.null, .int 0, .int 0, .int 0]))])) (As := []) (rest := []) (q2 := 1) hC hb mO_J0_549 mz_298 (by decide +kernel) (cs_SBlen (stb_all _) hb) rfl rfl rfl ⟨by exact Nat.le_of_ble_eq_true rfl, by exact Nat.le_of_ble_eq_true rfl⟩ (by exact Nat.le_of_ble_eq_true rfl) dJ0_init_db425_10 ?_
  show Mw _ v p l e _ s m _ below meth c _ _ _ _ _ _ [.int (S (13 + 2 * b) 0)]
  rw [hk]
  refine i_istore hC dJ0_init_db425_13 (by decide) ?_
  refine i_aload_n hC dJ0_init_db425_15 rfl ?_
  refine gx_callU (R := rmK 1 4 100) (X := (X ++ [(s1, .inr (8, [.null, .int 0, .int 0, .int 0]))])) (As := []) (rest := []) (q2 := 1) hC hb mU_J0_1047 (c_J5_isLatin1 (stb_all _) hb) rfl rfl rfl ⟨by exact Nat.le_of_ble_eq_true rfl, by exact Nat.le_of_ble_eq_true rfl⟩ (by exact Nat.le_of_ble_eq_true rfl) dJ0_init_db425_16 ?_
  refine i_if_eq hC (tgt := 41) dJ0_init_db425_19 (by decide) (fun z9 => absurd z9 (by decide)) (fun _ => ?_)
  refine i_aload_n hC dJ0_init_db425_22 rfl ?_
  refine i_iconst hC (x := (0 : Int32)) dJ0_init_db425_23 (by decide) ?_
  refine n_putF hC hin (q0 := (wsW v da S).length + X.length) fd_J0_15 (ap_in (by rw [List.getElem?_append_right (Nat.le_refl _), Nat.sub_self]; rfl)) (by decide) (by decide) (Nat.le_of_ble_eq_true rfl) (show _ = wsW v da S ++ (X ++ [(s1, .inr (8, [.null, .int 0, .int 0, .int 0]))]) by rw [List.set_append_right _ _ (by omega), Nat.add_sub_cancel_left, List.set_append_right _ _ (Nat.le_refl _), Nat.sub_self]; rfl) dJ0_init_db425_24 ?_
  refine i_aload_n hC dJ0_init_db425_27 rfl ?_
  refine i_aload_n hC dJ0_init_db425_28 rfl ?_
  refine i_iconst hC (x := (0 : Int32)) dJ0_init_db425_29 (by decide) ?_
  refine i_iload hC dJ0_init_db425_30 rfl ?_
  refine p_callS (q2 := 0) hC mS_J0_54 (cs_copyR (X := (X ++ [(s1, .inr (8, [.null, .int 0, .int 0, .int 0]))])) (n := n) hC.2.2.2.2.2.2.2.1 hb hnc hm hf) (fun _ h => h) rfl rfl rfl ⟨Nat.le_of_ble_eq_true rfl, Nat.le_of_ble_eq_true rfl⟩ (Nat.le_of_ble_eq_true rfl) dJ0_init_db425_32 (fun u => ?_)
  refine n_ex (fun a2 => ?_)
  refine n_and (fun e1 => ?_)
  subst e1
  refine n_eq (ws' := wsW v da S ++ (X ++ [(s1, .inr (8, [.null, .int 0, .int 0, .int 0])), (a2, (.inl (eC v 3, n, .inl (va_cpy (S (14 + 2 * b)) (fun _ => 0) 0 0 n)) : va_E))])) (by simp only [List.append_assoc]; rfl) ?_
  refine n_putF hC hin (q0 := (wsW v da S).length + X.length) fd_J0_9 (ap_in (by rw [List.getElem?_append_right (Nat.le_refl _), Nat.sub_self]; rfl)) rfl rfl (Nat.le_of_ble_eq_true rfl) (show _ = wsW v da S ++ (X ++ [(s1, .inr (8, [.ref a2, .int 0, .int 0, .int 0])), (a2, (.inl (eC v 3, n, .inl (va_cpy (S (14 + 2 * b)) (fun _ => 0) 0 0 n)) : va_E))]) by rw [List.set_append_right _ _ (by omega), Nat.add_sub_cancel_left, List.set_append_right _ _ (Nat.le_refl _), Nat.sub_self]; rfl) dJ0_init_db425_35 ?_
  refine i_goto hC (tgt := 97) dJ0_init_db425_38 (by decide) ?_
  exact n_ret (fun H h => ⟨a2, h⟩) hC dJ0_init_db425_97)
set_option maxHeartbeats 4000000 in
set_option maxRecDepth 100000 in
theorem cs_initS (hst : Stb v) (hb : b < 2) {X : va_W} {s1 n : Nat} (hk : S (13 + 2 * b) 0 = nI n) (hnc : n < capN S (13 + 2 * b)) (hm : capN S (13 + 2 * b) ≤ 160) (hf : fitB S b) : ConI 1 v l yJ0_init_81219 cJ0_init_81219 2 5 130 [.ref s1, .ref (eA v (pB b))] (Lw v (wsW v da S ++ (X ++ [(s1, .inr (8, [.null, .int 0, .int 0, .int 0]))]))) (fun H => ∃ a2 : Nat, Lw v (wsW v da S ++ (X ++ [(s1, .inr (8, [.ref a2, .int 0, .int 0, .int 0])), (a2, (.inl (eC v 3, n, .inl (va_cpy (S (14 + 2 * b)) (fun _ => 0) 0 0 n)) : va_E))])) H) := con_ofI (S := S) (by decide) rfl hst (Nat.le_of_ble_eq_true rfl) (fun p e s m args below meth c hC hX hin => by
  refine Mj.to (lv2 := [(0, .ref s1), (1, .ref (eA v (pB b)))]) ?_ ⟨rfl, rfl, trivial⟩
  refine i_aload_n hC dJ0_init_81219_0 rfl ?_
  refine i_aload_n hC dJ0_init_81219_1 rfl ?_
  refine i_acnull hC dJ0_init_81219_2 ?_
  refine n_call (As := [.ref (eA v (pB b)), .null]) (q2 := 0) hC hX mi2_J0_489 (cs_initV (X := X) (s1 := s1) (n := n) hC.2.2.2.2.2.2.2.1 hb hk hnc hm hf) rfl rfl rfl ⟨Nat.le_of_ble_eq_true rfl, Nat.le_of_ble_eq_true rfl⟩ (Nat.le_of_ble_eq_true rfl) dJ0_init_81219_3 ?_
  exact n_ret (fun H h => h) hC dJ0_init_81219_6)
set_option maxHeartbeats 4000000 in
set_option maxRecDepth 100000 in
theorem c_SB_toString (hst : Stb v) (hb : b < 2) {X : va_W} {n : Nat} (hk : S (13 + 2 * b) 0 = nI n) (hnc : n < capN S (13 + 2 * b)) (hm : capN S (13 + 2 * b) ≤ 160) (hf : fitB S b) : ConP 2 v l yJ4_toString_0e30d cJ4_toString_0e30d 1 (some (.object "java/lang/String")) 6 160 [.ref (eA v (pB b))] (Lw v (wsW v da S ++ X)) (fun u H => ∃ s1 a2 : Nat, u = .ref s1 ∧ Lw v (wsW v da S ++ (X ++ [(s1, .inr (8, [.ref a2, .int 0, .int 0, .int 0])), (a2, (.inl (eC v 3, n, .inl (va_cpy (S (14 + 2 * b)) (fun _ => 0) 0 0 n)) : va_E))])) H) := con_ofP (S := S) (by decide) hst (Nat.le_of_ble_eq_true rfl) (fun p e s m args below meth c hC => by
  refine Mj.to (lv2 := [(0, .ref (eA v (pB b)))]) ?_ ⟨rfl, trivial⟩
  refine n_new (q2 := 1) hC nw_J4_18 rfl dJ4_toString_0e30d_0 (fun s1 => ?_)
  refine n_eq (ws' := wsW v da S ++ (X ++ [(s1, .inr (8, [.null, .int 0, .int 0, .int 0]))])) (List.append_assoc _ _ _) ?_
  refine i_dup hC dJ4_toString_0e30d_3 rfl ?_
  refine i_aload_n hC dJ4_toString_0e30d_4 rfl ?_
  refine n_call (As := [.ref (eA v (pB b))]) (q2 := 0) hC (eF_X hC.2.2.2.2.2.2.1) mi2_J4_137 (cs_initS (X := X) (s1 := s1) (n := n) hC.2.2.2.2.2.2.2.1 hb hk hnc hm hf) rfl rfl rfl ⟨Nat.le_of_ble_eq_true rfl, Nat.le_of_ble_eq_true rfl⟩ (Nat.le_of_ble_eq_true rfl) dJ4_toString_0e30d_5 ?_
  exact p_aret (u := .ref s1) (fun H h => ⟨s1, h.choose, rfl, h.choose_spec⟩) hC (isR_r _) dJ4_toString_0e30d_8)
end STR2
