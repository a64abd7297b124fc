/-! ===== the builder's methods, 4 ===== -/
section JDK4
variable {v : EV} {l : Launch} {da : Nat → Nat} {S : Mem} {b : Nat}
theorem l_ssE {p : Program} {e : Env} {R : Room} {s : State} {m : MethodId} {args : Array Value} {below : List Frame} {meth : Method} {c : Code} {qb : Nat} (hC : Cx v p l e s m args meth c RJ6 cJ6_stringSize_0f7a4 4 (some .int)) {w q i : Nat} (hi : sb_dg w = i) : Mw (WDa v da) v p l e R s m args below meth c 4 (MQ below (Qg v (some (.int (nI (sb_dg w)))) (WDa v da S)) args s R.cells R.slots (eG v)) qb S 27 [(0, .int (-nI w)), (1, .int 0), (2, .int (-nI q)), (3, .int (nI i))] [] := by
  refine i_iload_n hC dJ6_stringSize_0f7a4_27 rfl ?_
  refine i_iload_n hC dJ6_stringSize_0f7a4_28 rfl ?_
  refine i_iadd hC dJ6_stringSize_0f7a4_29 ?_
  rw [show nI i + (0 : Int32) = nI (sb_dg w) from by rw [hi]; exact nI_add i 0]
  exact q_iret (fun _ h => h) hC dJ6_stringSize_0f7a4_30
set_option maxHeartbeats 4000000 in
theorem l_ssS {p : Program} {e : Env} {R : Room} {s : State} {m : MethodId} {args : Array Value} {below : List Frame} {meth : Method} {c : Code} {Q : State → Prop} {qb : Nat} (hC : Cx v p l e s m args meth c RJ6 cJ6_stringSize_0f7a4 4 (some .int)) {w q i : Nat} (hi : i < 10) (hq : q < 2 ^ 31) (hw : w < 2 ^ 31) (k1 : w < q → Mw (WDa v da) v p l e R s m args below meth c 4 Q qb S 27 [(0, .int (-nI w)), (1, .int 0), (2, .int (-nI q)), (3, .int (nI i))] []) (k2 : ¬ w < q → Mw (WDa v da) v p l e R s m args below meth c 4 Q qb S 16 [(0, .int (-nI w)), (1, .int 0), (2, .int ((10 : Int32) * (-nI q))), (3, .int (nI i + (1 : Int32)))] []) : Mw (WDa v da) v p l e R s m args below meth c 4 Q qb S 16 [(0, .int (-nI w)), (1, .int 0), (2, .int (-nI q)), (3, .int (nI i))] [] := by
  refine i_iload_n hC dJ6_stringSize_0f7a4_16 rfl ?_
  refine i_bipush hC (x := (10 : Int32)) dJ6_stringSize_0f7a4_17 (by decide) ?_
  refine i_icmp_ge hC (tgt := 42) dJ6_stringSize_0f7a4_19 (by decide) (fun z9 => absurd z9 (fun z => absurd ((nI_leI (a := 10) (by decide) (by omega)).mp z) (by omega))) (fun _ => ?_)
  refine i_iload_n hC dJ6_stringSize_0f7a4_22 rfl ?_
  refine i_iload_n hC dJ6_stringSize_0f7a4_23 rfl ?_
  by_cases hq9 : w < q
  · refine i_icmp_le hC (tgt := 31) dJ6_stringSize_0f7a4_24 (by decide) (fun z9 => absurd z9 (fun z => absurd ((sb_nle hw hq).mp z) (by omega))) (fun _ => ?_)
    exact k1 hq9
  · refine i_icmp_le hC (tgt := 31) dJ6_stringSize_0f7a4_24 (by decide) (fun _ => ?_) (fun z9 => absurd ((sb_nle hw hq).mpr (by omega)) z9)
    refine i_bipush hC (x := (10 : Int32)) dJ6_stringSize_0f7a4_31 (by decide) ?_
    refine i_iload_n hC dJ6_stringSize_0f7a4_33 rfl ?_
    refine i_imul hC dJ6_stringSize_0f7a4_34 ?_
    refine i_istore_n hC dJ6_stringSize_0f7a4_35 (by decide) ?_
    refine i_iinc hC (y := (1 : Int32)) dJ6_stringSize_0f7a4_36 rfl (by decide) (by decide) ?_
    refine i_goto hC (tgt := 16) dJ6_stringSize_0f7a4_39 (by decide) ?_
    exact Mj.to (k2 hq9) ⟨rfl, rfl, rfl, rfl, trivial⟩
set_option maxHeartbeats 4000000 in
set_option maxRecDepth 100000 in
theorem c_J6_stringSize (hst : Stb v) {w : Nat} (hw : w < 2 ^ 31) : ConG 0 v l yJ6_stringSize_0f7a4 cJ6_stringSize_0f7a4 4 (some .int) 1 12 [.int (nI w)] (WDa v da S) (some (.int (nI (sb_dg w)))) (WDa v da S) := con_ofA (by decide) hst (Nat.le_of_ble_eq_true rfl) (fun p e s m args below meth c hC => by
  refine Mj.to (lv2 := [(0, .int (nI w))]) ?_ ⟨rfl, trivial⟩
  refine i_iconst hC (x := (1 : Int32)) dJ6_stringSize_0f7a4_0 (by decide) ?_
  refine i_istore_n hC dJ6_stringSize_0f7a4_1 (by decide) ?_
  refine i_iload_n hC dJ6_stringSize_0f7a4_2 rfl ?_
  refine i_if_lt hC (tgt := 11) dJ6_stringSize_0f7a4_3 (by decide) (fun z9 => absurd z9 (nI_pos hw)) (fun _ => ?_)
  refine i_iconst hC (x := (0 : Int32)) dJ6_stringSize_0f7a4_6 (by decide) ?_
  refine i_istore_n hC dJ6_stringSize_0f7a4_7 (by decide) ?_
  refine i_iload_n hC dJ6_stringSize_0f7a4_8 rfl ?_
  refine i_ineg hC dJ6_stringSize_0f7a4_9 ?_
  refine i_istore_n hC dJ6_stringSize_0f7a4_10 (by decide) ?_
  refine i_bipush hC (x := (-10 : Int32)) dJ6_stringSize_0f7a4_11 (by decide) ?_
  refine i_istore_n hC dJ6_stringSize_0f7a4_13 (by decide) ?_
  refine i_iconst hC (x := (1 : Int32)) dJ6_stringSize_0f7a4_14 (by decide) ?_
  refine i_istore_n hC dJ6_stringSize_0f7a4_15 (by decide) ?_
  refine Mj.to (lv2 := [(0, .int (-nI w)), (1, .int 0), (2, .int (-nI 10)), (3, .int (nI 1))]) ?_ ⟨rfl, rfl, rfl, rfl, trivial⟩
  refine l_ssS hC (i := 1) (q := 10) (by decide) (by decide) hw (fun h1 => l_ssE hC (by unfold sb_dg; (repeat' split) <;> omega)) (fun h1 => ?_)
  rw [show (10 : Int32) * (-nI 10) = -nI 100 from by decide, show nI 1 + (1 : Int32) = nI 2 from nI_1 1]
  refine l_ssS hC (i := 2) (q := 100) (by decide) (by decide) hw (fun h2 => l_ssE hC (by unfold sb_dg; (repeat' split) <;> omega)) (fun h2 => ?_)
  rw [show (10 : Int32) * (-nI 100) = -nI 1000 from by decide, show nI 2 + (1 : Int32) = nI 3 from nI_1 2]
  refine l_ssS hC (i := 3) (q := 1000) (by decide) (by decide) hw (fun h3 => l_ssE hC (by unfold sb_dg; (repeat' split) <;> omega)) (fun h3 => ?_)
  rw [show (10 : Int32) * (-nI 1000) = -nI 10000 from by decide, show nI 3 + (1 : Int32) = nI 4 from nI_1 3]
  refine l_ssS hC (i := 4) (q := 10000) (by decide) (by decide) hw (fun h4 => l_ssE hC (by unfold sb_dg; (repeat' split) <;> omega)) (fun h4 => ?_)
  rw [show (10 : Int32) * (-nI 10000) = -nI 100000 from by decide, show nI 4 + (1 : Int32) = nI 5 from nI_1 4]
  refine l_ssS hC (i := 5) (q := 100000) (by decide) (by decide) hw (fun h5 => l_ssE hC (by unfold sb_dg; (repeat' split) <;> omega)) (fun h5 => ?_)
  rw [show (10 : Int32) * (-nI 100000) = -nI 1000000 from by decide, show nI 5 + (1 : Int32) = nI 6 from nI_1 5]
  refine l_ssS hC (i := 6) (q := 1000000) (by decide) (by decide) hw (fun h6 => l_ssE hC (by unfold sb_dg; (repeat' split) <;> omega)) (fun h6 => ?_)
  rw [show (10 : Int32) * (-nI 1000000) = -nI 10000000 from by decide, show nI 6 + (1 : Int32) = nI 7 from nI_1 6]
  refine l_ssS hC (i := 7) (q := 10000000) (by decide) (by decide) hw (fun h7 => l_ssE hC (by unfold sb_dg; (repeat' split) <;> omega)) (fun h7 => ?_)
  rw [show (10 : Int32) * (-nI 10000000) = -nI 100000000 from by decide, show nI 7 + (1 : Int32) = nI 8 from nI_1 7]
  refine l_ssS hC (i := 8) (q := 100000000) (by decide) (by decide) hw (fun h8 => l_ssE hC (by unfold sb_dg; (repeat' split) <;> omega)) (fun h8 => ?_)
  rw [show (10 : Int32) * (-nI 100000000) = -nI 1000000000 from by decide, show nI 8 + (1 : Int32) = nI 9 from nI_1 8]
  refine l_ssS hC (i := 9) (q := 1000000000) (by decide) (by decide) hw (fun h9 => l_ssE hC (by unfold sb_dg; (repeat' split) <;> omega)) (fun h9 => ?_)
  refine i_iload_n hC dJ6_stringSize_0f7a4_16 rfl ?_
  refine i_bipush hC (x := (10 : Int32)) dJ6_stringSize_0f7a4_17 (by decide) ?_
  refine i_icmp_ge hC (tgt := 42) dJ6_stringSize_0f7a4_19 (by decide) (fun _ => ?_) (fun z9 => absurd (by decide) z9)
  refine i_bipush hC (x := (10 : Int32)) dJ6_stringSize_0f7a4_42 (by decide) ?_
  refine i_iload_n hC dJ6_stringSize_0f7a4_44 rfl ?_
  refine i_iadd hC dJ6_stringSize_0f7a4_45 ?_
  rw [show ((10 : Int32) + (0 : Int32)) = nI (sb_dg w) from by rw [show sb_dg w = 10 from by unfold sb_dg; (repeat' split) <;> omega]; decide]
  exact q_iret (fun _ h => h) hC dJ6_stringSize_0f7a4_46)
/-- the digits of w, written backwards from p -/
def gcs (b : Nat) : Nat → Nat → Nat → Mem → Mem
  | 0, _, _, S => S
  | f + 1, w, p, S => if w < 100 then (if w < 10 then up S (14 + 2 * b) (p - 1) (nI (48 + w % 10)) else up (up S (14 + 2 * b) (p - 1) (nI (48 + w % 10))) (14 + 2 * b) (p - 1 - 1) (nI (48 + w / 10)))
    else gcs b f (w / 100) (p - 1 - 1) (up (up S (14 + 2 * b) (p - 1) (nI (48 + w % 10))) (14 + 2 * b) (p - 1 - 1) (nI (48 + w / 10 % 10)))
theorem gcs_cap {b : Nat} : ∀ (f w p : Nat) (S : Mem), capN (gcs b f w p S) (13 + 2 * b) = capN S (13 + 2 * b) := by
  intro f
  induction f with
  | zero => intro w p S; rfl
  | succ f ih =>
    intro w p S
    unfold gcs
    by_cases h : w < 100
    · rw [if_pos h]
      by_cases h2 : w < 10
      · rw [if_pos h2, cap_up (by omega)]
      · rw [if_neg h2, cap_up (by omega), cap_up (by omega)]
    · rw [if_neg h, ih, cap_up (by omega), cap_up (by omega)]

set_option maxHeartbeats 4000000 in
set_option maxRecDepth 100000 in
theorem l_getChars {p : Program} {e : Env} {R : Room} {s : State} {m : MethodId} {args : Array Value} {below : List Frame} {meth : Method} {c : Code} {Q : State → Prop} {qb : Nat} (hC : Cx v p l e s m args meth c RJ6 cJ6_getChars_ba4f3 7 (some .int)) (hb : b < 2) : ∀ (f w pp : Nat) (S : Mem), w < f → w < 2 ^ 31 → sb_dg w ≤ pp → pp ≤ capN S (13 + 2 * b) → capN S (13 + 2 * b) ≤ 160 → Mw (WDa v da) v p l e R s m args below meth c 7 Q qb (gcs b f w pp S) 118 [(5, .int (nI (pp - sb_dg w)))] [] → Mw (WDa v da) v p l e R s m args below meth c 7 Q qb S 22 [(0, .int (-nI w)), (2, .ref (da b)), (5, .int (nI pp)), (6, .int 0)] [] := by
  intro f
  induction f with
  | zero => intro w pp S h; omega
  | succ f ih =>
    intro w pp S hwf hw hpp hpc hcap hk9
    have hd1 := (sb_dg_in w).1
    unfold gcs at hk9
    refine i_iload_n hC dJ6_getChars_ba4f3_22 rfl ?_
    refine i_bipush hC (x := (-100 : Int32)) dJ6_getChars_ba4f3_23 (by decide) ?_
    by_cases h100 : w < 100
    · rw [if_pos h100] at hk9
      refine i_icmp_gt hC (tgt := 72) dJ6_getChars_ba4f3_25 (by decide) (fun _ => ?_) (fun z9 => absurd ((sb_nlt (a := 100) (by decide) hw).mpr h100) z9)
      refine i_aload_n hC dJ6_getChars_ba4f3_72 rfl ?_
      refine i_iinc hC (y := (-1 : Int32)) dJ6_getChars_ba4f3_73 rfl (by decide) (by decide) ?_
      rw [sb_m1 (by omega)]
      refine i_iload hC dJ6_getChars_ba4f3_76 rfl ?_
      refine i_digO hC mz_769 dJ6_getChars_ba4f3_78 ?_
      refine i_iload_n hC dJ6_getChars_ba4f3_81 rfl ?_
      refine i_ineg hC dJ6_getChars_ba4f3_82 ?_
      rw [Int32.neg_neg]
      refine i_digOld hC (x := nI (48 + w % 10)) (vp_in_nI h100 (by decide)) (by rw [nI_clamp (by omega)]; rfl) dJ6_getChars_ba4f3_83 ?_
      refine j_vst hC hb (vp_in_nI (by (try rw [cap_up (by omega)]); omega) (by (try rw [cap_up (by omega)]); omega)) dJ6_getChars_ba4f3_84 ?_
      rw [nI_clamp (by omega), nar_dg (by omega)]
      refine i_iload_n hC dJ6_getChars_ba4f3_85 rfl ?_
      refine i_bipush hC (x := (-9 : Int32)) dJ6_getChars_ba4f3_86 (by decide) ?_
      by_cases h9 : w < 10
      · rw [if_pos h9, show sb_dg w = 1 from if_pos h9] at hk9
        refine i_icmp_ge hC (tgt := 104) dJ6_getChars_ba4f3_88 (by decide) (fun _ => ?_) (fun z9 => absurd ((sb_nle (a := 9) (by decide) hw).mpr (by omega)) z9)
        refine i_iload hC dJ6_getChars_ba4f3_104 rfl ?_
        refine i_if_eq hC (tgt := 118) dJ6_getChars_ba4f3_106 (by decide) (fun _ => ?_) (fun z9 => absurd (rfl) z9)
        exact Mj.to hk9 ⟨rfl, trivial⟩
      · have hd2 : sb_dg w = 2 := by rw [sb_dg, if_neg h9, if_pos h100]
        rw [if_neg h9, hd2, show pp - 2 = pp - 1 - 1 by omega] at hk9
        refine i_icmp_ge hC (tgt := 104) dJ6_getChars_ba4f3_88 (by decide) (fun z9 => absurd z9 (fun z => absurd ((sb_nle (a := 9) (by decide) hw).mp z) (by omega))) (fun _ => ?_)
        refine i_aload_n hC dJ6_getChars_ba4f3_91 rfl ?_
        refine i_iinc hC (y := (-1 : Int32)) dJ6_getChars_ba4f3_92 rfl (by decide) (by decide) ?_
        rw [sb_m1 (by omega)]
        refine i_iload hC dJ6_getChars_ba4f3_95 rfl ?_
        refine i_digT hC mz_771 dJ6_getChars_ba4f3_97 ?_
        refine i_iload_n hC dJ6_getChars_ba4f3_100 rfl ?_
        refine i_ineg hC dJ6_getChars_ba4f3_101 ?_
        rw [Int32.neg_neg]
        refine i_digTld hC (x := nI (48 + w / 10)) (vp_in_nI h100 (by decide)) (by rw [nI_clamp (by omega)]; exact congrArg (fun z => Int32.ofNat (48 + z)) rfl) dJ6_getChars_ba4f3_102 ?_
        refine j_vst hC hb (vp_in_nI (by (try rw [cap_up (by omega)]); omega) (by (try rw [cap_up (by omega)]); omega)) dJ6_getChars_ba4f3_103 ?_
        rw [nI_clamp (by omega), nar_dg (by omega)]
        refine i_iload hC dJ6_getChars_ba4f3_104 rfl ?_
        refine i_if_eq hC (tgt := 118) dJ6_getChars_ba4f3_106 (by decide) (fun _ => ?_) (fun z9 => absurd (rfl) z9)
        exact Mj.to hk9 ⟨rfl, trivial⟩
    · have hd2 := sb_dg100 (w := w) (by omega) hw
      rw [if_neg h100, show pp - sb_dg w = pp - 1 - 1 - sb_dg (w / 100) by omega] at hk9
      refine i_icmp_gt hC (tgt := 72) dJ6_getChars_ba4f3_25 (by decide) (fun z9 => absurd z9 (fun z => h100 ((sb_nlt (a := 100) (by decide) hw).mp z))) (fun _ => ?_)
      refine i_iload_n hC dJ6_getChars_ba4f3_28 rfl ?_
      refine i_bipush hC (x := (100 : Int32)) dJ6_getChars_ba4f3_29 (by decide) ?_
      refine i_idiv hC dJ6_getChars_ba4f3_31 (by decide) ?_
      rw [sb_ndiv hw]
      refine i_istore_n hC dJ6_getChars_ba4f3_32 (by decide) ?_
      refine i_iload_n hC dJ6_getChars_ba4f3_33 rfl ?_
      refine i_bipush hC (x := (100 : Int32)) dJ6_getChars_ba4f3_34 (by decide) ?_
      refine i_imul hC dJ6_getChars_ba4f3_36 ?_
      refine i_iload_n hC dJ6_getChars_ba4f3_37 rfl ?_
      refine i_isub hC dJ6_getChars_ba4f3_38 ?_
      rw [sb_nrem hw]
      refine i_istore hC dJ6_getChars_ba4f3_39 (by decide) ?_
      refine i_iload_n hC dJ6_getChars_ba4f3_41 rfl ?_
      refine i_istore_n hC dJ6_getChars_ba4f3_42 (by decide) ?_
      refine i_aload_n hC dJ6_getChars_ba4f3_43 rfl ?_
      refine i_iinc hC (y := (-1 : Int32)) dJ6_getChars_ba4f3_44 rfl (by decide) (by decide) ?_
      rw [sb_m1 (by omega)]
      refine i_iload hC dJ6_getChars_ba4f3_47 rfl ?_
      refine i_digO hC mz_769 dJ6_getChars_ba4f3_49 ?_
      refine i_iload hC dJ6_getChars_ba4f3_52 rfl ?_
      refine i_digOld hC (x := nI (48 + w % 10)) (vp_in_nI (by omega) (by decide)) (by rw [nI_clamp (by omega)]; exact congrArg (fun z => Int32.ofNat (48 + z)) (by omega)) dJ6_getChars_ba4f3_54 ?_
      refine j_vst hC hb (vp_in_nI (by (try rw [cap_up (by omega)]); omega) (by (try rw [cap_up (by omega)]); omega)) dJ6_getChars_ba4f3_55 ?_
      rw [nI_clamp (by omega), nar_dg (by omega)]
      refine i_aload_n hC dJ6_getChars_ba4f3_56 rfl ?_
      refine i_iinc hC (y := (-1 : Int32)) dJ6_getChars_ba4f3_57 rfl (by decide) (by decide) ?_
      rw [sb_m1 (by omega)]
      refine i_iload hC dJ6_getChars_ba4f3_60 rfl ?_
      refine i_digT hC mz_771 dJ6_getChars_ba4f3_62 ?_
      refine i_iload hC dJ6_getChars_ba4f3_65 rfl ?_
      refine i_digTld hC (x := nI (48 + w / 10 % 10)) (vp_in_nI (by omega) (by decide)) (by rw [nI_clamp (by omega)]; exact congrArg (fun z => Int32.ofNat (48 + z)) (by omega)) dJ6_getChars_ba4f3_67 ?_
      refine j_vst hC hb (vp_in_nI (by (try rw [cap_up (by omega)]); omega) (by (try rw [cap_up (by omega)]); omega)) dJ6_getChars_ba4f3_68 ?_
      rw [nI_clamp (by omega), nar_dg (by omega)]
      refine i_goto hC (tgt := 22) dJ6_getChars_ba4f3_69 (by decide) ?_
      exact Mj.to (ih (w / 100) (pp - 1 - 1) _ (by omega) (by omega) (by omega) (by rw [cap_up (by omega), cap_up (by omega)]; omega) (by rw [cap_up (by omega), cap_up (by omega)]; omega) hk9) ⟨rfl, rfl, rfl, rfl, trivial⟩
set_option maxHeartbeats 4000000 in
set_option maxRecDepth 100000 in
theorem c_J6_getChars (hst : Stb v) (hb : b < 2) {w pp : Nat} (hw : w < 2 ^ 31) (hpp : sb_dg w ≤ pp) (hpc : pp ≤ capN S (13 + 2 * b)) (hcap : capN S (13 + 2 * b) ≤ 160) : ConG 0 v l yJ6_getChars_ba4f3 cJ6_getChars_ba4f3 7 (some .int) 1 12 [.int (nI w), .int (nI pp), .ref (da b)] (WDa v da S) (some (.int (nI (pp - sb_dg w)))) (WDa v da (gcs b (w + 1) w pp S)) := con_ofA (by decide) hst (Nat.le_of_ble_eq_true rfl) (fun p e s m args below meth c hC => by
  refine Mj.to (lv2 := [(0, .int (nI w)), (1, .int (nI pp)), (2, .ref (da b))]) ?_ ⟨rfl, rfl, rfl, trivial⟩
  refine i_iload_n hC dJ6_getChars_ba4f3_0 rfl ?_
  refine i_istore hC dJ6_getChars_ba4f3_1 (by decide) ?_
  refine i_iload_n hC dJ6_getChars_ba4f3_3 rfl ?_
  refine i_if_ge hC (tgt := 11) dJ6_getChars_ba4f3_4 (by decide) (fun _ => ?_) (fun z9 => absurd (nI_pos' hw) z9)
  refine i_iconst hC (x := (0 : Int32)) dJ6_getChars_ba4f3_11 (by decide) ?_
  refine i_istore hC dJ6_getChars_ba4f3_12 (by decide) ?_
  refine i_iload hC dJ6_getChars_ba4f3_14 rfl ?_
  refine i_if_ne hC (tgt := 22) dJ6_getChars_ba4f3_16 (by decide) (fun z9 => absurd z9 (fun h => h rfl)) (fun _ => ?_)
  refine i_iload_n hC dJ6_getChars_ba4f3_19 rfl ?_
  refine i_ineg hC dJ6_getChars_ba4f3_20 ?_
  refine i_istore_n hC dJ6_getChars_ba4f3_21 (by decide) ?_
  refine Mj.to (l_getChars hC hb (w + 1) w pp S (Nat.lt_succ_self w) hw hpp hpc hcap ?_) ⟨rfl, rfl, rfl, rfl, trivial⟩
  refine i_iload hC dJ6_getChars_ba4f3_118 rfl ?_
  exact q_iret (fun _ h => h) hC dJ6_getChars_ba4f3_120)
end JDK4
