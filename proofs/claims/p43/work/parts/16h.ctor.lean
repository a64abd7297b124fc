/-! ===== constructors, 5 ===== -/
section CT5
variable {v : EV} {l : Launch}
/-- the class's cells, in the order of their making -/
def LB (v : EV) (a : Nat) (r : Nat → (Nat × Nat × Nat) × List (Nat × Nat × Nat)) (pb : (Nat × Nat) × List ((Nat × Nat × Nat) × List (Nat × Nat × Nat))) (rs : Nat) (tb : (Nat × Nat × (Nat × Nat)) × List Nat) (sb : Nat × Nat) : va_W :=
  [(a, .inr (7, [.ref (r 0).1.1, .ref (r 1).1.1, .ref (r 2).1.1, .ref pb.1.1, .ref rs, .ref tb.1.1, .ref sb.1, .int 0, .int (-4)]))] ++ ((((((RB v (r 0) ++ RB v (r 1)) ++ RB v (r 2)) ++ PBW v pb) ++ [(rs, .inr (5, [.int 0, .int 0, .int 0, .int 0]))]) ++ TBW v tb) ++ SBW v sb)
set_option maxHeartbeats 4000000 in
set_option maxRecDepth 100000 in
theorem c_X8_init (hst : Stb v) {X : va_W} {a : Nat} : ConI 219 v l yX8_init cX8_init 1 4 75 [.ref a] (Lw v (X ++ [(a, .inr (7, [.null, .null, .null, .null, .null, .null, .null, .int 0, .int 0]))])) (fun H => ∃ r pb rs tb sb, ((∀ i, (r i).2.length = 5) ∧ (pb.2.length = 8 ∧ ∀ x ∈ pb.2, x.2.length = 5) ∧ tb.2.length = 12) ∧ Lw v (X ++ LB v a r pb rs tb sb) H) := con_ofI (S := fun _ _ => 0) (by decide) rfl hst (Nat.le_of_ble_eq_true rfl) (fun p e s m args below meth c hC hX hin => by
  refine Mj.to (lv2 := [(0, .ref a)]) ?_ ⟨rfl, trivial⟩
  refine i_aload_n hC dX8_init_0 rfl ?_
  refine n_obj hC my_335 my_336 my_337 ⟨Nat.le_of_ble_eq_true rfl, Nat.le_of_ble_eq_true rfl⟩ dX8_init_1 ?_
  refine n_eq (ws' := X ++ ([(a, .inr (7, [.null, .null, .null, .null, .null, .null, .null, .int 0, .int 0]))] ++ ([] : va_W))) rfl ?_
  refine i_aload_n hC dX8_init_4 rfl ?_
  refine n_new (q2 := 218) hC nw_X8_9 rfl dX8_init_5 (fun q => ?_)
  refine i_dup hC dX8_init_8 rfl ?_
  refine n_call (As := []) (q2 := 201) hC hX mi_X8_11 (c_X4_init (X := X ++ ([(a, .inr (7, [.null, .null, .null, .null, .null, .null, .null, .int 0, .int 0]))] ++ ([] : va_W))) (a := q) hC.2.2.2.2.2.2.2.1) rfl rfl rfl ⟨Nat.le_of_ble_eq_true rfl, Nat.le_of_ble_eq_true rfl⟩ (Nat.le_of_ble_eq_true rfl) dX8_init_9 ?_
  refine n_ex (fun r0 => ?_)
  refine n_and (fun e1 => ?_)
  refine n_and (fun hr0 => ?_)
  subst e1
  refine n_eq (ws' := X ++ ([(a, .inr (7, [.null, .null, .null, .null, .null, .null, .null, .int 0, .int 0]))] ++ (([] : va_W) ++ RB v r0))) (by simp only [List.append_assoc]) ?_
  refine n_putF hC hin (q0 := X.length + 0) fd_X8_12 (li_in (i := 0) rfl) rfl rfl (Nat.le_of_ble_eq_true rfl) ((li_sin (i := 0) (Nat.le_of_ble_eq_true rfl)).trans (show _ = X ++ ([(a, .inr (7, [.ref r0.1.1, .null, .null, .null, .null, .null, .null, .int 0, .int 0]))] ++ (([] : va_W) ++ RB v r0)) from rfl)) dX8_init_12 ?_
  refine i_aload_n hC dX8_init_15 rfl ?_
  refine n_new (q2 := 200) hC nw_X8_9 rfl dX8_init_16 (fun q => ?_)
  refine i_dup hC dX8_init_19 rfl ?_
  refine n_call (As := []) (q2 := 183) hC hX mi_X8_11 (c_X4_init (X := X ++ ([(a, .inr (7, [.ref r0.1.1, .null, .null, .null, .null, .null, .null, .int 0, .int 0]))] ++ (([] : va_W) ++ RB v r0))) (a := q) hC.2.2.2.2.2.2.2.1) rfl rfl rfl ⟨Nat.le_of_ble_eq_true rfl, Nat.le_of_ble_eq_true rfl⟩ (Nat.le_of_ble_eq_true rfl) dX8_init_20 ?_
  refine n_ex (fun r1 => ?_)
  refine n_and (fun e1 => ?_)
  refine n_and (fun hr1 => ?_)
  subst e1
  refine n_eq (ws' := X ++ ([(a, .inr (7, [.ref r0.1.1, .null, .null, .null, .null, .null, .null, .int 0, .int 0]))] ++ ((([] : va_W) ++ RB v r0) ++ RB v r1))) (by simp only [List.append_assoc]) ?_
  refine n_putF hC hin (q0 := X.length + 0) fd_X8_16 (li_in (i := 0) rfl) rfl rfl (Nat.le_of_ble_eq_true rfl) ((li_sin (i := 0) (Nat.le_of_ble_eq_true rfl)).trans (show _ = X ++ ([(a, .inr (7, [.ref r0.1.1, .ref r1.1.1, .null, .null, .null, .null, .null, .int 0, .int 0]))] ++ ((([] : va_W) ++ RB v r0) ++ RB v r1)) from rfl)) dX8_init_23 ?_
  refine i_aload_n hC dX8_init_26 rfl ?_
  refine n_new (q2 := 182) hC nw_X8_9 rfl dX8_init_27 (fun q => ?_)
  refine i_dup hC dX8_init_30 rfl ?_
  refine n_call (As := []) (q2 := 165) hC hX mi_X8_11 (c_X4_init (X := X ++ ([(a, .inr (7, [.ref r0.1.1, .ref r1.1.1, .null, .null, .null, .null, .null, .int 0, .int 0]))] ++ ((([] : va_W) ++ RB v r0) ++ RB v r1))) (a := q) hC.2.2.2.2.2.2.2.1) rfl rfl rfl ⟨Nat.le_of_ble_eq_true rfl, Nat.le_of_ble_eq_true rfl⟩ (Nat.le_of_ble_eq_true rfl) dX8_init_31 ?_
  refine n_ex (fun r2 => ?_)
  refine n_and (fun e1 => ?_)
  refine n_and (fun hr2 => ?_)
  subst e1
  refine n_eq (ws' := X ++ ([(a, .inr (7, [.ref r0.1.1, .ref r1.1.1, .null, .null, .null, .null, .null, .int 0, .int 0]))] ++ (((([] : va_W) ++ RB v r0) ++ RB v r1) ++ RB v r2))) (by simp only [List.append_assoc]) ?_
  refine n_putF hC hin (q0 := X.length + 0) fd_X8_19 (li_in (i := 0) rfl) rfl rfl (Nat.le_of_ble_eq_true rfl) ((li_sin (i := 0) (Nat.le_of_ble_eq_true rfl)).trans (show _ = X ++ ([(a, .inr (7, [.ref r0.1.1, .ref r1.1.1, .ref r2.1.1, .null, .null, .null, .null, .int 0, .int 0]))] ++ (((([] : va_W) ++ RB v r0) ++ RB v r1) ++ RB v r2)) from rfl)) dX8_init_34 ?_
  refine i_aload_n hC dX8_init_37 rfl ?_
  refine n_new (q2 := 164) hC nw_X8_22 rfl dX8_init_38 (fun q => ?_)
  refine i_dup hC dX8_init_41 rfl ?_
  refine n_call (As := []) (q2 := 19) hC hX mi_X8_24 (c_X3_init (X := X ++ ([(a, .inr (7, [.ref r0.1.1, .ref r1.1.1, .ref r2.1.1, .null, .null, .null, .null, .int 0, .int 0]))] ++ (((([] : va_W) ++ RB v r0) ++ RB v r1) ++ RB v r2))) (a := q) hC.2.2.2.2.2.2.2.1) rfl rfl rfl ⟨Nat.le_of_ble_eq_true rfl, Nat.le_of_ble_eq_true rfl⟩ (Nat.le_of_ble_eq_true rfl) dX8_init_42 ?_
  refine n_ex (fun pb => ?_)
  refine n_and (fun e1 => ?_)
  refine n_and (fun hpb => ?_)
  subst e1
  refine n_eq (ws' := X ++ ([(a, .inr (7, [.ref r0.1.1, .ref r1.1.1, .ref r2.1.1, .null, .null, .null, .null, .int 0, .int 0]))] ++ ((((([] : va_W) ++ RB v r0) ++ RB v r1) ++ RB v r2) ++ PBW v pb))) (by simp only [List.append_assoc]) ?_
  refine n_putF hC hin (q0 := X.length + 0) fd_X8_25 (li_in (i := 0) rfl) rfl rfl (Nat.le_of_ble_eq_true rfl) ((li_sin (i := 0) (Nat.le_of_ble_eq_true rfl)).trans (show _ = X ++ ([(a, .inr (7, [.ref r0.1.1, .ref r1.1.1, .ref r2.1.1, .ref pb.1.1, .null, .null, .null, .int 0, .int 0]))] ++ ((((([] : va_W) ++ RB v r0) ++ RB v r1) ++ RB v r2) ++ PBW v pb)) from rfl)) dX8_init_45 ?_
  refine i_aload_n hC dX8_init_48 rfl ?_
  refine n_new (q2 := 18) hC nw_X8_29 rfl dX8_init_49 (fun q => ?_)
  refine i_dup hC dX8_init_52 rfl ?_
  refine n_callN (As := []) (q2 := 18) hC hX hX.2.2.2.1 mn_X5_init (c_X5_init (X := X ++ ([(a, .inr (7, [.ref r0.1.1, .ref r1.1.1, .ref r2.1.1, .ref pb.1.1, .null, .null, .null, .int 0, .int 0]))] ++ ((((([] : va_W) ++ RB v r0) ++ RB v r1) ++ RB v r2) ++ PBW v pb))) (a := q) hC.2.2.2.2.2.2.2.1) rfl rfl rfl ⟨Nat.le_of_ble_eq_true rfl, Nat.le_of_ble_eq_true rfl⟩ (Nat.le_of_ble_eq_true rfl) dX8_init_53 ?_
  obtain ⟨rs, hrs⟩ : ∃ z : Nat, z = q := ⟨q, rfl⟩
  subst hrs
  refine n_eq (ws' := X ++ ([(a, .inr (7, [.ref r0.1.1, .ref r1.1.1, .ref r2.1.1, .ref pb.1.1, .null, .null, .null, .int 0, .int 0]))] ++ (((((([] : va_W) ++ RB v r0) ++ RB v r1) ++ RB v r2) ++ PBW v pb) ++ [(rs, .inr (5, [.int 0, .int 0, .int 0, .int 0]))]))) (by simp only [List.append_assoc]) ?_
  refine n_putF hC hin (q0 := X.length + 0) fd_X8_32 (li_in (i := 0) rfl) rfl rfl (Nat.le_of_ble_eq_true rfl) ((li_sin (i := 0) (Nat.le_of_ble_eq_true rfl)).trans (show _ = X ++ ([(a, .inr (7, [.ref r0.1.1, .ref r1.1.1, .ref r2.1.1, .ref pb.1.1, .ref rs, .null, .null, .int 0, .int 0]))] ++ (((((([] : va_W) ++ RB v r0) ++ RB v r1) ++ RB v r2) ++ PBW v pb) ++ [(rs, .inr (5, [.int 0, .int 0, .int 0, .int 0]))])) from rfl)) dX8_init_56 ?_
  refine i_aload_n hC dX8_init_59 rfl ?_
  refine n_new (q2 := 17) hC nw_X8_36 rfl dX8_init_60 (fun q => ?_)
  refine i_dup hC dX8_init_63 rfl ?_
  refine n_call (As := []) (q2 := 2) hC hX mi_X8_38 (c_X6_init (X := X ++ ([(a, .inr (7, [.ref r0.1.1, .ref r1.1.1, .ref r2.1.1, .ref pb.1.1, .ref rs, .null, .null, .int 0, .int 0]))] ++ (((((([] : va_W) ++ RB v r0) ++ RB v r1) ++ RB v r2) ++ PBW v pb) ++ [(rs, .inr (5, [.int 0, .int 0, .int 0, .int 0]))]))) (a := q) hC.2.2.2.2.2.2.2.1) rfl rfl rfl ⟨Nat.le_of_ble_eq_true rfl, Nat.le_of_ble_eq_true rfl⟩ (Nat.le_of_ble_eq_true rfl) dX8_init_64 ?_
  refine n_ex (fun tb => ?_)
  refine n_and (fun e1 => ?_)
  refine n_and (fun htb => ?_)
  subst e1
  refine n_eq (ws' := X ++ ([(a, .inr (7, [.ref r0.1.1, .ref r1.1.1, .ref r2.1.1, .ref pb.1.1, .ref rs, .null, .null, .int 0, .int 0]))] ++ ((((((([] : va_W) ++ RB v r0) ++ RB v r1) ++ RB v r2) ++ PBW v pb) ++ [(rs, .inr (5, [.int 0, .int 0, .int 0, .int 0]))]) ++ TBW v tb))) (by simp only [List.append_assoc]) ?_
  refine n_putF hC hin (q0 := X.length + 0) fd_X8_39 (li_in (i := 0) rfl) rfl rfl (Nat.le_of_ble_eq_true rfl) ((li_sin (i := 0) (Nat.le_of_ble_eq_true rfl)).trans (show _ = X ++ ([(a, .inr (7, [.ref r0.1.1, .ref r1.1.1, .ref r2.1.1, .ref pb.1.1, .ref rs, .ref tb.1.1, .null, .int 0, .int 0]))] ++ ((((((([] : va_W) ++ RB v r0) ++ RB v r1) ++ RB v r2) ++ PBW v pb) ++ [(rs, .inr (5, [.int 0, .int 0, .int 0, .int 0]))]) ++ TBW v tb)) from rfl)) dX8_init_67 ?_
  refine i_aload_n hC dX8_init_70 rfl ?_
  refine n_new (q2 := 1) hC nw_X8_43 rfl dX8_init_71 (fun q => ?_)
  refine i_dup hC dX8_init_74 rfl ?_
  refine n_call (As := []) (q2 := 0) hC hX mi_X8_45 (c_J4_init (X := X ++ ([(a, .inr (7, [.ref r0.1.1, .ref r1.1.1, .ref r2.1.1, .ref pb.1.1, .ref rs, .ref tb.1.1, .null, .int 0, .int 0]))] ++ ((((((([] : va_W) ++ RB v r0) ++ RB v r1) ++ RB v r2) ++ PBW v pb) ++ [(rs, .inr (5, [.int 0, .int 0, .int 0, .int 0]))]) ++ TBW v tb))) (a := q) hC.2.2.2.2.2.2.2.1) rfl rfl rfl ⟨Nat.le_of_ble_eq_true rfl, Nat.le_of_ble_eq_true rfl⟩ (Nat.le_of_ble_eq_true rfl) dX8_init_75 ?_
  refine n_ex (fun sb => ?_)
  refine n_and (fun e1 => ?_)
  subst e1
  refine n_eq (ws' := X ++ ([(a, .inr (7, [.ref r0.1.1, .ref r1.1.1, .ref r2.1.1, .ref pb.1.1, .ref rs, .ref tb.1.1, .null, .int 0, .int 0]))] ++ (((((((([] : va_W) ++ RB v r0) ++ RB v r1) ++ RB v r2) ++ PBW v pb) ++ [(rs, .inr (5, [.int 0, .int 0, .int 0, .int 0]))]) ++ TBW v tb) ++ SBW v sb))) (by simp only [List.append_assoc]) ?_
  refine n_putF hC hin (q0 := X.length + 0) fd_X8_46 (li_in (i := 0) rfl) rfl rfl (Nat.le_of_ble_eq_true rfl) ((li_sin (i := 0) (Nat.le_of_ble_eq_true rfl)).trans (show _ = X ++ ([(a, .inr (7, [.ref r0.1.1, .ref r1.1.1, .ref r2.1.1, .ref pb.1.1, .ref rs, .ref tb.1.1, .ref sb.1, .int 0, .int 0]))] ++ (((((((([] : va_W) ++ RB v r0) ++ RB v r1) ++ RB v r2) ++ PBW v pb) ++ [(rs, .inr (5, [.int 0, .int 0, .int 0, .int 0]))]) ++ TBW v tb) ++ SBW v sb)) from rfl)) dX8_init_78 ?_
  refine i_aload_n hC dX8_init_81 rfl ?_
  refine i_bipush hC (x := (-4 : Int32)) dX8_init_82 (by decide) ?_
  refine n_putF hC hin (q0 := X.length + 0) fd_X8_50 (li_in (i := 0) rfl) rfl rfl (Nat.le_of_ble_eq_true rfl) ((li_sin (i := 0) (Nat.le_of_ble_eq_true rfl)).trans (show _ = X ++ ([(a, .inr (7, [.ref r0.1.1, .ref r1.1.1, .ref r2.1.1, .ref pb.1.1, .ref rs, .ref tb.1.1, .ref sb.1, .int 0, .int (-4)]))] ++ (((((((([] : va_W) ++ RB v r0) ++ RB v r1) ++ RB v r2) ++ PBW v pb) ++ [(rs, .inr (5, [.int 0, .int 0, .int 0, .int 0]))]) ++ TBW v tb) ++ SBW v sb)) from rfl)) dX8_init_84 ?_
  exact n_ret (fun H h => ⟨fun i => if i = 0 then r0 else if i = 1 then r1 else r2, pb, rs, tb, sb, ⟨fun i => by dsimp only; split; exact hr0; split; exact hr1; exact hr2, hpb, htb⟩, h⟩) hC dX8_init_87)
end CT5
