/-! ===== constructors, 2 ===== -/
section CT2
variable {v : EV} {l : Launch}
set_option maxHeartbeats 4000000 in
set_option maxRecDepth 100000 in
theorem c_X4_init (hst : Stb v) {X : va_W} {a : Nat} : ConI 17 v l yX4_init cX4_init 2 2 33 [.ref a] (Lw v (X ++ [(a, .inr (4, [.null, .null, .int 0, .int 0, .int 0, .int 0, .int 0, .int 0, .int 0, .int 0]))])) (fun H => ∃ b : (Nat × Nat × Nat) × List (Nat × Nat × Nat), b.1.1 = a ∧ b.2.length = 5 ∧ Lw v (X ++ RB v b) H) := con_ofI (S := fun _ _ => 0) (by decide) rfl hst (Nat.le_of_ble_eq_true rfl) (fun p e s m args below meth c hC hX hin => by
  refine Mj.to (lv2 := [(0, .ref a)]) ?_ ⟨rfl, trivial⟩
  refine i_aload_n hC dX4_init_0 rfl ?_
  refine n_obj hC my_342 my_336 my_337 ⟨Nat.le_of_ble_eq_true rfl, Nat.le_of_ble_eq_true rfl⟩ dX4_init_1 ?_
  refine i_aload_n hC dX4_init_4 rfl ?_
  refine i_iconst hC (x := (5 : Int32)) dX4_init_5 (by decide) ?_
  refine n_newq (q2 := 16) (N := 5) (t := 4) (C := "LogRaft$Driver") hC my_343 hX.1 ⟨by decide, rfl⟩ (by decide) (by decide) (by decide) rfl dX4_init_6 (fun q1 => ?_)
  refine n_eq (ws' := X ++ [(a, .inr (4, [.null, .null, .int 0, .int 0, .int 0, .int 0, .int 0, .int 0, .int 0, .int 0])), (q1, .inl (eC v 4, 5, .inr (.inr (.inr (.inr (fun _ => none))))))]) (List.append_assoc _ _ _) ?_
  refine n_putF hC hin (q0 := X.length + 0) fd_X4_11 (li_at (i := 0) rfl) rfl rfl (Nat.le_of_ble_eq_true rfl) ((li_set (i := 0)).trans (show _ = X ++ [(a, .inr (4, [.ref q1, .null, .int 0, .int 0, .int 0, .int 0, .int 0, .int 0, .int 0, .int 0])), (q1, .inl (eC v 4, 5, .inr (.inr (.inr (.inr (fun _ => none))))))] from rfl)) dX4_init_9 ?_
  refine i_aload_n hC dX4_init_12 rfl ?_
  refine i_bipush hC (x := (25 : Int32)) dX4_init_13 (by decide) ?_
  refine n_newp (atype := .boolean) (q2 := 15) (qd := 1) (N := 25) (t := 2) (ty := .boolean) hC my_407 rfl ⟨by decide, rfl⟩ (fun _ _ h => h) (fun _ => rfl) (by decide) (by decide) ⟨by decide, by decide⟩ (by decide) rfl dX4_init_15 (fun q2 => ?_)
  refine n_eq (ws' := X ++ [(a, .inr (4, [.ref q1, .null, .int 0, .int 0, .int 0, .int 0, .int 0, .int 0, .int 0, .int 0])), (q1, .inl (eC v 4, 5, .inr (.inr (.inr (.inr (fun _ => none)))))), (q2, .inl (eC v 2, 25, .inl (fun _ => 0)))]) (List.append_assoc _ _ _) ?_
  refine n_putF hC hin (q0 := X.length + 0) fd_X4_17 (li_at (i := 0) rfl) rfl rfl (Nat.le_of_ble_eq_true rfl) ((li_set (i := 0)).trans (show _ = X ++ [(a, .inr (4, [.ref q1, .ref q2, .int 0, .int 0, .int 0, .int 0, .int 0, .int 0, .int 0, .int 0])), (q1, .inl (eC v 4, 5, .inr (.inr (.inr (.inr (fun _ => none)))))), (q2, .inl (eC v 2, 25, .inl (fun _ => 0)))] from rfl)) dX4_init_17 ?_
  refine i_iconst hC (x := (0 : Int32)) dX4_init_20 (by decide) ?_
  refine i_istore_n hC dX4_init_21 (by decide) ?_
  refine n_eq (ws' := X ++ (RBY v a q1 q2 [] ++ ([] : List (Nat × Nat × Nat)).flatMap (DB v))) (by rw [List.flatMap_nil, List.append_nil]; rfl) ?_
  refine Mj.to (l_raft (sb := (0, 0)) ⟨Nat.le_of_ble_eq_true rfl, Nat.le_of_ble_eq_true rfl⟩ hC hX hin (fun fl hfl _ => ?_) 5 [] rfl (fun _ h => absurd h List.not_mem_nil)) ⟨rfl, rfl, trivial⟩
  exact n_ret (fun H h => ⟨((a, q1, q2), fl), rfl, hfl, h⟩) hC dX4_init_50)
end CT2
