/-! ===== constructors, 4 ===== -/
section CT4
variable {v : EV} {l : Launch}
set_option maxHeartbeats 4000000 in
set_option maxRecDepth 100000 in
theorem l_text {p : Program} {e : Env} {s : State} {m : MethodId} {args : Array Value} {below : List Frame} {meth : Method} {c : Code} {R : Room} {Q : State → Prop} {X : va_W} {a d : Nat} {sb : Nat × Nat} (hR : 2 ≤ R.frames ∧ 33 ≤ R.locals) (hC : Cx v p l e s m args meth c RX6 cX6_init 2 none) (hX : eX s) (hin : meth.name = "<init>") (k : ∀ fl : List (Nat), fl.length = 12 → (∀ b ∈ fl, True) → Mw (fun _ H => Lw v (X ++ (TBY v a d sb fl ++ (fl).flatMap (CB v))) H) v p l e R s m args below meth c 2 Q 0 (fun _ _ => 0) 54 [(0, .ref a)] []) : ∀ (n : Nat) (fl : List (Nat)), fl.length + n = 12 → (∀ b ∈ fl, True) → Mw (fun _ H => Lw v (X ++ (TBY v a d sb fl ++ (fl).flatMap (CB v))) H) v p l e R s m args below meth c 2 Q (1 * n) (fun _ _ => 0) 26 [(0, .ref a), (1, .int (nI fl.length))] [] := by
  intro n
  induction n with
  | zero =>
    intro fl hfl hpr
    refine i_iload_n hC dX6_init_26 rfl ?_
    refine i_aload_n hC dX6_init_27 rfl ?_
    refine n_get (q0 := X.length + 0) hC fd_X6_20 (li_in (i := 0) rfl) rfl dX6_init_28 ?_
    refine n_alen (q0 := X.length + 3) (t := 6) (z := (12 : Int32)) hC (li_in (i := 3) rfl) (by decide) (show Int32.ofNat 12 = 12 by decide) dX6_init_31 ?_
    refine i_icmp_ge hC (tgt := 54) dX6_init_32 (by decide) (fun _ => ?_) (fun z9 => absurd (nI_le (b := fl.length) (a := 12) (by omega) (by omega)) z9)
    exact Mj.to (k fl (by omega) hpr) ⟨rfl, trivial⟩
  | succ n ih =>
    intro fl hfl hpr
    refine i_iload_n hC dX6_init_26 rfl ?_
    refine i_aload_n hC dX6_init_27 rfl ?_
    refine n_get (q0 := X.length + 0) hC fd_X6_20 (li_in (i := 0) rfl) rfl dX6_init_28 ?_
    refine n_alen (q0 := X.length + 3) (t := 6) (z := (12 : Int32)) hC (li_in (i := 3) rfl) (by decide) (show Int32.ofNat 12 = 12 by decide) dX6_init_31 ?_
    refine i_icmp_ge hC (tgt := 54) dX6_init_32 (by decide) (fun z9 => absurd z9 (nI_ge (a := fl.length) (b := 12) (by omega) (by omega))) (fun _ => ?_)
    refine i_aload_n hC dX6_init_35 rfl ?_
    refine n_get (q0 := X.length + 0) hC fd_X6_20 (li_in (i := 0) rfl) rfl dX6_init_36 ?_
    refine i_iload_n hC dX6_init_39 rfl ?_
    refine n_new (q2 := 1 * n + 0) hC nw_X6_18 (by omega) dX6_init_40 (fun q => ?_)
    refine i_dup hC dX6_init_43 rfl ?_
    refine n_callN (As := []) (q2 := 1 * n) hC hX hX.2.2.2.2 mn_X1_init (c_X1_init (X := X ++ (TBY v a d sb fl ++ (fl).flatMap (CB v))) (a := q) hC.2.2.2.2.2.2.2.1) rfl rfl (by omega) ⟨by have := hR.1; omega, by have := hR.2; omega⟩ (Nat.le_of_ble_eq_true rfl) dX6_init_44 ?_
    refine n_ex (fun b => ?_)
    refine n_and (fun e1 => ?_)
    refine n_and (fun e2 => ?_)
    subst e1
    have e3 : (X ++ (TBY v a d sb fl ++ (fl).flatMap (CB v))) ++ CB v b = X ++ (TBY v a d sb fl ++ (fl ++ [b]).flatMap (CB v)) := by simp [List.flatMap_append, List.append_assoc]
    refine n_eq e3 ?_
    refine n_aast (q0 := X.length + 3) (qk := (X ++ (TBY v a d sb fl ++ (fl).flatMap (CB v))).length + 0) (t := 6) (n := 12) (C := "LogRaft$Command") (T := TX1) (N := 3) hC (li_in (i := 3) rfl) ⟨by decide, rfl⟩ (by rw [← e3]; exact li_at (i := 0) rfl) rfl (vp_in_nI (by omega) (by omega)) (ws' := X ++ (TBY v a d sb (fl ++ [b]) ++ ((fl ++ [b])).flatMap (CB v))) ((li_sin (i := 3) (Nat.le_of_ble_eq_true rfl)).trans ?_) dX6_init_47 ?_
    · rw [nI_clamp (by omega)]
      refine congrArg (fun z => X ++ (z ++ (fl ++ [b]).flatMap (CB v))) ?_
      have e4 := refs_push (base := fun b : Nat => b) (fl := fl) (b := b)
      show _ = TBY v a d sb (fl ++ [b])
      unfold TBY
      rw [← e4]
      rfl
    · refine i_iinc hC (y := (1 : Int32)) dX6_init_48 rfl (by decide) (by decide) ?_
      refine i_goto hC (tgt := 26) dX6_init_51 (by decide) ?_
      refine Mj.to (ih (fl ++ [b]) (by simp; omega) (fun x hx => (List.mem_append.mp hx).elim (hpr x) (fun z => by obtain rfl := List.mem_singleton.mp z; exact e2))) ⟨rfl, ?_, trivial⟩
      show some (Value.int (nI fl.length + 1)) = some (Value.int (nI (fl ++ [b]).length))
      rw [nI_1, List.length_append]; rfl
set_option maxHeartbeats 4000000 in
set_option maxRecDepth 100000 in
theorem c_X6_init (hst : Stb v) {X : va_W} {a : Nat} : ConI 15 v l yX6_init cX6_init 2 3 54 [.ref a] (Lw v (X ++ [(a, .inr (6, [.null, .null, .int 0, .int 0]))])) (fun H => ∃ b : (Nat × Nat × (Nat × Nat)) × List Nat, b.1.1 = a ∧ b.2.length = 12 ∧ Lw v (X ++ TBW v b) H) := con_ofI (S := fun _ _ => 0) (by decide) rfl hst (Nat.le_of_ble_eq_true rfl) (fun p e s m args below meth c hC hX hin => by
  refine Mj.to (lv2 := [(0, .ref a)]) ?_ ⟨rfl, trivial⟩
  refine i_aload_n hC dX6_init_0 rfl ?_
  refine n_obj hC my_494 my_336 my_337 ⟨Nat.le_of_ble_eq_true rfl, Nat.le_of_ble_eq_true rfl⟩ dX6_init_1 ?_
  refine i_aload_n hC dX6_init_4 rfl ?_
  refine n_new (q2 := 14) hC nw_X6_9 rfl dX6_init_5 (fun q => ?_)
  refine i_dup hC dX6_init_8 rfl ?_
  refine n_call (As := []) (q2 := 13) hC hX mi_X6_11 (c_J4_init (X := X ++ [(a, .inr (6, [.null, .null, .int 0, .int 0]))]) (a := q) hC.2.2.2.2.2.2.2.1) rfl rfl rfl ⟨Nat.le_of_ble_eq_true rfl, Nat.le_of_ble_eq_true rfl⟩ (Nat.le_of_ble_eq_true rfl) dX6_init_9 ?_
  refine n_ex (fun sb => ?_)
  refine n_and (fun e1 => ?_)
  subst e1
  refine n_eq (ws' := X ++ [(a, .inr (6, [.null, .null, .int 0, .int 0])), (sb.1, .inr (0, [.ref sb.2, .int 0, .int 0, .int 0])), (sb.2, .inl (eC v 3, 16, .inl (fun _ => 0)))]) (List.append_assoc _ _ _) ?_
  refine n_putF hC hin (q0 := X.length + 0) fd_X6_12 (li_at (i := 0) rfl) rfl rfl (Nat.le_of_ble_eq_true rfl) ((li_set (i := 0)).trans (show _ = X ++ [(a, .inr (6, [.ref sb.1, .null, .int 0, .int 0])), (sb.1, .inr (0, [.ref sb.2, .int 0, .int 0, .int 0])), (sb.2, .inl (eC v 3, 16, .inl (fun _ => 0)))] from rfl)) dX6_init_12 ?_
  refine i_aload_n hC dX6_init_15 rfl ?_
  refine i_bipush hC (x := (12 : Int32)) dX6_init_16 (by decide) ?_
  refine n_newq (q2 := 12) (N := 12) (t := 6) (C := "LogRaft$Command") hC my_527 hX.2.2.1 ⟨by decide, rfl⟩ (by decide) (by decide) (by decide) rfl dX6_init_18 (fun q2 => ?_)
  refine n_eq (ws' := X ++ [(a, .inr (6, [.ref sb.1, .null, .int 0, .int 0])), (sb.1, .inr (0, [.ref sb.2, .int 0, .int 0, .int 0])), (sb.2, .inl (eC v 3, 16, .inl (fun _ => 0))), (q2, .inl (eC v 6, 12, .inr (.inr (.inr (.inr (fun _ => none))))))]) (List.append_assoc _ _ _) ?_
  refine n_putF hC hin (q0 := X.length + 0) fd_X6_20 (li_at (i := 0) rfl) rfl rfl (Nat.le_of_ble_eq_true rfl) ((li_set (i := 0)).trans (show _ = X ++ [(a, .inr (6, [.ref sb.1, .ref q2, .int 0, .int 0])), (sb.1, .inr (0, [.ref sb.2, .int 0, .int 0, .int 0])), (sb.2, .inl (eC v 3, 16, .inl (fun _ => 0))), (q2, .inl (eC v 6, 12, .inr (.inr (.inr (.inr (fun _ => none))))))] from rfl)) dX6_init_21 ?_
  refine i_iconst hC (x := (0 : Int32)) dX6_init_24 (by decide) ?_
  refine i_istore_n hC dX6_init_25 (by decide) ?_
  refine n_eq (ws' := X ++ (TBY v a q2 sb [] ++ ([] : List Nat).flatMap (CB v))) (by rw [List.flatMap_nil, List.append_nil]; rfl) ?_
  refine Mj.to (l_text ⟨Nat.le_of_ble_eq_true rfl, Nat.le_of_ble_eq_true rfl⟩ hC hX hin (fun fl hfl _ => ?_) 12 [] rfl (fun _ h => absurd h List.not_mem_nil)) ⟨rfl, rfl, trivial⟩
  exact n_ret (fun H h => ⟨((a, q2, sb), fl), rfl, hfl, h⟩) hC dX6_init_54)
end CT4
