/-! ===== constructors, 3 ===== -/
section CT3
variable {v : EV} {l : Launch}
set_option maxHeartbeats 4000000 in
set_option maxRecDepth 100000 in
theorem l_past {p : Program} {e : Env} {s : State} {m : MethodId} {args : Array Value} {below : List Frame} {meth : Method} {c : Code} {R : Room} {Q : State → Prop} {X : va_W} {a d : Nat} {sb : Nat × Nat} (hR : 3 ≤ R.frames ∧ 54 ≤ R.locals) (hC : Cx v p l e s m args meth c RX3 cX3_init 2 none) (hX : eX s) (hin : meth.name = "<init>") (k : ∀ fl : List ((Nat × Nat × Nat) × List (Nat × Nat × Nat)), fl.length = 8 → (∀ b ∈ fl, b.2.length = 5) → Mw (fun _ H => Lw v (X ++ (PBY v a d fl ++ (fl).flatMap (RB v))) H) v p l e R s m args below meth c 2 Q 0 (fun _ _ => 0) 43 [(0, .ref a)] []) : ∀ (n : Nat) (fl : List ((Nat × Nat × Nat) × List (Nat × Nat × Nat))), fl.length + n = 8 → (∀ b ∈ fl, b.2.length = 5) → Mw (fun _ H => Lw v (X ++ (PBY v a d fl ++ (fl).flatMap (RB v))) H) v p l e R s m args below meth c 2 Q (18 * n) (fun _ _ => 0) 15 [(0, .ref a), (1, .int (nI fl.length))] [] := by
  intro n
  induction n with
  | zero =>
    intro fl hfl hpr
    refine i_iload_n hC dX3_init_15 rfl ?_
    refine i_aload_n hC dX3_init_16 rfl ?_
    refine n_get (q0 := X.length + 0) hC fd_X3_11 (li_in (i := 0) rfl) rfl dX3_init_17 ?_
    refine n_alen (q0 := X.length + 1) (t := 5) (z := (8 : Int32)) hC (li_in (i := 1) rfl) (by decide) (show Int32.ofNat 8 = 8 by decide) dX3_init_20 ?_
    refine i_icmp_ge hC (tgt := 43) dX3_init_21 (by decide) (fun _ => ?_) (fun z9 => absurd (nI_le (b := fl.length) (a := 8) (by omega) (by omega)) z9)
    exact Mj.to (k fl (by omega) hpr) ⟨rfl, trivial⟩
  | succ n ih =>
    intro fl hfl hpr
    refine i_iload_n hC dX3_init_15 rfl ?_
    refine i_aload_n hC dX3_init_16 rfl ?_
    refine n_get (q0 := X.length + 0) hC fd_X3_11 (li_in (i := 0) rfl) rfl dX3_init_17 ?_
    refine n_alen (q0 := X.length + 1) (t := 5) (z := (8 : Int32)) hC (li_in (i := 1) rfl) (by decide) (show Int32.ofNat 8 = 8 by decide) dX3_init_20 ?_
    refine i_icmp_ge hC (tgt := 43) dX3_init_21 (by decide) (fun z9 => absurd z9 (nI_ge (a := fl.length) (b := 8) (by omega) (by omega))) (fun _ => ?_)
    refine i_aload_n hC dX3_init_24 rfl ?_
    refine n_get (q0 := X.length + 0) hC fd_X3_11 (li_in (i := 0) rfl) rfl dX3_init_25 ?_
    refine i_iload_n hC dX3_init_28 rfl ?_
    refine n_new (q2 := 18 * n + 17) hC nw_X3_9 (by omega) dX3_init_29 (fun q => ?_)
    refine i_dup hC dX3_init_32 rfl ?_
    refine n_call (As := []) (q2 := 18 * n) hC hX mi_X3_17 (c_X4_init (X := X ++ (PBY v a d fl ++ (fl).flatMap (RB v))) (a := q) hC.2.2.2.2.2.2.2.1) rfl rfl (by omega) ⟨by have := hR.1; omega, by have := hR.2; omega⟩ (Nat.le_of_ble_eq_true rfl) dX3_init_33 ?_
    refine n_ex (fun b => ?_)
    refine n_and (fun e1 => ?_)
    refine n_and (fun e2 => ?_)
    subst e1
    have e3 : (X ++ (PBY v a d fl ++ (fl).flatMap (RB v))) ++ RB v b = X ++ (PBY v a d fl ++ (fl ++ [b]).flatMap (RB v)) := by simp [List.flatMap_append, List.append_assoc]
    refine n_eq e3 ?_
    refine n_aast (q0 := X.length + 1) (qk := (X ++ (PBY v a d fl ++ (fl).flatMap (RB v))).length + 0) (t := 5) (n := 8) (C := "LogRaft$Raft") (T := TX4) (N := 10) hC (li_in (i := 1) rfl) ⟨by decide, rfl⟩ (by rw [← e3]; exact li_at (i := 0) rfl) rfl (vp_in_nI (by omega) (by omega)) (ws' := X ++ (PBY v a d (fl ++ [b]) ++ ((fl ++ [b])).flatMap (RB v))) ((li_sin (i := 1) (Nat.le_of_ble_eq_true rfl)).trans ?_) dX3_init_36 ?_
    · rw [nI_clamp (by omega)]
      refine congrArg (fun z => X ++ (z ++ (fl ++ [b]).flatMap (RB v))) ?_
      have e4 := refs_push (base := fun b : (Nat × Nat × Nat) × List (Nat × Nat × Nat) => b.1.1) (fl := fl) (b := b)
      show _ = PBY v a d (fl ++ [b])
      unfold PBY
      rw [← e4]
      rfl
    · refine i_iinc hC (y := (1 : Int32)) dX3_init_37 rfl (by decide) (by decide) ?_
      refine i_goto hC (tgt := 15) dX3_init_40 (by decide) ?_
      refine Mj.to (ih (fl ++ [b]) (by simp; omega) (fun x hx => (List.mem_append.mp hx).elim (hpr x) (fun z => by obtain rfl := List.mem_singleton.mp z; exact e2))) ⟨rfl, ?_, trivial⟩
      show some (Value.int (nI fl.length + 1)) = some (Value.int (nI (fl ++ [b]).length))
      rw [nI_1, List.length_append]; rfl
set_option maxHeartbeats 4000000 in
set_option maxRecDepth 100000 in
theorem c_X3_init (hst : Stb v) {X : va_W} {a : Nat} : ConI 145 v l yX3_init cX3_init 2 3 54 [.ref a] (Lw v (X ++ [(a, .inr (3, [.null, .int 0, .int 0]))])) (fun H => ∃ b : (Nat × Nat) × List ((Nat × Nat × Nat) × List (Nat × Nat × Nat)), b.1.1 = a ∧ (b.2.length = 8 ∧ ∀ r ∈ b.2, r.2.length = 5) ∧ Lw v (X ++ PBW v b) H) := con_ofI (S := fun _ _ => 0) (by decide) rfl hst (Nat.le_of_ble_eq_true rfl) (fun p e s m args below meth c hC hX hin => by
  refine Mj.to (lv2 := [(0, .ref a)]) ?_ ⟨rfl, trivial⟩
  refine i_aload_n hC dX3_init_0 rfl ?_
  refine n_obj hC my_455 my_336 my_337 ⟨Nat.le_of_ble_eq_true rfl, Nat.le_of_ble_eq_true rfl⟩ dX3_init_1 ?_
  refine i_aload_n hC dX3_init_4 rfl ?_
  refine i_bipush hC (x := (8 : Int32)) dX3_init_5 (by decide) ?_
  refine n_newq (q2 := 144) (N := 8) (t := 5) (C := "LogRaft$Raft") hC my_456 hX.2.1 ⟨by decide, rfl⟩ (by decide) (by decide) (by decide) rfl dX3_init_7 (fun q1 => ?_)
  refine n_eq (ws' := X ++ [(a, .inr (3, [.null, .int 0, .int 0])), (q1, .inl (eC v 5, 8, .inr (.inr (.inr (.inr (fun _ => none))))))]) (List.append_assoc _ _ _) ?_
  refine n_putF hC hin (q0 := X.length + 0) fd_X3_11 (li_at (i := 0) rfl) rfl rfl (Nat.le_of_ble_eq_true rfl) ((li_set (i := 0)).trans (show _ = X ++ [(a, .inr (3, [.ref q1, .int 0, .int 0])), (q1, .inl (eC v 5, 8, .inr (.inr (.inr (.inr (fun _ => none))))))] from rfl)) dX3_init_10 ?_
  refine i_iconst hC (x := (0 : Int32)) dX3_init_13 (by decide) ?_
  refine i_istore_n hC dX3_init_14 (by decide) ?_
  refine n_eq (ws' := X ++ (PBY v a q1 [] ++ ([] : List ((Nat × Nat × Nat) × List (Nat × Nat × Nat))).flatMap (RB v))) (by rw [List.flatMap_nil, List.append_nil]; rfl) ?_
  refine Mj.to (l_past (sb := (0, 0)) ⟨Nat.le_of_ble_eq_true rfl, Nat.le_of_ble_eq_true rfl⟩ hC hX hin (fun fl hfl hpr => ?_) 8 [] rfl (fun _ h => absurd h List.not_mem_nil)) ⟨rfl, rfl, trivial⟩
  exact n_ret (fun H h => ⟨((a, q1), fl), rfl, ⟨hfl, hpr⟩, h⟩) hC dX3_init_43)
end CT3
