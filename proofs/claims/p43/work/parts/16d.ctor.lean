/-! ===== constructors, 1 ===== -/
section CT1
variable {v : EV} {l : Launch}
set_option maxHeartbeats 4000000 in
set_option maxRecDepth 100000 in
theorem l_raft {p : Program} {e : Env} {s : State} {m : MethodId} {args : Array Value} {below : List Frame} {meth : Method} {c : Code} {R : Room} {Q : State → Prop} {X : va_W} {a d z : Nat} {sb : Nat × Nat} (hR : 2 ≤ R.frames ∧ 32 ≤ R.locals) (hC : Cx v p l e s m args meth c RX4 cX4_init 2 none) (hX : eX s) (hin : meth.name = "<init>") (k : ∀ fl : List (Nat × Nat × Nat), fl.length = 5 → (∀ b ∈ fl, True) → Mw (fun _ H => Lw v (X ++ (RBY v a d z fl ++ (fl).flatMap (DB v))) H) v p l e R s m args below meth c 2 Q 0 (fun _ _ => 0) 50 [(0, .ref a)] []) : ∀ (n : Nat) (fl : List (Nat × Nat × Nat)), fl.length + n = 5 → (∀ b ∈ fl, True) → Mw (fun _ H => Lw v (X ++ (RBY v a d z fl ++ (fl).flatMap (DB v))) H) v p l e R s m args below meth c 2 Q (3 * n) (fun _ _ => 0) 22 [(0, .ref a), (1, .int (nI fl.length))] [] := by
  intro n
  induction n with
  | zero =>
    intro fl hfl hpr
    refine i_iload_n hC dX4_init_22 rfl ?_
    refine i_aload_n hC dX4_init_23 rfl ?_
    refine n_get (q0 := X.length + 0) hC fd_X4_11 (li_in (i := 0) rfl) rfl dX4_init_24 ?_
    refine n_alen (q0 := X.length + 1) (t := 4) (z := (5 : Int32)) hC (li_in (i := 1) rfl) (by decide) (show Int32.ofNat 5 = 5 by decide) dX4_init_27 ?_
    refine i_icmp_ge hC (tgt := 50) dX4_init_28 (by decide) (fun _ => ?_) (fun z9 => absurd (nI_le (b := fl.length) (a := 5) (by omega) (by omega)) z9)
    exact Mj.to (k fl (by omega) hpr) ⟨rfl, trivial⟩
  | succ n ih =>
    intro fl hfl hpr
    refine i_iload_n hC dX4_init_22 rfl ?_
    refine i_aload_n hC dX4_init_23 rfl ?_
    refine n_get (q0 := X.length + 0) hC fd_X4_11 (li_in (i := 0) rfl) rfl dX4_init_24 ?_
    refine n_alen (q0 := X.length + 1) (t := 4) (z := (5 : Int32)) hC (li_in (i := 1) rfl) (by decide) (show Int32.ofNat 5 = 5 by decide) dX4_init_27 ?_
    refine i_icmp_ge hC (tgt := 50) dX4_init_28 (by decide) (fun z9 => absurd z9 (nI_ge (a := fl.length) (b := 5) (by omega) (by omega))) (fun _ => ?_)
    refine i_aload_n hC dX4_init_31 rfl ?_
    refine n_get (q0 := X.length + 0) hC fd_X4_11 (li_in (i := 0) rfl) rfl dX4_init_32 ?_
    refine i_iload_n hC dX4_init_35 rfl ?_
    refine n_new (q2 := 3 * n + 2) hC nw_X4_9 (by omega) dX4_init_36 (fun q => ?_)
    refine i_dup hC dX4_init_39 rfl ?_
    refine n_callN (As := []) (q2 := 3 * n) hC hX hC.2.2.2.2.2.2.1.2.2.2.2.2.2.2.2.2.2.2.2.2.2.2.1 mn_X2_init (c_X2_init (X := X ++ (RBY v a d z fl ++ (fl).flatMap (DB v))) (a := q) hC.2.2.2.2.2.2.2.1) rfl rfl (by omega) ⟨by have := hR.1; omega, by have := hR.2; omega⟩ (Nat.le_of_ble_eq_true rfl) dX4_init_40 ?_
    refine n_ex (fun b => ?_)
    refine n_and (fun e1 => ?_)
    refine n_and (fun e2 => ?_)
    subst e1
    have e3 : (X ++ (RBY v a d z fl ++ (fl).flatMap (DB v))) ++ DB v b = X ++ (RBY v a d z fl ++ (fl ++ [b]).flatMap (DB v)) := by simp [List.flatMap_append, List.append_assoc]
    refine n_eq e3 ?_
    refine n_aast (q0 := X.length + 1) (qk := (X ++ (RBY v a d z fl ++ (fl).flatMap (DB v))).length + 0) (t := 4) (n := 5) (C := "LogRaft$Driver") (T := TX2) (N := 12) hC (li_in (i := 1) rfl) ⟨by decide, rfl⟩ (by rw [← e3]; exact li_at (i := 0) rfl) rfl (vp_in_nI (by omega) (by omega)) (ws' := X ++ (RBY v a d z (fl ++ [b]) ++ ((fl ++ [b])).flatMap (DB v))) ((li_sin (i := 1) (Nat.le_of_ble_eq_true rfl)).trans ?_) dX4_init_43 ?_
    · rw [nI_clamp (by omega)]
      refine congrArg (fun z => X ++ (z ++ (fl ++ [b]).flatMap (DB v))) ?_
      have e4 := refs_push (base := fun b : Nat × Nat × Nat => b.1) (fl := fl) (b := b)
      show _ = RBY v a d z (fl ++ [b])
      unfold RBY
      rw [← e4]
      rfl
    · refine i_iinc hC (y := (1 : Int32)) dX4_init_44 rfl (by decide) (by decide) ?_
      refine i_goto hC (tgt := 22) dX4_init_47 (by decide) ?_
      refine Mj.to (ih (fl ++ [b]) (by simp; omega) (fun x hx => (List.mem_append.mp hx).elim (hpr x) (fun z => by obtain rfl := List.mem_singleton.mp z; exact e2))) ⟨rfl, ?_, trivial⟩
      show some (Value.int (nI fl.length + 1)) = some (Value.int (nI (fl ++ [b]).length))
      rw [nI_1, List.length_append]; rfl
end CT1
