/-! ===== constructors, 0 ===== -/
section CT0
variable {v : EV} {l : Launch}
/-! the blocks that constructors leave -/
theorem n_and {v : EV} {p : Program} {l : Launch} {e : Env} {R : Room} {s : State} {m : MethodId} {args : Array Value} {below : List Frame} {meth : Method} {c : Code} {nL : Nat} {Q : State → Prop} {qb : Nat} {S : Mem} {pc : Nat} {lv : List (Nat × Value)} {st : List Value} {B : Prop} {A : Heap → Prop} (h : B → Mw (fun _ H => A H) v p l e R s m args below meth c nL Q qb S pc lv st) : Mw (fun _ H => B ∧ A H) v p l e R s m args below meth c nL Q qb S pc lv st := fun H locs ls cells slots hbu hW hS hl => h hW.1 H locs ls cells slots hbu hW.2 hS hl
theorem refs_push {β : Type} {base : β → Nat} {fl : List β} {b : β} : va_up (fun j => (fl[j]?).map base) fl.length (some (base b)) = fun j => ((fl ++ [b])[j]?).map base := by
  funext j
  unfold va_up
  by_cases h : j = fl.length
  · subst h; simp
  · rw [if_neg h]
    rcases Nat.lt_or_ge j fl.length with h1 | h1
    · rw [List.getElem?_append_left h1]
    · show Option.map base fl[j]? = _
      rw [List.getElem?_eq_none h1, List.getElem?_eq_none (by simp; omega)]
def refsA (f : Nat → Option Nat) : (Nat → Int32) ⊕ (Nat → Int64) ⊕ (Nat → UInt32) ⊕ (Nat → UInt64) ⊕ (Nat → Option Nat) := .inr (.inr (.inr (.inr f)))
def DB (v : EV) (b : Nat × Nat × Nat) : va_W := [(b.1, .inr (2, [.int 0, .int 0, .int 0, .int 0, .int 0, .int 0, .int 0, .int 0, .int 0, .int 0, .ref b.2.1, .ref b.2.2])), (b.2.1, .inl (eC v 0, 12, .inl (fun _ => 0))), (b.2.2, .inl (eC v 1, 12, .inl (fun _ => 0)))]
def CB (_ : EV) (b : Nat) : va_W := [(b, .inr (1, [.null, .int 0, .int 0]))]
def SBW (v : EV) (b : Nat × Nat) : va_W := [(b.1, .inr (0, [.ref b.2, .int 0, .int 0, .int 0])), (b.2, .inl (eC v 3, 16, .inl (fun _ => 0)))]
def RBY (v : EV) (a d z : Nat) (fl : List (Nat × Nat × Nat)) : va_W := [(a, .inr (4, [.ref d, .ref z, .int 0, .int 0, .int 0, .int 0, .int 0, .int 0, .int 0, .int 0])), (d, .inl (eC v 4, 5, refsA (fun j => (fl[j]?).map (fun b => b.1)))), (z, .inl (eC v 2, 25, .inl (fun _ => 0)))]
def RB (v : EV) (b : (Nat × Nat × Nat) × List (Nat × Nat × Nat)) : va_W := RBY v b.1.1 b.1.2.1 b.1.2.2 b.2 ++ b.2.flatMap (DB v)
def PBY (v : EV) (a d : Nat) (rl : List ((Nat × Nat × Nat) × List (Nat × Nat × Nat))) : va_W := [(a, .inr (3, [.ref d, .int 0, .int 0])), (d, .inl (eC v 5, 8, refsA (fun j => (rl[j]?).map (fun b => b.1.1))))]
def PBW (v : EV) (b : (Nat × Nat) × List ((Nat × Nat × Nat) × List (Nat × Nat × Nat))) : va_W := PBY v b.1.1 b.1.2 b.2 ++ b.2.flatMap (RB v)
def TBY (v : EV) (a d : Nat) (sb : Nat × Nat) (cl : List Nat) : va_W := [(a, .inr (6, [.ref sb.1, .ref d, .int 0, .int 0])), (sb.1, .inr (0, [.ref sb.2, .int 0, .int 0, .int 0])), (sb.2, .inl (eC v 3, 16, .inl (fun _ => 0))), (d, .inl (eC v 6, 12, refsA (fun j => (cl[j]?).map (fun b => b))))]
def TBW (v : EV) (b : (Nat × Nat × (Nat × Nat)) × List Nat) : va_W := TBY v b.1.1 b.1.2.1 b.1.2.2 b.2 ++ b.2.flatMap (CB v)
theorem li_z {X : va_W} : X = X ++ [] := (List.append_nil X).symm

set_option maxHeartbeats 4000000 in
set_option maxRecDepth 100000 in
theorem c_X1_init (hst : Stb v) {X : va_W} {a : Nat} : ConI 0 v l yX1_init cX1_init 1 1 12 [.ref a] (Lw v (X ++ [(a, .inr (1, [.null, .int 0, .int 0]))])) (fun H => ∃ b : Nat, b = a ∧ True ∧ Lw v (X ++ CB v b) H) := con_ofI (S := fun _ _ => 0) (by decide) rfl hst (Nat.le_of_ble_eq_true rfl) (fun p e s m args below meth c hC hX hin => by
  refine Mj.to (lv2 := [(0, .ref a)]) ?_ ⟨rfl, trivial⟩
  refine i_aload_n hC dX1_init_0 rfl ?_
  refine n_obj hC my_533 my_336 my_337 ⟨Nat.le_of_ble_eq_true rfl, Nat.le_of_ble_eq_true rfl⟩ dX1_init_1 ?_
  exact n_ret (fun H h => ⟨a, rfl, trivial, h⟩) hC dX1_init_4)
set_option maxHeartbeats 4000000 in
set_option maxRecDepth 100000 in
theorem c_X5_init (hst : Stb v) {X : va_W} {a : Nat} : ConI 0 v l yX5_init cX5_init 1 1 12 [.ref a] (Lw v (X ++ [(a, .inr (5, [.int 0, .int 0, .int 0, .int 0]))])) (Lw v (X ++ [(a, .inr (5, [.int 0, .int 0, .int 0, .int 0]))])) := con_ofI (S := fun _ _ => 0) (by decide) rfl hst (Nat.le_of_ble_eq_true rfl) (fun p e s m args below meth c hC hX hin => by
  refine Mj.to (lv2 := [(0, .ref a)]) ?_ ⟨rfl, trivial⟩
  refine i_aload_n hC dX5_init_0 rfl ?_
  refine n_obj hC my_475 my_336 my_337 ⟨Nat.le_of_ble_eq_true rfl, Nat.le_of_ble_eq_true rfl⟩ dX5_init_1 ?_
  exact n_ret (fun H h => h) hC dX5_init_4)
set_option maxHeartbeats 4000000 in
set_option maxRecDepth 100000 in
theorem c_X2_init (hst : Stb v) {X : va_W} {a : Nat} : ConI 2 v l yX2_init cX2_init 1 1 12 [.ref a] (Lw v (X ++ [(a, .inr (2, [.int 0, .int 0, .int 0, .int 0, .int 0, .int 0, .int 0, .int 0, .int 0, .int 0, .null, .null]))])) (fun H => ∃ b : Nat × Nat × Nat, b.1 = a ∧ True ∧ Lw v (X ++ DB v b) H) := con_ofI (S := fun _ _ => 0) (by decide) rfl hst (Nat.le_of_ble_eq_true rfl) (fun p e s m args below meth c hC hX hin => by
  refine Mj.to (lv2 := [(0, .ref a)]) ?_ ⟨rfl, trivial⟩
  refine i_aload_n hC dX2_init_0 rfl ?_
  refine n_obj hC my_349 my_336 my_337 ⟨Nat.le_of_ble_eq_true rfl, Nat.le_of_ble_eq_true rfl⟩ dX2_init_1 ?_
  refine i_aload_n hC dX2_init_4 rfl ?_
  refine i_bipush hC (x := (12 : Int32)) dX2_init_5 (by decide) ?_
  refine n_newp (atype := .int) (q2 := 1) (qd := 1) (N := 12) (t := 0) (ty := .int) hC my_408 rfl ⟨by decide, rfl⟩ (fun _ _ h => h) (fun _ => rfl) (by decide) (by decide) ⟨by decide, by decide⟩ (by decide) rfl dX2_init_7 (fun q1 => ?_)
  refine n_eq (ws' := X ++ [(a, .inr (2, [.int 0, .int 0, .int 0, .int 0, .int 0, .int 0, .int 0, .int 0, .int 0, .int 0, .null, .null])), (q1, .inl (eC v 0, 12, .inl (fun _ => 0)))]) (List.append_assoc _ _ _) ?_
  refine n_putF hC hin (q0 := X.length + 0) fd_X2_9 (li_at (i := 0) rfl) rfl rfl (Nat.le_of_ble_eq_true rfl) ((li_set (i := 0)).trans (show _ = X ++ [(a, .inr (2, [.int 0, .int 0, .int 0, .int 0, .int 0, .int 0, .int 0, .int 0, .int 0, .int 0, .ref q1, .null])), (q1, .inl (eC v 0, 12, .inl (fun _ => 0)))] from rfl)) dX2_init_9 ?_
  refine i_aload_n hC dX2_init_12 rfl ?_
  refine i_bipush hC (x := (12 : Int32)) dX2_init_13 (by decide) ?_
  refine n_newp (atype := .char) (q2 := 0) (qd := 1) (N := 12) (t := 1) (ty := .char) hC my_409 rfl ⟨by decide, rfl⟩ (fun _ _ h => h) (fun _ => rfl) (by decide) (by decide) ⟨by decide, by decide⟩ (by decide) rfl dX2_init_15 (fun q2 => ?_)
  refine n_eq (ws' := X ++ [(a, .inr (2, [.int 0, .int 0, .int 0, .int 0, .int 0, .int 0, .int 0, .int 0, .int 0, .int 0, .ref q1, .null])), (q1, .inl (eC v 0, 12, .inl (fun _ => 0))), (q2, .inl (eC v 1, 12, .inl (fun _ => 0)))]) (List.append_assoc _ _ _) ?_
  refine n_putF hC hin (q0 := X.length + 0) fd_X2_15 (li_at (i := 0) rfl) rfl rfl (Nat.le_of_ble_eq_true rfl) ((li_set (i := 0)).trans (show _ = X ++ [(a, .inr (2, [.int 0, .int 0, .int 0, .int 0, .int 0, .int 0, .int 0, .int 0, .int 0, .int 0, .ref q1, .ref q2])), (q1, .inl (eC v 0, 12, .inl (fun _ => 0))), (q2, .inl (eC v 1, 12, .inl (fun _ => 0)))] from rfl)) dX2_init_17 ?_
  exact n_ret (fun H h => ⟨(a, q1, q2), rfl, trivial, h⟩) hC dX2_init_20)
set_option maxHeartbeats 4000000 in
set_option maxRecDepth 100000 in
theorem c_J5_init (hst : Stb v) {X : va_W} {a : Nat} : ConI 1 v l yJ5_init_d00df cJ5_init_d00df 2 1 12 [.ref a, .int 16] (Lw v (X ++ [(a, .inr (0, [.null, .int 0, .int 0, .int 0]))])) (fun H => ∃ b : Nat × Nat, b.1 = a ∧ Lw v (X ++ SBW v b) H) := con_ofI (S := fun _ _ => 0) (by decide) rfl hst (Nat.le_of_ble_eq_true rfl) (fun p e s m args below meth c hC hX hin => by
  refine Mj.to (lv2 := [(0, .ref a), (1, .int 16)]) ?_ ⟨rfl, rfl, trivial⟩
  refine i_aload_n hC dJ5_init_d00df_0 rfl ?_
  refine n_obj hC my_503 my_336 my_337 ⟨Nat.le_of_ble_eq_true rfl, Nat.le_of_ble_eq_true rfl⟩ dJ5_init_d00df_1 ?_
  refine i_compact hC my_504 dJ5_init_d00df_4 ?_
  refine i_if_eq hC (tgt := 25) dJ5_init_d00df_7 (by decide) (fun z9 => absurd z9 (by decide)) (fun _ => ?_)
  refine i_aload_n hC dJ5_init_d00df_10 rfl ?_
  refine i_iload_n hC dJ5_init_d00df_11 rfl ?_
  refine n_newp (atype := .byte) (q2 := 0) (qd := 1) (N := 16) (t := 3) (ty := .byte) hC my_526 rfl ⟨by decide, rfl⟩ (fun _ _ h => h) (fun _ => rfl) (by decide) (by decide) ⟨by decide, by decide⟩ (by decide) rfl dJ5_init_d00df_12 (fun q1 => ?_)
  refine n_eq (ws' := X ++ [(a, .inr (0, [.null, .int 0, .int 0, .int 0])), (q1, .inl (eC v 3, 16, .inl (fun _ => 0)))]) (List.append_assoc _ _ _) ?_
  refine n_putF hC hin (q0 := X.length + 0) fd_J5_15 (li_at (i := 0) rfl) rfl rfl (Nat.le_of_ble_eq_true rfl) ((li_set (i := 0)).trans (show _ = X ++ [(a, .inr (0, [.ref q1, .int 0, .int 0, .int 0])), (q1, .inl (eC v 3, 16, .inl (fun _ => 0)))] from rfl)) dJ5_init_d00df_14 ?_
  refine i_aload_n hC dJ5_init_d00df_17 rfl ?_
  refine i_iconst hC (x := (0 : Int32)) dJ5_init_d00df_18 (by decide) ?_
  refine n_putF hC hin (q0 := X.length + 0) fd_J5_22 (li_at (i := 0) rfl) (by decide) (by decide) (Nat.le_of_ble_eq_true rfl) ((li_set (i := 0)).trans (show _ = X ++ [(a, .inr (0, [.ref q1, .int 0, .int 0, .int 0])), (q1, .inl (eC v 3, 16, .inl (fun _ => 0)))] from rfl)) dJ5_init_d00df_19 ?_
  refine i_goto hC (tgt := 38) dJ5_init_d00df_22 (by decide) ?_
  exact n_ret (fun H h => ⟨(a, q1), rfl, h⟩) hC dJ5_init_d00df_38)
set_option maxHeartbeats 4000000 in
set_option maxRecDepth 100000 in
theorem c_J4_init (hst : Stb v) {X : va_W} {a : Nat} : ConI 1 v l yJ4_init_da8c8 cJ4_init_da8c8 1 2 33 [.ref a] (Lw v (X ++ [(a, .inr (0, [.null, .int 0, .int 0, .int 0]))])) (fun H => ∃ b : Nat × Nat, b.1 = a ∧ Lw v (X ++ SBW v b) H) := con_ofI (S := fun _ _ => 0) (by decide) rfl hst (Nat.le_of_ble_eq_true rfl) (fun p e s m args below meth c hC hX hin => by
  refine Mj.to (lv2 := [(0, .ref a)]) ?_ ⟨rfl, trivial⟩
  refine i_aload_n hC dJ4_init_da8c8_0 rfl ?_
  refine i_bipush hC (x := (16 : Int32)) dJ4_init_da8c8_1 (by decide) ?_
  refine n_call (As := [.int 16]) (q2 := 0) hC hX mi_J4_1 (c_J5_init (X := X) (a := a) hC.2.2.2.2.2.2.2.1) rfl rfl rfl ⟨Nat.le_of_ble_eq_true rfl, Nat.le_of_ble_eq_true rfl⟩ (Nat.le_of_ble_eq_true rfl) dJ4_init_da8c8_3 ?_
  exact n_ret (fun H h => h) hC dJ4_init_da8c8_6)
end CT0
