theorem mw_79 : Cond.selects RX9 yX9_number yX9_number ∈ TW := tw_of (i := 79) (by decide +kernel) rfl
theorem mw_1512 : Cond.methodLink RX9 285 yX9_number ∈ TW := tw_of (i := 1512) (by decide +kernel) rfl
theorem mw_1514 : Cond.instanceMethod yX9_number ∈ TW := tw_of (i := 1514) (by decide +kernel) rfl
theorem mw_1515 : Cond.code yX9_number cX9_number 2 none ∈ TW := tw_of (i := 1515) (by decide +kernel) rfl
theorem mv_X9_285 : MV RX9 285 yX9_number cX9_number 2 none 1 := ⟨gi_cons mw_1512 (gi_cons mw_1514 (gi_cons mw_79 (gi_cons mw_94 (gi_cons mw_1515 tw_good)))), by decide +kernel⟩
/-! ===== the reference's number ===== -/
def f_num : Nat → Mem → Int32 → Option Mem
  | 0, _, _ => none
  | n + 1, S, x => if x < (10 : Int32) then g_X9_puts S ((48 : Int32) + (x - x / (10 : Int32) * (10 : Int32))) else bd1 (f_num n S (x / (10 : Int32))) (fun S1 => g_X9_puts S1 ((48 : Int32) + (x - x / (10 : Int32) * (10 : Int32))))
def g_X9_number (S : Mem) (x1 : Int32) : Option Mem := f_num 10 S x1
set_option maxHeartbeats 4000000 in
theorem c_num {v : EV} {l : Launch} (hst : Stb v) : ∀ (n : Nat) {S : Mem} {x : Int32} {r : Mem}, f_num n S x = some r → Con v l yX9_number cX9_number 2 none (n + 1) (12 + 21 * n) [.ref (eA v 218), .int x] S none r := by
  intro n
  induction n with
  | zero => intro S x r h; cases h
  | succ n ih =>
    intro S x r hf
    unfold f_num at hf
    refine con_of (by decide) hst (Nat.le_of_ble_eq_true rfl) (fun p e s m args below meth c hC => ?_)
    refine Mj.to (lv2 := [(0, .ref (eA v 218)), (1, .int x)]) ?_ ⟨rfl, rfl, trivial⟩
    have e14 : ∀ (S1 : Mem), g_X9_puts S1 ((48 : Int32) + (x - x / (10 : Int32) * (10 : Int32))) = some r → Mj v p l e (rmF (n + 1 + 1) (12 + 21 * (n + 1))) s m args below meth c 2 (MQ below (Qc v none r) args s 0 0 (eG v)) 0 S1 14 [(0, .ref (eA v 218)), (1, .int x)] [] := by
      intro S1 h1
      refine i_aload_n hC dX9_number_14 rfl ?_
      refine i_bipush hC (x := (48 : Int32)) dX9_number_15 (by decide) ?_
      refine i_iload_n hC dX9_number_17 rfl ?_
      refine i_bipush hC (x := (10 : Int32)) dX9_number_18 (by decide) ?_
      refine i_irem hC dX9_number_20 (by decide) ?_
      refine i_iadd hC dX9_number_21 ?_
      refine i_callVv hC mv_X9_288 (c_X9_puts hC.2.2.2.2.2.2.2.1 h1) (pln rfl) lay_p218 rfl rfl rfl rfl ⟨by show 1 + 1 ≤ n + 1 + 1; omega, by show 8 + (2 + 11) + 12 ≤ 12 + 21 * (n + 1); omega⟩ (Nat.le_of_ble_eq_true rfl) dX9_number_22 ?_
      exact i_vret hC dX9_number_25
    refine i_iload_n hC dX9_number_0 rfl ?_
    refine i_bipush hC (x := (10 : Int32)) dX9_number_1 (by decide) ?_
    refine i_icmp_lt hC (tgt := 14) dX9_number_3 (by decide) (fun c1 => ?_) (fun c1 => ?_)
    · rw [if_pos c1] at hf
      exact e14 S hf
    · rw [if_neg c1] at hf
      obtain ⟨S1, h1, h2⟩ := bd1_of hf
      refine i_aload_n hC dX9_number_6 rfl ?_
      refine i_iload_n hC dX9_number_7 rfl ?_
      refine i_bipush hC (x := (10 : Int32)) dX9_number_8 (by decide) ?_
      refine i_idiv hC dX9_number_10 (by decide) ?_
      refine i_callVv hC mv_X9_285 (ih h1) (pln rfl) lay_p218 rfl rfl rfl rfl ⟨by show n + 1 + 1 ≤ n + 1 + 1; omega, by show 8 + (2 + 11) + (12 + 21 * n) ≤ 12 + 21 * (n + 1); omega⟩ (Nat.le_of_ble_eq_true rfl) dX9_number_11 ?_
      exact e14 S1 h2
theorem c_X9_number {v : EV} {l : Launch} (hst : Stb v) {S : Mem} {x1 : Int32} {r : Mem} (hf : g_X9_number S x1 = some r) : Con v l yX9_number cX9_number 2 none 11 222 [.ref (eA v 218), .int x1] S none r := c_num hst 10 hf
def f_X9_tell_128 (ih65 : (Mem × Int32) → Option (Int32 × Mem)) (S : Mem) (x1 : Int32) (x3 : Int32) : Option (Int32 × Mem) := ih65 (S, (x3 + (1 : Int32)))
def f_X9_tell_92 (ih65 : (Mem × Int32) → Option (Int32 × Mem)) (S : Mem) (x1 : Int32) (x3 : Int32) : Option (Int32 × Mem) := bd1 (g_X9_of S x1 (5 : Int32)) (fun r14 => (if r14 ≤ x3 then f_X9_tell_128 ih65 S x1 x3 else bd1 (g_X9_of S x1 ((22 : Int32) + x3)) (fun r16 => bd1 (g_X9_puts S r16) (fun S17 => bd1 (g_X9_of S17 x1 ((10 : Int32) + x3)) (fun r18 => bd1 (g_X9_number S17 r18) (fun S19 => f_X9_tell_128 ih65 S19 x1 x3))))))
def f_X9_tell_65_b (ih65 : (Mem × Int32) → Option (Int32 × Mem)) (S : Mem) (x1 : Int32) (x3 : Int32) : Option (Int32 × Mem) := bd1 (g_X9_of S x1 (5 : Int32)) (fun r10 => (if r10 < x3 then some ((S 28 19), S) else bd1 (g_X9_of S x1 (6 : Int32)) (fun r12 => (if x3 = r12 then bd1 (g_X9_puts S (124 : Int32)) (fun S20 => f_X9_tell_92 ih65 S20 x1 x3) else f_X9_tell_92 ih65 S x1 x3))))
def f_X9_tell_65 (S : Mem) (x1 : Int32) (x3 : Int32) : Option (Int32 × Mem) := lp (fun ih65 s9 => f_X9_tell_65_b ih65 s9.1 x1 s9.2) 2000 (S, x3)
def f_X9_tell_44 (S : Mem) (x1 : Int32) (xt0 : Int32) : Option (Int32 × Mem) := bd1 (g_X9_puts S xt0) (fun S6 => bd1 (g_X9_of S6 x1 (1 : Int32)) (fun r7 => bd1 (g_X9_number S6 r7) (fun S8 => bd1 (g_X9_puts S8 (58 : Int32)) (fun S9 => f_X9_tell_65 S9 x1 (0 : Int32)))))
def f_X9_tell_0 (S : Mem) (x1 : Int32) : Option (Int32 × Mem) := bd1 (g_X9_isDriver S x1) (fun r1 => (if r1 = 0 then some ((-1 : Int32), S) else bd1 (g_X9_of (up S 28 19 (0 : Int32)) x1 (0 : Int32)) (fun r3 => (if r3 = 0 then f_X9_tell_44 (up S 28 19 (0 : Int32)) x1 (102 : Int32) else (if r3 = (1 : Int32) then f_X9_tell_44 (up S 28 19 (0 : Int32)) x1 (99 : Int32) else f_X9_tell_44 (up S 28 19 (0 : Int32)) x1 (108 : Int32))))))
def g_X9_tell (S : Mem) (x1 : Int32) : Option (Int32 × Mem) := f_X9_tell_0 S x1
set_option maxHeartbeats 4000000 in
set_option maxRecDepth 100000 in
theorem b_X9_tell_128 {v : EV} {p : Program} {l : Launch} {e : Env} {s : State} {m : MethodId} {args : Array Value} {below : List Frame} {meth : Method} {c : Code} (hC : Cx v p l e s m args meth c RX9 cX9_tell 4 (some .int)) {S : Mem} {x1 : Int32} {x3 : Int32}  {r : Int32 × Mem} {ih65 : (Mem × Int32) → Option (Int32 × Mem)} (hih65 : ∀ s9 : (Mem × Int32), ih65 s9 = some r → Mj v p l e (rmF 12 243) s m args below meth c 4 (MQ below (Qc v (some (.int r.1)) r.2) args s 0 0 (eG v)) 0 s9.1 65 [(0, .ref (eA v (218))), (1, .int x1), (3, .int (s9.2))] []) (hf : f_X9_tell_128 ih65 S x1 x3 = some r) : Mj v p l e (rmF 12 243) s m args below meth c 4 (MQ below (Qc v (some (.int r.1)) r.2) args s 0 0 (eG v)) 0 S 128 [(0, .ref (eA v (218))), (1, .int x1), (3, .int x3)] [] := by
  refine i_iinc hC dX9_tell_128 rfl li_1 (by decide) ?_
  refine i_goto hC (tgt := 65) dX9_tell_131 (by decide) ?_
  exact Mj.to (hih65 _ hf) ⟨rfl, rfl, rfl, trivial⟩
set_option maxHeartbeats 4000000 in
set_option maxRecDepth 100000 in
theorem b_X9_tell_92 {v : EV} {p : Program} {l : Launch} {e : Env} {s : State} {m : MethodId} {args : Array Value} {below : List Frame} {meth : Method} {c : Code} (hC : Cx v p l e s m args meth c RX9 cX9_tell 4 (some .int)) {S : Mem} {x1 : Int32} {x3 : Int32}  {r : Int32 × Mem} {ih65 : (Mem × Int32) → Option (Int32 × Mem)} (hih65 : ∀ s9 : (Mem × Int32), ih65 s9 = some r → Mj v p l e (rmF 12 243) s m args below meth c 4 (MQ below (Qc v (some (.int r.1)) r.2) args s 0 0 (eG v)) 0 s9.1 65 [(0, .ref (eA v (218))), (1, .int x1), (3, .int (s9.2))] []) (hf : f_X9_tell_92 ih65 S x1 x3 = some r) : Mj v p l e (rmF 12 243) s m args below meth c 4 (MQ below (Qc v (some (.int r.1)) r.2) args s 0 0 (eG v)) 0 S 92 [(0, .ref (eA v (218))), (1, .int x1), (3, .int x3)] [] := by
  refine i_iload_n hC dX9_tell_92 rfl ?_
  refine i_aload_n hC dX9_tell_93 rfl ?_
  refine i_iload_n hC dX9_tell_94 rfl ?_
  refine i_iconst hC dX9_tell_95 li_5 ?_
  obtain ⟨r14, hc14, hf⟩ := bd1_of hf
  refine i_callVi hC mv_X9_69 (c_X9_of hC.2.2.2.2.2.2.2.1 hc14) (pln rfl) (lay_p218) rfl rfl rfl rfl ⟨Nat.le_of_ble_eq_true rfl, Nat.le_of_ble_eq_true rfl⟩ (Nat.le_of_ble_eq_true rfl) dX9_tell_96 ?_
  refine i_icmp_ge hC (tgt := 128) dX9_tell_99 (by decide) (fun c15 => ?_) (fun c15 => ?_)
  · replace hf := (if_pos c15).symm.trans hf
    exact Mj.to (b_X9_tell_128 hC hih65 hf) ⟨rfl, rfl, rfl, trivial⟩
  · replace hf := (if_neg c15).symm.trans hf
    refine i_aload_n hC dX9_tell_102 rfl ?_
    refine i_aload_n hC dX9_tell_103 rfl ?_
    refine i_iload_n hC dX9_tell_104 rfl ?_
    refine i_bipush hC dX9_tell_105 lb_22 ?_
    refine i_iload_n hC dX9_tell_107 rfl ?_
    refine i_iadd hC dX9_tell_108 ?_
    obtain ⟨r16, hc16, hf⟩ := bd1_of hf
    refine i_callVi hC mv_X9_69 (c_X9_of hC.2.2.2.2.2.2.2.1 hc16) (pln rfl) (lay_p218) rfl rfl rfl rfl ⟨Nat.le_of_ble_eq_true rfl, Nat.le_of_ble_eq_true rfl⟩ (Nat.le_of_ble_eq_true rfl) dX9_tell_109 ?_
    obtain ⟨S17, hc17, hf⟩ := bd1_of hf
    refine i_callVv hC mv_X9_288 (c_X9_puts hC.2.2.2.2.2.2.2.1 hc17) (pln rfl) (lay_p218) rfl rfl rfl rfl ⟨Nat.le_of_ble_eq_true rfl, Nat.le_of_ble_eq_true rfl⟩ (Nat.le_of_ble_eq_true rfl) dX9_tell_112 ?_
    refine i_aload_n hC dX9_tell_115 rfl ?_
    refine i_aload_n hC dX9_tell_116 rfl ?_
    refine i_iload_n hC dX9_tell_117 rfl ?_
    refine i_bipush hC dX9_tell_118 lb_10 ?_
    refine i_iload_n hC dX9_tell_120 rfl ?_
    refine i_iadd hC dX9_tell_121 ?_
    obtain ⟨r18, hc18, hf⟩ := bd1_of hf
    refine i_callVi hC mv_X9_69 (c_X9_of hC.2.2.2.2.2.2.2.1 hc18) (pln rfl) (lay_p218) rfl rfl rfl rfl ⟨Nat.le_of_ble_eq_true rfl, Nat.le_of_ble_eq_true rfl⟩ (Nat.le_of_ble_eq_true rfl) dX9_tell_122 ?_
    obtain ⟨S19, hc19, hf⟩ := bd1_of hf
    refine i_callVv hC mv_X9_285 (c_X9_number hC.2.2.2.2.2.2.2.1 hc19) (pln rfl) (lay_p218) rfl rfl rfl rfl ⟨Nat.le_of_ble_eq_true rfl, Nat.le_of_ble_eq_true rfl⟩ (Nat.le_of_ble_eq_true rfl) dX9_tell_125 ?_
    exact Mj.to (b_X9_tell_128 hC hih65 hf) ⟨rfl, rfl, rfl, trivial⟩
set_option maxHeartbeats 4000000 in
set_option maxRecDepth 100000 in
theorem b_X9_tell_65_b {v : EV} {p : Program} {l : Launch} {e : Env} {s : State} {m : MethodId} {args : Array Value} {below : List Frame} {meth : Method} {c : Code} (hC : Cx v p l e s m args meth c RX9 cX9_tell 4 (some .int)) {S : Mem} {x1 : Int32} {x3 : Int32}  {r : Int32 × Mem} {ih65 : (Mem × Int32) → Option (Int32 × Mem)} (hih65 : ∀ s9 : (Mem × Int32), ih65 s9 = some r → Mj v p l e (rmF 12 243) s m args below meth c 4 (MQ below (Qc v (some (.int r.1)) r.2) args s 0 0 (eG v)) 0 s9.1 65 [(0, .ref (eA v (218))), (1, .int x1), (3, .int (s9.2))] []) (hf : f_X9_tell_65_b ih65 S x1 x3 = some r) : Mj v p l e (rmF 12 243) s m args below meth c 4 (MQ below (Qc v (some (.int r.1)) r.2) args s 0 0 (eG v)) 0 S 65 [(0, .ref (eA v (218))), (1, .int x1), (3, .int x3)] [] := by
  refine i_iload_n hC dX9_tell_65 rfl ?_
  refine i_aload_n hC dX9_tell_66 rfl ?_
  refine i_iload_n hC dX9_tell_67 rfl ?_
  refine i_iconst hC dX9_tell_68 li_5 ?_
  obtain ⟨r10, hc10, hf⟩ := bd1_of hf
  refine i_callVi hC mv_X9_69 (c_X9_of hC.2.2.2.2.2.2.2.1 hc10) (pln rfl) (lay_p218) rfl rfl rfl rfl ⟨Nat.le_of_ble_eq_true rfl, Nat.le_of_ble_eq_true rfl⟩ (Nat.le_of_ble_eq_true rfl) dX9_tell_69 ?_
  refine i_icmp_gt hC (tgt := 134) dX9_tell_72 (by decide) (fun c11 => ?_) (fun c11 => ?_)
  · replace hf := (if_pos c11).symm.trans hf
    refine i_aload_n hC dX9_tell_134 rfl ?_
    refine i_getI hC fl_X9_282 (pln rfl) (lay_p218) rfl dX9_tell_135 ?_
    obtain rfl := Option.some.inj hf
    exact i_iret hC dX9_tell_138
  · replace hf := (if_neg c11).symm.trans hf
    refine i_iload_n hC dX9_tell_75 rfl ?_
    refine i_aload_n hC dX9_tell_76 rfl ?_
    refine i_iload_n hC dX9_tell_77 rfl ?_
    refine i_bipush hC dX9_tell_78 lb_6 ?_
    obtain ⟨r12, hc12, hf⟩ := bd1_of hf
    refine i_callVi hC mv_X9_69 (c_X9_of hC.2.2.2.2.2.2.2.1 hc12) (pln rfl) (lay_p218) rfl rfl rfl rfl ⟨Nat.le_of_ble_eq_true rfl, Nat.le_of_ble_eq_true rfl⟩ (Nat.le_of_ble_eq_true rfl) dX9_tell_80 ?_
    refine i_icmp_ne hC (tgt := 92) dX9_tell_83 (by decide) (fun c13 => ?_) (fun c13 => ?_)
    · replace hf := (if_neg c13).symm.trans hf
      exact Mj.to (b_X9_tell_92 hC hih65 hf) ⟨rfl, rfl, rfl, trivial⟩
    · replace hf := (if_pos c13).symm.trans hf
      refine i_aload_n hC dX9_tell_86 rfl ?_
      refine i_bipush hC dX9_tell_87 lb_124 ?_
      obtain ⟨S20, hc20, hf⟩ := bd1_of hf
      refine i_callVv hC mv_X9_288 (c_X9_puts hC.2.2.2.2.2.2.2.1 hc20) (pln rfl) (lay_p218) rfl rfl rfl rfl ⟨Nat.le_of_ble_eq_true rfl, Nat.le_of_ble_eq_true rfl⟩ (Nat.le_of_ble_eq_true rfl) dX9_tell_89 ?_
      exact Mj.to (b_X9_tell_92 hC hih65 hf) ⟨rfl, rfl, rfl, trivial⟩
theorem b_X9_tell_65 {v : EV} {p : Program} {l : Launch} {e : Env} {s : State} {m : MethodId} {args : Array Value} {below : List Frame} {meth : Method} {c : Code} (hC : Cx v p l e s m args meth c RX9 cX9_tell 4 (some .int)) {S : Mem} {x1 : Int32} {x3 : Int32}  {r : Int32 × Mem} (hf : f_X9_tell_65 S x1 x3 = some r) : Mj v p l e (rmF 12 243) s m args below meth c 4 (MQ below (Qc v (some (.int r.1)) r.2) args s 0 0 (eG v)) 0 S 65 [(0, .ref (eA v (218))), (1, .int x1), (3, .int x3)] [] :=
  lp_ind (P := fun s9 : (Mem × Int32) => Mj v p l e (rmF 12 243) s m args below meth c 4 (MQ below (Qc v (some (.int r.1)) r.2) args s 0 0 (eG v)) 0 s9.1 65 [(0, .ref (eA v (218))), (1, .int x1), (3, .int (s9.2))] []) (fun ih s9 hih hf => b_X9_tell_65_b hC   hih hf) _ _ hf
set_option maxHeartbeats 4000000 in
set_option maxRecDepth 100000 in
theorem b_X9_tell_44 {v : EV} {p : Program} {l : Launch} {e : Env} {s : State} {m : MethodId} {args : Array Value} {below : List Frame} {meth : Method} {c : Code} (hC : Cx v p l e s m args meth c RX9 cX9_tell 4 (some .int)) {S : Mem} {x1 : Int32} {xt0 : Int32}  {r : Int32 × Mem} (hf : f_X9_tell_44 S x1 xt0 = some r) : Mj v p l e (rmF 12 243) s m args below meth c 4 (MQ below (Qc v (some (.int r.1)) r.2) args s 0 0 (eG v)) 0 S 44 [(0, .ref (eA v (218))), (1, .int x1)] [.int xt0, .ref (eA v (218))] := by
  obtain ⟨S6, hc6, hf⟩ := bd1_of hf
  refine i_callVv hC mv_X9_288 (c_X9_puts hC.2.2.2.2.2.2.2.1 hc6) (pln rfl) (lay_p218) rfl rfl rfl rfl ⟨Nat.le_of_ble_eq_true rfl, Nat.le_of_ble_eq_true rfl⟩ (Nat.le_of_ble_eq_true rfl) dX9_tell_44 ?_
  refine i_aload_n hC dX9_tell_47 rfl ?_
  refine i_aload_n hC dX9_tell_48 rfl ?_
  refine i_iload_n hC dX9_tell_49 rfl ?_
  refine i_iconst hC dX9_tell_50 li_1 ?_
  obtain ⟨r7, hc7, hf⟩ := bd1_of hf
  refine i_callVi hC mv_X9_69 (c_X9_of hC.2.2.2.2.2.2.2.1 hc7) (pln rfl) (lay_p218) rfl rfl rfl rfl ⟨Nat.le_of_ble_eq_true rfl, Nat.le_of_ble_eq_true rfl⟩ (Nat.le_of_ble_eq_true rfl) dX9_tell_51 ?_
  obtain ⟨S8, hc8, hf⟩ := bd1_of hf
  refine i_callVv hC mv_X9_285 (c_X9_number hC.2.2.2.2.2.2.2.1 hc8) (pln rfl) (lay_p218) rfl rfl rfl rfl ⟨Nat.le_of_ble_eq_true rfl, Nat.le_of_ble_eq_true rfl⟩ (Nat.le_of_ble_eq_true rfl) dX9_tell_54 ?_
  refine i_aload_n hC dX9_tell_57 rfl ?_
  refine i_bipush hC dX9_tell_58 lb_58 ?_
  obtain ⟨S9, hc9, hf⟩ := bd1_of hf
  refine i_callVv hC mv_X9_288 (c_X9_puts hC.2.2.2.2.2.2.2.1 hc9) (pln rfl) (lay_p218) rfl rfl rfl rfl ⟨Nat.le_of_ble_eq_true rfl, Nat.le_of_ble_eq_true rfl⟩ (Nat.le_of_ble_eq_true rfl) dX9_tell_60 ?_
  refine i_iconst hC dX9_tell_63 li_0 ?_
  refine i_istore_n hC dX9_tell_64 (by decide) ?_
  exact Mj.to (b_X9_tell_65 hC  hf) ⟨rfl, rfl, rfl, trivial⟩
set_option maxHeartbeats 4000000 in
set_option maxRecDepth 100000 in
theorem b_X9_tell_0 {v : EV} {p : Program} {l : Launch} {e : Env} {s : State} {m : MethodId} {args : Array Value} {below : List Frame} {meth : Method} {c : Code} (hC : Cx v p l e s m args meth c RX9 cX9_tell 4 (some .int)) {S : Mem} {x1 : Int32}  {r : Int32 × Mem} (hf : f_X9_tell_0 S x1 = some r) : Mj v p l e (rmF 12 243) s m args below meth c 4 (MQ below (Qc v (some (.int r.1)) r.2) args s 0 0 (eG v)) 0 S 0 [(0, .ref (eA v (218))), (1, .int x1)] [] := by
  refine i_aload_n hC dX9_tell_0 rfl ?_
  refine i_iload_n hC dX9_tell_1 rfl ?_
  obtain ⟨r1, hc1, hf⟩ := bd1_of hf
  refine i_callVi hC mv_X9_65 (c_X9_isDriver hC.2.2.2.2.2.2.2.1 hc1) (pln rfl) (lay_p218) rfl rfl rfl rfl ⟨Nat.le_of_ble_eq_true rfl, Nat.le_of_ble_eq_true rfl⟩ (Nat.le_of_ble_eq_true rfl) dX9_tell_2 ?_
  refine i_if_ne hC (tgt := 10) dX9_tell_5 (by decide) (fun c2 => ?_) (fun c2 => ?_)
  · replace hf := (if_neg c2).symm.trans hf
    refine i_aload_n hC dX9_tell_10 rfl ?_
    refine i_iconst hC dX9_tell_11 li_0 ?_
    refine i_putI hC fl_X9_282 (pln rfl) (lay_p218) rfl (bk_l ⟨rfl, rfl, rfl, rfl⟩) (nf_int _) dX9_tell_12 ?_
    refine i_aload_n hC dX9_tell_15 rfl ?_
    refine i_iload_n hC dX9_tell_16 rfl ?_
    refine i_iconst hC dX9_tell_17 li_0 ?_
    obtain ⟨r3, hc3, hf⟩ := bd1_of hf
    refine i_callVi hC mv_X9_69 (c_X9_of hC.2.2.2.2.2.2.2.1 hc3) (pln rfl) (lay_p218) rfl rfl rfl rfl ⟨Nat.le_of_ble_eq_true rfl, Nat.le_of_ble_eq_true rfl⟩ (Nat.le_of_ble_eq_true rfl) dX9_tell_18 ?_
    refine i_istore_n hC dX9_tell_21 (by decide) ?_
    refine i_aload_n hC dX9_tell_22 rfl ?_
    refine i_iload_n hC dX9_tell_23 rfl ?_
    refine i_if_ne hC (tgt := 32) dX9_tell_24 (by decide) (fun c4 => ?_) (fun c4 => ?_)
    · replace hf := (if_neg c4).symm.trans hf
      refine i_iload_n hC dX9_tell_32 rfl ?_
      refine i_iconst hC dX9_tell_33 li_1 ?_
      refine i_icmp_ne hC (tgt := 42) dX9_tell_34 (by decide) (fun c5 => ?_) (fun c5 => ?_)
      · replace hf := (if_neg c5).symm.trans hf
        refine i_bipush hC dX9_tell_42 lb_108 ?_
        exact Mj.to (b_X9_tell_44 hC  hf) ⟨rfl, rfl, trivial⟩
      · replace hf := (if_pos c5).symm.trans hf
        refine i_bipush hC dX9_tell_37 lb_99 ?_
        refine i_goto hC (tgt := 44) dX9_tell_39 (by decide) ?_
        exact Mj.to (b_X9_tell_44 hC  hf) ⟨rfl, rfl, trivial⟩
    · replace hf := (if_pos c4).symm.trans hf
      refine i_bipush hC dX9_tell_27 lb_102 ?_
      refine i_goto hC (tgt := 44) dX9_tell_29 (by decide) ?_
      exact Mj.to (b_X9_tell_44 hC  hf) ⟨rfl, rfl, trivial⟩
  · replace hf := (if_pos c2).symm.trans hf
    refine i_iconst hC dX9_tell_8 li_m1 ?_
    obtain rfl := Option.some.inj hf
    exact i_iret hC dX9_tell_9
theorem c_X9_tell {v : EV} {l : Launch} (hst : Stb v) {S : Mem} {x1 : Int32}  {r : Int32 × Mem} (hf : g_X9_tell S x1 = some r) : Con v l yX9_tell cX9_tell 4 (some .int) 12 243 [.ref (eA v (218)), .int x1] S (some (.int r.1)) r.2 := con_of (by decide) hst (Nat.le_of_ble_eq_true rfl) (fun p e s m args below meth c hC => b_X9_tell_0 hC  hf)
