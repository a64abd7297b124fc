theorem mw_408 : Cond.arrayClass .int ∈ TW := tw_of (i := 408) (by decide +kernel) rfl
/-! ===== what the law sees: a row of 220 ints ===== -/
def sA (A : Nat → Int32) : Nat → Nat → Int32
  | 0 => fun _ => 0
  | k + 1 => upd (sA A k) k (A k)
def sD (D : Nat → Int32) (k : Nat) (f : Nat → Int32) : Nat → Nat → Int32
  | 0 => f
  | w + 1 => upd (sD D k f w) (12 + 36 * k + w) (D w)
def sL (L : Nat → Nat → Int32) (k : Nat) (f : Nat → Int32) : Nat → Nat → Int32
  | 0 => f
  | i + 1 => upd (upd (sL L k f i) (24 + 36 * k + 2 * i) (L i 0)) (25 + 36 * k + 2 * i) (L i 1)
def sO (A : Nat → Int32) (D : Nat → Nat → Int32) (mm : Nat → Nat) (L : Nat → Nat → Nat → Int32) : Nat → Nat → Int32
  | 0 => sA A 11
  | k + 1 => sL (L k) k (sD (D k) k (sO A D mm L k) 11) (mm k)
def SeenH (S : Mem) (n : Nat) (A : Nat → Int32) (D : Nat → Nat → Int32) (mm : Nat → Nat) (L : Nat → Nat → Nat → Int32) : Prop :=
  n ≤ 5 ∧ (∀ k, k < 11 → g_X8_account S (nI k) = some (A k)) ∧ A 1 = nI n ∧ ∀ k, k < n → (∀ w, w < 11 → g_X8_driverOf S (nI k) (nI w) = some (D k w)) ∧ D k 5 = nI (mm k) ∧ mm k ≤ 12 ∧ ∀ i, i < mm k → g_X8_lineOf S (nI k) (nI (i + 1)) 0 = some (L k i 0) ∧ g_X8_lineOf S (nI k) (nI (i + 1)) 1 = some (L k i 1)
theorem e_iast {v : EV} {p : Program} {l : Launch} {e : Env} {R : Room} {s : State} {m : MethodId} {args : Array Value} {below : List Frame} {meth : Method} {c : Code} {own : String} {cc : ByteArray} {nL : Nat} {ret : Option FieldType} {Q : State → Prop} {qb : Nat} {S : Mem} {pc : Nat} {lv : List (Nat × Value)} {st : List Value} {Y : va_W} (hC : Cx v p l e s m args meth c own cc nL ret) {a n i : Nat} {f : Nat → Int32} {x : Int32} (hi : i < n) (hn : n < 2 ^ 31) (hdg : decode cc pc = .ok (.iastore, 1)) (kk : Mw (WE v ((a, .inl (eC v 0, n, .inl (upd f i x))) :: Y)) v p l e R s m args below meth c nL Q qb S (pc + 1) lv st) : Mw (WE v ((a, .inl (eC v 0, n, .inl f)) :: Y)) v p l e R s m args below meth c nL Q qb S pc lv (.int x :: .int (nI i) :: .ref a :: st) := by
  intro H locs ls cells slots hbu hW hS hl
  obtain ⟨da, hP, hD⟩ := hW
  refine va_iast hC.1 hC.2.1 hC.2.2.2.2.2.1 hP hD hS ((wsW v da S).length + 0) 0 (n := n) (f := f) (ap_in rfl) (tysOf_at v (by decide)) (vp_in_nI hi hn) hdg fun H1 locs1 hP1 hD1 hS1 => ?_
  rw [nI_clamp (by omega), List.set_append_right _ _ (by omega), Nat.add_sub_cancel_left] at hP1 hD1
  exact kk H1 locs1 ls cells slots hbu ⟨da, hP1, hD1⟩ hS1 hl

set_option maxHeartbeats 4000000 in
set_option maxRecDepth 100000 in
theorem se_1 {v : EV} {p : Program} {l : Launch} {e : Env} {s : State} {m : MethodId} {args : Array Value} {below : List Frame} {meth : Method} {c : Code} {Q : State → Prop} {qb : Nat} {S : Mem} (hC : Cx v p l e s m args meth c RL cL_seen 4 (some (.array .int))) {a n : Nat} {A : Nat → Int32} {D : Nat → Nat → Int32} {mm : Nat → Nat} {L : Nat → Nat → Nat → Int32} (h : SeenH S n A D mm L) (kk : Mw (WE v [(a, .inl (eC v 0, 220, .inl (sA A 11)))]) v p l e (rmK 2 5 102) s m args below meth c 4 Q qb S 28 [(0, .ref (eA v 198)), (1, .ref a)] []) : ∀ j k, k + j = 11 → Mw (WE v [(a, .inl (eC v 0, 220, .inl (sA A k)))]) v p l e (rmK 2 5 102) s m args below meth c 4 Q qb S 8 [(0, .ref (eA v 198)), (1, .ref a), (2, .int (nI k))] [] := by
  intro j
  induction j with
  | zero =>
    intro k hk
    obtain rfl : k = 11 := by omega
    refine i_iload_n hC dL_seen_8 rfl ?_
    refine i_bipush hC (x := (11 : Int32)) dL_seen_9 (by decide) ?_
    refine i_icmp_ge hC (tgt := 28) dL_seen_11 (by decide) (fun _ => ?_) (fun z9 => absurd (by decide) z9)
    exact Mj.to kk ⟨rfl, rfl, trivial⟩
  | succ j ih =>
    intro k hk
    refine i_iload_n hC dL_seen_8 rfl ?_
    refine i_bipush hC (x := (11 : Int32)) dL_seen_9 (by decide) ?_
    refine i_icmp_ge hC (tgt := 28) dL_seen_11 (by decide) (fun z9 => absurd z9 (fun z => absurd ((nI_leI (a := 11) (b := k) (by decide) (by omega)).mp z) (by omega))) (fun _ => ?_)
    refine i_aload_n hC dL_seen_14 rfl ?_
    refine i_iload_n hC dL_seen_15 rfl ?_
    refine i_aload_n hC dL_seen_16 rfl ?_
    refine i_iload_n hC dL_seen_17 rfl ?_
    refine x_callV (R := (rmK 2 5 102)) (q2 := qb) (As := [.int (nI k)]) (q := 198) (rv := some (.int (A k))) hC mv_L_47 (c_X8_account (stb_all _) (h.2.1 k (by omega))) (pln rfl) lay_p198 rfl rfl rfl rfl ⟨(by exact Nat.le_of_ble_eq_true rfl), (by exact Nat.le_of_ble_eq_true rfl)⟩ (by exact Nat.le_of_ble_eq_true rfl) dL_seen_18 ?_
    refine e_iast (R := (rmK 2 5 102)) hC (i := k) (by omega) (by decide) dL_seen_21 ?_
    refine i_iinc hC (y := (1 : Int32)) dL_seen_22 rfl (by decide) (by decide) ?_
    refine i_goto hC (tgt := 8) dL_seen_25 (by decide) ?_
    exact Mj.to (ih (k + 1) (by omega)) ⟨rfl, rfl, (by show some (Value.int (nI k + 1)) = _; rw [nI_1]), trivial⟩
set_option maxHeartbeats 4000000 in
set_option maxRecDepth 100000 in
theorem se_2 {v : EV} {p : Program} {l : Launch} {e : Env} {s : State} {m : MethodId} {args : Array Value} {below : List Frame} {meth : Method} {c : Code} {Q : State → Prop} {qb : Nat} {S : Mem} (hC : Cx v p l e s m args meth c RL cL_seen 4 (some (.array .int))) {a n : Nat} {A : Nat → Int32} {D : Nat → Nat → Int32} {mm : Nat → Nat} {L : Nat → Nat → Nat → Int32} (h : SeenH S n A D mm L) {k : Nat} (hk : k < n) {f : Nat → Int32} (kk : Mw (WE v [(a, .inl (eC v 0, 220, .inl (sD (D k) k f 11)))]) v p l e (rmK 2 5 102) s m args below meth c 4 Q qb S 70 [(0, .ref (eA v 198)), (1, .ref a), (2, .int (nI k))] []) : ∀ j w, w + j = 11 → Mw (WE v [(a, .inl (eC v 0, 220, .inl (sD (D k) k f w)))]) v p l e (rmK 2 5 102) s m args below meth c 4 Q qb S 41 [(0, .ref (eA v 198)), (1, .ref a), (2, .int (nI k)), (3, .int (nI w))] [] := by
  have h5 := h.1
  intro j
  induction j with
  | zero =>
    intro w hw
    obtain rfl : w = 11 := by omega
    refine i_iload_n hC dL_seen_41 rfl ?_
    refine i_bipush hC (x := (11 : Int32)) dL_seen_42 (by decide) ?_
    refine i_icmp_ge hC (tgt := 70) dL_seen_44 (by decide) (fun _ => ?_) (fun z9 => absurd (by decide) z9)
    exact Mj.to kk ⟨rfl, rfl, rfl, trivial⟩
  | succ j ih =>
    intro w hw
    refine i_iload_n hC dL_seen_41 rfl ?_
    refine i_bipush hC (x := (11 : Int32)) dL_seen_42 (by decide) ?_
    refine i_icmp_ge hC (tgt := 70) dL_seen_44 (by decide) (fun z9 => absurd z9 (fun z => absurd ((nI_leI (a := 11) (b := w) (by decide) (by omega)).mp z) (by omega))) (fun _ => ?_)
    refine i_aload_n hC dL_seen_47 rfl ?_
    refine i_bipush hC (x := (12 : Int32)) dL_seen_48 (by decide) ?_
    refine i_bipush hC (x := (36 : Int32)) dL_seen_50 (by decide) ?_
    refine i_iload_n hC dL_seen_52 rfl ?_
    refine i_imul hC dL_seen_53 ?_
    refine i_iadd hC dL_seen_54 ?_
    refine i_iload_n hC dL_seen_55 rfl ?_
    refine i_iadd hC dL_seen_56 ?_
    rw [show (12 : Int32) + (36 : Int32) * nI k + nI w = nI (12 + 36 * k + w) from by rw [show (12 : Int32) = nI 12 from rfl, show (36 : Int32) = nI 36 from rfl, pk_mul, nI_add, nI_add]]
    refine i_aload_n hC dL_seen_57 rfl ?_
    refine i_iload_n hC dL_seen_58 rfl ?_
    refine i_iload_n hC dL_seen_59 rfl ?_
    refine x_callV (R := (rmK 2 5 102)) (q2 := qb) (As := [.int (nI k), .int (nI w)]) (q := 198) (rv := some (.int (D k w))) hC mv_L_103 (c_X8_driverOf (stb_all _) ((h.2.2.2 k hk).1 w (by omega))) (pln rfl) lay_p198 rfl rfl rfl rfl ⟨(by exact Nat.le_of_ble_eq_true rfl), (by exact Nat.le_of_ble_eq_true rfl)⟩ (by exact Nat.le_of_ble_eq_true rfl) dL_seen_60 ?_
    refine e_iast (R := (rmK 2 5 102)) hC (i := 12 + 36 * k + w) (by omega) (by decide) dL_seen_63 ?_
    refine i_iinc hC (y := (1 : Int32)) dL_seen_64 rfl (by decide) (by decide) ?_
    refine i_goto hC (tgt := 41) dL_seen_67 (by decide) ?_
    exact Mj.to (ih (w + 1) (by omega)) ⟨rfl, rfl, rfl, (by show some (Value.int (nI w + 1)) = _; rw [nI_1]), trivial⟩
set_option maxHeartbeats 4000000 in
set_option maxRecDepth 100000 in
theorem se_3 {v : EV} {p : Program} {l : Launch} {e : Env} {s : State} {m : MethodId} {args : Array Value} {below : List Frame} {meth : Method} {c : Code} {Q : State → Prop} {qb : Nat} {S : Mem} (hC : Cx v p l e s m args meth c RL cL_seen 4 (some (.array .int))) {a n : Nat} {A : Nat → Int32} {D : Nat → Nat → Int32} {mm : Nat → Nat} {L : Nat → Nat → Nat → Int32} (h : SeenH S n A D mm L) {k : Nat} (hk : k < n) {f : Nat → Int32} (kk : Mw (WE v [(a, .inl (eC v 0, 220, .inl (sL (L k) k f (mm k))))]) v p l e (rmK 2 5 102) s m args below meth c 4 Q qb S 132 [(0, .ref (eA v 198)), (1, .ref a), (2, .int (nI k))] []) : ∀ j i, i + j = mm k → Mw (WE v [(a, .inl (eC v 0, 220, .inl (sL (L k) k f i)))]) v p l e (rmK 2 5 102) s m args below meth c 4 Q qb S 72 [(0, .ref (eA v 198)), (1, .ref a), (2, .int (nI k)), (3, .int (nI (i + 1)))] [] := by
  have h5 := h.1
  have h12 := (h.2.2.2 k hk).2.2.1
  intro j
  induction j with
  | zero =>
    intro i hi
    obtain rfl : i = mm k := by omega
    refine i_iload_n hC dL_seen_72 rfl ?_
    refine i_aload_n hC dL_seen_73 rfl ?_
    refine i_iload_n hC dL_seen_74 rfl ?_
    refine i_iconst hC (x := (5 : Int32)) dL_seen_75 (by decide) ?_
    refine x_callV (R := (rmK 2 5 102)) (q2 := qb) (As := [.int (nI k), .int (5 : Int32)]) (q := 198) (rv := some (.int (D k 5))) hC mv_L_103 (c_X8_driverOf (stb_all _) ((h.2.2.2 k hk).1 5 (by decide))) (pln rfl) lay_p198 rfl rfl rfl rfl ⟨(by exact Nat.le_of_ble_eq_true rfl), (by exact Nat.le_of_ble_eq_true rfl)⟩ (by exact Nat.le_of_ble_eq_true rfl) dL_seen_76 ?_
    rw [(h.2.2.2 k hk).2.1]
    refine i_icmp_gt hC (tgt := 132) dL_seen_79 (by decide) (fun _ => ?_) (fun z9 => absurd (nI_lt (by omega) (by omega)) z9)
    exact Mj.to kk ⟨rfl, rfl, rfl, trivial⟩
  | succ j ih =>
    intro i hi
    refine i_iload_n hC dL_seen_72 rfl ?_
    refine i_aload_n hC dL_seen_73 rfl ?_
    refine i_iload_n hC dL_seen_74 rfl ?_
    refine i_iconst hC (x := (5 : Int32)) dL_seen_75 (by decide) ?_
    refine x_callV (R := (rmK 2 5 102)) (q2 := qb) (As := [.int (nI k), .int (5 : Int32)]) (q := 198) (rv := some (.int (D k 5))) hC mv_L_103 (c_X8_driverOf (stb_all _) ((h.2.2.2 k hk).1 5 (by decide))) (pln rfl) lay_p198 rfl rfl rfl rfl ⟨(by exact Nat.le_of_ble_eq_true rfl), (by exact Nat.le_of_ble_eq_true rfl)⟩ (by exact Nat.le_of_ble_eq_true rfl) dL_seen_76 ?_
    rw [(h.2.2.2 k hk).2.1]
    refine i_icmp_gt hC (tgt := 132) dL_seen_79 (by decide) (fun z9 => absurd z9 (fun z => absurd ((nI_ltI (a := mm k) (b := i + 1) (by omega) (by omega)).mp z) (by omega))) (fun _ => ?_)
    refine i_aload_n hC dL_seen_82 rfl ?_
    refine i_bipush hC (x := (24 : Int32)) dL_seen_83 (by decide) ?_
    refine i_bipush hC (x := (36 : Int32)) dL_seen_85 (by decide) ?_
    refine i_iload_n hC dL_seen_87 rfl ?_
    refine i_imul hC dL_seen_88 ?_
    refine i_iadd hC dL_seen_89 ?_
    refine i_iconst hC (x := (2 : Int32)) dL_seen_90 (by decide) ?_
    refine i_iload_n hC dL_seen_91 rfl ?_
    refine i_imul hC dL_seen_92 ?_
    refine i_iadd hC dL_seen_93 ?_
    refine i_iconst hC (x := (2 : Int32)) dL_seen_94 (by decide) ?_
    refine i_isub hC dL_seen_95 ?_
    rw [show (24 : Int32) + (36 : Int32) * nI k + (2 : Int32) * nI (i + 1) - (2 : Int32) = nI (24 + 36 * k + 2 * i) from by rw [show (24 : Int32) = nI 24 from rfl, show (36 : Int32) = nI 36 from rfl, show (2 : Int32) = nI 2 from rfl, pk_mul, pk_mul, nI_add, nI_add, pk_sub (by omega)]; exact congrArg nI (by omega)]
    refine i_aload_n hC dL_seen_96 rfl ?_
    refine i_iload_n hC dL_seen_97 rfl ?_
    refine i_iload_n hC dL_seen_98 rfl ?_
    refine i_iconst hC (x := (0 : Int32)) dL_seen_99 (by decide) ?_
    refine x_callV (R := (rmK 2 5 102)) (q2 := qb) (As := [.int (nI k), .int (nI (i + 1)), .int (0 : Int32)]) (q := 198) (rv := some (.int (L k i 0))) hC mv_L_106 (c_X8_lineOf (stb_all _) ((h.2.2.2 k hk).2.2.2 i (by omega)).1) (pln rfl) lay_p198 rfl rfl rfl rfl ⟨(by exact Nat.le_of_ble_eq_true rfl), (by exact Nat.le_of_ble_eq_true rfl)⟩ (by exact Nat.le_of_ble_eq_true rfl) dL_seen_100 ?_
    refine e_iast (R := (rmK 2 5 102)) hC (i := 24 + 36 * k + 2 * i) (by omega) (by decide) dL_seen_103 ?_
    refine i_aload_n hC dL_seen_104 rfl ?_
    refine i_bipush hC (x := (24 : Int32)) dL_seen_105 (by decide) ?_
    refine i_bipush hC (x := (36 : Int32)) dL_seen_107 (by decide) ?_
    refine i_iload_n hC dL_seen_109 rfl ?_
    refine i_imul hC dL_seen_110 ?_
    refine i_iadd hC dL_seen_111 ?_
    refine i_iconst hC (x := (2 : Int32)) dL_seen_112 (by decide) ?_
    refine i_iload_n hC dL_seen_113 rfl ?_
    refine i_imul hC dL_seen_114 ?_
    refine i_iadd hC dL_seen_115 ?_
    refine i_iconst hC (x := (1 : Int32)) dL_seen_116 (by decide) ?_
    refine i_isub hC dL_seen_117 ?_
    rw [show (24 : Int32) + (36 : Int32) * nI k + (2 : Int32) * nI (i + 1) - (1 : Int32) = nI (25 + 36 * k + 2 * i) from by rw [show (24 : Int32) = nI 24 from rfl, show (36 : Int32) = nI 36 from rfl, show (2 : Int32) = nI 2 from rfl, pk_mul, pk_mul, nI_add, nI_add, show (1 : Int32) = nI 1 from rfl, pk_sub (by omega)]; exact congrArg nI (by omega)]
    refine i_aload_n hC dL_seen_118 rfl ?_
    refine i_iload_n hC dL_seen_119 rfl ?_
    refine i_iload_n hC dL_seen_120 rfl ?_
    refine i_iconst hC (x := (1 : Int32)) dL_seen_121 (by decide) ?_
    refine x_callV (R := (rmK 2 5 102)) (q2 := qb) (As := [.int (nI k), .int (nI (i + 1)), .int (1 : Int32)]) (q := 198) (rv := some (.int (L k i 1))) hC mv_L_106 (c_X8_lineOf (stb_all _) ((h.2.2.2 k hk).2.2.2 i (by omega)).2) (pln rfl) lay_p198 rfl rfl rfl rfl ⟨(by exact Nat.le_of_ble_eq_true rfl), (by exact Nat.le_of_ble_eq_true rfl)⟩ (by exact Nat.le_of_ble_eq_true rfl) dL_seen_122 ?_
    refine e_iast (R := (rmK 2 5 102)) hC (i := 25 + 36 * k + 2 * i) (by omega) (by decide) dL_seen_125 ?_
    refine i_iinc hC (y := (1 : Int32)) dL_seen_126 rfl (by decide) (by decide) ?_
    refine i_goto hC (tgt := 72) dL_seen_129 (by decide) ?_
    exact Mj.to (ih (i + 1) (by omega)) ⟨rfl, rfl, rfl, (by show some (Value.int (nI (i + 1) + 1)) = _; rw [nI_1]), trivial⟩
set_option maxHeartbeats 4000000 in
set_option maxRecDepth 100000 in
theorem se_4 {v : EV} {p : Program} {l : Launch} {e : Env} {s : State} {m : MethodId} {args : Array Value} {below : List Frame} {meth : Method} {c : Code} {Q : State → Prop} {qb : Nat} {S : Mem} (hC : Cx v p l e s m args meth c RL cL_seen 4 (some (.array .int))) {a n : Nat} {A : Nat → Int32} {D : Nat → Nat → Int32} {mm : Nat → Nat} {L : Nat → Nat → Nat → Int32} (h : SeenH S n A D mm L) (kk : Mw (WE v [(a, .inl (eC v 0, 220, .inl (sO A D mm L n)))]) v p l e (rmK 2 5 102) s m args below meth c 4 Q qb S 138 [(0, .ref (eA v 198)), (1, .ref a)] []) : ∀ j k, k + j = n → Mw (WE v [(a, .inl (eC v 0, 220, .inl (sO A D mm L k)))]) v p l e (rmK 2 5 102) s m args below meth c 4 Q qb S 30 [(0, .ref (eA v 198)), (1, .ref a), (2, .int (nI k))] [] := by
  have h5 := h.1
  intro j
  induction j with
  | zero =>
    intro k hk
    obtain rfl : k = n := by omega
    refine i_iload_n hC dL_seen_30 rfl ?_
    refine i_aload_n hC dL_seen_31 rfl ?_
    refine i_iconst hC (x := (1 : Int32)) dL_seen_32 (by decide) ?_
    refine x_callV (R := (rmK 2 5 102)) (q2 := qb) (As := [.int (1 : Int32)]) (q := 198) (rv := some (.int (A 1))) hC mv_L_47 (c_X8_account (stb_all _) (h.2.1 1 (by decide))) (pln rfl) lay_p198 rfl rfl rfl rfl ⟨(by exact Nat.le_of_ble_eq_true rfl), (by exact Nat.le_of_ble_eq_true rfl)⟩ (by exact Nat.le_of_ble_eq_true rfl) dL_seen_33 ?_
    rw [h.2.2.1]
    refine i_icmp_ge hC (tgt := 138) dL_seen_36 (by decide) (fun _ => ?_) (fun z9 => absurd (Int32.le_refl _) z9)
    exact Mj.to kk ⟨rfl, rfl, trivial⟩
  | succ j ih =>
    intro k hk
    have hkn : k < n := by omega
    refine i_iload_n hC dL_seen_30 rfl ?_
    refine i_aload_n hC dL_seen_31 rfl ?_
    refine i_iconst hC (x := (1 : Int32)) dL_seen_32 (by decide) ?_
    refine x_callV (R := (rmK 2 5 102)) (q2 := qb) (As := [.int (1 : Int32)]) (q := 198) (rv := some (.int (A 1))) hC mv_L_47 (c_X8_account (stb_all _) (h.2.1 1 (by decide))) (pln rfl) lay_p198 rfl rfl rfl rfl ⟨(by exact Nat.le_of_ble_eq_true rfl), (by exact Nat.le_of_ble_eq_true rfl)⟩ (by exact Nat.le_of_ble_eq_true rfl) dL_seen_33 ?_
    rw [h.2.2.1]
    refine i_icmp_ge hC (tgt := 138) dL_seen_36 (by decide) (fun z9 => absurd z9 (fun z => absurd ((nI_leI (a := n) (b := k) (by omega) (by omega)).mp z) (by omega))) (fun _ => ?_)
    refine i_iconst hC (x := (0 : Int32)) dL_seen_39 (by decide) ?_
    refine i_istore_n hC dL_seen_40 (by decide) ?_
    refine Mj.to (se_2 hC h hkn (f := sO A D mm L k) ?_ 11 0 rfl) ⟨rfl, rfl, rfl, rfl, trivial⟩
    refine i_iconst hC (x := (1 : Int32)) dL_seen_70 (by decide) ?_
    refine i_istore_n hC dL_seen_71 (by decide) ?_
    refine Mj.to (se_3 hC h hkn (f := sD (D k) k (sO A D mm L k) 11) ?_ (mm k) 0 (Nat.zero_add _)) ⟨rfl, rfl, rfl, rfl, trivial⟩
    refine i_iinc hC (y := (1 : Int32)) dL_seen_132 rfl (by decide) (by decide) ?_
    refine i_goto hC (tgt := 30) dL_seen_135 (by decide) ?_
    exact Mj.to (ih (k + 1) (by omega)) ⟨rfl, rfl, (by show some (Value.int (nI k + 1)) = _; rw [nI_1]), trivial⟩
set_option maxHeartbeats 4000000 in
set_option maxRecDepth 100000 in
theorem c_L_seen {v : EV} {l : Launch} (hst : Stb v) {S : Mem} {n : Nat} {A : Nat → Int32} {D : Nat → Nat → Int32} {mm : Nat → Nat} {L : Nat → Nat → Nat → Int32} (h : SeenH S n A D mm L) : ConP 2 v l yL_seen cL_seen 4 (some (.array .int)) 5 102 [.ref (eA v 198)] (WD v S) (fun u H => ∃ a : Nat, u = .ref a ∧ WE v [(a, .inl (eC v 0, 220, .inl (sO A D mm L n)))] S H) := con_ofP (S := S) (by decide) hst (Nat.le_of_ble_eq_true rfl) (fun p e s m args below meth c hC => by
  refine Mj.to (lv2 := [(0, .ref (eA v 198))]) ?_ ⟨rfl, trivial⟩
  refine i_sipush hC (x := (220 : Int32)) dL_seen_0 (by decide) ?_
  refine n_ex (fun da => ?_)
  refine n_newp (ws := wsW v da S) (atype := .int) (q2 := 0) (qd := 2) (N := 220) (t := 0) (ty := .int) hC mw_408 rfl ⟨by decide, rfl⟩ (fun _ _ h => h) (fun _ => rfl) (by decide) (by decide) ⟨by decide, by decide⟩ (by decide) rfl dL_seen_3 (fun a => ?_)
  refine Mw.re (Wd' := WE v [(a, .inl (eC v 0, 220, .inl (sA A 0)))]) (S' := S) (fun H h => ⟨da, h⟩) ?_
  refine i_astore_n hC dL_seen_5 (by decide) ?_
  refine i_iconst hC (x := (0 : Int32)) dL_seen_6 (by decide) ?_
  refine i_istore_n hC dL_seen_7 (by decide) ?_
  refine Mj.to (se_1 hC h ?_ 11 0 rfl) ⟨rfl, rfl, rfl, trivial⟩
  refine i_iconst hC (x := (0 : Int32)) dL_seen_28 (by decide) ?_
  refine i_istore_n hC dL_seen_29 (by decide) ?_
  refine Mj.to (se_4 hC h ?_ n 0 (Nat.zero_add _)) ⟨rfl, rfl, rfl, trivial⟩
  refine i_aload_n hC dL_seen_138 rfl ?_
  exact p_aretA (u := .ref a) (fun H h => ⟨a, rfl, h⟩) hC (isR_r _) dL_seen_139)
