/-! ===== contracts between worlds of any kind; the builders' rows ===== -/
def Qg (v : EV) (rv : Option Value) (W1 : Heap → Prop) : Array Value → State → Outcome → State → Prop := fun _ st o t => o = .returned rv ∧ W1 t.heap ∧ va_F (eG v) st t
def Pg (v : EV) (av : List Value) (W0 : Heap → Prop) : Array Value → State → Prop := va_Pc av (fun U => eB v U.heap.size ∧ va_K (eD v) vwCl (tysOf v) U ∧ eF v U ∧ W0 U.heap)
def ConG (K : Nat) (v : EV) (l : Launch) (y : MethodName) (cc : ByteArray) (nL : Nat) (ret : Option FieldType) (F L : Nat) (av : List Value) (W0 : Heap → Prop) (rv : Option Value) (W1 : Heap → Prop) : Prop :=
  Met l y (.code y cc nL ret :: TW) (rmK K F L) (Pg v av W0) (Qg v rv W1) K (160 * K) (eG v)
section GEN
variable {v : EV} {p : Program} {l : Launch} {e : Env} {R : Room} {s : State} {m : MethodId} {args : Array Value} {below : List Frame} {meth : Method} {c : Code} {own : String} {cc : ByteArray} {nL : Nat} {ret : Option FieldType} {Q : State → Prop} {qb : Nat} {Wd Wd1 : Mem → Heap → Prop} {W0 W1 : Heap → Prop} {da : Nat → Nat} {S S1 : Mem} {pc : Nat} {lv : List (Nat × Value)} {st : List Value}
theorem q_iret (hw : ∀ H, Wd S H → W1 H) (hC : Cx v p l e s m args meth c own cc nL (some .int)) {x : Int32} (hdg : decode cc pc = .ok (.ireturn, 1)) : Mw Wd v p l e R s m args below meth c nL (MQ below (Qg v (some (.int x)) W1) args s R.cells R.slots (eG v)) qb S pc lv [.int x] := by
  intro H locs ls cells slots hbu hW hS hl
  obtain ⟨hx, hb, -, -, -, -, -, -, -, hr, hk⟩ := hC
  refine W.widen (k := R.cells) (n := R.slots) (by omega) (by omega) ?_
  exact W.iret hx hb hr (fun t ht hW' => ⟨rfl, by rw [ht]; exact hw H hW, hS.F ht⟩) hS.free hdg hk
theorem q_zret {ty : FieldType} (hw : ∀ H, Wd S H → W1 H) (hC : Cx v p l e s m args meth c own cc nL (some ty)) {x : Int32} (hdg : decode cc pc = .ok (.ireturn, 1)) (hn : narrow ty (.int x) = .int x) : Mw Wd v p l e R s m args below meth c nL (MQ below (Qg v (some (.int x)) W1) args s R.cells R.slots (eG v)) qb S pc lv [.int x] := by
  intro H locs ls cells slots hbu hW hS hl
  obtain ⟨hx, hb, -, -, -, -, -, -, -, hr, hk⟩ := hC
  refine W.widen (k := R.cells) (n := R.slots) (by omega) (by omega) ?_
  exact W.zret hx hb hr hn (fun t ht hW' => ⟨rfl, by rw [ht]; exact hw H hW, hS.F ht⟩) hS.free hdg hk
theorem q_vret (hw : ∀ H, Wd S H → W1 H) (hC : Cx v p l e s m args meth c own cc nL none) (hdg : decode cc pc = .ok (.return_, 1)) : Mw Wd v p l e R s m args below meth c nL (MQ below (Qg v none W1) args s R.cells R.slots (eG v)) qb S pc lv [] := by
  intro H locs ls cells slots hbu hW hS hl
  obtain ⟨hx, hb, -, -, -, -, -, -, -, hr, hk⟩ := hC
  refine W.widen (k := R.cells) (n := R.slots) (by omega) (by omega) ?_
  exact W.vret hx hb hr (fun t ht hW' => ⟨rfl, by rw [ht]; exact hw H hW, hS.F ht⟩) hS.free hdg hk
theorem q_aret (hw : ∀ H, Wd S H → W1 H) {C : String} (hC : Cx v p l e s m args meth c own cc nL (some (.object C))) {u : Value} (hu : isR u) (hdg : decode cc pc = .ok (.areturn, 1)) : Mw Wd v p l e R s m args below meth c nL (MQ below (Qg v (some u) W1) args s R.cells R.slots (eG v)) qb S pc lv [u] := by
  intro H locs ls cells slots hbu hW hS hl
  obtain ⟨hx, hb, -, -, -, -, -, -, -, hr, hk⟩ := hC
  refine W.widen (k := R.cells) (n := R.slots) (by omega) (by omega) ?_
  exact W.aret hx hb hr (Or.inl ⟨_, rfl⟩) hu (fun t ht hW' => ⟨rfl, by rw [ht]; exact hw H hW, hS.F ht⟩) hS.free hdg hk
theorem pg_blind {av : List Value} (hst : Stb v) : FrameBlind (Pg v av W0) := fun a U g mk h => ⟨h.1, h.2.1, va_K.moved (u := U) (U := U.calling g mk a) (Vm.Alike.refl U.vm) h.2.2.1, hst U (U.calling g mk a) h.2.2.2.1 (Or.inl rfl) (fun _ _ _ => rfl), h.2.2.2.2⟩
theorem pg_of (hC : Cx v p l e s m args meth c own cc nL ret) {av : List Value} {H : Heap} {locs : List Loc} (hW : W0 H) (hS : va_S (eG v) s.heap H locs) {U : State} (hU : U.heap = H) (hU2 : s.WarmedH U.vm) : Pg v av W0 av.toArray U := by
  obtain ⟨-, -, -, -, -, hK, hF, hst, hn, -⟩ := hC
  refine ⟨rfl, by rw [hU]; exact hn.up hS.1, va_K.moved hU2.alike hK, hst s U hF (Or.inr hU2) (fun q h1 h2 => by rw [hU]; exact hS.2.1 q h1 h2), by rw [hU]; exact hW⟩
theorem g_run {a : Array Value} {rest : List Value} {rv : Option Value} {K q2 : Nat} (hq2 : qb = q2 + K) (hw : ∀ H, W1 H → Wd1 S1 H) (hr : ∀ (H : Heap) (locs : List Loc) (ls : Array Slot) (cells slots : Nat), (cells + K ≤ R.cells ∧ slots + 160 * K ≤ R.slots) → Wd S H → va_S (eG v) s.heap H locs → lv_has ls nL lv → va_Run p l e R s m args below meth c H locs cells slots K (160 * K) (F0 m pc ls st) rest (Qg v rv W1 a) (eG v)) (k : Mw Wd1 v p l e R s m args below meth c nL Q q2 S1 (pc + 3) lv (rv.toList ++ rest)) : Mw Wd v p l e R s m args below meth c nL Q qb S pc lv st := by
  intro H locs ls cells slots hbu hW hS hl T hT X
  obtain ⟨v', st₀, t, T', L, h0, X', hL, e1, e2, ⟨hv, hWd, hz, hk⟩, stp⟩ := hr H locs ls cells slots (by omega) hW hS hl T hT X
  cases hv
  rw [h0] at hz hk
  have hS' : va_S (eG v) s.heap T'.heap (locs ++ L) := by
    refine ⟨Nat.le_trans hS.1 (by rw [e1]; exact hz), fun q h1 h2 => by rw [e1, hk q (Nat.lt_of_lt_of_le h1 hS.1) h2]; exact hS.2.1 q h1 h2, fun q hq => ?_⟩
    rcases List.mem_append.mp hq with h | h
    · exact hS.2.2 q h
    · exact hL q h
  obtain ⟨t2, a1, b1⟩ := k T'.heap (locs ++ L) ls (cells + K) (slots + 160 * K) (by omega) (hw _ (by rw [e1]; exact hWd)) hS' hl T' rfl X'
  exact ⟨t2, stp t2 a1, b1⟩
theorem g_callS (hC : Cx v p l e s m args meth c own cc nL ret) {K q2 idx : Nat} {y : MethodName} {cy : ByteArray} {nLy F L n : Nat} {rety : Option FieldType} {As rest : List Value} {rv : Option Value} (hV : MS own idx y cy nLy rety n) (hM : ConG K v l y cy nLy rety F L As W0 rv W1) (h0 : ∀ H, Wd S H → W0 H) (h1 : ∀ H, W1 H → Wd1 S1 H) (hn : As.length = n) (hst : st = As.reverse ++ rest)
    (hq2 : qb = q2 + K) (hR : F + 1 ≤ R.frames ∧ 8 + (nLy + 11) + L ≤ R.locals) (hr : (rest.map fun v => v.category).sum ≤ 8) (hdg : decode cc pc = .ok (.invokestatic idx, 3)) (k : Mw Wd1 v p l e R s m args below meth c nL Q q2 S1 (pc + 3) lv (rv.toList ++ rest)) : Mw Wd v p l e R s m args below meth c nL Q qb S pc lv st := by
  refine g_run hq2 h1 (rest := rest) (a := As.toArray) (fun H locs ls cells slots hbu hW hS hl => ?_) k
  exact va_runS (As := As) (rest := rest) ⟨hC.1, hC.2.1, hC.2.2.1, hC.2.2.2.1, hC.2.2.2.2.1⟩ hM (va_cwS n hC.2.2.2.2.1 hV.1 rfl rfl rfl hV.2 hR) ⟨pg_blind hC.2.2.2.2.2.2.2.1, fun U hU hU2 => pg_of hC (h0 H hW) hS hU hU2⟩ rfl hn hl.1 hst (lv_room hr) hdg hbu
/-- a builder's place -/
def pB (b : Nat) : Nat := 203 + 14 * b
theorem pl_B {b : Nat} (h : b < 2) : pB b < layN := by unfold pB layN; omega
theorem lay_B {b : Nat} (h : b < 2) : layF (pB b) = .inl (0, [(3, b, 0), (4, 0, 0), (0, 13 + 2 * b, 2), (0, 13 + 2 * b, 0)]) := by
  match b, h with
  | 0, _ => rfl
  | 1, _ => rfl
  | n + 2, h => omega
theorem wsW_dy {b : Nat} (h : b < 2) : (wsW v da S)[layN + b]? = some (da b, .inl (eC v 3, capN S (13 + 2 * b), .inl (S (14 + 2 * b)))) := by
  unfold wsW
  rw [List.getElem?_append_right (by rw [wsL_len]; omega), wsL_len, Nat.add_sub_cancel_left]
  match b, h with
  | 0, _ => rfl
  | 1, _ => rfl
  | n + 2, h => omega
theorem recv_B (hC : Cx v p l e s m args meth c own cc nL ret) {b : Nat} (hb : b < 2) {H : Heap} (hW : WDa v da S H) : ∃ cell : Cell, H[eA v (pB b)]? = some cell ∧ cell.vm.isStatics = false ∧ s.vm.findClass RJ4 = some cell.cls := va_recv hC.2.2.2.2.2.1 hW.1 (ci := 0) (q0 := pB b) (q := (RJ4, TJ4, 4)) rfl (by rw [wsW_at (pl_B hb), lay_B hb]; rfl)
def MU (own : String) (idx : Nat) (y : MethodName) (cy : ByteArray) (nLy : Nat) (rety : Option FieldType) (n : Nat) : Prop :=
  GoodIn TW (va_wsU own idx RJ4 y.cls y y (.code y cy nLy rety :: TW)) ∧ (y.cls ≠ "java/lang/invoke/MethodHandle" ∧ y.cls ≠ "java/lang/invoke/VarHandle" ∧ (parseMethodDescriptor y.desc).map (fun d => d.parameters.length) = some n)
def MP (own : String) (idx : Nat) (y : MethodName) (cy : ByteArray) (nLy : Nat) (rety : Option FieldType) (n : Nat) : Prop :=
  GoodIn TW (va_wsSU own idx y (.code y cy nLy rety :: TW)) ∧ (y.name ≠ "<init>" ∧ (parseMethodDescriptor y.desc).map (fun d => d.parameters.length) = some n)
/-- a call of a method that the builder inherits -/
theorem g_callU (hC : Cx v p l e s m args meth c own cc nL ret) {K q2 idx b : Nat} {y : MethodName} {cy : ByteArray} {nLy F L n : Nat} {rety : Option FieldType} {As rest : List Value} {rv : Option Value} (hb : b < 2) (hV : MU own idx y cy nLy rety n) (hM : ConG K v l y cy nLy rety F L (.ref (eA v (pB b)) :: As) (WDa v da S) rv W1) (h1 : ∀ H, W1 H → Wd1 S1 H) (hn : As.length = n) (hst : st = As.reverse ++ .ref (eA v (pB b)) :: rest)
    (hq2 : qb = q2 + K) (hR : F + 1 ≤ R.frames ∧ 8 + (nLy + 11) + L ≤ R.locals) (hr : (rest.map fun v => v.category).sum ≤ 8) (hdg : decode cc pc = .ok (.invokevirtual idx, 3)) (k : Mw Wd1 v p l e R s m args below meth c nL Q q2 S1 (pc + 3) lv (rv.toList ++ rest)) : Mw (WDa v da) v p l e R s m args below meth c nL Q qb S pc lv st := by
  refine g_run hq2 h1 (rest := rest) (a := (Value.ref (eA v (pB b)) :: As).toArray) (fun H locs ls cells slots hbu hW hS hl => ?_) k
  exact va_runU (As := As) (rest := rest) ⟨hC.1, hC.2.1, hC.2.2.1, hC.2.2.2.1, hC.2.2.2.2.1⟩ hM (va_cwU n hC.2.2.2.2.1 hV.1 rfl rfl rfl rfl hV.2 hR) ⟨pg_blind hC.2.2.2.2.2.2.2.1, recv_B hC hb hW, fun U hU hU2 => pg_of hC hW hS hU hU2⟩ rfl hn hl.1 hst (lv_room hr) hdg hbu
/-- super's method -/
theorem g_callP (hC : Cx v p l e s m args meth c own cc nL ret) {K q2 idx b : Nat} {y : MethodName} {cy : ByteArray} {nLy F L n : Nat} {rety : Option FieldType} {As rest : List Value} {rv : Option Value} (hb : b < 2) (hV : MP own idx y cy nLy rety n) (hM : ConG K v l y cy nLy rety F L (.ref (eA v (pB b)) :: As) (WDa v da S) rv W1) (h1 : ∀ H, W1 H → Wd1 S1 H) (hn : As.length = n) (hst : st = As.reverse ++ .ref (eA v (pB b)) :: rest)
    (hq2 : qb = q2 + K) (hR : F + 1 ≤ R.frames ∧ 8 + (nLy + 11) + L ≤ R.locals) (hr : (rest.map fun v => v.category).sum ≤ 8) (hdg : decode cc pc = .ok (.invokespecial idx, 3)) (k : Mw Wd1 v p l e R s m args below meth c nL Q q2 S1 (pc + 3) lv (rv.toList ++ rest)) : Mw (WDa v da) v p l e R s m args below meth c nL Q qb S pc lv st := by
  refine g_run hq2 h1 (rest := rest) (a := (Value.ref (eA v (pB b)) :: As).toArray) (fun H locs ls cells slots hbu hW hS hl => ?_) k
  exact va_runSU (C := RJ4) (cC := (eD v).1 0) (As := As) (rest := rest) (hC.2.2.2.2.2.1.1 0 (RJ4, TJ4, 4) rfl).2 ⟨hC.1, hC.2.1, hC.2.2.1, hC.2.2.2.1, hC.2.2.2.2.1⟩ hM (va_cwSU n hC.2.2.2.2.1 hV.1 rfl rfl rfl hV.2 hR) ⟨pg_blind hC.2.2.2.2.2.2.2.1, recv_B hC hb hW, fun U hU hU2 => pg_of hC hW hS hU hU2⟩ rfl hn hl.1 hst (lv_room hr) hdg hbu
/-- a method of the builder's own class -/
theorem g_callB (hC : Cx v p l e s m args meth c own cc nL ret) {K q2 idx b : Nat} {y : MethodName} {cy : ByteArray} {nLy F L n : Nat} {rety : Option FieldType} {As rest : List Value} {rv : Option Value} (hb : b < 2) (hy : y.cls = RJ4) (hV : MV own idx y cy nLy rety n) (hM : ConG K v l y cy nLy rety F L (.ref (eA v (pB b)) :: As) (WD v S) rv W1) (h1 : ∀ H, W1 H → Wd1 S1 H) (hn : As.length = n) (hst : st = As.reverse ++ .ref (eA v (pB b)) :: rest)
    (hq2 : qb = q2 + K) (hR : F + 1 ≤ R.frames ∧ 8 + (nLy + 11) + L ≤ R.locals) (hr : (rest.map fun v => v.category).sum ≤ 8) (hdg : decode cc pc = .ok (.invokevirtual idx, 3)) (k : Mw Wd1 v p l e R s m args below meth c nL Q q2 S1 (pc + 3) lv (rv.toList ++ rest)) : Mj v p l e R s m args below meth c nL Q qb S pc lv st := by
  refine ex_da fun da => g_run hq2 h1 (rest := rest) (a := (Value.ref (eA v (pB b)) :: As).toArray) (fun H locs ls cells slots hbu hW hS hl => ?_) k
  exact va_runV (As := As) (rest := rest) ⟨hC.1, hC.2.1, hC.2.2.1, hC.2.2.2.1, hC.2.2.2.2.1⟩ hM (cwV n hC.2.2.2.2.1 hV.1 rfl rfl rfl ⟨rfl, hV.2⟩ hR) ⟨pg_blind hC.2.2.2.2.2.2.2.1, by rw [hy]; exact recv_B hC hb hW, fun U hU hU2 => pg_of hC ⟨da, hW⟩ hS hU hU2⟩ rfl hn hl.1 hst (lv_room hr) hdg hbu
theorem con_ofG {K : Nat} {y : MethodName} {F L : Nat} {av : List Value} {rv : Option Value} (hy : plainName y.cls = true) (hst : Stb v) (hn : (lg_sl av).length ≤ nL) (hw : ∀ H, W0 H → ∃ da, WDa v da S H) (h : ∀ (da : Nat → Nat) (p : Program) (e : Env) (s : State) (m : MethodId) (args : Array Value) (below : List Frame) (meth : Method) (c : Code), Cx v p l e s m args meth c y.cls cc nL ret → Mw (fun S H => WDa v da S H ∧ W0 H) v p l e (rmK K F L) s m args below meth c nL (MQ below (Qg v rv W1) args s K (160 * K) (eG v)) K S 0 (lv_args 0 av) []) : ConG K v l y cc nL ret F L av W0 rv W1 := by
  refine Met.ofW hy rfl ?_
  intro p e s m args below meth c s₁ B hml hv
  obtain ⟨rfl, hsz, hK, hF, hW⟩ := hv
  have hts := atoms_spec (ws := .code y cc nL ret :: TW) B.pre
  have C : Cx v p l e s m av.toArray meth c y.cls cc nL ret := ⟨B.exec, B.bytes, hml, findClass_of_methodNamed B.named, fun w hw => hts w (List.mem_cons_of_mem _ hw), hK, hF, hst, hsz, B.returns, B.notSynchronized⟩
  rw [lg_entry_eq]
  obtain ⟨da, hda⟩ := hw _ hW
  exact h da p e s m av.toArray below meth c C s.heap [] _ 0 0 ⟨by rw [Nat.zero_add]; exact Nat.le_refl _, by rw [Nat.zero_add]; exact Nat.le_refl _⟩ ⟨hda, hW⟩ va_S.rf (lv_entry av hn)
theorem Mw.mono {Wd' : Mem → Heap → Prop} (h : ∀ H, Wd S H → Wd' S H) (k : Mw Wd' v p l e R s m args below meth c nL Q qb S pc lv st) : Mw Wd v p l e R s m args below meth c nL Q qb S pc lv st := fun H locs ls cells slots hbu hW hS hl => k H locs ls cells slots hbu (h H hW) hS hl
theorem con_ofA {K : Nat} {y : MethodName} {F L : Nat} {av : List Value} {rv : Option Value} (hy : plainName y.cls = true) (hst : Stb v) (hn : (lg_sl av).length ≤ nL) (h : ∀ (p : Program) (e : Env) (s : State) (m : MethodId) (args : Array Value) (below : List Frame) (meth : Method) (c : Code), Cx v p l e s m args meth c y.cls cc nL ret → Mw (WDa v da) v p l e (rmK K F L) s m args below meth c nL (MQ below (Qg v rv W1) args s K (160 * K) (eG v)) K S 0 (lv_args 0 av) []) : ConG K v l y cc nL ret F L av (WDa v da S) rv W1 := by
  refine Met.ofW hy rfl ?_
  intro p e s m args below meth c s₁ B hml hv
  obtain ⟨rfl, hsz, hK, hF, hW⟩ := hv
  have hts := atoms_spec (ws := .code y cc nL ret :: TW) B.pre
  have C : Cx v p l e s m av.toArray meth c y.cls cc nL ret := ⟨B.exec, B.bytes, hml, findClass_of_methodNamed B.named, fun w hw => hts w (List.mem_cons_of_mem _ hw), hK, hF, hst, hsz, B.returns, B.notSynchronized⟩
  rw [lg_entry_eq]
  exact h p e s m av.toArray below meth c C s.heap [] _ 0 0 ⟨by rw [Nat.zero_add]; exact Nat.le_refl _, by rw [Nat.zero_add]; exact Nat.le_refl _⟩ hW va_S.rf (lv_entry av hn)
/-! the builder's fields and row -/
theorem j_getV (hC : Cx v p l e s m args meth c own cc nL ret) {idx b : Nat} {fin : Bool} {ty : FieldType} (hb : b < 2) (hF : FL own idx 0 0 fin ty) (hdg : decode cc pc = .ok (.getfield idx, 3)) (k2 : Mw (WDa v da) v p l e R s m args below meth c nL Q qb S (pc + 3) lv (.ref (da b) :: st)) : Mw (WDa v da) v p l e R s m args below meth c nL Q qb S pc lv (.ref (eA v (pB b)) :: st) := by
  intro H locs ls cells slots hbu hW hS hl
  exact m_get hC hF hW.1 (pl_B hb) (lay_B hb) (f := (3, b, 0)) rfl hdg (k2 H locs ls cells slots hbu hW hS hl)
theorem j_getK (hC : Cx v p l e s m args meth c own cc nL ret) {idx b : Nat} {fin : Bool} {ty : FieldType} (hb : b < 2) (hF : FL own idx 0 1 fin ty) (hdg : decode cc pc = .ok (.getfield idx, 3)) (k2 : Mw (WDa v da) v p l e R s m args below meth c nL Q qb S (pc + 3) lv (.int 0 :: st)) : Mw (WDa v da) v p l e R s m args below meth c nL Q qb S pc lv (.ref (eA v (pB b)) :: st) := by
  intro H locs ls cells slots hbu hW hS hl
  exact m_get hC hF hW.1 (pl_B hb) (lay_B hb) (f := (4, 0, 0)) rfl hdg (k2 H locs ls cells slots hbu hW hS hl)
theorem j_vlen (hC : Cx v p l e s m args meth c own cc nL ret) {b : Nat} (hb : b < 2) (hdg : decode cc pc = .ok (.arraylength, 1)) (k2 : Mw (WDa v da) v p l e R s m args below meth c nL Q qb S (pc + 1) lv (.int (Int32.ofNat (capN S (13 + 2 * b))) :: st)) : Mw (WDa v da) v p l e R s m args below meth c nL Q qb S pc lv (.ref (da b) :: st) := by
  intro H locs ls cells slots hbu hW hS hl
  exact va_alen hC.1 hC.2.1 hC.2.2.2.2.2.1 hW.1 (layN + b) 3 (wsW_dy hb) (tysOf_at v (by decide)) rfl hdg (k2 H locs ls cells slots hbu hW hS hl)
theorem j_vld (hC : Cx v p l e s m args meth c own cc nL ret) {b : Nat} {i : Int32} (hb : b < 2) (hin : vp_in i (capN S (13 + 2 * b))) (hdg : decode cc pc = .ok (.baload, 1)) (k2 : Mw (WDa v da) v p l e R s m args below meth c nL Q qb S (pc + 1) lv (.int (S (14 + 2 * b) i.toNatClampNeg) :: st)) : Mw (WDa v da) v p l e R s m args below meth c nL Q qb S pc lv (.int i :: .ref (da b) :: st) := by
  intro H locs ls cells slots hbu hW hS hl
  exact va_bald hC.1 hC.2.1 hC.2.2.2.2.2.1 hW.1 (layN + b) 3 (wsW_dy hb) (tysOf_at v (by decide)) hin hdg (k2 H locs ls cells slots hbu hW hS hl)
theorem wsW_vst {b j : Nat} {x : Int32} (hb : b < 2) : (wsW v da S).set (layN + b) (da b, .inl (eC v 3, capN S (13 + 2 * b), .inl (upd (S (14 + 2 * b)) j x))) = wsW v da (up S (14 + 2 * b) j x) := by
  have e0 : wsL v da (up S (14 + 2 * b) j x) = wsL v da S := by
    refine List.ext_getElem? fun q => ?_
    by_cases hq : q < layN
    · simp only [wsL, List.getElem?_map, List.getElem?_range hq, Option.map_some]
      refine congrArg (fun z => some (eA v q, z)) (ce_up fun hm => ?_)
      have := own_ok hq hm
      have h2 : ∀ p, p < layN → (srcs (layF p)).all (fun z => !(z.1 == 14) && !(z.1 == 16)) = true := by decide +kernel
      have h3 := List.all_eq_true.mp (h2 q hq) _ hm
      match b, hb with
      | 0, _ => simp at h3
      | 1, _ => simp at h3
      | n + 2, h => omega
    · rw [List.getElem?_eq_none (by rw [wsL_len]; omega), List.getElem?_eq_none (by rw [wsL_len]; omega)]
  unfold wsW
  rw [List.set_append_right _ _ (by rw [wsL_len]; omega), wsL_len, Nat.add_sub_cancel_left, e0]
  refine congrArg (fun z => wsL v da S ++ z) ?_
  match b, hb with
  | 0, _ =>
    show [(da 0, _), (da 1, _)] = [(da 0, _), (da 1, _)]
    have e1 : capN (up S 14 j x) 13 = capN S 13 := by unfold capN; rw [up_ne S x (by omega)]
    have e2 : capN (up S 14 j x) 15 = capN S 15 := by unfold capN; rw [up_ne S x (by omega)]
    have e3 : up S 14 j x 16 = S 16 := funext fun k => up_ne S x (by omega)
    have e4 : up S 14 j x 14 = upd (S 14) j x := funext fun k => by
      by_cases hk : k = j
      · subst hk; rw [up_same]; exact (if_pos rfl).symm
      · rw [up_ne S x (by omega)]; exact (if_neg hk).symm
    rw [e1, e2, e3, e4]
  | 1, _ =>
    show [(da 0, _), (da 1, _)] = [(da 0, _), (da 1, _)]
    have e1 : capN (up S 16 j x) 13 = capN S 13 := by unfold capN; rw [up_ne S x (by omega)]
    have e2 : capN (up S 16 j x) 15 = capN S 15 := by unfold capN; rw [up_ne S x (by omega)]
    have e3 : up S 16 j x 14 = S 14 := funext fun k => up_ne S x (by omega)
    have e4 : up S 16 j x 16 = upd (S 16) j x := funext fun k => by
      by_cases hk : k = j
      · subst hk; rw [up_same]; exact (if_pos rfl).symm
      · rw [up_ne S x (by omega)]; exact (if_neg hk).symm
    rw [e1, e2, e3, e4]
  | n + 2, h => omega
theorem j_vst (hC : Cx v p l e s m args meth c own cc nL ret) {b : Nat} {i x : Int32} (hb : b < 2) (hin : vp_in i (capN S (13 + 2 * b))) (hdg : decode cc pc = .ok (.bastore, 1)) (k2 : Mw (WDa v da) v p l e R s m args below meth c nL Q qb (up S (14 + 2 * b) i.toNatClampNeg (vp_nar .byte x)) (pc + 1) lv st) : Mw (WDa v da) v p l e R s m args below meth c nL Q qb S pc lv (.int x :: .int i :: .ref (da b) :: st) := by
  intro H locs ls cells slots hbu hW hS hl
  refine va_bast hC.1 hC.2.1 hC.2.2.2.2.2.1 hW.1 hW.2 hS (layN + b) 3 (wsW_dy hb) (tysOf_at v (by decide)) hin hdg fun H1 locs1 hP1 hD1 hS1 => ?_
  rw [wsW_vst hb] at hP1 hD1
  exact k2 H1 locs1 ls cells slots hbu ⟨hP1, hD1⟩ hS1 hl
theorem i_i2b (hC : Cx v p l e s m args meth c own cc nL ret) {x : Int32} (hdg : decode cc pc = .ok (.i2b, 1)) (k : Mw Wd v p l e R s m args below meth c nL Q qb S (pc + 1) lv (.int x.toInt8.toInt32 :: st)) : Mw Wd v p l e R s m args below meth c nL Q qb S pc lv (.int x :: st) := fun H locs ls cells slots hbu hW hS hl => lv_i2b hC.1 hC.2.1 hdg rfl (k H locs ls cells slots hbu hW hS hl)
theorem i_ineg (hC : Cx v p l e s m args meth c own cc nL ret) {x : Int32} (hdg : decode cc pc = .ok (.ineg, 1)) (k : Mw Wd v p l e R s m args below meth c nL Q qb S (pc + 1) lv (.int (-x) :: st)) : Mw Wd v p l e R s m args below meth c nL Q qb S pc lv (.int x :: st) := fun H locs ls cells slots hbu hW hS hl => lv_ineg hC.1 hC.2.1 hdg (k H locs ls cells slots hbu hW hS hl)
theorem i_dup_x1 (hC : Cx v p l e s m args meth c own cc nL ret) {x y : Value} (hdg : decode cc pc = .ok (.dup_x1, 1)) (hx : x.category = 1) (hy : y.category = 1) (k : Mw Wd v p l e R s m args below meth c nL Q qb S (pc + 1) lv (x :: y :: x :: st)) : Mw Wd v p l e R s m args below meth c nL Q qb S pc lv (x :: y :: st) := fun H locs ls cells slots hbu hW hS hl => lv_dup_x1 hC.1 hC.2.1 hdg hx hy (k H locs ls cells slots hbu hW hS hl)
theorem i_ishl (hC : Cx v p l e s m args meth c own cc nL ret) {x y : Int32} (hdg : decode cc pc = .ok (.ishl, 1)) (k : Mw Wd v p l e R s m args below meth c nL Q qb S (pc + 1) lv (.int (x <<< (y &&& 31)) :: st)) : Mw Wd v p l e R s m args below meth c nL Q qb S pc lv (.int y :: .int x :: st) := fun H locs ls cells slots hbu hW hS hl => lv_ishl hC.1 hC.2.1 hdg (k H locs ls cells slots hbu hW hS hl)
end GEN
