section CALLS
variable {v : EV} {p : Program} {l : Launch} {e : Env} {R : Room} {s : State} {m : MethodId} {args : Array Value} {below : List Frame} {meth : Method} {c : Code} {own : String} {cc : ByteArray} {nL : Nat} {ret : Option FieldType} {Q : State → Prop} {qb : Nat} {Wd Wd1 : Mem → Heap → Prop} {da : Nat → Nat} {S S1 : Mem} {pc : Nat} {lv : List (Nat × Value)} {st : List Value}
theorem gi_nil : GoodIn TW [] := fun _ h => absurd h List.not_mem_nil
theorem gi_cons {w : Cond} {ws : List Cond} (h : w ∈ TW) (hr : GoodIn TW ws) : GoodIn TW (w :: ws) := fun x hx => (List.mem_cons.mp hx).elim (fun e => by rw [e]; exact tw_good w h) (hr x)
theorem pe_blind {av : List Value} (hst : Stb v) : FrameBlind (Pe v av S) := fun a U g mk h => ⟨h.1, h.2.1, va_K.moved (u := U) (U := U.calling g mk a) (Vm.Alike.refl U.vm) h.2.2.1, hst U (U.calling g mk a) h.2.2.2.1 (Or.inl rfl) (fun _ _ _ => rfl), h.2.2.2.2⟩
theorem pe_of (hC : Cx v p l e s m args meth c own cc nL ret) {av : List Value} {H : Heap} {locs : List Loc} (hW : WD v S H) (hS : va_S (eG v) s.heap H locs) {U : State} (hU : U.heap = H) (hU2 : s.WarmedH U.vm) : Pe v av S av.toArray U := by
  obtain ⟨-, -, -, -, -, hK, hF, hst, hn, -⟩ := hC
  refine ⟨rfl, by rw [hU]; exact hn.up hS.1, va_K.moved hU2.alike hK, hst s U hF (Or.inr hU2) (fun q h1 h2 => by rw [hU]; exact hS.2.1 q h1 h2), by rw [hU]; exact hW⟩
theorem r_run {a : Array Value} {rest : List Value} {rv : Option Value} {K q2 : Nat} (hq2 : qb = q2 + K) (hr : ∀ (H : Heap) (locs : List Loc) (ls : Array Slot) (cells slots : Nat), (cells + K ≤ R.cells ∧ slots + 160 * K ≤ R.slots) → Wd S H → va_S (eG v) s.heap H locs → lv_has ls nL lv → va_Run p l e R s m args below meth c H locs cells slots K (160 * K) (F0 m pc ls st) rest (Qc v rv S1 a) (eG v)) (k : Mj v p l e R s m args below meth c nL Q q2 S1 (pc + 3) lv (rv.toList ++ rest)) : Mw Wd v p l e R s m args below meth c nL Q qb S pc lv st := by
  intro H locs ls cells slots hbu hW hS hl T hT X
  obtain ⟨v', st₀, t, T', L, h0, X', hL, e1, e2, ⟨hv, hWd, hz, hk⟩, stp⟩ := hr H locs ls cells slots (by omega) hW hS hl T hT X
  cases hv
  rw [h0] at hz hk
  have hS' : va_S (eG v) s.heap T'.heap (locs ++ L) := by
    refine ⟨Nat.le_trans hS.1 (by rw [e1]; exact hz), fun q h1 h2 => by rw [e1, hk q (Nat.lt_of_lt_of_le h1 hS.1) h2]; exact hS.2.1 q h1 h2, fun q hq => ?_⟩
    rcases List.mem_append.mp hq with h | h
    · exact hS.2.2 q h
    · exact hL q h
  obtain ⟨t2, a1, b1⟩ := k T'.heap (locs ++ L) ls (cells + K) (slots + 160 * K) (by omega) (by rw [e1]; exact hWd) hS' hl T' rfl X'
  exact ⟨t2, stp t2 a1, b1⟩
/-- a call of a method of an object: what the tables say -/
def MV (own : String) (idx : Nat) (y : MethodName) (cy : ByteArray) (nLy : Nat) (rety : Option FieldType) (n : Nat) : Prop :=
  GoodIn TW (wsV own idx y.cls y (.code y cy nLy rety :: TW)) ∧ (y.cls ≠ "java/lang/invoke/MethodHandle" ∧ y.cls ≠ "java/lang/invoke/VarHandle" ∧ (parseMethodDescriptor y.desc).map (fun d => d.parameters.length) = some n)
def MS (own : String) (idx : Nat) (y : MethodName) (cy : ByteArray) (nLy : Nat) (rety : Option FieldType) (n : Nat) : Prop :=
  GoodIn TW (va_wsS own idx y (.code y cy nLy rety :: TW)) ∧ (y.cls ≠ "java/lang/invoke/MethodHandle" ∧ y.cls ≠ "java/lang/invoke/VarHandle" ∧ (parseMethodDescriptor y.desc).map (fun d => d.parameters.length) = some n)
theorem i_callV (hC : Cx v p l e s m args meth c own cc nL ret) {K q2 idx : Nat} {y : MethodName} {cy : ByteArray} {nLy F L n : Nat} {rety : Option FieldType} {As rest : List Value} {rv : Option Value} {q ci : Nat} {fs : List FS} {T : u_T} {N : Nat}
    (hV : MV own idx y cy nLy rety n) (hM : ConK K v l y cy nLy rety F L (.ref (eA v q) :: As) S rv S1) (hq : q < layN) (hy : layF q = .inl (ci, fs)) (hc : vwCl[ci]? = some (y.cls, T, N)) (hn : As.length = n) (hst : st = As.reverse ++ .ref (eA v q) :: rest)
    (hq2 : qb = q2 + K) (hR : F + 1 ≤ R.frames ∧ 8 + (nLy + 11) + L ≤ R.locals) (hr : (rest.map fun v => v.category).sum ≤ 8) (hdg : decode cc pc = .ok (.invokevirtual idx, 3)) (k : Mj v p l e R s m args below meth c nL Q q2 S1 (pc + 3) lv (rv.toList ++ rest)) : Mj v p l e R s m args below meth c nL Q qb S pc lv st := by
  refine ex_da fun da => r_run hq2 (rest := rest) (a := (Value.ref (eA v q) :: As).toArray) (fun H locs ls cells slots hbu hW hS hl => ?_) k
  exact va_runV (As := As) (rest := rest) ⟨hC.1, hC.2.1, hC.2.2.1, hC.2.2.2.1, hC.2.2.2.2.1⟩ hM (cwV n hC.2.2.2.2.1 hV.1 rfl rfl rfl ⟨rfl, hV.2⟩ hR) ⟨pe_blind hC.2.2.2.2.2.2.2.1, va_recv hC.2.2.2.2.2.1 hW.1 (ci := ci) (q0 := q) hc (by rw [wsW_at hq, hy]; rfl), fun U hU hU2 => pe_of hC ⟨da, hW⟩ hS hU hU2⟩ rfl hn hl.1 hst (lv_room hr) hdg hbu
theorem i_callS (hC : Cx v p l e s m args meth c own cc nL ret) {K q2 idx : Nat} {y : MethodName} {cy : ByteArray} {nLy F L n : Nat} {rety : Option FieldType} {As rest : List Value} {rv : Option Value}
    (hV : MS own idx y cy nLy rety n) (hM : ConK K v l y cy nLy rety F L As S rv S1) (hn : As.length = n) (hst : st = As.reverse ++ rest)
    (hq2 : qb = q2 + K) (hR : F + 1 ≤ R.frames ∧ 8 + (nLy + 11) + L ≤ R.locals) (hr : (rest.map fun v => v.category).sum ≤ 8) (hdg : decode cc pc = .ok (.invokestatic idx, 3)) (k : Mj v p l e R s m args below meth c nL Q q2 S1 (pc + 3) lv (rv.toList ++ rest)) : Mj v p l e R s m args below meth c nL Q qb S pc lv st := by
  refine r_run hq2 (rest := rest) (a := As.toArray) (fun H locs ls cells slots hbu hW hS hl => ?_) k
  exact va_runS (As := As) (rest := rest) ⟨hC.1, hC.2.1, hC.2.2.1, hC.2.2.2.1, hC.2.2.2.2.1⟩ hM (va_cwS n hC.2.2.2.2.1 hV.1 rfl rfl rfl hV.2 hR) ⟨pe_blind hC.2.2.2.2.2.2.2.1, fun U hU hU2 => pe_of hC hW hS hU hU2⟩ rfl hn hl.1 hst (lv_room hr) hdg hbu
theorem i_callVi (hC : Cx v p l e s m args meth c own cc nL ret) {K q2 idx : Nat} {y : MethodName} {cy : ByteArray} {nLy F L n : Nat} {rety : Option FieldType} {As rest : List Value} {u : Value} {q ci : Nat} {fs : List FS} {T : u_T} {N : Nat}
    (hV : MV own idx y cy nLy rety n) (hM : ConK K v l y cy nLy rety F L (.ref (eA v q) :: As) S (some u) S1) (hq : q < layN) (hy : layF q = .inl (ci, fs)) (hc : vwCl[ci]? = some (y.cls, T, N)) (hn : As.length = n) (hst : st = As.reverse ++ .ref (eA v q) :: rest)
    (hq2 : qb = q2 + K) (hR : F + 1 ≤ R.frames ∧ 8 + (nLy + 11) + L ≤ R.locals) (hr : (rest.map fun v => v.category).sum ≤ 8) (hdg : decode cc pc = .ok (.invokevirtual idx, 3)) (k : Mj v p l e R s m args below meth c nL Q q2 S1 (pc + 3) lv (u :: rest)) : Mj v p l e R s m args below meth c nL Q qb S pc lv st :=
  i_callV hC hV hM hq hy hc hn hst hq2 hR hr hdg k
theorem i_callVv (hC : Cx v p l e s m args meth c own cc nL ret) {K q2 idx : Nat} {y : MethodName} {cy : ByteArray} {nLy F L n : Nat} {rety : Option FieldType} {As rest : List Value} {q ci : Nat} {fs : List FS} {T : u_T} {N : Nat}
    (hV : MV own idx y cy nLy rety n) (hM : ConK K v l y cy nLy rety F L (.ref (eA v q) :: As) S none S1) (hq : q < layN) (hy : layF q = .inl (ci, fs)) (hc : vwCl[ci]? = some (y.cls, T, N)) (hn : As.length = n) (hst : st = As.reverse ++ .ref (eA v q) :: rest)
    (hq2 : qb = q2 + K) (hR : F + 1 ≤ R.frames ∧ 8 + (nLy + 11) + L ≤ R.locals) (hr : (rest.map fun v => v.category).sum ≤ 8) (hdg : decode cc pc = .ok (.invokevirtual idx, 3)) (k : Mj v p l e R s m args below meth c nL Q q2 S1 (pc + 3) lv rest) : Mj v p l e R s m args below meth c nL Q qb S pc lv st :=
  i_callV hC hV hM hq hy hc hn hst hq2 hR hr hdg k
theorem i_callSi (hC : Cx v p l e s m args meth c own cc nL ret) {K q2 idx : Nat} {y : MethodName} {cy : ByteArray} {nLy F L n : Nat} {rety : Option FieldType} {As rest : List Value} {u : Value}
    (hV : MS own idx y cy nLy rety n) (hM : ConK K v l y cy nLy rety F L As S (some u) S1) (hn : As.length = n) (hst : st = As.reverse ++ rest)
    (hq2 : qb = q2 + K) (hR : F + 1 ≤ R.frames ∧ 8 + (nLy + 11) + L ≤ R.locals) (hr : (rest.map fun v => v.category).sum ≤ 8) (hdg : decode cc pc = .ok (.invokestatic idx, 3)) (k : Mj v p l e R s m args below meth c nL Q q2 S1 (pc + 3) lv (u :: rest)) : Mj v p l e R s m args below meth c nL Q qb S pc lv st :=
  i_callS hC hV hM hn hst hq2 hR hr hdg k
theorem i_callSv (hC : Cx v p l e s m args meth c own cc nL ret) {K q2 idx : Nat} {y : MethodName} {cy : ByteArray} {nLy F L n : Nat} {rety : Option FieldType} {As rest : List Value}
    (hV : MS own idx y cy nLy rety n) (hM : ConK K v l y cy nLy rety F L As S none S1) (hn : As.length = n) (hst : st = As.reverse ++ rest)
    (hq2 : qb = q2 + K) (hR : F + 1 ≤ R.frames ∧ 8 + (nLy + 11) + L ≤ R.locals) (hr : (rest.map fun v => v.category).sum ≤ 8) (hdg : decode cc pc = .ok (.invokestatic idx, 3)) (k : Mj v p l e R s m args below meth c nL Q q2 S1 (pc + 3) lv rest) : Mj v p l e R s m args below meth c nL Q qb S pc lv st :=
  i_callS hC hV hM hn hst hq2 hR hr hdg k
theorem con_ofK {K : Nat} {y : MethodName} {F L : Nat} {av : List Value} {rv : Option Value} (hy : plainName y.cls = true) (hst : Stb v) (hn : (lg_sl av).length ≤ nL) (h : ∀ (p : Program) (e : Env) (s : State) (m : MethodId) (args : Array Value) (below : List Frame) (meth : Method) (c : Code), Cx v p l e s m args meth c y.cls cc nL ret → Mj v p l e (rmK K F L) s m args below meth c nL (MQ below (Qc v rv S1) args s K (160 * K) (eG v)) K S 0 (lv_args 0 av) []) : ConK K v l y cc nL ret F L av S rv S1 := by
  refine Met.ofW hy rfl ?_
  intro p e s m args below meth c s₁ B hml hv
  obtain ⟨rfl, hsz, hK, hF, hW⟩ := hv
  have hts := atoms_spec (ws := .code y cc nL ret :: TW) B.pre
  have C : Cx v p l e s m av.toArray meth c y.cls cc nL ret := ⟨B.exec, B.bytes, hml, findClass_of_methodNamed B.named, fun w hw => hts w (List.mem_cons_of_mem _ hw), hK, hF, hst, hsz, B.returns, B.notSynchronized⟩
  rw [lg_entry_eq]
  exact h p e s m av.toArray below meth c C s.heap [] _ 0 0 ⟨by rw [Nat.zero_add]; exact Nat.le_refl _, by rw [Nat.zero_add]; exact Nat.le_refl _⟩ hW va_S.rf (lv_entry av hn)
theorem con_of {y : MethodName} {F L : Nat} {av : List Value} {rv : Option Value} (hy : plainName y.cls = true) (hst : Stb v) (hn : (lg_sl av).length ≤ nL) (h : ∀ (p : Program) (e : Env) (s : State) (m : MethodId) (args : Array Value) (below : List Frame) (meth : Method) (c : Code), Cx v p l e s m args meth c y.cls cc nL ret → Mj v p l e (rmF F L) s m args below meth c nL (MQ below (Qc v rv S1) args s 0 0 (eG v)) 0 S 0 (lv_args 0 av) []) : Con v l y cc nL ret F L av S rv S1 := con_ofK hy hst hn h
end CALLS
/-! ===== the mechanical functions: checks, steps, loops ===== -/
def ck {α : Type} (b : Bool) (k : Option α) : Option α := if b = true then k else none
theorem ck_of {α : Type} {b : Bool} {k : Option α} {r : α} (h : ck b k = some r) : b = true ∧ k = some r := by
  unfold ck at h
  by_cases hb : b = true
  · rw [if_pos hb] at h
    exact ⟨hb, h⟩
  · rw [if_neg hb] at h
    cases h
theorem ck_t {α : Type} {b : Bool} (k : Option α) (h : b = true) : ck b k = k := if_pos h
theorem bd_of {α β : Type} {x : Option α} {k : α → Option β} {r : β} (h : x.bind k = some r) : ∃ y, x = some y ∧ k y = some r := by
  cases x with
  | none => cases h
  | some y => exact ⟨y, rfl, h⟩
def lp {σ ρ : Type} (b : (σ → Option ρ) → σ → Option ρ) : Nat → σ → Option ρ
  | 0 => fun _ => none
  | n + 1 => b (lp b n)
theorem lp_ind {σ ρ : Type} {b : (σ → Option ρ) → σ → Option ρ} {P : σ → Prop} {r : ρ} (hs : ∀ (ih : σ → Option ρ) (s : σ), (∀ s', ih s' = some r → P s') → b ih s = some r → P s) : ∀ (n : Nat) (s : σ), lp b n s = some r → P s := by
  intro n
  induction n with
  | zero => intro s h; cases h
  | succ n ih => intro s h; exact hs (lp b n) s ih h
def bd1 {α β : Type} (x : Option α) (k : α → Option β) : Option β := x.bind k
def bd2 {α γ β : Type} (x : Option (α × γ)) (k : α → γ → Option β) : Option β := x.bind fun y => k y.1 y.2
theorem bd1_of {α β : Type} {x : Option α} {k : α → Option β} {r : β} (h : bd1 x k = some r) : ∃ y, x = some y ∧ k y = some r := bd_of h
theorem bd2_of {α γ β : Type} {x : Option (α × γ)} {k : α → γ → Option β} {r : β} (h : bd2 x k = some r) : ∃ y z, x = some (y, z) ∧ k y z = some r := by
  obtain ⟨⟨y, z⟩, h1, h2⟩ := bd_of h
  exact ⟨y, z, h1, h2⟩
/-- an index within -/
def inb (x : Int32) (n : Nat) : Bool := decide (0 ≤ x) && decide (x.toNatClampNeg < n)
theorem inb_in {x : Int32} {n : Nat} (h : inb x n = true) : vp_in x n := by
  unfold inb at h
  simp only [Bool.and_eq_true, decide_eq_true_eq] at h
  intro z
  rcases z with z | z
  · exact absurd h.1 (Int32.not_le.mpr z)
  · omega
theorem inb_lt {x : Int32} {n : Nat} (h : inb x n = true) : x.toNatClampNeg < n := by
  unfold inb at h
  simp only [Bool.and_eq_true, decide_eq_true_eq] at h
  exact h.2
/-- a truth value -/
def isb (x : Int32) : Bool := decide (x = 0) || decide (x = 1)
theorem isb_z {x : Int32} (h : isb x = true) : narrow .boolean (.int x) = .int x ∧ fits .boolean (.int x) = true := by
  unfold isb at h
  simp only [Bool.or_eq_true, decide_eq_true_eq] at h
  rcases h with rfl | rfl
  · exact ⟨by decide +kernel, by decide +kernel⟩
  · exact ⟨by decide +kernel, by decide +kernel⟩
theorem nf_int (x : Int32) : narrow .int (.int x) = .int x ∧ fits .int (.int x) = true := ⟨rfl, rfl⟩
theorem nn_of {α : Type} {r : α} {P : Prop} (h : (none : Option α) = some r) : P := by cases h
/-- a char -/
def isc (x : Int32) : Bool := decide (x = (x.toUInt32 % 65536).toInt32)
theorem isc_n {x : Int32} (h : isc x = true) : narrow .char (.int x) = .int x := by
  have e : x = (x.toUInt32 % 65536).toInt32 := of_decide_eq_true h
  rw [e]
  exact pk_nc x
def isy (x : Int32) : Bool := decide (x = x.toInt8.toInt32)
theorem isy_n {x : Int32} (h : isy x = true) : narrow .byte (.int x) = .int x := by
  have e : x = x.toInt8.toInt32 := of_decide_eq_true h
  rw [e]
  exact pk_nb x
def nz (y : Int32) : Bool := !decide (y = 0)
theorem nz_ne {y : Int32} (h : nz y = true) : ¬ y = 0 := by
  unfold nz at h
  simp only [Bool.not_eq_true', decide_eq_false_iff_not] at h
  exact h
/-! ===== the layout, by kinds ===== -/
theorem lay_R {k : Nat} (h : k < 11) : layF (pR k) = .inl (4, [(1, 18 * k + 1, 0), (1, 18 * k + 2, 0), (0, k, 1), (0, k, 0), (0, k, 2), (0, k, 3), (0, k, 4), (0, k, 5), (0, k, 6), (0, k, 7)]) := by
  show layF (18 * k) = _
  unfold layF
  rw [if_pos (by omega), show (18 * k) / 18 = k by omega, show (18 * k) % 18 = 0 by omega]
  rfl
theorem lay_AD {k : Nat} (h : k < 11) : layF (18 * k + 1) = .inr (4, 5, 1, 18 * k + 3, 3) := by
  show layF (18 * k + 1) = _
  unfold layF
  rw [if_pos (by omega), show (18 * k + 1) / 18 = k by omega, show (18 * k + 1) % 18 = 1 by omega]
  rfl
theorem lay_AZ {k : Nat} (h : k < 11) : layF (18 * k + 2) = .inr (2, 25, 0, k, 8) := by
  show layF (18 * k + 2) = _
  unfold layF
  rw [if_pos (by omega), show (18 * k + 2) / 18 = k by omega, show (18 * k + 2) % 18 = 2 by omega]
  rfl
theorem lay_D {k i : Nat} (h : k < 11 ∧ i < 5) : layF (pD k i) = .inl (2, [(0, k, 33 + 34 * i), (0, k, 33 + 34 * i + 1), (0, k, 33 + 34 * i + 2), (0, k, 33 + 34 * i + 3), (0, k, 33 + 34 * i + 4), (0, k, 33 + 34 * i + 5), (0, k, 33 + 34 * i + 6), (0, k, 33 + 34 * i + 7), (0, k, 33 + 34 * i + 8), (0, k, 33 + 34 * i + 9), (1, 18 * k + 4 + 3 * i, 0), (1, 18 * k + 5 + 3 * i, 0)]) := by
  obtain ⟨h1, h2⟩ := h
  show layF (18 * k + 3 + 3 * i) = _
  unfold layF
  rw [if_pos (by omega), show (18 * k + 3 + 3 * i) / 18 = k by omega, show (18 * k + 3 + 3 * i) % 18 = 3 + 3 * i by omega]
  unfold layRaft
  rw [if_neg (by omega), if_neg (by omega), if_neg (by omega), if_pos (by omega), show (3 + 3 * i - 3) / 3 = i by omega]
theorem lay_AT {k i : Nat} (h : k < 11 ∧ i < 5) : layF (18 * k + 4 + 3 * i) = .inr (0, 12, 0, k, 33 + 34 * i + 10) := by
  obtain ⟨h1, h2⟩ := h
  show layF (18 * k + 4 + 3 * i) = _
  unfold layF
  rw [if_pos (by omega), show (18 * k + 4 + 3 * i) / 18 = k by omega, show (18 * k + 4 + 3 * i) % 18 = 4 + 3 * i by omega]
  unfold layRaft
  rw [if_neg (by omega), if_neg (by omega), if_neg (by omega), if_neg (by omega), if_pos (by omega), show (4 + 3 * i - 3) / 3 = i by omega]
theorem lay_AL {k i : Nat} (h : k < 11 ∧ i < 5) : layF (18 * k + 5 + 3 * i) = .inr (1, 12, 0, k, 33 + 34 * i + 22) := by
  obtain ⟨h1, h2⟩ := h
  show layF (18 * k + 5 + 3 * i) = _
  unfold layF
  rw [if_pos (by omega), show (18 * k + 5 + 3 * i) / 18 = k by omega, show (18 * k + 5 + 3 * i) % 18 = 5 + 3 * i by omega]
  unfold layRaft
  rw [if_neg (by omega), if_neg (by omega), if_neg (by omega), if_neg (by omega), if_neg (by omega), show (5 + 3 * i - 3) / 3 = i by omega]
def pC (c : Nat) : Nat := 205 + 1 * c
theorem lay_C {c : Nat} (h : c < 12) : layF (pC c) = .inl (1, [(2, 12, 3 * c), (0, 12, 3 * c + 1), (0, 12, 3 * c + 2)]) := by
  show layF (205 + 1 * c) = _
  match c, h with
  | 0, _ => rfl
  | 1, _ => rfl
  | 2, _ => rfl
  | 3, _ => rfl
  | 4, _ => rfl
  | 5, _ => rfl
  | 6, _ => rfl
  | 7, _ => rfl
  | 8, _ => rfl
  | 9, _ => rfl
  | 10, _ => rfl
  | 11, _ => rfl
  | n + 12, h => omega
def pM (b : Nat) : Nat := 199 + b
def lenM (b : Nat) : Nat := if b < 24 then 203 else 1624
theorem lay_M {b : Nat} (h : 20 ≤ b ∧ b < 25) : layF (pM b) = .inr (0, lenM b, 0, b, 0) := by
  obtain ⟨h1, h2⟩ := h
  have : b = 20 ∨ b = 21 ∨ b = 22 ∨ b = 23 ∨ b = 24 := by omega
  rcases this with rfl | rfl | rfl | rfl | rfl <;> rfl
theorem pl_R {k : Nat} (h : k < 11) : pR k < layN := by unfold pR layN; omega
theorem pl_AD {k : Nat} (h : k < 11) : 18 * k + 1 < layN := by unfold layN; omega
theorem pl_AZ {k : Nat} (h : k < 11) : 18 * k + 2 < layN := by unfold layN; omega
theorem pl_D {k i : Nat} (h : k < 11 ∧ i < 5) : pD k i < layN := by unfold pD layN; omega
theorem pl_AT {k i : Nat} (h : k < 11 ∧ i < 5) : 18 * k + 4 + 3 * i < layN := by unfold layN; omega
theorem pl_AL {k i : Nat} (h : k < 11 ∧ i < 5) : 18 * k + 5 + 3 * i < layN := by unfold layN; omega
theorem pl_C {c : Nat} (h : c < 12) : pC c < layN := by unfold pC layN; omega
theorem pln {q : Nat} (h : Nat.ble 218 q = false) : q < layN := by
  unfold layN
  rcases Nat.lt_or_ge q 218 with z | z
  · exact z
  · rw [Nat.ble_eq_true_of_le z] at h; cases h
theorem bk_k {k j : Nat} (h : k < 11) : plainB k j := by unfold plainB; omega
theorem bk_M {b j : Nat} (h : 20 ≤ b ∧ b < 25) : plainB b j := by unfold plainB; omega
theorem bk_l {b j : Nat} (h : Nat.beq b 14 = false ∧ Nat.beq b 16 = false ∧ Nat.beq b 13 = false ∧ Nat.beq b 15 = false) : plainB b j := by
  obtain ⟨h1, h2, h3, h4⟩ := h
  have e1 := Nat.ne_of_beq_eq_false h1
  have e2 := Nat.ne_of_beq_eq_false h2
  have e3 := Nat.ne_of_beq_eq_false h3
  have e4 := Nat.ne_of_beq_eq_false h4
  unfold plainB; omega
theorem lay_p198 : layF 198 = .inl (7, [(1, 0, 0), (1, 18, 0), (1, 36, 0), (1, 199, 0), (1, 201, 0), (1, 202, 0), (5, 0, 0), (0, 11, 0), (0, 11, 1)]) := rfl
theorem lay_p199 : layF 199 = .inl (3, [(1, 200, 0), (0, 11, 2), (0, 11, 3)]) := rfl
theorem lay_p200 : layF 200 = .inr (5, 8, 1, 54, 18) := rfl
theorem lay_p201 : layF 201 = .inl (5, [(0, 11, 4), (0, 11, 5), (0, 11, 6), (0, 11, 7)]) := rfl
theorem lay_p202 : layF 202 = .inl (6, [(1, 203, 0), (1, 204, 0), (0, 11, 8), (0, 11, 9)]) := rfl
theorem lay_p204 : layF 204 = .inr (6, 12, 1, 205, 1) := rfl
