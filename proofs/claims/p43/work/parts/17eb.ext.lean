/-! ===== lists of cells, with cells beside; answers that are made ===== -/
def Qp (v : EV) (Pq : Value → Heap → Prop) : Array Value → State → Outcome → State → Prop := fun _ st o t => ∃ u, o = .returned (some u) ∧ Pq u t.heap ∧ va_F (eG v) st t
def ConP (K : Nat) (v : EV) (l : Launch) (y : MethodName) (cc : ByteArray) (nL : Nat) (ret : Option FieldType) (F L : Nat) (av : List Value) (W0 : Heap → Prop) (Pq : Value → Heap → Prop) : Prop :=
  Met l y (.code y cc nL ret :: TW) (rmK K F L) (Pg v av W0) (Qp v Pq) K (160 * K) (eG v)
section EXTB
variable {v : EV} {p : Program} {l : Launch} {e : Env} {R : Room} {s : State} {m : MethodId} {args : Array Value} {below : List Frame} {meth : Method} {c : Code} {own : String} {cc : ByteArray} {nL : Nat} {ret : Option FieldType} {Q : State → Prop} {qb : Nat} {Wd Wd1 : Mem → Heap → Prop} {W0 W1 : Heap → Prop} {Pq : Value → Heap → Prop} {da da1 : Nat → Nat} {S S1 : Mem} {pc : Nat} {lv : List (Nat × Value)} {st : List Value} {X ws ws' : va_W} {ys : List SY} {is : List IY}
theorem con_ofP {K : Nat} {y : MethodName} {F L : Nat} {av : List Value} (hy : plainName y.cls = true) (hst : Stb v) (hn : (lg_sl av).length ≤ nL) (h : ∀ (p : Program) (e : Env) (s : State) (m : MethodId) (args : Array Value) (below : List Frame) (meth : Method) (c : Code), Cx v p l e s m args meth c y.cls cc nL ret → Mw (fun _ H => W0 H) v p l e (rmK K F L) s m args below meth c nL (MQ below (Qp v Pq) args s K (160 * K) (eG v)) K S 0 (lv_args 0 av) []) : ConP K v l y cc nL ret F L av W0 Pq := by
  refine Met.ofW hy rfl ?_
  intro p e s m args below meth c s₁ B hml hv
  obtain ⟨rfl, hsz, hK, hF, hW⟩ := hv
  have hts := atoms_spec (ws := .code y cc nL ret :: TW) B.pre
  have C : Cx v p l e s m av.toArray meth c y.cls cc nL ret := ⟨B.exec, B.bytes, hml, findClass_of_methodNamed B.named, fun w hw => hts w (List.mem_cons_of_mem _ hw), hK, hF, hst, hsz, B.returns, B.notSynchronized⟩
  rw [lg_entry_eq]
  exact h p e s m av.toArray below meth c C s.heap [] _ 0 0 ⟨by rw [Nat.zero_add]; exact Nat.le_refl _, by rw [Nat.zero_add]; exact Nat.le_refl _⟩ hW va_S.rf (lv_entry av hn)
theorem p_aretA {u : Value} {ty : FieldType} (hw : ∀ H, Wd S H → Pq u H) (hC : Cx v p l e s m args meth c own cc nL (some (.array ty))) (hu : isR u) (hdg : decode cc pc = .ok (.areturn, 1)) : Mw Wd v p l e R s m args below meth c nL (MQ below (Qp v Pq) args s R.cells R.slots (eG v)) qb S pc lv [u] := by
  intro H locs ls cells slots hbu hW hS hl
  obtain ⟨hx, hb, -, -, -, -, -, -, -, hr, hk⟩ := hC
  refine W.widen (k := R.cells) (n := R.slots) (by omega) (by omega) ?_
  exact W.aret hx hb hr (Or.inr ⟨_, rfl⟩) hu (fun t ht hW' => ⟨u, rfl, by rw [ht]; exact hw H hW, hS.F ht⟩) hS.free hdg hk
theorem p_aret {u : Value} {C : String} (hw : ∀ H, Wd S H → Pq u H) (hC : Cx v p l e s m args meth c own cc nL (some (.object C))) (hu : isR u) (hdg : decode cc pc = .ok (.areturn, 1)) : Mw Wd v p l e R s m args below meth c nL (MQ below (Qp v Pq) args s R.cells R.slots (eG v)) qb S pc lv [u] := by
  intro H locs ls cells slots hbu hW hS hl
  obtain ⟨hx, hb, -, -, -, -, -, -, -, hr, hk⟩ := hC
  refine W.widen (k := R.cells) (n := R.slots) (by omega) (by omega) ?_
  exact W.aret hx hb hr (Or.inl ⟨_, rfl⟩) hu (fun t ht hW' => ⟨u, rfl, by rw [ht]; exact hw H hW, hS.F ht⟩) hS.free hdg hk
/-- behind a call that makes its answer -/
theorem p_run {a : Array Value} {rest : List Value} {K q2 : Nat} (hq2 : qb = q2 + K) (hr : ∀ (H : Heap) (locs : List Loc) (ls : Array Slot) (cells slots : Nat), (cells + K ≤ R.cells ∧ slots + 160 * K ≤ R.slots) → Wd S H → va_S (eG v) s.heap H locs → lv_has ls nL lv → va_Run p l e R s m args below meth c H locs cells slots K (160 * K) (F0 m pc ls st) rest (Qp v Pq a) (eG v)) (k : ∀ u, Mw (fun _ H => Pq u H) v p l e R s m args below meth c nL Q q2 S (pc + 3) lv (u :: rest)) : Mw Wd v p l e R s m args below meth c nL Q qb S pc lv st := by
  intro H locs ls cells slots hbu hW hS hl T hT X
  obtain ⟨v', st₀, t, T', L, h0, X', hL, e1, e2, ⟨u, hv, hWd, hz, hk⟩, stp⟩ := hr H locs ls cells slots (by omega) hW hS hl T hT X
  cases hv
  rw [h0] at hz hk
  have hS' : va_S (eG v) s.heap T'.heap (locs ++ L) := by
    refine ⟨Nat.le_trans hS.1 (by rw [e1]; exact hz), fun q h1 h2 => by rw [e1, hk q (Nat.lt_of_lt_of_le h1 hS.1) h2]; exact hS.2.1 q h1 h2, fun q hq => ?_⟩
    rcases List.mem_append.mp hq with h | h
    · exact hS.2.2 q h
    · exact hL q h
  obtain ⟨t2, a1, b1⟩ := k u T'.heap (locs ++ L) ls (cells + K) (slots + 160 * K) (by omega) (by rw [e1]; exact hWd) hS' hl T' rfl X'
  exact ⟨t2, stp t2 a1, b1⟩
theorem p_callS (hC : Cx v p l e s m args meth c own cc nL ret) {K q2 idx : Nat} {y : MethodName} {cy : ByteArray} {nLy F L n : Nat} {rety : Option FieldType} {As rest : List Value} (hV : MS own idx y cy nLy rety n) (hM : ConP K v l y cy nLy rety F L As W0 Pq) (h0 : ∀ H, Wd S H → W0 H) (hn : As.length = n) (hst : st = As.reverse ++ rest)
    (hq2 : qb = q2 + K) (hR : F + 1 ≤ R.frames ∧ 8 + (nLy + 11) + L ≤ R.locals) (hr : (rest.map fun v => v.category).sum ≤ 8) (hdg : decode cc pc = .ok (.invokestatic idx, 3)) (k : ∀ u, Mw (fun _ H => Pq u H) v p l e R s m args below meth c nL Q q2 S (pc + 3) lv (u :: rest)) : Mw Wd v p l e R s m args below meth c nL Q qb S pc lv st := by
  refine p_run hq2 (rest := rest) (a := As.toArray) (fun H locs ls cells slots hbu hW hS hl => ?_) k
  exact va_runS (As := As) (rest := rest) ⟨hC.1, hC.2.1, hC.2.2.1, hC.2.2.2.1, hC.2.2.2.2.1⟩ hM (va_cwS n hC.2.2.2.2.1 hV.1 rfl rfl rfl hV.2 hR) ⟨pg_blind hC.2.2.2.2.2.2.2.1, fun U hU hU2 => pg_of hC (h0 H hW) hS hU hU2⟩ rfl hn hl.1 hst (lv_room hr) hdg hbu
/-- a text's own method -/
theorem g_callY (hC : Cx v p l e s m args meth c own cc nL ret) {K q2 idx : Nat} {y : MethodName} {cy : ByteArray} {nLy F L n : Nat} {rety : Option FieldType} {As rest : List Value} {rv : Option Value} {q : SY} (hq : q ∈ eY v) (hc : y.cls = "java/lang/String") (hV : MV own idx y cy nLy rety n) (hM : ConG K v l y cy nLy rety F L (.ref q.1 :: As) W0 rv W1) (h0 : ∀ H, Wd S H → W0 H) (h1 : ∀ H, W1 H → Wd1 S1 H) (hn : As.length = n) (hst : st = As.reverse ++ .ref q.1 :: rest)
    (hq2 : qb = q2 + K) (hR : F + 1 ≤ R.frames ∧ 8 + (nLy + 11) + L ≤ R.locals) (hr : (rest.map fun v => v.category).sum ≤ 8) (hdg : decode cc pc = .ok (.invokevirtual idx, 3)) (k : Mw Wd1 v p l e R s m args below meth c nL Q q2 S1 (pc + 3) lv (rv.toList ++ rest)) : Mw Wd v p l e R s m args below meth c nL Q qb S pc lv st := by
  refine g_run hq2 h1 (rest := rest) (a := (Value.ref q.1 :: As).toArray) (fun H locs ls cells slots hbu hW hS hl => ?_) k
  exact va_runV (As := As) (rest := rest) ⟨hC.1, hC.2.1, hC.2.2.1, hC.2.2.2.1, hC.2.2.2.2.1⟩ hM (cwV n hC.2.2.2.2.1 hV.1 rfl rfl rfl ⟨rfl, hV.2⟩ hR) ⟨pg_blind hC.2.2.2.2.2.2.2.1, by rw [hc]; exact y_recv hC hq hS, fun U hU hU2 => pg_of hC (h0 H hW) hS hU hU2⟩ rfl hn hl.1 hst (lv_room hr) hdg hbu
/-! lists with cells beside -/
theorem ap_in {k : Nat} {q : Nat × va_E} (h : X[k]? = some q) : (ws ++ X)[ws.length + k]? = some q := by
  rw [List.getElem?_append_right (by omega), Nat.add_sub_cancel_left]; exact h
theorem ap_lf {k : Nat} {q : Nat × va_E} (h : ws[k]? = some q) : (ws ++ X)[k]? = some q := by
  rw [List.getElem?_append_left (List.getElem?_eq_some_iff.mp h).1]; exact h
theorem LX_in {H : Heap} {k : Nat} {q : Nat × va_E} (h : Lw v (ws ++ X) H) (hk : X[k]? = some q) : va_at (eD v) vwCl q H ∧ eG v q.1 := ⟨h.1 _ q (ap_in hk), h.2.2 _ q (ap_in hk)⟩
theorem LX_sub {H : Heap} (h : Lw v (ws ++ X) H) : Lw (vz v (zsX X) ys is) ws H := by
  obtain ⟨hP, hD⟩ := h
  refine ⟨fun k q hk => hP k q (ap_lf hk), fun i j p q hi hj => hD.1 i j p q (ap_lf hi) (ap_lf hj), fun k q hk => ?_⟩
  have hg := hD.2 k q (ap_lf hk)
  refine ⟨hg.1, fun z => ?_⟩
  rcases List.mem_append.mp z with z | z
  · obtain ⟨k2, q2, h1, h2⟩ := zsX_of z
    have hlt := (List.getElem?_eq_some_iff.mp hk).1
    have := hD.1 k (ws.length + k2) q q2 (ap_lf hk) (ap_in h1) h2.symm
    omega
  · exact hg.2 z
theorem LX_join {H H1 : Heap} (h : Lw v (ws ++ X) H) (h1 : Lw (vz v (zsX X) ys is) ws' H1) (hk : ∀ q : Nat, q < H.size → ¬ eG (vz v (zsX X) ys is) q → H1[q]? = H[q]?) : Lw v (ws' ++ X) H1 := by
  obtain ⟨hP1, hD1⟩ := h1
  have hX : va_P (eD v) vwCl X H1 := fun k q hq => by
    have := (LX_in h hq).1
    exact this.kept (hk q.1 this.lt (nG_vz hq))
  obtain ⟨hP, hD⟩ := h
  have hDX : va_D (eG v) X := ⟨fun i j p q hi hj he => by have := hD.1 _ _ p q (ap_in (ws := ws) hi) (ap_in (ws := ws) hj) he; omega, fun k q hk => hD.2 _ q (ap_in hk)⟩
  refine ⟨hP1.app hX, va_D.app (hD1.weaken fun k q hk h => eG_vz h) hDX fun i j p q hi hj he => ?_⟩
  exact nG_vz (v := v) (ys := ys) (is := is) hj (by rw [← he]; exact hD1.2 i p hi)
theorem pgx_of (hC : Cx v p l e s m args meth c own cc nL ret) {av : List Value} {H : Heap} {locs : List Loc} (hW : Lw v (ws ++ X) H) (h0 : Lw (vz v (zsX X) ys is) ws H → W0 H) (hS : va_S (eG v) s.heap H locs)
    (hY : ∀ q ∈ ys, SFh (eG (vz v (zsX X) ys is)) q s H) (hI : ∀ q ∈ is, va_T .int q.1 q.2.1 (fun j => .int (q.2.2 j)) (eG (vz v (zsX X) ys is)) s H) {U : State} (hU : U.heap = H) (hU2 : s.WarmedH U.vm) : Pg (vz v (zsX X) ys is) av W0 av.toArray U := by
  obtain ⟨-, -, -, -, -, hK, hF, hst, hn, -⟩ := hC
  refine ⟨rfl, ⟨by rw [hU]; exact Nat.le_trans hn.1 hS.1, fun q hq => ?_⟩, va_K.moved hU2.alike hK, eF_vz (hst s U hF (Or.inr hU2) (fun q h1 h2 => by rw [hU]; exact hS.2.1 q h1 h2)) (fun q hq => ?_) (fun q hq => ?_), by rw [hU]; exact h0 (LX_sub hW)⟩
  · rw [hU]
    rcases List.mem_append.mp hq with h | h
    · obtain ⟨k, q2, h1, rfl⟩ := zsX_of h
      exact (LX_in hW h1).1.lt
    · exact Nat.lt_of_lt_of_le (hn.2 q h) hS.1
  · rw [hU]
    obtain ⟨b1, b2, b3, b4⟩ := hY q hq
    exact ⟨b1.moved hU2.alike, b2.moved hU2.alike, b3.moved hU2.alike, b4.moved hU2.alike⟩
  · rw [hU]
    exact (hI q hq).moved hU2.alike
/-- behind a call with cells beside -/
theorem xg_run {a : Array Value} {rest : List Value} {rv : Option Value} {K q2 : Nat} (hq2 : qb = q2 + K) (h1 : ∀ H H1, Wd S H → W1 H1 → (∀ q : Nat, q < H.size → ¬ eG (vz v (zsX X) ys is) q → H1[q]? = H[q]?) → Wd1 S1 H1)
    (hr : ∀ (H : Heap) (locs : List Loc) (ls : Array Slot) (cells slots : Nat), (cells + K ≤ R.cells ∧ slots + 160 * K ≤ R.slots) → Wd S H → va_S (eG v) s.heap H locs → lv_has ls nL lv → va_Run p l e R s m args below meth c H locs cells slots K (160 * K) (F0 m pc ls st) rest (Qg (vz v (zsX X) ys is) rv W1 a) (eG (vz v (zsX X) ys is)))
    (k : Mw Wd1 v p l e R s m args below meth c nL Q q2 S1 (pc + 3) lv (rv.toList ++ rest)) : Mw Wd v p l e R s m args below meth c nL Q qb S pc lv st := by
  intro H locs ls cells slots hbu hW hS hl T hT X0
  obtain ⟨v', st₀, t, T', L, h0, X', hL, e1, e2, ⟨hv, hWd, hz, hk⟩, stp⟩ := hr H locs ls cells slots (by omega) hW hS hl T hT X0
  cases hv
  rw [h0] at hz hk
  have hS' : va_S (eG v) s.heap T'.heap (locs ++ L) := by
    refine ⟨Nat.le_trans hS.1 (by rw [e1]; exact hz), fun q h1 h2 => by rw [e1, hk q (Nat.lt_of_lt_of_le h1 hS.1) (fun z => h2 (eG_vz z))]; exact hS.2.1 q h1 h2, fun q hq => ?_⟩
    rcases List.mem_append.mp hq with h | h
    · exact hS.2.2 q h
    · exact eG_vz (hL q h)
  obtain ⟨t2, a1, b1⟩ := k T'.heap (locs ++ L) ls (cells + K) (slots + 160 * K) (by omega) (by rw [e1]; exact h1 H t.heap hW hWd hk) hS' hl T' rfl X'
  exact ⟨t2, stp t2 a1, b1⟩
theorem xp_run {a : Array Value} {rest : List Value} {K q2 : Nat} (hq2 : qb = q2 + K) {Wu : Value → Heap → Prop} (h1 : ∀ u H H1, Wd S H → Pq u H1 → (∀ q : Nat, q < H.size → ¬ eG (vz v (zsX X) ys is) q → H1[q]? = H[q]?) → Wu u H1)
    (hr : ∀ (H : Heap) (locs : List Loc) (ls : Array Slot) (cells slots : Nat), (cells + K ≤ R.cells ∧ slots + 160 * K ≤ R.slots) → Wd S H → va_S (eG v) s.heap H locs → lv_has ls nL lv → va_Run p l e R s m args below meth c H locs cells slots K (160 * K) (F0 m pc ls st) rest (Qp (vz v (zsX X) ys is) Pq a) (eG (vz v (zsX X) ys is)))
    (k : ∀ u, Mw (fun _ H => Wu u H) v p l e R s m args below meth c nL Q q2 S (pc + 3) lv (u :: rest)) : Mw Wd v p l e R s m args below meth c nL Q qb S pc lv st := by
  intro H locs ls cells slots hbu hW hS hl T hT X0
  obtain ⟨v', st₀, t, T', L, h0, X', hL, e1, e2, ⟨u, hv, hWd, hz, hk⟩, stp⟩ := hr H locs ls cells slots (by omega) hW hS hl T hT X0
  cases hv
  rw [h0] at hz hk
  have hS' : va_S (eG v) s.heap T'.heap (locs ++ L) := by
    refine ⟨Nat.le_trans hS.1 (by rw [e1]; exact hz), fun q h1 h2 => by rw [e1, hk q (Nat.lt_of_lt_of_le h1 hS.1) (fun z => h2 (eG_vz z))]; exact hS.2.1 q h1 h2, fun q hq => ?_⟩
    rcases List.mem_append.mp hq with h | h
    · exact hS.2.2 q h
    · exact eG_vz (hL q h)
  obtain ⟨t2, a1, b1⟩ := k u T'.heap (locs ++ L) ls (cells + K) (slots + 160 * K) (by omega) (by rw [e1]; exact h1 u H t.heap hW hWd hk) hS' hl T' rfl X'
  exact ⟨t2, stp t2 a1, b1⟩
/-- a method that the builder inherits, with cells beside -/
theorem gx_callU (hC : Cx v p l e s m args meth c own cc nL ret) {K q2 idx b : Nat} {y : MethodName} {cy : ByteArray} {nLy F L n : Nat} {rety : Option FieldType} {As rest : List Value} {rv : Option Value} (hb : b < 2) (hV : MU own idx y cy nLy rety n) (hM : ConG K (vz v (zsX X) [] []) l y cy nLy rety F L (.ref (eA v (pB b)) :: As) (WDa (vz v (zsX X) [] []) da S) rv (WDa (vz v (zsX X) [] []) da1 S1)) (hn : As.length = n) (hst : st = As.reverse ++ .ref (eA v (pB b)) :: rest)
    (hq2 : qb = q2 + K) (hR : F + 1 ≤ R.frames ∧ 8 + (nLy + 11) + L ≤ R.locals) (hr : (rest.map fun v => v.category).sum ≤ 8) (hdg : decode cc pc = .ok (.invokevirtual idx, 3)) (k : Mw (fun _ H => Lw v (wsW v da1 S1 ++ X) H) v p l e R s m args below meth c nL Q q2 S (pc + 3) lv (rv.toList ++ rest)) : Mw (fun _ H => Lw v (wsW v da S ++ X) H) v p l e R s m args below meth c nL Q qb S pc lv st := by
  refine xg_run (X := X) (ys := []) (is := []) (S1 := S) hq2 (fun H H1 hW hW1 hk => LX_join hW hW1 hk) (rest := rest) (a := (Value.ref (eA v (pB b)) :: As).toArray) (fun H locs ls cells slots hbu hW hS hl => ?_) k
  exact va_runU (As := As) (rest := rest) ⟨hC.1, hC.2.1, hC.2.2.1, hC.2.2.2.1, hC.2.2.2.2.1⟩ hM (va_cwU n hC.2.2.2.2.1 hV.1 rfl rfl rfl rfl hV.2 hR) ⟨pg_blind (stb_all _), va_recv hC.2.2.2.2.2.1 hW.1 (ci := 0) (q0 := pB b) (q := (RJ4, TJ4, 4)) rfl (ap_lf (by rw [wsW_at (pl_B hb), lay_B hb]; rfl)), fun U hU hU2 => pgx_of hC hW (fun h => h) hS (fun _ h => absurd h List.not_mem_nil) (fun _ h => absurd h List.not_mem_nil) hU hU2⟩ rfl hn hl.1 hst (lv_room hr) hdg hbu
/-- a method that the builder has anew, with cells beside -/
theorem gx_callO (hC : Cx v p l e s m args meth c own cc nL ret) {K q2 idx b : Nat} {x y : MethodName} {cy b0 : ByteArray} {nLy F L n m0 : Nat} {rety r0 : Option FieldType} {As rest : List Value} {rv : Option Value} (hb : b < 2) (hV : GoodIn TW (va_wsO own idx RJ4 RJ5 x y (.code y cy nLy rety :: TW))) (h0 : Cond.code ⟨RJ5, x.name, x.desc⟩ b0 m0 r0 ∈ TW) (hd : (parseMethodDescriptor x.desc).map (fun d => d.parameters.length) = some n) (hM : ConG K (vz v (zsX X) [] []) l y cy nLy rety F L (.ref (eA v (pB b)) :: As) (WDa (vz v (zsX X) [] []) da S) rv (WDa (vz v (zsX X) [] []) da1 S1)) (hn : As.length = n) (hst : st = As.reverse ++ .ref (eA v (pB b)) :: rest)
    (hq2 : qb = q2 + K) (hR : F + 1 ≤ R.frames ∧ 8 + (nLy + 11) + L ≤ R.locals) (hr : (rest.map fun v => v.category).sum ≤ 8) (hdg : decode cc pc = .ok (.invokevirtual idx, 3)) (k : Mw (fun _ H => Lw v (wsW v da1 S1 ++ X) H) v p l e R s m args below meth c nL Q q2 S (pc + 3) lv (rv.toList ++ rest)) : Mw (fun _ H => Lw v (wsW v da S ++ X) H) v p l e R s m args below meth c nL Q qb S pc lv st := by
  refine xg_run (X := X) (ys := []) (is := []) (S1 := S) hq2 (fun H H1 hW hW1 hk => LX_join hW hW1 hk) (rest := rest) (a := (Value.ref (eA v (pB b)) :: As).toArray) (fun H locs ls cells slots hbu hW hS hl => ?_) k
  exact va_runU (As := As) (rest := rest) ⟨hC.1, hC.2.1, hC.2.2.1, hC.2.2.2.1, hC.2.2.2.2.1⟩ hM (va_cwO n hC.2.2.2.2.1 hV rfl rfl rfl h0 ⟨by decide, by decide, hd⟩ hR) ⟨pg_blind (stb_all _), va_recv hC.2.2.2.2.2.1 hW.1 (ci := 0) (q0 := pB b) (q := (RJ4, TJ4, 4)) rfl (ap_lf (by rw [wsW_at (pl_B hb), lay_B hb]; rfl)), fun U hU hU2 => pgx_of hC hW (fun h => h) hS (fun _ h => absurd h List.not_mem_nil) (fun _ h => absurd h List.not_mem_nil) hU hU2⟩ rfl hn hl.1 hst (lv_room hr) hdg hbu
end EXTB
