/-! ===== constructors: worlds as lists, in the order of their making ===== -/
def Lw (v : EV) (ws : va_W) (H : Heap) : Prop := va_P (eD v) vwCl ws H ∧ va_D (eG v) ws
def PI (v : EV) (av : List Value) (W0 : Heap → Prop) : Array Value → State → Prop := va_Pc av (fun U => eB v U.heap.size ∧ va_K (eD v) vwCl (tysOf v) U ∧ eF v U ∧ eX U ∧ W0 U.heap)
def ConI (K : Nat) (v : EV) (l : Launch) (y : MethodName) (cc : ByteArray) (nL : Nat) (F L : Nat) (av : List Value) (W0 : Heap → Prop) (W1 : Heap → Prop) : Prop :=
  Met l y (.code y cc nL none :: TW) (rmK K F L) (PI v av W0) (Qg v none W1) K (160 * K) (eG v)
def NW (own : String) (idx ci N : Nat) (fs : List Value) : Prop := ∃ (C : String) (T : u_T) (ty : Nat → FieldType), vwCl[ci]? = some (C, T, N) ∧ Cond.classLink own idx C ∈ TW ∧ Cond.instantiable C N ∈ TW ∧ Cond.initialized C ∈ TW ∧ (∀ w ∈ u_ws C T N, w ∈ TW) ∧ (∀ k, k < N → parseFieldDescriptor (T k).2.2.1 = some (ty k)) ∧ (∀ j, j < N → defaultValue (ty j) = vp_V fs j) ∧ N ≤ 160
/-- a link of a field, with the class that declares it -/
def FLd (own : String) (idx ci k : Nat) (fin : Bool) (ty : FieldType) : Prop := ∃ (C : String) (T : u_T) (N : Nat) (ty0 : Nat → FieldType), vwCl[ci]? = some (C, T, N) ∧ k < N ∧ Cond.fieldLink own idx (T k).1 (T k).2.1 (T k).2.2.1 ∈ TW ∧ (∀ w ∈ u_ws C T N, w ∈ TW) ∧ (∀ k, k < N → parseFieldDescriptor (T k).2.2.1 = some (ty0 k)) ∧ (∀ a, a < N → ∀ b, b < N → a ≠ b → (T a).2.1 ≠ (T b).2.1) ∧ (T k).2.2.2 = fin ∧ parseFieldDescriptor (T k).2.2.1 = some ty ∧ (T k).1 = own
/-- a call of a constructor: what the tables say -/
def MI (own : String) (idx : Nat) (y : MethodName) (cy : ByteArray) (nLy n : Nat) : Prop :=
  GoodIn TW ([Cond.methodLink own idx y, Cond.instanceMethod y, Cond.initialized y.cls] ++ (.code y cy nLy none :: TW)) ∧ y.name = "<init>" ∧ (y.cls ≠ "java/lang/invoke/MethodHandle" ∧ y.cls ≠ "java/lang/invoke/VarHandle" ∧ (parseMethodDescriptor y.desc).map (fun d => d.parameters.length) = some n)
def MN (y : MethodName) (cy : ByteArray) (nLy n : Nat) : Prop :=
  GoodIn TW ([Cond.instanceMethod y, Cond.initialized y.cls] ++ (.code y cy nLy none :: TW)) ∧ y.name = "<init>" ∧ (y.cls ≠ "java/lang/invoke/MethodHandle" ∧ y.cls ≠ "java/lang/invoke/VarHandle" ∧ (parseMethodDescriptor y.desc).map (fun d => d.parameters.length) = some n)
section CTOR
variable {v : EV} {p : Program} {l : Launch} {e : Env} {R : Room} {s : State} {m : MethodId} {args : Array Value} {below : List Frame} {meth : Method} {c : Code} {own : String} {cc : ByteArray} {nL : Nat} {ret : Option FieldType} {Q : State → Prop} {qb : Nat} {Wd : Mem → Heap → Prop} {W0 W1 : Heap → Prop} {S : Mem} {pc : Nat} {lv : List (Nat × Value)} {st : List Value} {ws ws' : va_W}
theorem n_ex {α : Type} {P : α → Heap → Prop} (h : ∀ x, Mw (fun _ H => P x H) v p l e R s m args below meth c nL Q qb S pc lv st) : Mw (fun _ H => ∃ x, P x H) v p l e R s m args below meth c nL Q qb S pc lv st := fun H locs ls cells slots hbu hW hS hl => hW.elim fun x hx => h x H locs ls cells slots hbu hx hS hl
theorem n_to (h : ∀ H, Lw v ws H → Lw v ws' H) (k : Mw (fun _ H => Lw v ws' H) v p l e R s m args below meth c nL Q qb S pc lv st) : Mw (fun _ H => Lw v ws H) v p l e R s m args below meth c nL Q qb S pc lv st := fun H locs ls cells slots hbu hW hS hl => k H locs ls cells slots hbu (h H hW) hS hl
theorem n_eq (h : ws = ws') (k : Mw (fun _ H => Lw v ws' H) v p l e R s m args below meth c nL Q qb S pc lv st) : Mw (fun _ H => Lw v ws H) v p l e R s m args below meth c nL Q qb S pc lv st := by rw [h]; exact k
theorem n_obj (hC : Cx v p l e s m args meth c own cc nL ret) {idx a : Nat} (w1 : Cond.methodLink own idx Lib.objectInit ∈ TW) (w2 : Cond.instanceMethod Lib.objectInit ∈ TW) (w3 : Cond.code Lib.objectInit ⟨#[0xb1]⟩ 1 none ∈ TW) (hR : 1 ≤ R.frames ∧ (st.map fun v => v.category).sum + 12 ≤ R.locals) (hdg : decode cc pc = .ok (.invokespecial idx, 3)) (k : Mw Wd v p l e R s m args below meth c nL Q qb S (pc + 3) lv st) : Mw Wd v p l e R s m args below meth c nL Q qb S pc lv (.ref a :: st) := by
  intro H locs ls cells slots hbu hW hS hl
  refine W.objInit hC.1 hC.2.1 hC.2.2.2.1 (hC.2.2.2.2.1 _ w1) (hC.2.2.2.2.1 _ w2) (hC.2.2.2.2.1 _ w3) rfl (by rw [hC.2.2.1]; exact hl.1) rfl hdg hR.1 (by show 2 * 0 + _ + 12 ≤ _; rw [Nat.mul_zero, Nat.zero_add]; exact hR.2) ?_
  exact W.eq (g2 := F0 m (pc + 3) ls st) rfl (k H locs ls cells slots hbu hW hS hl)
theorem n_new (hC : Cx v p l e s m args meth c own cc nL ret) {idx ci N q2 : Nat} {fs : List Value} (hN : NW own idx ci N fs) (hq : qb = q2 + 1) (hdg : decode cc pc = .ok (.new idx, 3)) (k : ∀ q : Nat, Mw (fun _ H => Lw v (ws ++ [(q, .inr (ci, fs))]) H) v p l e R s m args below meth c nL Q q2 S (pc + 3) lv (.ref q :: st)) : Mw (fun _ H => Lw v ws H) v p l e R s m args below meth c nL Q qb S pc lv st := by
  intro H locs ls cells slots hbu hW hS hl
  obtain ⟨C, T, ty, h1, h2, h3, h4, h5, h6, h7, h8⟩ := hN
  exact va_new hC.1 hC.2.1 hC.2.2.2.2.1 h5 ty h6 hC.2.2.2.1 (hC.2.2.2.2.1 _ h2) (hC.2.2.2.2.1 _ h3) (hC.2.2.2.2.1 _ h4) hC.2.2.2.2.2.1 hW.1 hW.2 hS (fun q h => hC.2.2.2.2.2.2.2.2.1.new h) h1 h7 (by omega) (by omega) hdg (fun q H1 hP hD hS1 => k q H1 locs ls (cells + 1) (slots + N) (by omega) ⟨hP, hD⟩ hS1 hl)
theorem n_newp (hC : Cx v p l e s m args meth c own cc nL ret) {atype : ArrayType} {ty : FieldType} {t N q2 qd : Nat} {n : Int32} (w1 : Cond.arrayClass (newarray.typeOf atype) ∈ TW) (hty : newarray.typeOf atype = ty) (ht : t < 7 ∧ tyOf t = ty) (hra : ∀ (cA : ClassId) (U : State), va_RA U cA ty → U.vm.findClass ("[" ++ ty.toString) = some cA) (hd0 : ∀ cA : ClassId, vp_cell cA (N, .inl (fun _ => 0)) = arrV cA N (fun _ => defaultValue ty)) (hn : ¬ n < 0) (hN : n.toNatClampNeg = N) (hb : N ≤ 160 * qd ∧ 1 ≤ qd) (hbytes : N * componentBytes ty ≤ 536870912) (hq : qb = q2 + qd) (hdg : decode cc pc = .ok (.newarray atype, 2))
    (k : ∀ q : Nat, Mw (fun _ H => Lw v (ws ++ [(q, .inl (eC v t, N, .inl (fun _ => 0)))]) H) v p l e R s m args below meth c nL Q q2 S (pc + 2) lv (.ref q :: st)) : Mw (fun _ H => Lw v ws H) v p l e R s m args below meth c nL Q qb S pc lv (.int n :: st) := by
  intro H locs ls cells slots hbu hW hS hl
  refine va_newa hC.1 hC.2.1 (hC.2.2.2.2.1 _ w1) hty hC.2.2.2.2.2.1 hW.1 hW.2 hS (fun q h => hC.2.2.2.2.2.2.2.2.1.new h) hd0 hn hN hbytes (by omega) (by omega) hdg (fun q cA H1 hK hP hD hS1 => ?_)
  have e1 := hra _ _ (hK.2 7 (cA, ty) rfl).2
  have e2 := hra _ _ (by have h9 := (hC.2.2.2.2.2.1.2 t _ (tysOf_at v ht.1)).2; rw [ht.2] at h9; exact h9)
  obtain rfl : eC v t = cA := Option.some.inj (e2.symm.trans e1)
  exact k q H1 locs ls (cells + 1) (slots + N) (by omega) ⟨hP, hD⟩ hS1 hl
theorem n_newq (hC : Cx v p l e s m args meth c own cc nL ret) {C : String} {idx t N q2 : Nat} {n : Int32} (w1 : Cond.classLink own idx C ∈ TW) (hA : va_AO C s) (ht : t < 7 ∧ tyOf t = .object C) (hn : ¬ n < 0) (hN : n.toNatClampNeg = N) (hb : N ≤ 160) (hq : qb = q2 + 1) (hdg : decode cc pc = .ok (.anewarray idx, 3))
    (k : ∀ q : Nat, Mw (fun _ H => Lw v (ws ++ [(q, .inl (eC v t, N, .inr (.inr (.inr (.inr (fun _ => none))))))]) H) v p l e R s m args below meth c nL Q q2 S (pc + 3) lv (.ref q :: st)) : Mw (fun _ H => Lw v ws H) v p l e R s m args below meth c nL Q qb S pc lv (.int n :: st) := by
  intro H locs ls cells slots hbu hW hS hl
  refine va_newq hC.1 hC.2.1 hC.2.2.2.1 (hC.2.2.2.2.1 _ w1) hA hC.2.2.2.2.2.1 hW.1 hW.2 hS (fun q h => hC.2.2.2.2.2.2.2.2.1.new h) hn hN (by omega) (by omega) (by omega) hdg (fun q cA H1 hK hP hD hS1 => ?_)
  obtain ⟨kA, comp, -, -, -, e1⟩ : va_RA s cA (.object C) := (hK.2 7 (cA, .object C) rfl).2
  have h9 := (hC.2.2.2.2.2.1.2 t _ (tysOf_at v ht.1)).2
  rw [ht.2] at h9
  obtain ⟨kB, compB, -, -, -, e2⟩ : va_RA s (eC v t) (.object C) := h9
  obtain rfl : eC v t = cA := Option.some.inj (e2.symm.trans e1)
  exact k q H1 locs ls (cells + 1) (slots + N) (by omega) ⟨hP, hD⟩ hS1 hl
theorem n_putF (hC : Cx v p l e s m args meth c own cc nL ret) (hin2 : meth.name = "<init>") {idx ci kx a q0 : Nat} {fin : Bool} {ty : FieldType} {fs : List Value} {x : Value} (hF : FLd own idx ci kx fin ty) (he : ws[q0]? = some (a, .inr (ci, fs))) (hn : narrow ty x = x) (hfit : fits ty x = true) (hl2 : kx < fs.length) (hset : ws.set q0 (a, .inr (ci, fs.set kx x)) = ws') (hdg : decode cc pc = .ok (.putfield idx, 3))
    (k : Mw (fun _ H => Lw v ws' H) v p l e R s m args below meth c nL Q qb S (pc + 3) lv st) : Mw (fun _ H => Lw v ws H) v p l e R s m args below meth c nL Q qb S pc lv (x :: .ref a :: st) := by
  subst hset
  intro H locs ls cells slots hbu hW hS hl
  obtain ⟨C, T, N, ty0, hc, hk, hlk, hin, hty, hnm, hfin, hd, hdecl⟩ := hF
  cases fin with
  | true => exact va_putF hC.1 hC.2.1 hC.2.2.2.2.1 hin ty0 hty hnm hC.2.2.2.1 hC.2.2.2.2.2.1 hW.1 hW.2 hS q0 he hc kx hk (hC.2.2.2.2.1 _ hlk) (fun _ h => h) hfin hin2 hdecl hd hn hfit hl2 hdg fun H1 locs1 hP1 hD1 hS1 => k H1 locs1 ls cells slots hbu ⟨hP1, hD1⟩ hS1 hl
  | false => exact va_put hC.1 hC.2.1 hC.2.2.2.2.1 hin ty0 hty hnm hC.2.2.2.1 hC.2.2.2.2.2.1 hW.1 hW.2 hS q0 he hc kx hk (hC.2.2.2.2.1 _ hlk) (fun _ h => h) hfin hd hn hfit hl2 hdg fun H1 locs1 hP1 hD1 hS1 => k H1 locs1 ls cells slots hbu ⟨hP1, hD1⟩ hS1 hl
theorem n_get (hC : Cx v p l e s m args meth c own cc nL ret) {idx ci kx a q0 : Nat} {fin : Bool} {ty : FieldType} {fs : List Value} {x : Value} (hF : FLd own idx ci kx fin ty) (he : ws[q0]? = some (a, .inr (ci, fs))) (hx : fs[kx]? = some x) (hdg : decode cc pc = .ok (.getfield idx, 3))
    (k : Mw (fun _ H => Lw v ws H) v p l e R s m args below meth c nL Q qb S (pc + 3) lv (x :: st)) : Mw (fun _ H => Lw v ws H) v p l e R s m args below meth c nL Q qb S pc lv (.ref a :: st) := by
  intro H locs ls cells slots hbu hW hS hl
  obtain ⟨C, T, N, ty0, hc, hk, hlk, hin, hty, hnm, hfin, hd, hdecl⟩ := hF
  exact va_get hC.1 hC.2.1 hC.2.2.2.2.1 hin hC.2.2.2.1 hC.2.2.2.2.2.1 hW.1 q0 he hc kx hk (hC.2.2.2.2.1 _ hlk) (fun _ h => h) hx hdg (k H locs ls cells slots hbu hW hS hl)
theorem n_alen (hC : Cx v p l e s m args meth c own cc nL ret) {a q0 t : Nat} {x : vp_A} {z : Int32} (he : ws[q0]? = some (a, .inl (eC v t, x))) (ht : t < 7) (hz : Int32.ofNat x.1 = z) (hdg : decode cc pc = .ok (.arraylength, 1))
    (k : Mw (fun _ H => Lw v ws H) v p l e R s m args below meth c nL Q qb S (pc + 1) lv (.int z :: st)) : Mw (fun _ H => Lw v ws H) v p l e R s m args below meth c nL Q qb S pc lv (.ref a :: st) := by
  intro H locs ls cells slots hbu hW hS hl
  exact va_alen hC.1 hC.2.1 hC.2.2.2.2.2.1 hW.1 q0 t he (tysOf_at v ht) hz hdg (k H locs ls cells slots hbu hW hS hl)
theorem n_aast (hC : Cx v p l e s m args meth c own cc nL ret) {a a2 q0 qk ci t n : Nat} {C : String} {T : u_T} {N : Nat} {f : Nat → Option Nat} {vs : List Value} {i : Int32} (he : ws[q0]? = some (a, .inl (eC v t, n, .inr (.inr (.inr (.inr f)))))) (ht : t < 7 ∧ tyOf t = .object C) (hv : ws[qk]? = some (a2, .inr (ci, vs))) (hc : vwCl[ci]? = some (C, T, N)) (hin : vp_in i n) (hset : ws.set q0 (a, .inl (eC v t, n, .inr (.inr (.inr (.inr (va_up f i.toNatClampNeg (some a2))))))) = ws') (hdg : decode cc pc = .ok (.aastore, 1))
    (k : Mw (fun _ H => Lw v ws' H) v p l e R s m args below meth c nL Q qb S (pc + 1) lv st) : Mw (fun _ H => Lw v ws H) v p l e R s m args below meth c nL Q qb S pc lv (.ref a2 :: .int i :: .ref a :: st) := by
  subst hset
  intro H locs ls cells slots hbu hW hS hl
  exact va_astq hC.1 hC.2.1 hC.2.2.2.2.2.1 hW.1 hW.2 hS q0 t qk ci he (r := (C, T, N)) (by rw [tysOf_at v ht.1, ht.2]) hv hc hin hdg fun H1 locs1 hP1 hD1 hS1 => k H1 locs1 ls cells slots hbu ⟨hP1, hD1⟩ hS1 hl
theorem pi_blind {av : List Value} (hst : Stb v) : FrameBlind (PI v av W0) := fun a U g mk h => ⟨h.1, h.2.1, va_K.moved (u := U) (U := U.calling g mk a) (Vm.Alike.refl U.vm) h.2.2.1, hst U (U.calling g mk a) h.2.2.2.1 (Or.inl rfl) (fun _ _ _ => rfl), eX_moved h.2.2.2.2.1 (Or.inl rfl), h.2.2.2.2.2⟩
theorem pi_of (hC : Cx v p l e s m args meth c own cc nL ret) (hX : eX s) {av : List Value} {H : Heap} {locs : List Loc} (hW : W0 H) (hS : va_S (eG v) s.heap H locs) {U : State} (hU : U.heap = H) (hU2 : s.WarmedH U.vm) : PI v av W0 av.toArray U := by
  obtain ⟨-, -, -, -, -, hK, hF, hst, hn, -⟩ := hC
  refine ⟨rfl, by rw [hU]; exact hn.up hS.1, va_K.moved hU2.alike hK, hst s U hF (Or.inr hU2) (fun q h1 h2 => by rw [hU]; exact hS.2.1 q h1 h2), eX_moved hX (Or.inr hU2), by rw [hU]; exact hW⟩
theorem n_call (hC : Cx v p l e s m args meth c own cc nL ret) (hX : eX s) {K q2 idx n a : Nat} {y : MethodName} {cy : ByteArray} {nLy F L : Nat} {As rest : List Value} (hV : MI own idx y cy nLy n) (hM : ConI K v l y cy nLy F L (.ref a :: As) (Lw v ws) W1) (hn : As.length = n) (hst : st = As.reverse ++ .ref a :: rest) (hq2 : qb = q2 + K) (hR : F + 1 ≤ R.frames ∧ 8 + (nLy + 11) + L ≤ R.locals) (hr : (rest.map fun v => v.category).sum ≤ 8) (hdg : decode cc pc = .ok (.invokespecial idx, 3))
    (k : Mw (fun _ H => W1 H) v p l e R s m args below meth c nL Q q2 S (pc + 3) lv rest) : Mw (fun _ H => Lw v ws H) v p l e R s m args below meth c nL Q qb S pc lv st := by
  refine g_run (Wd1 := fun _ H => W1 H) (S1 := S) (rv := none) hq2 (fun _ h => h) (rest := rest) (a := (Value.ref a :: As).toArray) (fun H locs ls cells slots hbu hW hS hl => ?_) k
  have ht := hC.2.2.2.2.1
  have ok : ∀ w ∈ ([Cond.methodLink own idx y, Cond.instanceMethod y, Cond.initialized y.cls] ++ (.code y cy nLy none :: TW)), w.before args s = true := fun w h => ht w (hV.1 w h).1
  have hG : GoodIn TW (.code y cy nLy none :: TW) := fun w h => hV.1 w (List.mem_append_right _ h)
  exact va_runI (As := As) (rest := rest) ⟨hC.1, hC.2.1, hC.2.2.1, hC.2.2.2.1, ht⟩ hM (cwI n ht hG rfl rfl rfl (ok _ (by simp)) (ok _ (by simp)) (ok _ (by simp)) hV.2.1 hV.2.2 hR) ⟨pi_blind hC.2.2.2.2.2.2.2.1, fun U hU hU2 => pi_of hC hX hW hS hU hU2⟩ rfl hn hl.1 hst (lv_room hr) hdg hbu
theorem n_callN (hC : Cx v p l e s m args meth c own cc nL ret) (hX : eX s) {K q2 idx n a : Nat} {host : String} {y : MethodName} {cy : ByteArray} {nLy F L : Nat} {As rest : List Value} (hl9 : va_Nw (.methodLinkNest own idx y host) s) (hV : MN y cy nLy n) (hM : ConI K v l y cy nLy F L (.ref a :: As) (Lw v ws) W1) (hn : As.length = n) (hst : st = As.reverse ++ .ref a :: rest) (hq2 : qb = q2 + K) (hR : F + 1 ≤ R.frames ∧ 8 + (nLy + 11) + L ≤ R.locals) (hr : (rest.map fun v => v.category).sum ≤ 8) (hdg : decode cc pc = .ok (.invokespecial idx, 3))
    (k : Mw (fun _ H => W1 H) v p l e R s m args below meth c nL Q q2 S (pc + 3) lv rest) : Mw (fun _ H => Lw v ws H) v p l e R s m args below meth c nL Q qb S pc lv st := by
  refine g_run (Wd1 := fun _ H => W1 H) (S1 := S) (rv := none) hq2 (fun _ h => h) (rest := rest) (a := (Value.ref a :: As).toArray) (fun H locs ls cells slots hbu hW hS hl => ?_) k
  have ht := hC.2.2.2.2.1
  have ok : ∀ w ∈ ([Cond.instanceMethod y, Cond.initialized y.cls] ++ (.code y cy nLy none :: TW)), w.before args s = true := fun w h => ht w (hV.1 w h).1
  have hG : GoodIn TW (.code y cy nLy none :: TW) := fun w h => hV.1 w (List.mem_append_right _ h)
  exact va_runIN (As := As) (rest := rest) ⟨hC.1, hC.2.1, hC.2.2.1, hC.2.2.2.1, ht⟩ hM ⟨va_cnB n ht hG rfl rfl rfl hl9 (ok _ (by simp)) hV.2.2 hR, hV.2.1, ok _ (by simp)⟩ ⟨pi_blind hC.2.2.2.2.2.2.2.1, fun U hU hU2 => pi_of hC hX hW hS hU hU2⟩ rfl hn hl.1 hst (lv_room hr) hdg hbu
theorem n_ret (hw : ∀ H, Wd S H → W1 H) (hC : Cx v p l e s m args meth c own cc nL none) (hdg : decode cc pc = .ok (.return_, 1)) : Mw Wd v p l e R s m args below meth c nL (MQ below (Qg v none W1) args s R.cells R.slots (eG v)) qb S pc lv [] := q_vret hw hC hdg
theorem con_ofI {K : Nat} {y : MethodName} {F L : Nat} {av : List Value} (hy : plainName y.cls = true) (hni : y.name = "<init>") (hst : Stb v) (hn : (lg_sl av).length ≤ nL) (h : ∀ (p : Program) (e : Env) (s : State) (m : MethodId) (args : Array Value) (below : List Frame) (meth : Method) (c : Code), Cx v p l e s m args meth c y.cls cc nL none → eX s → meth.name = "<init>" → Mw (fun _ H => W0 H) v p l e (rmK K F L) s m args below meth c nL (MQ below (Qg v none W1) args s K (160 * K) (eG v)) K S 0 (lv_args 0 av) []) : ConI K v l y cc nL F L av W0 W1 := by
  refine Met.ofW hy rfl ?_
  intro p e s m args below meth c s₁ B hml hv
  obtain ⟨rfl, hsz, hK, hF, hX, hW⟩ := hv
  have hts := atoms_spec (ws := .code y cc nL none :: TW) B.pre
  have C : Cx v p l e s m av.toArray meth c y.cls cc nL none := ⟨B.exec, B.bytes, hml, findClass_of_methodNamed B.named, fun w hw => hts w (List.mem_cons_of_mem _ hw), hK, hF, hst, hsz, B.returns, B.notSynchronized⟩
  have hin : meth.name = "<init>" := (name_of_methodNamed B.named B.method).1.trans hni
  rw [lg_entry_eq]
  exact h p e s m av.toArray below meth c C hX hin s.heap [] _ 0 0 ⟨by rw [Nat.zero_add]; exact Nat.le_refl _, by rw [Nat.zero_add]; exact Nat.le_refl _⟩ hW va_S.rf (lv_entry av hn)
end CTOR
/-! places in such lists -/
theorem li_at {X ys : va_W} {i : Nat} {x : Nat × va_E} (h : ys[i]? = some x) : (X ++ ys)[X.length + i]? = some x := by
  rw [List.getElem?_append_right (by omega), Nat.add_sub_cancel_left]
  exact h
theorem li_set {X ys : va_W} {i : Nat} {x : Nat × va_E} : (X ++ ys).set (X.length + i) x = X ++ ys.set i x := by
  rw [List.set_append_right _ _ (by omega), Nat.add_sub_cancel_left]
theorem li_in {X ys Z : va_W} {i : Nat} {x : Nat × va_E} (h : ys[i]? = some x) : (X ++ (ys ++ Z))[X.length + i]? = some x := by
  refine li_at ?_
  rw [List.getElem?_append_left (List.getElem?_eq_some_iff.mp h).1]
  exact h
theorem li_sin {X ys Z : va_W} {i : Nat} {x : Nat × va_E} (h : i < ys.length) : (X ++ (ys ++ Z)).set (X.length + i) x = X ++ (ys.set i x ++ Z) := by
  rw [li_set, List.set_append_left _ _ h]
