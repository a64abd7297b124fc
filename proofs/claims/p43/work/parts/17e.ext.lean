/-! ===== texts and rows of ints that nobody writes ===== -/
theorem eF_Y {v : EV} {U : State} (h : eF v U) : ∀ q ∈ eY v, SF v q U := h.2.2.2.2.2.2.2.2.2.2.2.2.2.2.2.2.2.1
theorem eF_I {v : EV} {U : State} (h : eF v U) : ∀ q ∈ eI v, va_T .int q.1 q.2.1 (fun j => .int (q.2.2 j)) (eG v) U U.heap := h.2.2.2.2.2.2.2.2.2.2.2.2.2.2.2.2.2.2.1
theorem eF_X {v : EV} {U : State} (h : eF v U) : eX U := h.2.2.2.2.2.2.2.2.2.2.2.2.2.2.2.2.2.2.2
def ushr (x y : Int32) : Int32 := (x.toUInt32 >>> (y.toUInt32 &&& Int32.toUInt32 31)).toInt32
section EXTR
variable {v : EV} {p : Program} {l : Launch} {e : Env} {R : Room} {s : State} {m : MethodId} {args : Array Value} {below : List Frame} {meth : Method} {c : Code} {own : String} {cc : ByteArray} {nL : Nat} {ret : Option FieldType} {Q : State → Prop} {qb : Nat} {Wd Wd1 : Mem → Heap → Prop} {da : Nat → Nat} {S S1 : Mem} {pc : Nat} {lv : List (Nat × Value)} {st : List Value}
theorem i_iushr (hC : Cx v p l e s m args meth c own cc nL ret) {x y : Int32} (hdg : decode cc pc = .ok (.iushr, 1)) (k : Mw Wd v p l e R s m args below meth c nL Q qb S (pc + 1) lv (.int (ushr x y) :: st)) : Mw Wd v p l e R s m args below meth c nL Q qb S pc lv (.int y :: .int x :: st) := fun H locs ls cells slots hbu hW hS hl => lv_iushr hC.1 hC.2.1 hdg rfl (k H locs ls cells slots hbu hW hS hl)
theorem i_ixor (hC : Cx v p l e s m args meth c own cc nL ret) {x y : Int32} (hdg : decode cc pc = .ok (.ixor, 1)) (k : Mw Wd v p l e R s m args below meth c nL Q qb S (pc + 1) lv (.int (x ^^^ y) :: st)) : Mw Wd v p l e R s m args below meth c nL Q qb S pc lv (.int y :: .int x :: st) := fun H locs ls cells slots hbu hW hS hl => lv_ixor hC.1 hC.2.1 hdg (k H locs ls cells slots hbu hW hS hl)
theorem i_ytV (hC : Cx v p l e s m args meth c own cc nL ret) {idx : Nat} {q : SY} (hq : q ∈ eY v) (w1 : Cond.fieldLink own idx "java/lang/String" "value" "[B" ∈ TW) (hdg : decode cc pc = .ok (.getfield idx, 3)) (k : Mw Wd v p l e R s m args below meth c nL Q qb S (pc + 3) lv (.ref q.2.1 :: st)) : Mw Wd v p l e R s m args below meth c nL Q qb S pc lv (.ref q.1 :: st) :=
  fun H locs ls cells slots hbu hW hS hl => vk_getf hC.1 hC.2.1 (eF_Y hC.2.2.2.2.2.2.1 q hq).2.2.1 hS hC.2.2.2.1 (hC.2.2.2.2.1 _ w1) (fun _ h => h) hdg (k H locs ls cells slots hbu hW hS hl)
theorem i_ytC (hC : Cx v p l e s m args meth c own cc nL ret) {idx : Nat} {q : SY} (hq : q ∈ eY v) (w1 : Cond.fieldLink own idx "java/lang/String" "coder" "B" ∈ TW) (hdg : decode cc pc = .ok (.getfield idx, 3)) (k : Mw Wd v p l e R s m args below meth c nL Q qb S (pc + 3) lv (.int 0 :: st)) : Mw Wd v p l e R s m args below meth c nL Q qb S pc lv (.ref q.1 :: st) :=
  fun H locs ls cells slots hbu hW hS hl => vk_getf hC.1 hC.2.1 (eF_Y hC.2.2.2.2.2.2.1 q hq).2.1 hS hC.2.2.2.1 (hC.2.2.2.2.1 _ w1) (fun _ h => h) hdg (k H locs ls cells slots hbu hW hS hl)
theorem i_yvLen (hC : Cx v p l e s m args meth c own cc nL ret) {q : SY} (hq : q ∈ eY v) (hdg : decode cc pc = .ok (.arraylength, 1)) (k : Mw Wd v p l e R s m args below meth c nL Q qb S (pc + 1) lv (.int (Int32.ofNat q.2.2.1) :: st)) : Mw Wd v p l e R s m args below meth c nL Q qb S pc lv (.ref q.2.1 :: st) :=
  fun H locs ls cells slots hbu hW hS hl => va_tlen hC.1 hC.2.1 (eF_Y hC.2.2.2.2.2.2.1 q hq).2.2.2 hS rfl hdg (k H locs ls cells slots hbu hW hS hl)
theorem i_yvLd (hC : Cx v p l e s m args meth c own cc nL ret) {q : SY} {i : Int32} (hq : q ∈ eY v) (hin : vp_in i q.2.2.1) (hdg : decode cc pc = .ok (.baload, 1)) (k : Mw Wd v p l e R s m args below meth c nL Q qb S (pc + 1) lv (.int (q.2.2.2 i.toNatClampNeg) :: st)) : Mw Wd v p l e R s m args below meth c nL Q qb S pc lv (.int i :: .ref q.2.1 :: st) :=
  fun H locs ls cells slots hbu hW hS hl => va_tb hC.1 hC.2.1 (eF_Y hC.2.2.2.2.2.2.1 q hq).2.2.2 hS hin rfl hdg (k H locs ls cells slots hbu hW hS hl)
theorem i_isLen (hC : Cx v p l e s m args meth c own cc nL ret) {q : IY} (hq : q ∈ eI v) (hdg : decode cc pc = .ok (.arraylength, 1)) (k : Mw Wd v p l e R s m args below meth c nL Q qb S (pc + 1) lv (.int (Int32.ofNat q.2.1) :: st)) : Mw Wd v p l e R s m args below meth c nL Q qb S pc lv (.ref q.1 :: st) :=
  fun H locs ls cells slots hbu hW hS hl => va_tlen hC.1 hC.2.1 (eF_I hC.2.2.2.2.2.2.1 q hq) hS rfl hdg (k H locs ls cells slots hbu hW hS hl)
theorem i_isLd (hC : Cx v p l e s m args meth c own cc nL ret) {q : IY} {i : Int32} (hq : q ∈ eI v) (hin : vp_in i q.2.1) (hdg : decode cc pc = .ok (.iaload, 1)) (k : Mw Wd v p l e R s m args below meth c nL Q qb S (pc + 1) lv (.int (q.2.2 i.toNatClampNeg) :: st)) : Mw Wd v p l e R s m args below meth c nL Q qb S pc lv (.int i :: .ref q.1 :: st) :=
  fun H locs ls cells slots hbu hW hS hl => va_ti hC.1 hC.2.1 (eF_I hC.2.2.2.2.2.2.1 q hq) hS hin rfl hdg (k H locs ls cells slots hbu hW hS hl)
theorem y_recv (hC : Cx v p l e s m args meth c own cc nL ret) {q : SY} (hq : q ∈ eY v) {H : Heap} {locs : List Loc} (hS : va_S (eG v) s.heap H locs) : ∃ cell : Cell, H[q.1]? = some cell ∧ cell.vm.isStatics = false ∧ s.vm.findClass "java/lang/String" = some cell.cls := by
  obtain ⟨cell, h1, h2, h3, -⟩ := (eF_Y hC.2.2.2.2.2.2.1 q hq).1.kept hS.2.1
  exact ⟨cell, h1, h2, h3⟩
theorem i_callY (hC : Cx v p l e s m args meth c own cc nL ret) {idx : Nat} {y : MethodName} {cy : ByteArray} {nLy F L n : Nat} {rety : Option FieldType} {As rest : List Value} {u : Value} {q : SY} (hq : q ∈ eY v)
    (hV : MV own idx y cy nLy rety n) (hM : Con v l y cy nLy rety F L (.ref q.1 :: As) S (some u) S1) (hc : y.cls = "java/lang/String") (hn : As.length = n) (hst : st = As.reverse ++ .ref q.1 :: rest)
    (hR : F + 1 ≤ R.frames ∧ 8 + (nLy + 11) + L ≤ R.locals) (hr : (rest.map fun v => v.category).sum ≤ 8) (hdg : decode cc pc = .ok (.invokevirtual idx, 3)) (k : Mj v p l e R s m args below meth c nL Q qb S1 (pc + 3) lv (u :: rest)) : Mj v p l e R s m args below meth c nL Q qb S pc lv st := by
  refine r_run (K := 0) (q2 := qb) rfl (rest := rest) (rv := some u) (a := (Value.ref q.1 :: As).toArray) (fun H locs ls cells slots hbu hW hS hl => ?_) k
  exact va_runV (As := As) (rest := rest) ⟨hC.1, hC.2.1, hC.2.2.1, hC.2.2.2.1, hC.2.2.2.2.1⟩ hM (cwV n hC.2.2.2.2.1 hV.1 rfl rfl rfl ⟨rfl, hV.2⟩ hR) ⟨pe_blind hC.2.2.2.2.2.2.2.1, by rw [hc]; exact y_recv hC hq hS, fun U hU hU2 => pe_of hC hW hS hU hU2⟩ rfl hn hl.1 hst (lv_room hr) hdg hbu
/-! ===== cells beside the class's world: a callee gets them as cells that nobody writes ===== -/
def vz (v : EV) (zs : List Nat) (ys : List SY) (is : List IY) : EV := (eD v, eC v, eA v, eN v, eT v, zs ++ eZ v, eY v ++ ys, eI v ++ is, eW v)
def zsX (X : va_W) : List Nat := X.map (fun q => q.1)
theorem zsX_in {X : va_W} {k : Nat} {q : Nat × va_E} (h : X[k]? = some q) : q.1 ∈ zsX X := List.mem_map.mpr ⟨q, List.mem_of_getElem? h, rfl⟩
theorem zsX_of {X : va_W} {a : Nat} (h : a ∈ zsX X) : ∃ (k : Nat) (q : Nat × va_E), X[k]? = some q ∧ q.1 = a := by
  obtain ⟨q, h1, h2⟩ := List.mem_map.mp h
  obtain ⟨k, hk⟩ := List.getElem?_of_mem h1
  exact ⟨k, q, hk, h2⟩
theorem eG_vz {zs : List Nat} {ys : List SY} {is : List IY} {q : Nat} (h : eG (vz v zs ys is) q) : eG v q := ⟨h.1, fun z => h.2 (List.mem_append_right _ z)⟩
theorem nG_vz {X : va_W} {ys : List SY} {is : List IY} {k : Nat} {q : Nat × va_E} (h : X[k]? = some q) : ¬ eG (vz v (zsX X) ys is) q.1 := fun z => z.2 (List.mem_append_left _ (zsX_in h))
/-- a text, at any heap -/
def SFh (A : Nat → Prop) (q : SY) (U : State) (H : Heap) : Prop := va_O "java/lang/String" q.1 A U H ∧ va_OF "java/lang/String" "coder" "B" (.int 0) q.1 A U H ∧ va_OF "java/lang/String" "value" "[B" (.ref q.2.1) q.1 A U H ∧ va_T .byte q.2.1 q.2.2.1 (fun j => .int (q.2.2.2 j)) A U H
theorem eF_vz {zs : List Nat} {ys : List SY} {is : List IY} {U : State} (h : eF v U) (hY : ∀ q ∈ ys, SFh (eG (vz v zs ys is)) q U U.heap) (hI : ∀ q ∈ is, va_T .int q.1 q.2.1 (fun j => .int (q.2.2 j)) (eG (vz v zs ys is)) U U.heap) : eF (vz v zs ys is) U := by
  have hn : ∀ q, eG (vz v zs ys is) q → eG v q := fun q h => eG_vz h
  obtain ⟨a1, a2, a3, a4, a5, a6, a7, a8, a9, a10, a11, a12, a13, a14, a15, a16, a17, a18, a19, a20⟩ := h
  refine ⟨a1.narrow hn, fun i hi => (a2 i hi).narrow hn, a3.narrow hn, a4, a5.narrow hn, a6.narrow hn, a7.narrow hn, a8.narrow hn, a9.narrow hn, a10.narrow hn, a11.narrow hn, a12.narrow hn, a13.narrow hn, ?_, a15, a16, a17, fun q hq => ?_, fun q hq => ?_, a20⟩
  · obtain ⟨q, h⟩ := a14
    exact ⟨q, h.imp (fun h => ⟨h.1, h.2.narrow hn⟩) (fun h => ⟨h.1, h.2.narrow hn⟩)⟩
  · rcases List.mem_append.mp hq with h | h
    · obtain ⟨b1, b2, b3, b4⟩ := a18 q h
      exact ⟨b1.narrow hn, b2.narrow hn, b3.narrow hn, b4.narrow hn⟩
    · exact hY q h
  · rcases List.mem_append.mp hq with h | h
    · exact (a19 q h).narrow hn
    · exact hI q h
theorem va_T_of {U : State} {cA : ClassId} {ty : FieldType} {n a : Nat} {f : Nat → Int32} {H : Heap} {A : Nat → Prop} (hH : H[a]? = some (vp_cell cA (n, .inl f))) (hT : ArrOfT U cA ty) (hA : ¬ A a) : va_T ty a n (fun j => .int (f j)) A U H :=
  ⟨_, hH, hT n _, (fun h => by cases h), by show n ≤ (arrV cA n _).slots.size; rw [arrV_size]; exact Nat.le_refl _, by show (arrV cA n _).slots.size.toInt32 = _; rw [arrV_size], fun j hj => arrV_read cA _ hj, hA⟩
/-- the world, with cells beside -/
def WE (v : EV) (X : va_W) (S : Mem) (H : Heap) : Prop := ∃ da, Lw v (wsW v da S ++ X) H
theorem WE_in {X : va_W} {H : Heap} {k : Nat} {q : Nat × va_E} (h : WE v X S H) (hk : X[k]? = some q) : va_at (eD v) vwCl q H ∧ eG v q.1 := by
  obtain ⟨da, hP, hD⟩ := h
  have h2 : (wsW v da S ++ X)[(wsW v da S).length + k]? = some q := by
    rw [List.getElem?_append_right (by omega), Nat.add_sub_cancel_left]; exact hk
  exact ⟨hP _ q h2, hD.2 _ q h2⟩
theorem va_at.lt' {D : va_G} {cl : List vw_C} {q : Nat × va_E} {H : Heap} (h : va_at D cl q H) : q.1 < H.size := h.lt
theorem WE_WD {X : va_W} {ys : List SY} {is : List IY} {H : Heap} (h : WE v X S H) : WD (vz v (zsX X) ys is) S H := by
  obtain ⟨da, hP, hD⟩ := h
  have e : ∀ (k : Nat) (q : Nat × va_E), (wsW v da S)[k]? = some q → (wsW v da S ++ X)[k]? = some q := fun k q hk => by
    rw [List.getElem?_append_left (List.getElem?_eq_some_iff.mp hk).1]; exact hk
  refine ⟨da, fun k q hk => hP k q (e k q hk), fun i j p q hi hj => hD.1 i j p q (e i p hi) (e j q hj), fun k q hk => ?_⟩
  have hg := hD.2 k q (e k q hk)
  refine ⟨hg.1, fun z => ?_⟩
  rcases List.mem_append.mp z with z | z
  · obtain ⟨k2, q2, h1, h2⟩ := zsX_of z
    have hlt : k < (wsW v da S).length := (List.getElem?_eq_some_iff.mp hk).1
    have := hD.1 k ((wsW v da S).length + k2) q q2 (e k q hk) (by rw [List.getElem?_append_right (by omega), Nat.add_sub_cancel_left]; exact h1) h2.symm
    omega
  · exact hg.2 z
theorem WD_WE {X : va_W} {ys : List SY} {is : List IY} {H H1 : Heap} (h : WE v X S H) (h1 : WD (vz v (zsX X) ys is) S1 H1) (hk : ∀ q : Nat, q < H.size → ¬ eG (vz v (zsX X) ys is) q → H1[q]? = H[q]?) : WE v X S1 H1 := by
  obtain ⟨da1, hP1, hD1⟩ := h1
  have hX : va_P (eD v) vwCl X H1 := fun k q hq => by
    have := (WE_in h hq).1
    exact this.kept (hk q.1 this.lt (nG_vz hq))
  obtain ⟨da, hP, hD⟩ := h
  have hDX : va_D (eG v) X := by
    have e : ∀ (k : Nat) (q : Nat × va_E), X[k]? = some q → (wsW v da S ++ X)[(wsW v da S).length + k]? = some q := fun k q hk => by
      rw [List.getElem?_append_right (by omega), Nat.add_sub_cancel_left]; exact hk
    exact ⟨fun i j p q hi hj he => by have := hD.1 _ _ p q (e i p hi) (e j q hj) he; omega, fun k q hk => hD.2 _ q (e k q hk)⟩
  refine ⟨da1, hP1.app hX, va_D.app (hD1.weaken fun k q hk h => eG_vz h) hDX fun i j p q hi hj he => ?_⟩
  exact nG_vz (v := v) (ys := ys) (is := is) hj (by rw [← he]; exact hD1.2 i p hi)
theorem pe_x (hC : Cx v p l e s m args meth c own cc nL ret) {X : va_W} {ys : List SY} {is : List IY} {av : List Value} {H : Heap} {locs : List Loc} (hW : WE v X S H) (hS : va_S (eG v) s.heap H locs)
    (hY : ∀ q ∈ ys, SFh (eG (vz v (zsX X) ys is)) q s H) (hI : ∀ q ∈ is, va_T .int q.1 q.2.1 (fun j => .int (q.2.2 j)) (eG (vz v (zsX X) ys is)) s H) {U : State} (hU : U.heap = H) (hU2 : s.WarmedH U.vm) : Pe (vz v (zsX X) ys is) av S av.toArray U := by
  obtain ⟨-, -, -, -, -, hK, hF, hst, hn, -⟩ := hC
  refine ⟨rfl, ⟨by rw [hU]; exact Nat.le_trans hn.1 hS.1, fun q hq => ?_⟩, va_K.moved hU2.alike hK, eF_vz (hst s U hF (Or.inr hU2) (fun q h1 h2 => by rw [hU]; exact hS.2.1 q h1 h2)) (fun q hq => ?_) (fun q hq => ?_), by rw [hU]; exact WE_WD hW⟩
  · rw [hU]
    rcases List.mem_append.mp hq with h | h
    · obtain ⟨k, q2, h1, rfl⟩ := zsX_of h
      exact (WE_in hW h1).1.lt
    · exact Nat.lt_of_lt_of_le (hn.2 q h) hS.1
  · rw [hU]
    obtain ⟨b1, b2, b3, b4⟩ := hY q hq
    exact ⟨b1.moved hU2.alike, b2.moved hU2.alike, b3.moved hU2.alike, b4.moved hU2.alike⟩
  · rw [hU]
    exact (hI q hq).moved hU2.alike
end EXTR
