section CONSTS
variable {v : EV} {p : Program} {l : Launch} {e : Env} {R : Room} {s : State} {m : MethodId} {args : Array Value} {below : List Frame} {meth : Method} {c : Code} {own : String} {cc : ByteArray} {nL : Nat} {ret : Option FieldType} {Q : State → Prop} {qb : Nat} {Wd Wd1 : Mem → Heap → Prop} {da : Nat → Nat} {S S1 : Mem} {pc : Nat} {lv : List (Nat × Value)} {st : List Value}
def mx (x y : Int32) : Int32 := if x < y then y else x
def mn (x y : Int32) : Int32 := if y < x then y else x
theorem i_mmax (hC : Cx v p l e s m args meth c own cc nL ret) {idx : Nat} {x y : Int32} (w1 : Cond.methodLink own idx Lib.Math.max.name ∈ TW) (w2 : Cond.static Lib.Math.max.name ∈ TW) (w3 : Cond.initialized "java/lang/Math" ∈ TW) (w4 : Cond.code Lib.Math.max.name Lib.Math.max.code 2 (some .int) ∈ TW) (hR : 1 ≤ R.frames ∧ (st.map fun v => v.category).sum + 13 ≤ R.locals) (hdg : decode cc pc = .ok (.invokestatic idx, 3))
    (k : Mw Wd v p l e R s m args below meth c nL Q qb S (pc + 3) lv (.int (mx x y) :: st)) : Mw Wd v p l e R s m args below meth c nL Q qb S pc lv (.int y :: .int x :: st) := fun H locs ls cells slots hbu hW hS hl => va_mmax hC.1 hC.2.1 (hC.2.2.1.trans hl.1.symm) hC.2.2.2.1 (hC.2.2.2.2.1 _ w1) (hC.2.2.2.2.1 _ w2) (hC.2.2.2.2.1 _ w3) (hC.2.2.2.2.1 _ w4) hR.1 hR.2 (by omega) (by omega) hdg (k H locs ls cells slots hbu hW hS hl)
theorem i_mmin (hC : Cx v p l e s m args meth c own cc nL ret) {idx : Nat} {x y : Int32} (w1 : Cond.methodLink own idx Lib.Math.min.name ∈ TW) (w2 : Cond.static Lib.Math.min.name ∈ TW) (w3 : Cond.initialized "java/lang/Math" ∈ TW) (w4 : Cond.code Lib.Math.min.name Lib.Math.min.code 2 (some .int) ∈ TW) (hR : 1 ≤ R.frames ∧ (st.map fun v => v.category).sum + 13 ≤ R.locals) (hdg : decode cc pc = .ok (.invokestatic idx, 3))
    (k : Mw Wd v p l e R s m args below meth c nL Q qb S (pc + 3) lv (.int (mn x y) :: st)) : Mw Wd v p l e R s m args below meth c nL Q qb S pc lv (.int y :: .int x :: st) := fun H locs ls cells slots hbu hW hS hl => va_mmin hC.1 hC.2.1 (hC.2.2.1.trans hl.1.symm) hC.2.2.2.1 (hC.2.2.2.2.1 _ w1) (hC.2.2.2.2.1 _ w2) (hC.2.2.2.2.1 _ w3) (hC.2.2.2.2.1 _ w4) hR.1 hR.2 (by omega) (by omega) hdg (k H locs ls cells slots hbu hW hS hl)
/-! references of any kind: null, or an address -/
def isR (u : Value) : Prop := u = .null ∨ ∃ a : Nat, u = .ref a
theorem isR_r (a : Nat) : isR (.ref a) := Or.inr ⟨a, rfl⟩
theorem isR_cat {u : Value} (h : isR u) : u.category = 1 := by
  rcases h with rfl | ⟨a, rfl⟩ <;> rfl
theorem i_aloadG_n (hC : Cx v p l e s m args meth c own cc nL ret) {q : Fin 4} {u : Value} (hu : isR u) (hdg : decode cc pc = .ok (.aload_n q, 1)) (hk : lk lv q = some u) (k : Mw Wd v p l e R s m args below meth c nL Q qb S (pc + 1) lv (u :: st)) : Mw Wd v p l e R s m args below meth c nL Q qb S pc lv st := by
  rcases hu with rfl | ⟨a, rfl⟩
  · exact fun H locs ls cells slots hbu hW hS hl => lv_aload_nN hC.1 hC.2.1 hdg rfl (lk_has hl hk) (k H locs ls cells slots hbu hW hS hl)
  · exact i_aload_n hC hdg hk k
theorem i_aloadG (hC : Cx v p l e s m args meth c own cc nL ret) {i : Nat} {u : Value} (hu : isR u) (hdg : decode cc pc = .ok (.aload i, 2)) (hk : lk lv i = some u) (k : Mw Wd v p l e R s m args below meth c nL Q qb S (pc + 2) lv (u :: st)) : Mw Wd v p l e R s m args below meth c nL Q qb S pc lv st := by
  rcases hu with rfl | ⟨a, rfl⟩
  · exact fun H locs ls cells slots hbu hW hS hl => lv_aloadN hC.1 hC.2.1 hdg (lk_has hl hk) (k H locs ls cells slots hbu hW hS hl)
  · exact i_aload hC hdg hk k
theorem i_astoreG_n (hC : Cx v p l e s m args meth c own cc nL ret) {q : Fin 4} {u : Value} (hu : isR u) (hdg : decode cc pc = .ok (.astore_n q, 1)) (hn : (q : Nat) < nL) (k : Mw Wd v p l e R s m args below meth c nL Q qb S (pc + 1) (lst lv q u) st) : Mw Wd v p l e R s m args below meth c nL Q qb S pc lv (u :: st) := by
  rcases hu with rfl | ⟨a, rfl⟩
  · exact fun H locs ls cells slots hbu hW hS hl => lv_astore_nN hC.1 hC.2.1 hdg rfl hl hn rfl (fun ls hl => k H locs ls cells slots hbu hW hS hl)
  · exact i_astore_n hC hdg hn k
theorem i_astoreG (hC : Cx v p l e s m args meth c own cc nL ret) {i : Nat} {u : Value} (hu : isR u) (hdg : decode cc pc = .ok (.astore i, 2)) (hn : i < nL) (k : Mw Wd v p l e R s m args below meth c nL Q qb S (pc + 2) (lst lv i u) st) : Mw Wd v p l e R s m args below meth c nL Q qb S pc lv (u :: st) := by
  rcases hu with rfl | ⟨a, rfl⟩
  · exact fun H locs ls cells slots hbu hW hS hl => lv_astoreN hC.1 hC.2.1 hdg hl hn rfl (fun ls hl => k H locs ls cells slots hbu hW hS hl)
  · exact i_astore hC hdg hn k
theorem r_aretG (hw : ∀ S H, Wd S H → WD v S H) {C : String} (hC : Cx v p l e s m args meth c own cc nL (some (.object C))) {u : Value} (hu : isR u) (hdg : decode cc pc = .ok (.areturn, 1)) : Mw Wd v p l e R s m args below meth c nL (MQ below (Qc v (some u) S) args s R.cells R.slots (eG v)) qb S pc lv [u] := by
  intro H locs ls cells slots hbu hW hS hl
  obtain ⟨hx, hb, -, -, -, -, -, -, -, hr, hk⟩ := hC
  refine W.widen (k := R.cells) (n := R.slots) (by omega) (by omega) ?_
  exact W.aret hx hb hr (Or.inl ⟨_, rfl⟩) hu (fun t ht hW' => ⟨rfl, by rw [ht]; exact hw S H hW, hS.F ht⟩) hS.free hdg hk
theorem i_aretG {C : String} (hC : Cx v p l e s m args meth c own cc nL (some (.object C))) {u : Value} (hu : isR u) (hdg : decode cc pc = .ok (.areturn, 1)) : Mj v p l e R s m args below meth c nL (MQ below (Qc v (some u) S) args s R.cells R.slots (eG v)) qb S pc lv [u] := r_aretG (fun _ _ h => h) hC hu hdg
theorem i_acnull (hC : Cx v p l e s m args meth c own cc nL ret) (hdg : decode cc pc = .ok (.aconst_null, 1)) (k : Mw Wd v p l e R s m args below meth c nL Q qb S (pc + 1) lv (.null :: st)) : Mw Wd v p l e R s m args below meth c nL Q qb S pc lv st := fun H locs ls cells slots hbu hW hS hl => lv_null hC.1 hC.2.1 hdg (k H locs ls cells slots hbu hW hS hl)

theorem wv_R (v : EV) (x : Int32) : isR (wv v x) := by
  unfold wv isR
  by_cases h : x = 0
  · rw [if_pos h]; exact Or.inl rfl
  · rw [if_neg h]; exact Or.inr ⟨_, rfl⟩
theorem wv_0 (v : EV) : wv v 0 = .null := if_pos rfl
theorem i_acnullW (hC : Cx v p l e s m args meth c own cc nL ret) (hdg : decode cc pc = .ok (.aconst_null, 1)) (k : Mw Wd v p l e R s m args below meth c nL Q qb S (pc + 1) lv (wv v 0 :: st)) : Mw Wd v p l e R s m args below meth c nL Q qb S pc lv st := by
  rw [wv_0] at k
  exact i_acnull hC hdg k
/-- a code of a word -/
def isw (x : Int32) : Bool := decide (0 < x) && decide (x ≤ 9)
theorem isw_n {x : Int32} (h : isw x = true) : ∃ i : Nat, i < 9 ∧ x = Int32.ofNat (i + 1) := by
  unfold isw at h
  simp only [Bool.and_eq_true, decide_eq_true_eq] at h
  have h1 := Int32.lt_iff_toInt_lt.mp h.1
  have h2 := Int32.le_iff_toInt_le.mp h.2
  rw [Int32.toInt_zero] at h1
  have h9 : (9 : Int32).toInt = 9 := by decide
  rw [h9] at h2
  refine ⟨x.toInt.toNat - 1, by omega, ?_⟩
  rw [show x.toInt.toNat - 1 + 1 = x.toInt.toNat by omega]
  exact Int32.toInt_inj.mp (by rw [Int32.toInt_ofNat_small (by omega)]; omega)
theorem wv_s (v : EV) : ∀ i, i < 9 → wv v (Int32.ofNat (i + 1)) = .ref (eT v i) := by
  intro i hi
  unfold wv
  have : i = 0 ∨ i = 1 ∨ i = 2 ∨ i = 3 ∨ i = 4 ∨ i = 5 ∨ i = 6 ∨ i = 7 ∨ i = 8 := by omega
  rcases this with rfl | rfl | rfl | rfl | rfl | rfl | rfl | rfl | rfl <;> exact if_neg (by decide)
theorem cn_sub : ∀ i, i < 9 → Int32.ofNat (i + 1) - 1 = Int32.ofNat i := by
  intro i hi
  have : i = 0 ∨ i = 1 ∨ i = 2 ∨ i = 3 ∨ i = 4 ∨ i = 5 ∨ i = 6 ∨ i = 7 ∨ i = 8 := by omega
  rcases this with rfl | rfl | rfl | rfl | rfl | rfl | rfl | rfl | rfl <;> decide
theorem i_enum (hC : Cx v p l e s m args meth c own cc nL ret) {idx i : Nat} (hi : i < 9) (w1 : Cond.fieldLink own idx "LogRaft$Word" (wNm.getD i "") "LLogRaft$Word;" ∈ TW) (hdg : decode cc pc = .ok (.getstatic idx, 3)) (k : Mw Wd v p l e R s m args below meth c nL Q qb S (pc + 3) lv (wv v (Int32.ofNat (i + 1)) :: st)) : Mw Wd v p l e R s m args below meth c nL Q qb S pc lv st := by
  rw [wv_s v i hi] at k
  exact fun H locs ls cells slots hbu hW hS hl => va_gets hC.1 hC.2.1 (hC.2.2.2.2.2.2.1.1.1 i hi).1 hS hC.2.2.2.1 (hC.2.2.2.2.1 _ w1) (fun _ h => h) hdg (k H locs ls cells slots hbu hW hS hl)
theorem j_getW (hC : Cx v p l e s m args meth c own cc nL ret) {idx ci k : Nat} {fin : Bool} {ty : FieldType} (hF : FL own idx ci k fin ty) {q : Nat} {fs : List FS} {b j : Nat} (hq : q < layN) (hy : layF q = .inl (ci, fs)) (hf : fs[k]? = some (2, b, j)) (hdg : decode cc pc = .ok (.getfield idx, 3))
    (k2 : Mw (WDa v da) v p l e R s m args below meth c nL Q qb S (pc + 3) lv (wv v (S b j) :: st)) : Mw (WDa v da) v p l e R s m args below meth c nL Q qb S pc lv (.ref (eA v q) :: st) := by
  intro H locs ls cells slots hbu hW hS hl
  have hP := hW.1
  exact m_get hC hF hP hq hy hf hdg (k2 H locs ls cells slots hbu hW hS hl)
theorem i_getW (hC : Cx v p l e s m args meth c own cc nL ret) {idx ci k : Nat} {fin : Bool} {ty : FieldType} (hF : FL own idx ci k fin ty) {q : Nat} {fs : List FS} {b j : Nat} (hq : q < layN) (hy : layF q = .inl (ci, fs)) (hf : fs[k]? = some (2, b, j)) (hdg : decode cc pc = .ok (.getfield idx, 3))
    (k2 : Mj v p l e R s m args below meth c nL Q qb S (pc + 3) lv (wv v (S b j) :: st)) : Mj v p l e R s m args below meth c nL Q qb S pc lv (.ref (eA v q) :: st) := ex_da fun da => j_getW hC hF hq hy hf hdg (to_da k2)
theorem fv_new2 {da : Nat → Nat} {b j : Nat} {x : Int32} : fv v da (up S b j x) (2, b, j) = wv v x := by
  unfold fv
  rw [if_neg (show ¬ (2 : Nat) = 0 by decide), if_neg (show ¬ (2 : Nat) = 1 by decide), if_pos rfl, up_same]
theorem map_set_up2 {da : Nat → Nat} {fs : List FS} {k b j : Nat} {x : Int32} (hf : fs[k]? = some (2, b, j)) (hu : ∀ i f, fs[i]? = some f → i ≠ k → (f.1 = 0 ∨ f.1 = 2) → ¬ (f.2.1 = b ∧ f.2.2 = j)) : fs.map (fv v da (up S b j x)) = (fs.map (fv v da S)).set k (wv v x) := by
  refine List.ext_getElem? fun i => ?_
  rw [List.getElem?_set, List.getElem?_map, List.getElem?_map, List.length_map]
  have hk : k < fs.length := (List.getElem?_eq_some_iff.mp hf).1
  by_cases hi : k = i
  · subst hi
    rw [if_pos rfl, if_pos hk, hf, Option.map_some, fv_new2]
  · rw [if_neg hi]
    cases h : fs[i]? with
    | none => rw [Option.map_none, Option.map_none]
    | some f => rw [Option.map_some, Option.map_some, fv_up (hu i f h (fun z => hi z.symm))]
theorem apf_ok2 {q ci : Nat} {fs : List FS} (hq : q < layN) (hy : layF q = .inl (ci, fs)) {k b j : Nat} (hf : fs[k]? = some (2, b, j)) : ∀ i f, fs[i]? = some f → i ≠ k → (f.1 = 0 ∨ f.1 = 2) → ¬ (f.2.1 = b ∧ f.2.2 = j) := by
  intro i f hi hne ht he
  have h := apf_all q hq
  rw [hy] at h
  have hi' : i < fs.length := (List.getElem?_eq_some_iff.mp hi).1
  have hk' : k < fs.length := (List.getElem?_eq_some_iff.mp hf).1
  have h1 := List.all_eq_true.mp (List.all_eq_true.mp h i (List.mem_range.mpr hi')) k (List.mem_range.mpr hk')
  rw [hi, hf] at h1
  obtain ⟨t, y, z⟩ := f
  dsimp only at ht he h1
  obtain ⟨rfl, rfl⟩ := he
  rcases ht with rfl | rfl <;> simp [hne] at h1
theorem j_putW (hC : Cx v p l e s m args meth c own cc nL ret) {idx ci k : Nat} {C : String} (hF : FL own idx ci k false (.object C)) {q : Nat} {fs : List FS} {b j : Nat} {x : Int32} (hq : q < layN) (hy : layF q = .inl (ci, fs)) (hf : fs[k]? = some (2, b, j)) (hb : plainB b j) (hdg : decode cc pc = .ok (.putfield idx, 3))
    (k2 : Mw (WDa v da) v p l e R s m args below meth c nL Q qb (up S b j x) (pc + 3) lv st) : Mw (WDa v da) v p l e R s m args below meth c nL Q qb S pc lv (wv v x :: .ref (eA v q) :: st) := by
  intro H locs ls cells slots hbu hW hS hl
  obtain ⟨hP, hD⟩ := hW
  obtain ⟨K, T, N, ty0, hc, hk, hlk, hin, hty, hnm, hfin, hd⟩ := hF
  have ho : ownr b j = q := own_ok hq (q := (b, j)) (by rw [hy]; exact List.mem_filterMap.mpr ⟨(2, b, j), List.mem_of_getElem? hf, by simp⟩)
  have hset : (wsW v da S).set q (eA v q, .inr (ci, (fs.map (fv v da S)).set k (wv v x))) = wsW v da (up S b j x) := wsW_up hq hb ho (by rw [hy]; exact congrArg (fun z => Sum.inr (ci, z)) (map_set_up2 hf (apf_ok2 hq hy hf)))
  have hn : narrow (.object C) (wv v x) = wv v x ∧ fits (.object C) (wv v x) = true := by
    rcases wv_R v x with e | ⟨a, e⟩ <;> rw [e] <;> exact ⟨rfl, rfl⟩
  refine va_put hC.1 hC.2.1 hC.2.2.2.2.1 hin ty0 hty hnm hC.2.2.2.1 hC.2.2.2.2.2.1 hP hD hS q (fs := fs.map (fv v da S)) (by rw [wsW_at hq, hy]; rfl) hc k hk (hC.2.2.2.2.1 _ hlk) (fun _ h => h) hfin hd hn.1 hn.2 (by rw [List.length_map]; exact (List.getElem?_eq_some_iff.mp hf).1) hdg fun H1 locs1 hP1 hD1 hS1 => ?_
  rw [hset] at hP1 hD1
  exact k2 H1 locs1 ls cells slots hbu ⟨hP1, hD1⟩ hS1 hl
theorem i_putW (hC : Cx v p l e s m args meth c own cc nL ret) {idx ci k : Nat} {C : String} (hF : FL own idx ci k false (.object C)) {q : Nat} {fs : List FS} {b j : Nat} {x : Int32} (hq : q < layN) (hy : layF q = .inl (ci, fs)) (hf : fs[k]? = some (2, b, j)) (hb : plainB b j) (hdg : decode cc pc = .ok (.putfield idx, 3))
    (k2 : Mj v p l e R s m args below meth c nL Q qb (up S b j x) (pc + 3) lv st) : Mj v p l e R s m args below meth c nL Q qb S pc lv (wv v x :: .ref (eA v q) :: st) := ex_da fun da => j_putW hC hF hq hy hf hb hdg (to_da k2)
theorem i_ifnullW (hC : Cx v p l e s m args meth c own cc nL ret) {x : Int32} {off : Int} {tgt : Nat} (hdg : decode cc pc = .ok (.ifnull off, 3)) (ht : (pc : Int) + off = (tgt : Int)) (kt : x = 0 → Mw Wd v p l e R s m args below meth c nL Q qb S tgt lv st) (kf : ¬ x = 0 → Mw Wd v p l e R s m args below meth c nL Q qb S (pc + 3) lv st) : Mw Wd v p l e R s m args below meth c nL Q qb S pc lv (wv v x :: st) := by
  unfold wv
  by_cases h : x = 0
  · rw [if_pos h]
    exact fun H locs ls cells slots hbu hW hS hl => lv_ifnullN hC.1 hC.2.1 hdg ht (kt h H locs ls cells slots hbu hW hS hl)
  · rw [if_neg h]
    exact fun H locs ls cells slots hbu hW hS hl => lv_ifnull hC.1 hC.2.1 hdg (kf h H locs ls cells slots hbu hW hS hl)
theorem i_ifnonnullW (hC : Cx v p l e s m args meth c own cc nL ret) {x : Int32} {off : Int} {tgt : Nat} (hdg : decode cc pc = .ok (.ifnonnull off, 3)) (ht : (pc : Int) + off = (tgt : Int)) (kt : ¬ x = 0 → Mw Wd v p l e R s m args below meth c nL Q qb S tgt lv st) (kf : x = 0 → Mw Wd v p l e R s m args below meth c nL Q qb S (pc + 3) lv st) : Mw Wd v p l e R s m args below meth c nL Q qb S pc lv (wv v x :: st) := by
  unfold wv
  by_cases h : x = 0
  · rw [if_pos h]
    exact fun H locs ls cells slots hbu hW hS hl => lv_ifnonnullN hC.1 hC.2.1 hdg (kf h H locs ls cells slots hbu hW hS hl)
  · rw [if_neg h]
    exact fun H locs ls cells slots hbu hW hS hl => lv_ifnonnull hC.1 hC.2.1 hdg ht (kt h H locs ls cells slots hbu hW hS hl)
/-- Enum.ordinal -/
theorem c_ordinal (hst : Stb v) {i : Nat} (hi : i < 9) (w1 : Cond.fieldLink RJx29ce0 7 "java/lang/Enum" "ordinal" "I" ∈ TW) : Con v l yJx29ce0_ordinal_8abf5 cJx29ce0_ordinal_8abf5 1 (some .int) 1 12 [.ref (eT v i)] S (some (.int (Int32.ofNat i))) S := con_of (by decide) hst (Nat.le_of_ble_eq_true rfl) (fun p e s m args below meth c hC => by
  refine i_aload_n hC (x := eT v i) (show decode cJx29ce0_ordinal_8abf5 0 = .ok (.aload_n 0, 1) by decide +kernel) rfl ?_
  intro H locs ls cells slots hbu hW hS hl
  refine va_getE hC.1 hC.2.1 hC.2.2.2.2.2.2.1.1 hi hS hC.2.2.2.1 (q := ("java/lang/Enum", "ordinal", "I", [0, 1, 2, 3, 4, 5, 6, 7, 8])) List.mem_cons_self (hC.2.2.2.2.1 _ w1) (fun _ h => h) (show decode cJx29ce0_ordinal_8abf5 1 = .ok (.getfield 7, 3) by decide +kernel) ?_
  have e : ([0, 1, 2, 3, 4, 5, 6, 7, 8] : List Int32).getD i 0 = Int32.ofNat i := by
    have : i = 0 ∨ i = 1 ∨ i = 2 ∨ i = 3 ∨ i = 4 ∨ i = 5 ∨ i = 6 ∨ i = 7 ∨ i = 8 := by omega
    rcases this with rfl | rfl | rfl | rfl | rfl | rfl | rfl | rfl | rfl <;> rfl
  dsimp only
  rw [e]
  exact i_iret hC (show decode cJx29ce0_ordinal_8abf5 4 = .ok (.ireturn, 1) by decide +kernel) H locs ls cells slots hbu hW hS hl)
def yWord_ordinal : MethodName := ⟨RX7, "ordinal", "()I"⟩
theorem i_ordinal (hC : Cx v p l e s m args meth c own cc nL ret) {idx : Nat} {x : Int32} (hw : isw x = true) (w1 : Cond.fieldLink RJx29ce0 7 "java/lang/Enum" "ordinal" "I" ∈ TW) (hG : GoodIn TW (va_wsU own idx RX7 "java/lang/Enum" yWord_ordinal yJx29ce0_ordinal_8abf5 (.code yJx29ce0_ordinal_8abf5 cJx29ce0_ordinal_8abf5 1 (some .int) :: TW)))
    (hR : 1 + 1 ≤ R.frames ∧ 8 + (1 + 11) + 12 ≤ R.locals) (hr : (st.map fun v => v.category).sum ≤ 8) (hdg : decode cc pc = .ok (.invokevirtual idx, 3)) (k : Mj v p l e R s m args below meth c nL Q qb S (pc + 3) lv (.int (x - 1) :: st)) : Mj v p l e R s m args below meth c nL Q qb S pc lv (wv v x :: st) := by
  obtain ⟨i, hi, rfl⟩ := isw_n hw
  rw [wv_s v i hi]
  rw [cn_sub i hi] at k
  refine r_run (K := 0) (q2 := qb) rfl (rest := st) (rv := some (.int (Int32.ofNat i))) (a := (Value.ref (eT v i) :: []).toArray) (fun H locs ls cells slots hbu hW hS hl => ?_) k
  exact va_runU (As := []) (rest := st) ⟨hC.1, hC.2.1, hC.2.2.1, hC.2.2.2.1, hC.2.2.2.2.1⟩ (c_ordinal hC.2.2.2.2.2.2.2.1 hi w1) (va_cwU 0 hC.2.2.2.2.1 hG rfl rfl rfl rfl (by decide +kernel) hR) ⟨pe_blind hC.2.2.2.2.2.2.2.1, va_recvE hC.2.2.2.2.2.2.1.1 hi hS, fun U hU hU2 => pe_of hC hW hS hU hU2⟩ rfl rfl hl.1 rfl (lv_room hr) hdg hbu
/-! the switch table -/
theorem i_swm (hC : Cx v p l e s m args meth c own cc nL ret) {idx : Nat} (w1 : Cond.fieldLink own idx "LogRaft$1" "$SwitchMap$LogRaft$Word" "[I" ∈ TW) (hdg : decode cc pc = .ok (.getstatic idx, 3)) (k : Mw Wd v p l e R s m args below meth c nL Q qb S (pc + 3) lv (.ref (eT v 30) :: st)) : Mw Wd v p l e R s m args below meth c nL Q qb S pc lv st :=
  fun H locs ls cells slots hbu hW hS hl => va_gets hC.1 hC.2.1 hC.2.2.2.2.2.2.1.2.2.2.2.2.2.1 hS hC.2.2.2.1 (hC.2.2.2.2.1 _ w1) (fun _ h => h) hdg (k H locs ls cells slots hbu hW hS hl)
theorem i_swmld (hC : Cx v p l e s m args meth c own cc nL ret) {i : Int32} (hin : vp_in i 9) (hdg : decode cc pc = .ok (.iaload, 1)) (k : Mw Wd v p l e R s m args below meth c nL Q qb S (pc + 1) lv (.int (Int32.ofNat (i.toNatClampNeg + 1)) :: st)) : Mw Wd v p l e R s m args below meth c nL Q qb S pc lv (.int i :: .ref (eT v 30) :: st) :=
  fun H locs ls cells slots hbu hW hS hl => va_ti hC.1 hC.2.1 hC.2.2.2.2.2.2.1.2.2.2.2.2.2.2.1 hS hin rfl hdg (k H locs ls cells slots hbu hW hS hl)
/-! the row of words -/
theorem i_wordsN (hC : Cx v p l e s m args meth c RX6 cc nL ret) (hdg : decode cc pc = .ok (.getstatic 67, 3)) (k : Mw Wd v p l e R s m args below meth c nL Q qb S (pc + 3) lv (.ref (eT v 31) :: st)) : Mw Wd v p l e R s m args below meth c nL Q qb S pc lv st :=
  fun H locs ls cells slots hbu hW hS hl => va_getsN hC.1 hC.2.1 hC.2.2.2.2.2.2.1.2.2.2.2.1 hS hC.2.2.2.1 (va_Nw.use rfl hC.2.2.2.2.2.2.1.2.2.2.2.2.2.2.2.2.2.2.2.2.2.1) (fun _ h => h) hdg (k H locs ls cells slots hbu hW hS hl)
theorem i_wordsLen (hC : Cx v p l e s m args meth c own cc nL ret) (hdg : decode cc pc = .ok (.arraylength, 1)) (k : Mw Wd v p l e R s m args below meth c nL Q qb S (pc + 1) lv (.int 9 :: st)) : Mw Wd v p l e R s m args below meth c nL Q qb S pc lv (.ref (eT v 31) :: st) :=
  fun H locs ls cells slots hbu hW hS hl => va_tlen hC.1 hC.2.1 hC.2.2.2.2.2.2.1.2.2.2.2.2.1 hS (show Int32.ofNat 9 = 9 by decide) hdg (k H locs ls cells slots hbu hW hS hl)
theorem inb9_n {x : Int32} (h : inb x 9 = true) : ∃ i : Nat, i < 9 ∧ x = Int32.ofNat i := by
  obtain ⟨j, hj, e⟩ := vp_in_of (inb_in h) (by decide)
  exact ⟨j, hj, e⟩
theorem i_wordsLd (hC : Cx v p l e s m args meth c own cc nL ret) {i : Int32} (hin : inb i 9 = true) (hdg : decode cc pc = .ok (.aaload, 1)) (k : Mw Wd v p l e R s m args below meth c nL Q qb S (pc + 1) lv (wv v (i + 1) :: st)) : Mw Wd v p l e R s m args below meth c nL Q qb S pc lv (.int i :: .ref (eT v 31) :: st) := by
  obtain ⟨n, hn, rfl⟩ := inb9_n hin
  rw [← inc_ofNat, wv_s v n hn] at k
  exact fun H locs ls cells slots hbu hW hS hl => vb_tq hC.1 hC.2.1 hC.2.2.2.2.2.2.1.2.2.2.2.2.1 hS (inb_in hin) (by rw [show (Int32.ofNat n).toNatClampNeg = n from nI_clamp (by omega)]) hdg (k H locs ls cells slots hbu hW hS hl)
theorem i_signs (hC : Cx v p l e s m args meth c own cc nL ret) {idx : Nat} {x : Int32} (hw : isw x = true) (w1 : Cond.fieldLink own idx "LogRaft$Word" "signs" "Ljava/lang/String;" ∈ TW) (hdg : decode cc pc = .ok (.getfield idx, 3)) (k : Mw Wd v p l e R s m args below meth c nL Q qb S (pc + 3) lv (.ref (eT v (10 + (x - 1).toNatClampNeg)) :: st)) : Mw Wd v p l e R s m args below meth c nL Q qb S pc lv (wv v x :: st) := by
  obtain ⟨i, hi, rfl⟩ := isw_n hw
  rw [cn_sub i hi, show (Int32.ofNat i).toNatClampNeg = i from nI_clamp (by omega)] at k
  rw [wv_s v i hi]
  exact fun H locs ls cells slots hbu hW hS hl => va_getX hC.1 hC.2.1 hC.2.2.2.2.2.2.1.2.1 hi hS hC.2.2.2.1 (hC.2.2.2.2.1 _ w1) (fun _ h => h) hdg (k H locs ls cells slots hbu hW hS hl)
theorem isw_t {x : Int32} (hw : isw x = true) : (x - 1).toNatClampNeg < 9 := by
  obtain ⟨i, hi, rfl⟩ := isw_n hw
  rw [cn_sub i hi, show (Int32.ofNat i).toNatClampNeg = i from nI_clamp (by omega)]
  exact hi
theorem i_ldcS (hC : Cx v p l e s m args meth c RL cc nL ret) {i idx : Nat} (hi : i < 5) (he : lIx.getD i 0 = idx) (hdg : decode cc pc = .ok (.ldc idx, 2)) (k : Mw Wd v p l e R s m args below meth c nL Q qb S (pc + 2) lv (.ref (eT v (40 + i)) :: st)) : Mw Wd v p l e R s m args below meth c nL Q qb S pc lv st := by
  subst he
  exact fun H locs ls cells slots hbu hW hS hl => va_ldcS hC.1 hC.2.1 hC.2.2.2.1 (hC.2.2.2.2.2.2.1.2.2.2.1 i hi) hdg (k H locs ls cells slots hbu hW hS hl)
/-! literals -/
def lenT (t : Nat) : Nat := wLen.getD t 0
def chT (t : Nat) (i : Int32) : Int32 := ((wByt.getD t []).getD i.toNatClampNeg 0)
theorem i_strV (hC : Cx v p l e s m args meth c own cc nL ret) {idx t : Nat} (ht : t < 9) (w1 : Cond.fieldLink own idx "java/lang/String" "value" "[B" ∈ TW) (hdg : decode cc pc = .ok (.getfield idx, 3)) (k : Mw Wd v p l e R s m args below meth c nL Q qb S (pc + 3) lv (.ref (eT v (20 + t)) :: st)) : Mw Wd v p l e R s m args below meth c nL Q qb S pc lv (.ref (eT v (10 + t)) :: st) :=
  fun H locs ls cells slots hbu hW hS hl => vk_getf hC.1 hC.2.1 (hC.2.2.2.2.2.2.1.2.2.1.1 t ht).2.2.1 hS hC.2.2.2.1 (hC.2.2.2.2.1 _ w1) (fun _ h => h) hdg (k H locs ls cells slots hbu hW hS hl)
theorem i_strC (hC : Cx v p l e s m args meth c own cc nL ret) {idx t : Nat} (ht : t < 9) (w1 : Cond.fieldLink own idx "java/lang/String" "coder" "B" ∈ TW) (hdg : decode cc pc = .ok (.getfield idx, 3)) (k : Mw Wd v p l e R s m args below meth c nL Q qb S (pc + 3) lv (.int 0 :: st)) : Mw Wd v p l e R s m args below meth c nL Q qb S pc lv (.ref (eT v (10 + t)) :: st) :=
  fun H locs ls cells slots hbu hW hS hl => vk_getf hC.1 hC.2.1 (hC.2.2.2.2.2.2.1.2.2.1.1 t ht).2.1 hS hC.2.2.2.1 (hC.2.2.2.2.1 _ w1) (fun _ h => h) hdg (k H locs ls cells slots hbu hW hS hl)
theorem i_svLen (hC : Cx v p l e s m args meth c own cc nL ret) {t : Nat} (ht : t < 9) (hdg : decode cc pc = .ok (.arraylength, 1)) (k : Mw Wd v p l e R s m args below meth c nL Q qb S (pc + 1) lv (.int (Int32.ofNat (lenT t)) :: st)) : Mw Wd v p l e R s m args below meth c nL Q qb S pc lv (.ref (eT v (20 + t)) :: st) :=
  fun H locs ls cells slots hbu hW hS hl => va_tlen hC.1 hC.2.1 (hC.2.2.2.2.2.2.1.2.2.1.1 t ht).2.2.2 hS rfl hdg (k H locs ls cells slots hbu hW hS hl)
theorem i_svLd (hC : Cx v p l e s m args meth c own cc nL ret) {t : Nat} {i : Int32} (ht : t < 9) (hin : vp_in i (lenT t)) (hdg : decode cc pc = .ok (.baload, 1)) (k : Mw Wd v p l e R s m args below meth c nL Q qb S (pc + 1) lv (.int (chT t i) :: st)) : Mw Wd v p l e R s m args below meth c nL Q qb S pc lv (.int i :: .ref (eT v (20 + t)) :: st) :=
  fun H locs ls cells slots hbu hW hS hl => va_tb hC.1 hC.2.1 (hC.2.2.2.2.2.2.1.2.2.1.1 t ht).2.2.2 hS hin rfl hdg (k H locs ls cells slots hbu hW hS hl)
theorem str_recv (hC : Cx v p l e s m args meth c own cc nL ret) {t : Nat} (ht : t < 9) {H : Heap} {locs : List Loc} (hS : va_S (eG v) s.heap H locs) : ∃ cell : Cell, H[eT v (10 + t)]? = some cell ∧ cell.vm.isStatics = false ∧ s.vm.findClass "java/lang/String" = some cell.cls := vk_recv (adK := fun i => eT v (10 + i)) (i := t) hC.2.2.2.2.2.2.1.2.2.1 ht hS
theorem i_callT (hC : Cx v p l e s m args meth c own cc nL ret) {idx : Nat} {y : MethodName} {cy : ByteArray} {nLy F L n : Nat} {rety : Option FieldType} {As rest : List Value} {u : Value} {t : Nat} (ht : t < 9)
    (hV : MV own idx y cy nLy rety n) (hM : Con v l y cy nLy rety F L (.ref (eT v (10 + t)) :: As) S (some u) S1) (hc : y.cls = "java/lang/String") (hn : As.length = n) (hst : st = As.reverse ++ .ref (eT v (10 + t)) :: rest)
    (hR : F + 1 ≤ R.frames ∧ 8 + (nLy + 11) + L ≤ R.locals) (hr : (rest.map fun v => v.category).sum ≤ 8) (hdg : decode cc pc = .ok (.invokevirtual idx, 3)) (k : Mj v p l e R s m args below meth c nL Q qb S1 (pc + 3) lv (u :: rest)) : Mj v p l e R s m args below meth c nL Q qb S pc lv st := by
  refine r_run (K := 0) (q2 := qb) rfl (rest := rest) (rv := some u) (a := (Value.ref (eT v (10 + t)) :: As).toArray) (fun H locs ls cells slots hbu hW hS hl => ?_) k
  exact va_runV (As := As) (rest := rest) ⟨hC.1, hC.2.1, hC.2.2.1, hC.2.2.2.1, hC.2.2.2.2.1⟩ hM (cwV n hC.2.2.2.2.1 hV.1 rfl rfl rfl ⟨rfl, hV.2⟩ hR) ⟨pe_blind hC.2.2.2.2.2.2.2.1, by rw [hc]; exact str_recv (t := t) hC ht hS, fun U hU hU2 => pe_of hC hW hS hU hU2⟩ rfl hn hl.1 hst (lv_room hr) hdg hbu
theorem i_compact (hC : Cx v p l e s m args meth c own cc nL ret) {idx : Nat} (w1 : Cond.fieldLink own idx "java/lang/String" "COMPACT_STRINGS" "Z" ∈ TW) (hdg : decode cc pc = .ok (.getstatic idx, 3)) (k : Mw Wd v p l e R s m args below meth c nL Q qb S (pc + 3) lv (.int 1 :: st)) : Mw Wd v p l e R s m args below meth c nL Q qb S pc lv st :=
  fun H locs ls cells slots hbu hW hS hl => va_gets hC.1 hC.2.1 hC.2.2.2.2.2.2.1.2.2.2.2.2.2.2.2.1 hS hC.2.2.2.1 (hC.2.2.2.2.1 _ w1) (fun _ h => h) hdg (k H locs ls cells slots hbu hW hS hl)
theorem i_form (hC : Cx v p l e s m args meth c own cc nL ret) {idx : Nat} (w1 : Cond.fieldLink own idx "jdk/internal/util/Preconditions" "SIOOBE_FORMATTER" "Ljava/util/function/BiFunction;" ∈ TW) (hdg : decode cc pc = .ok (.getstatic idx, 3)) (k : ∀ u : Value, isR u → Mw Wd v p l e R s m args below meth c nL Q qb S (pc + 3) lv (u :: st)) : Mw Wd v p l e R s m args below meth c nL Q qb S pc lv st := by
  intro H locs ls cells slots hbu hW hS hl
  obtain ⟨q, ⟨hq, hZ⟩ | ⟨hq, hZ⟩⟩ := hC.2.2.2.2.2.2.1.2.2.2.2.2.2.2.2.2.2.2.2.2.1
  · exact va_gets hC.1 hC.2.1 hZ hS hC.2.2.2.1 (hC.2.2.2.2.1 _ w1) (fun _ h => h) hdg (k q (Or.inr hq) H locs ls cells slots hbu hW hS hl)
  · exact va_gets hC.1 hC.2.1 hZ hS hC.2.2.2.1 (hC.2.2.2.2.1 _ w1) (fun _ h => h) hdg (k q (Or.inl hq) H locs ls cells slots hbu hW hS hl)
theorem i_ishr (hC : Cx v p l e s m args meth c own cc nL ret) {x y : Int32} (hdg : decode cc pc = .ok (.ishr, 1)) (k : Mw Wd v p l e R s m args below meth c nL Q qb S (pc + 1) lv (.int (x >>> (y &&& 31)) :: st)) : Mw Wd v p l e R s m args below meth c nL Q qb S pc lv (.int y :: .int x :: st) := fun H locs ls cells slots hbu hW hS hl => lv_ishr hC.1 hC.2.1 hdg (k H locs ls cells slots hbu hW hS hl)
theorem cat_i (x : Int32) : (Value.int x).category = 1 := rfl
theorem cat_r (a : Nat) : (Value.ref a).category = 1 := rfl
theorem lk_w {lv : List (Nat × Value)} {i j : Nat} {u x : Value} (hc : u.category = 1) (hne : ¬ i = j) (h : lk lv j = some u) : lk (lst lv i x) j = some u := by
  have h1 : lk (lst lv i x) j = lk (lv.filter (fun q => !(q.1 == i) && !(q.1 + 1 == i && q.2.category == 2))) j := by
    show (bif Nat.beq i j then some x else lk _ j) = _
    rw [show Nat.beq i j = false from by
      cases hb : Nat.beq i j with
      | false => rfl
      | true => exact absurd (Nat.eq_of_beq_eq_true hb) hne]
    rfl
  rw [h1]
  clear h1
  induction lv with
  | nil => cases h
  | cons q l ih =>
    obtain ⟨n, y⟩ := q
    by_cases hn : Nat.beq n j = true
    · have e : n = j := Nat.eq_of_beq_eq_true hn
      unfold lk at h
      rw [hn] at h
      obtain rfl := Option.some.inj h
      have hp : (!(n == i) && !(n + 1 == i && y.category == 2)) = true := by
        rw [hc, e]
        have : (j == i) = false := by simpa using fun z => hne z.symm
        simp [this]
      rw [List.filter_cons, if_pos hp]
      unfold lk
      rw [hn]
      rfl
    · have hn' : Nat.beq n j = false := Bool.eq_false_iff.mpr hn
      unfold lk at h
      rw [hn'] at h
      by_cases hp : (!(n == i) && !(n + 1 == i && y.category == 2)) = true
      · rw [List.filter_cons, if_pos hp]
        unfold lk
        rw [hn']
        exact ih h
      · rw [List.filter_cons, if_neg hp]
        exact ih h
end CONSTS
