/-! ===== rules for builders and floats; loops that make cells ===== -/
theorem lp_indK {σ ρ : Type} {b : (σ → Option ρ) → σ → Option ρ} {P : Nat → σ → Prop} {r : ρ} (hs : ∀ (n : Nat) (ih : σ → Option ρ) (s : σ), (∀ s', ih s' = some r → P n s') → b ih s = some r → P (n + 1) s) : ∀ (n : Nat) (s : σ), lp b n s = some r → P n s := by
  intro n
  induction n with
  | zero => intro s h; cases h
  | succ n ih => intro s h; exact hs n (lp b n) s ih h
def cnN (S : Mem) (b : Nat) : Nat := (S (13 + 2 * b) 0).toNatClampNeg
theorem nI_self {x : Int32} (h : 0 ≤ x) : x = nI x.toNatClampNeg := by
  obtain ⟨j, h1, h2⟩ := nI_of (x := x) (Int32.not_lt.mpr h)
  rw [h2, nI_clamp h1]
def sbapp (S : Mem) (b w : Nat) : Bool := decide (0 ≤ S (13 + 2 * b) 0) && (decide (cnN S b ≤ 900) && (decide (capN S (13 + 2 * b) ≤ 160) && (decide (sb_cap (cnN S b + w) (capN S (13 + 2 * b)) ≤ 160) && decide (∀ j, j < capN S (13 + 2 * b) → fits .byte (.int (S (14 + 2 * b) j)) = true))))
theorem sbapp_of {S : Mem} {b w : Nat} (h : sbapp S b w = true) : S (13 + 2 * b) 0 = nI (cnN S b) ∧ cnN S b ≤ 900 ∧ capN S (13 + 2 * b) ≤ 160 ∧ sb_cap (cnN S b + w) (capN S (13 + 2 * b)) ≤ 160 ∧ fitB S b := by
  unfold sbapp at h
  simp only [Bool.and_eq_true, decide_eq_true_eq] at h
  exact ⟨nI_self h.1, h.2.1, h.2.2.1, h.2.2.2.1, h.2.2.2.2⟩
def sbapC (S : Mem) (b : Nat) (x : Int32) : Bool := sbapp S b 1 && decide (x ≤ 255)
def sbapI (S : Mem) (b : Nat) (x : Int32) : Bool := sbapp S b (sb_dg x.toNatClampNeg) && decide (0 ≤ x)
def appCn (S : Mem) (b : Nat) (x : Int32) : Mem := appC S b (cnN S b) x
def appIn (S : Mem) (b : Nat) (x : Int32) : Mem := appI S b (cnN S b) x.toNatClampNeg
def sbset (S : Mem) (b : Nat) : Bool := decide (0 ≤ S (13 + 2 * b) 0) && decide (capN S (13 + 2 * b) ≤ 160)
def sbat (S : Mem) (b : Nat) (i : Int32) : Bool := decide (0 ≤ i) && (decide (i < S (13 + 2 * b) 0) && (decide (cnN S b ≤ capN S (13 + 2 * b)) && decide (capN S (13 + 2 * b) ≤ 160)))
def sbch (S : Mem) (b : Nat) (i : Int32) : Int32 := ((S (14 + 2 * b) i.toNatClampNeg &&& (255 : Int32)).toUInt32 % 65536).toInt32
def nn32 (r : UInt32) : Bool := decide (r &&& 0x7fffffff ≤ 0x7f800000)
def nn64 (r : UInt64) : Bool := decide (r &&& 0x7fffffffffffffff ≤ 0x7ff0000000000000)
theorem nn32_of {r : UInt32} (h : nn32 r = true) : vf_n32 r := by
  unfold nn32 at h
  unfold vf_n32
  exact decide_eq_true_iff.mp h
theorem nn64_of {r : UInt64} (h : nn64 r = true) : vf_n64 r := by
  unfold nn64 at h
  unfold vf_n64
  exact decide_eq_true_iff.mp h
section RULES2
variable {v : EV} {p : Program} {l : Launch} {e : Env} {R : Room} {s : State} {m : MethodId} {args : Array Value} {below : List Frame} {meth : Method} {c : Code} {own : String} {cc : ByteArray} {nL : Nat} {ret : Option FieldType} {Q : State → Prop} {qb : Nat} {Wd : Mem → Heap → Prop} {S : Mem} {pc : Nat} {lv : List (Nat × Value)} {st : List Value}
theorem i_sbLen (hC : Cx v p l e s m args meth c own cc nL ret) {idx b : Nat} (hb : b < 2) (hV : MV own idx yJ4_length_8abf5 cJ4_length_8abf5 1 (some .int) 0) (hR : 2 + 1 ≤ R.frames ∧ 8 + (1 + 11) + 32 ≤ R.locals) (hr : (st.map fun v => v.category).sum ≤ 8) (hdg : decode cc pc = .ok (.invokevirtual idx, 3))
    (k : Mj v p l e R s m args below meth c nL Q qb S (pc + 3) lv (.int (S (13 + 2 * b) 0) :: st)) : Mj v p l e R s m args below meth c nL Q qb S pc lv (.ref (eA v (pB b)) :: st) :=
  g_callB (As := []) (rest := st) (q2 := qb) (Wd1 := WD v) (S1 := S) hC hb rfl hV (c_SB_length hC.2.2.2.2.2.2.2.1 hb) (fun _ h => h) rfl rfl rfl hR hr hdg k
theorem i_sbAt (hC : Cx v p l e s m args meth c own cc nL ret) {idx b : Nat} {i : Int32} (hb : b < 2) (hV : MV own idx yJ4_charAt_5068e cJ4_charAt_5068e 2 (some .char) 1) (hk : sbat S b i = true) (hR : 4 + 1 ≤ R.frames ∧ 8 + (2 + 11) + 79 ≤ R.locals) (hr : (st.map fun v => v.category).sum ≤ 8) (hdg : decode cc pc = .ok (.invokevirtual idx, 3))
    (k : Mj v p l e R s m args below meth c nL Q qb S (pc + 3) lv (.int (sbch S b i) :: st)) : Mj v p l e R s m args below meth c nL Q qb S pc lv (.int i :: .ref (eA v (pB b)) :: st) := by
  unfold sbat at hk
  simp only [Bool.and_eq_true, decide_eq_true_eq] at hk
  obtain ⟨h1, h2, h3, h4⟩ := hk
  have e1 := nI_self h1
  have e2 : S (13 + 2 * b) 0 = nI (cnN S b) := nI_self (Int32.le_of_lt (Int32.lt_of_le_of_lt h1 h2))
  obtain ⟨j, hj, ej⟩ := nI_of (x := i) (Int32.not_lt.mpr h1)
  have e3 : i.toNatClampNeg = j := by rw [ej, nI_clamp hj]
  unfold sbch at k
  rw [e3] at k
  rw [e2, ej] at h2
  have h5 := (nI_ltI hj (by omega)).mp h2
  rw [ej]
  exact g_callB (As := [.int (nI j)]) (rest := st) (q2 := qb) (Wd1 := WD v) (S1 := S) hC hb rfl hV (c_SB_charAt hC.2.2.2.2.2.2.2.1 hb e2 h5 h3 h4) (fun _ h => h) rfl rfl rfl hR hr hdg k
theorem i_sbSet (hC : Cx v p l e s m args meth c own cc nL ret) {idx b : Nat} (hb : b < 2) (hV : MV own idx yJ4_setLength_d00df cJ4_setLength_d00df 2 none 1) (hk : sbset S b = true) (hR : 6 + 1 ≤ R.frames ∧ 8 + (2 + 11) + 123 ≤ R.locals) (hr : (st.map fun v => v.category).sum ≤ 8) (hdg : decode cc pc = .ok (.invokevirtual idx, 3))
    (k : Mj v p l e R s m args below meth c nL Q qb (setl S b) (pc + 3) lv st) : Mj v p l e R s m args below meth c nL Q qb S pc lv (.int 0 :: .ref (eA v (pB b)) :: st) := by
  unfold sbset at hk
  simp only [Bool.and_eq_true, decide_eq_true_eq] at hk
  exact g_callB (As := [.int (nI 0)]) (rest := st) (q2 := qb) (Wd1 := WD v) (S1 := setl S b) hC hb rfl hV (c_SB_setLength hC.2.2.2.2.2.2.2.1 hb hk.1 hk.2) (fun _ h => h) rfl rfl rfl hR hr hdg k
theorem i_sbC (hC : Cx v p l e s m args meth c own cc nL ret) {idx b q2 : Nat} {x : Int32} (hb : b < 2) (hV : MV own idx yJ4_append_cf468 cJ4_append_cf468 2 (some (.object "java/lang/StringBuilder")) 1) (hk : sbapC S b x = true) (hq : qb = q2 + 1) (hR : 6 + 1 ≤ R.frames ∧ 8 + (2 + 11) + 123 ≤ R.locals) (hr : (st.map fun v => v.category).sum ≤ 8) (hdg : decode cc pc = .ok (.invokevirtual idx, 3))
    (k : Mj v p l e R s m args below meth c nL Q q2 (appCn S b x) (pc + 3) lv (.ref (eA v (pB b)) :: st)) : Mj v p l e R s m args below meth c nL Q qb S pc lv (.int x :: .ref (eA v (pB b)) :: st) := by
  unfold sbapC at hk
  simp only [Bool.and_eq_true, decide_eq_true_eq] at hk
  obtain ⟨h1, h2, h3, h4, h5⟩ := sbapp_of hk.1
  exact g_callB (As := [.int x]) (rest := st) (q2 := q2) (Wd1 := WD v) (S1 := appCn S b x) hC hb rfl hV (c_SB_appC hC.2.2.2.2.2.2.2.1 hb hk.2 h1 h2 h3 (fun _ => h4) h5) (fun _ h => h) rfl rfl hq hR hr hdg k
theorem i_sbI (hC : Cx v p l e s m args meth c own cc nL ret) {idx b q2 : Nat} {x : Int32} (hb : b < 2) (hV : MV own idx yJ4_append_bf812 cJ4_append_bf812 2 (some (.object "java/lang/StringBuilder")) 1) (hk : sbapI S b x = true) (hq : qb = q2 + 1) (hR : 6 + 1 ≤ R.frames ∧ 8 + (2 + 11) + 125 ≤ R.locals) (hr : (st.map fun v => v.category).sum ≤ 8) (hdg : decode cc pc = .ok (.invokevirtual idx, 3))
    (k : Mj v p l e R s m args below meth c nL Q q2 (appIn S b x) (pc + 3) lv (.ref (eA v (pB b)) :: st)) : Mj v p l e R s m args below meth c nL Q qb S pc lv (.int x :: .ref (eA v (pB b)) :: st) := by
  unfold sbapI at hk
  simp only [Bool.and_eq_true, decide_eq_true_eq] at hk
  obtain ⟨h1, h2, h3, h4, h5⟩ := sbapp_of hk.1
  obtain ⟨w, hw, ew⟩ := nI_of (x := x) (Int32.not_lt.mpr hk.2)
  have e3 : x.toNatClampNeg = w := by rw [ew, nI_clamp hw]
  unfold appIn at k
  rw [e3] at k h4
  rw [ew]
  exact g_callB (As := [.int (nI w)]) (rest := st) (q2 := q2) (Wd1 := WD v) (S1 := appI S b (cnN S b) w) hC hb rfl hV (c_SB_appI hC.2.2.2.2.2.2.2.1 hb hw h1 h2 h3 (fun _ => h4) h5) (fun _ h => h) rfl rfl hq hR hr hdg k
theorem i_fconst0 (hC : Cx v p l e s m args meth c own cc nL ret) (hdg : decode cc pc = .ok (.fconst 0, 1)) (k : Mw Wd v p l e R s m args below meth c nL Q qb S (pc + 1) lv (.float FP.fconst0 :: st)) : Mw Wd v p l e R s m args below meth c nL Q qb S pc lv st := fun H locs ls cells slots hbu hW hS hl => lv_fconst0 hC.1 hC.2.1 hdg (k H locs ls cells slots hbu hW hS hl)
theorem i_dconst0 (hC : Cx v p l e s m args meth c own cc nL ret) (hdg : decode cc pc = .ok (.dconst 0, 1)) (k : Mw Wd v p l e R s m args below meth c nL Q qb S (pc + 1) lv (.double FP.dconst0 :: st)) : Mw Wd v p l e R s m args below meth c nL Q qb S pc lv st := fun H locs ls cells slots hbu hW hS hl => lv_dconst0 hC.1 hC.2.1 hdg (k H locs ls cells slots hbu hW hS hl)
theorem i_i2f (hC : Cx v p l e s m args meth c own cc nL ret) {x : Int32} (hdg : decode cc pc = .ok (.i2f, 1)) (k : Mw Wd v p l e R s m args below meth c nL Q qb S (pc + 1) lv (.float (FP.i2f x) :: st)) : Mw Wd v p l e R s m args below meth c nL Q qb S pc lv (.int x :: st) := fun H locs ls cells slots hbu hW hS hl => lv_i2f hC.1 hC.2.1 hdg (k H locs ls cells slots hbu hW hS hl)
theorem i_i2d (hC : Cx v p l e s m args meth c own cc nL ret) {x : Int32} (hdg : decode cc pc = .ok (.i2d, 1)) (k : Mw Wd v p l e R s m args below meth c nL Q qb S (pc + 1) lv (.double (FP.i2d x) :: st)) : Mw Wd v p l e R s m args below meth c nL Q qb S pc lv (.int x :: st) := fun H locs ls cells slots hbu hW hS hl => lv_i2d hC.1 hC.2.1 hdg (k H locs ls cells slots hbu hW hS hl)
theorem i_fdiv (hC : Cx v p l e s m args meth c own cc nL ret) {x y : UInt32} (hn : nn32 (FP.fdiv x y) = true) (hdg : decode cc pc = .ok (.fdiv, 1)) (k : Mw Wd v p l e R s m args below meth c nL Q qb S (pc + 1) lv (.float (FP.fdiv x y) :: st)) : Mw Wd v p l e R s m args below meth c nL Q qb S pc lv (.float y :: .float x :: st) := fun H locs ls cells slots hbu hW hS hl => lv_fdiv hC.1 hC.2.1 hdg (nn32_of hn) (k H locs ls cells slots hbu hW hS hl)
theorem i_ddiv (hC : Cx v p l e s m args meth c own cc nL ret) {x y : UInt64} (hn : nn64 (FP.ddiv x y) = true) (hdg : decode cc pc = .ok (.ddiv, 1)) (k : Mw Wd v p l e R s m args below meth c nL Q qb S (pc + 1) lv (.double (FP.ddiv x y) :: st)) : Mw Wd v p l e R s m args below meth c nL Q qb S pc lv (.double y :: .double x :: st) := fun H locs ls cells slots hbu hW hS hl => lv_ddiv hC.1 hC.2.1 hdg (nn64_of hn) (k H locs ls cells slots hbu hW hS hl)
theorem i_fret (hC : Cx v p l e s m args meth c own cc nL (some .float)) {x : UInt32} (hdg : decode cc pc = .ok (.freturn, 1)) : Mj v p l e R s m args below meth c nL (MQ below (Qc v (some (.float x)) S) args s R.cells R.slots (eG v)) qb S pc lv [.float x] := by
  intro H locs ls cells slots hbu hW hS hl
  obtain ⟨hx, hb, -, -, -, -, -, -, -, hr, hk⟩ := hC
  refine W.widen (k := R.cells) (n := R.slots) (by omega) (by omega) ?_
  exact W.fret hx hb hr (fun t ht hW' => ⟨rfl, by rw [ht]; exact hW, hS.F ht⟩) hS.free hdg hk
theorem i_dret (hC : Cx v p l e s m args meth c own cc nL (some .double)) {x : UInt64} (hdg : decode cc pc = .ok (.dreturn, 1)) : Mj v p l e R s m args below meth c nL (MQ below (Qc v (some (.double x)) S) args s R.cells R.slots (eG v)) qb S pc lv [.double x] := by
  intro H locs ls cells slots hbu hW hS hl
  obtain ⟨hx, hb, -, -, -, -, -, -, -, hr, hk⟩ := hC
  refine W.widen (k := R.cells) (n := R.slots) (by omega) (by omega) ?_
  exact W.dret hx hb hr (fun t ht hW' => ⟨rfl, by rw [ht]; exact hW, hS.F ht⟩) hS.free hdg hk
theorem t_fdiv : ∀ a, a < 61 → ∀ b, b < 6 → b ≠ 0 → nn32 (FP.fdiv (FP.i2f (nI a)) (FP.i2f (nI b))) = true := by decide +kernel
theorem t_ddiv : ∀ a, a < 61 → ∀ b, b < 61 → b ≠ 0 → nn64 (FP.ddiv (FP.i2d (nI a)) (FP.i2d (nI b))) = true := by decide +kernel
theorem t_f2d : ∀ a, a < 61 → ∀ b, b < 6 → b ≠ 0 → nn64 (FP.f2d (FP.fdiv (FP.i2f (nI a)) (FP.i2f (nI b)))) = true := by decide +kernel
end RULES2
