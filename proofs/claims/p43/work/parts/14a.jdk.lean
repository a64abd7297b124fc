/-! ===== the builder's methods, 0 ===== -/
section JDK0
variable {v : EV} {l : Launch} {da : Nat → Nat} {S : Mem} {b : Nat}
/-- the world with one row of bytes more -/
def wsX (v : EV) (da : Nat → Nat) (S : Mem) (h N : Nat) (f : Nat → Int32) : va_W := wsW v da S ++ [(h, .inl (eC v 3, N, .inl f))]
def WX (v : EV) (da : Nat → Nat) (S : Mem) (h N : Nat) (f : Nat → Int32) (H : Heap) : Prop := va_P (eD v) vwCl (wsX v da S h N f) H ∧ va_D (eG v) (wsX v da S h N f)
theorem wsW_len : (wsW v da S).length = layN + 2 := by
  unfold wsW
  rw [List.length_append, wsL_len]
  rfl
theorem wsX_new {h N : Nat} {f : Nat → Int32} : (wsX v da S h N f)[layN + 2]? = some (h, .inl (eC v 3, N, .inl f)) := by
  unfold wsX
  rw [List.getElem?_append_right (by rw [wsW_len]; omega), wsW_len, Nat.sub_self]
  rfl
theorem wsX_old {h N : Nat} {f : Nat → Int32} {k : Nat} (hk : k < layN + 2) : (wsX v da S h N f)[k]? = (wsW v da S)[k]? := by
  unfold wsX
  rw [List.getElem?_append_left (by rw [wsW_len]; exact hk)]
theorem wsX_set {h N : Nat} {f g : Nat → Int32} : (wsX v da S h N f).set (layN + 2) (h, .inl (eC v 3, N, .inl g)) = wsX v da S h N g := by
  unfold wsX
  rw [List.set_append_right _ _ (by rw [wsW_len]; omega), wsW_len, Nat.sub_self]
  rfl
section GROW
variable {p : Program} {e : Env} {R : Room} {s : State} {m : MethodId} {args : Array Value} {below : List Frame} {meth : Method} {c : Code} {own : String} {cc : ByteArray} {nL : Nat} {ret : Option FieldType} {Q : State → Prop} {qb : Nat} {Wd : Mem → Heap → Prop} {pc : Nat} {lv : List (Nat × Value)} {st : List Value}
theorem i_ldc (hC : Cx v p l e s m args meth c own cc nL ret) {idx : Nat} {x : Int32} (w1 : Cond.constant own idx x ∈ TW) (hdg : decode cc pc = .ok (.ldc idx, 2)) (k : Mw Wd v p l e R s m args below meth c nL Q qb S (pc + 2) lv (.int x :: st)) : Mw Wd v p l e R s m args below meth c nL Q qb S pc lv st := fun H locs ls cells slots hbu hW hS hl => lv_ldc hC.1 hC.2.1 hC.2.2.2.1 (hC.2.2.2.2.1 _ w1) hdg (k H locs ls cells slots hbu hW hS hl)
theorem ex_sz (h : ∀ n : Nat, Mw (fun S H => Wd S H ∧ H.size = n) v p l e R s m args below meth c nL Q qb S pc lv st) : Mw Wd v p l e R s m args below meth c nL Q qb S pc lv st := fun H locs ls cells slots hbu hW hS hl => h H.size H locs ls cells slots hbu ⟨hW, rfl⟩ hS hl
theorem j_newb (hC : Cx v p l e s m args meth c own cc nL ret) {h N q2 : Nat} {n : Int32} (w1 : Cond.arrayClass .byte ∈ TW) (hn : ¬ n < 0) (hN : n.toNatClampNeg = N) (hN2 : N ≤ 160) (hq : qb = q2 + 1) (hdg : decode cc pc = .ok (.newarray .byte, 2))
    (k : Mw (fun _ H => WX v da S h N (fun _ => 0) H) v p l e R s m args below meth c nL Q q2 S (pc + 2) lv (.ref h :: st)) : Mw (fun S H => WDa v da S H ∧ H.size = h) v p l e R s m args below meth c nL Q qb S pc lv (.int n :: st) := by
  intro H locs ls cells slots hbu hW hS hl
  obtain ⟨⟨hP, hD⟩, hh⟩ := hW
  refine va_newaK hC.1 hC.2.1 (atype := .byte) (hC.2.2.2.2.1 _ w1) rfl hdg rfl hn hN (Nat.le_trans (Nat.mul_le_mul hN2 (Nat.le_refl _)) (by decide)) (by omega) (by omega) hh fun H1 cA e1 z1 o1 hAr hNm => ?_
  have hcA : eC v 3 = cA := Option.some.inj ((hC.2.2.2.2.2.1.2 3 _ (tysOf_at v (by decide))).2.symm.trans hNm)
  have hk : ∀ (k : Nat) (x : Nat × va_E), (wsW v da S)[k]? = some x → H1[x.1]? = H[x.1]? := fun k x hx => o1 x.1 (by rw [← hh]; exact (hP k x hx).lt)
  refine k H1 locs ls (cells + 1) (slots + N) (by omega) ⟨(hP.kept hk).app (fun k x hx => ?_), hD.push hP hh.symm (by rw [← hh]; exact hC.2.2.2.2.2.2.2.2.1.new hS.1)⟩ ⟨Nat.le_trans hS.1 (by omega), fun x h1 h2 => (o1 x (by rw [← hh]; exact Nat.lt_of_lt_of_le h1 hS.1)).trans (hS.2.1 x h1 h2), hS.2.2⟩ hl
  have hz : k < 1 := (List.getElem?_eq_some_iff.mp hx).1
  rw [show k = 0 by omega] at hx
  cases hx
  show H1[h]? = some (vp_cell _ _)
  rw [hcA]
  exact e1
theorem j_copy (hC : Cx v p l e s m args meth c own cc nL ret) {h N idx : Nat} {n : Int32} {f : Nat → Int32} (hb : b < 2) (w1 : Cond.methodLink own idx arraycopyName ∈ TW) (w2 : Cond.native arraycopyName ∈ TW) (w3 : Cond.static arraycopyName ∈ TW) (w4 : Cond.initialized "java/lang/System" ∈ TW) (h3 : ¬ n < 0) (h4 : n.toNatClampNeg ≤ capN S (13 + 2 * b)) (h5 : n.toNatClampNeg ≤ N) (hfit : ∀ i, i < n.toNatClampNeg → fits .byte (.int (S (14 + 2 * b) i)) = true)
    (hfr : 1 ≤ R.frames ∧ (st.map fun v => v.category).sum + 18 ≤ R.locals) (hdg : decode cc pc = .ok (.invokestatic idx, 3))
    (k : Mw (fun _ H => WX v da S h N (va_cpy (S (14 + 2 * b)) f 0 0 n.toNatClampNeg) H) v p l e R s m args below meth c nL Q qb S (pc + 3) lv st) : Mw (fun _ H => WX v da S h N f H) v p l e R s m args below meth c nL Q qb S pc lv (.int n :: .int 0 :: .ref h :: .int 0 :: .ref (da b) :: st) := by
  intro H locs ls cells slots hbu hW hS hl
  refine va_copyi hC.1 hC.2.1 (hC.2.2.1.trans hl.1.symm) hC.2.2.2.1 (hC.2.2.2.2.1 _ w1) (hC.2.2.2.2.1 _ w2) (hC.2.2.2.2.1 _ w3) (hC.2.2.2.2.1 _ w4) hC.2.2.2.2.2.1 hW.1 hW.2 hS (layN + b) (layN + 2) 3 3 (f := S (14 + 2 * b)) (g := f) (n0 := capN S (13 + 2 * b)) (n1 := N) (ty := .byte) ((wsX_old (by omega)).trans (wsW_dy hb)) wsX_new (tysOf_at v (by decide)) (tysOf_at v (by decide)) rfl (by decide) (by decide) h3 (by rw [sb_cl0, Nat.zero_add]; exact h4) (by rw [sb_cl0, Nat.zero_add]; exact h5) (by rw [sb_cl0]; intro i hi; rw [Nat.zero_add]; exact hfit i hi) hfr.1 hfr.2 hdg fun H1 locs1 hP1 hD1 hS1 => ?_
  rw [wsX_set, sb_cl0] at hP1 hD1
  exact k H1 locs1 ls cells slots hbu ⟨hP1, hD1⟩ hS1 hl
theorem q_aretA {W1 : Heap → Prop} (hw : ∀ H, Wd S H → W1 H) (hC : Cx v p l e s m args meth c own cc nL (some (.array .byte))) {u : Value} (hu : isR u) (hdg : decode cc pc = .ok (.areturn, 1)) : Mw Wd v p l e R s m args below meth c nL (MQ below (Qg v (some u) W1) args s R.cells R.slots (eG v)) qb S pc lv [u] := by
  intro H locs ls cells slots hbu hW hS hl
  obtain ⟨hx, hb, -, -, -, -, -, -, -, hr, hk⟩ := hC
  refine W.widen (k := R.cells) (n := R.slots) (by omega) (by omega) ?_
  exact W.aret hx hb hr (Or.inr ⟨_, rfl⟩) hu (fun t ht hW' => ⟨rfl, by rw [ht]; exact hw H hW, hS.F ht⟩) hS.free hdg hk
theorem con_ofH {K : Nat} {W0 W1 : Heap → Prop} {y : MethodName} {F L : Nat} {av : List Value} {rv : Option Value} (hy : plainName y.cls = true) (hst : Stb v) (hn : (lg_sl av).length ≤ nL) (h : ∀ (p : Program) (e : Env) (s : State) (m : MethodId) (args : Array Value) (below : List Frame) (meth : Method) (c : Code), Cx v p l e s m args meth c y.cls cc nL ret → Mw (fun _ H => W0 H) v p l e (rmK K F L) s m args below meth c nL (MQ below (Qg v rv W1) args s K (160 * K) (eG v)) K S 0 (lv_args 0 av) []) : ConG K v l y cc nL ret F L av W0 rv W1 := by
  refine Met.ofW hy rfl ?_
  intro p e s m args below meth c s₁ B hml hv
  obtain ⟨rfl, hsz, hK, hF, hW⟩ := hv
  have hts := atoms_spec (ws := .code y cc nL ret :: TW) B.pre
  have C : Cx v p l e s m av.toArray meth c y.cls cc nL ret := ⟨B.exec, B.bytes, hml, findClass_of_methodNamed B.named, fun w hw => hts w (List.mem_cons_of_mem _ hw), hK, hF, hst, hsz, B.returns, B.notSynchronized⟩
  rw [lg_entry_eq]
  exact h p e s m av.toArray below meth c C s.heap [] _ 0 0 ⟨by rw [Nat.zero_add]; exact Nat.le_refl _, by rw [Nat.zero_add]; exact Nat.le_refl _⟩ hW va_S.rf (lv_entry av hn)
theorem w_vlen (hC : Cx v p l e s m args meth c own cc nL ret) {a n : Nat} {f : Nat → Int32} (hw : ∀ H, Wd S H → H[a]? = some (vp_cell (eC v 3) (n, .inl f))) (hdg : decode cc pc = .ok (.arraylength, 1)) (k2 : Mw Wd v p l e R s m args below meth c nL Q qb S (pc + 1) lv (.int (Int32.ofNat n) :: st)) : Mw Wd v p l e R s m args below meth c nL Q qb S pc lv (.ref a :: st) := by
  intro H locs ls cells slots hbu hW hS hl
  refine va_alen hC.1 hC.2.1 hC.2.2.2.2.2.1 (ws := [(a, .inl (eC v 3, n, .inl f))]) (H := H) (fun k q hk => ?_) 0 3 rfl (tysOf_at v (by decide)) rfl hdg (k2 H locs ls cells slots hbu hW hS hl)
  match k, hk with
  | 0, hk => cases hk; exact hw H hW
  | k + 1, hk => simp at hk
theorem w_dy (hb : b < 2) {H : Heap} (h : WDa v da S H) : H[da b]? = some (vp_cell (eC v 3) (capN S (13 + 2 * b), .inl (S (14 + 2 * b)))) := h.1 (layN + b) _ (wsW_dy hb)
theorem x_dy (hb : b < 2) {h N : Nat} {f : Nat → Int32} {H : Heap} (hX : WX v da S h N f H) : H[da b]? = some (vp_cell (eC v 3) (capN S (13 + 2 * b), .inl (S (14 + 2 * b)))) := hX.1 (layN + b) _ ((wsX_old (by omega)).trans (wsW_dy hb))
/-! the static rows of digits -/
theorem i_digO (hC : Cx v p l e s m args meth c own cc nL ret) {idx : Nat} (w1 : Cond.fieldLink own idx "java/lang/Integer" "DigitOnes" "[B" ∈ TW) (hdg : decode cc pc = .ok (.getstatic idx, 3)) (k : Mw Wd v p l e R s m args below meth c nL Q qb S (pc + 3) lv (.ref (eT v 32) :: st)) : Mw Wd v p l e R s m args below meth c nL Q qb S pc lv st :=
  fun H locs ls cells slots hbu hW hS hl => va_gets hC.1 hC.2.1 hC.2.2.2.2.2.2.1.2.2.2.2.2.2.2.2.2.1 hS hC.2.2.2.1 (hC.2.2.2.2.1 _ w1) (fun _ h => h) hdg (k H locs ls cells slots hbu hW hS hl)
theorem i_digOld (hC : Cx v p l e s m args meth c own cc nL ret) {i x : Int32} (hin : vp_in i 100) (hx : dgO i.toNatClampNeg = x) (hdg : decode cc pc = .ok (.baload, 1)) (k : Mw Wd v p l e R s m args below meth c nL Q qb S (pc + 1) lv (.int x :: st)) : Mw Wd v p l e R s m args below meth c nL Q qb S pc lv (.int i :: .ref (eT v 32) :: st) :=
  fun H locs ls cells slots hbu hW hS hl => va_tb hC.1 hC.2.1 hC.2.2.2.2.2.2.1.2.2.2.2.2.2.2.2.2.2.1 hS hin (v := .int x) (by rw [hx]) hdg (k H locs ls cells slots hbu hW hS hl)
theorem i_digT (hC : Cx v p l e s m args meth c own cc nL ret) {idx : Nat} (w1 : Cond.fieldLink own idx "java/lang/Integer" "DigitTens" "[B" ∈ TW) (hdg : decode cc pc = .ok (.getstatic idx, 3)) (k : Mw Wd v p l e R s m args below meth c nL Q qb S (pc + 3) lv (.ref (eT v 33) :: st)) : Mw Wd v p l e R s m args below meth c nL Q qb S pc lv st :=
  fun H locs ls cells slots hbu hW hS hl => va_gets hC.1 hC.2.1 hC.2.2.2.2.2.2.1.2.2.2.2.2.2.2.2.2.2.2.1 hS hC.2.2.2.1 (hC.2.2.2.2.1 _ w1) (fun _ h => h) hdg (k H locs ls cells slots hbu hW hS hl)
theorem i_digTld (hC : Cx v p l e s m args meth c own cc nL ret) {i x : Int32} (hin : vp_in i 100) (hx : dgT i.toNatClampNeg = x) (hdg : decode cc pc = .ok (.baload, 1)) (k : Mw Wd v p l e R s m args below meth c nL Q qb S (pc + 1) lv (.int x :: st)) : Mw Wd v p l e R s m args below meth c nL Q qb S pc lv (.int i :: .ref (eT v 33) :: st) :=
  fun H locs ls cells slots hbu hW hS hl => va_tb hC.1 hC.2.1 hC.2.2.2.2.2.2.1.2.2.2.2.2.2.2.2.2.2.2.2.1 hS hin (v := .int x) (by rw [hx]) hdg (k H locs ls cells slots hbu hW hS hl)
end GROW
/-! a row takes the place of another -/
def grw (S : Mem) (b N : Nat) (f : Nat → Int32) : Mem := fun b' j => if b' = 14 + 2 * b then f j else if b' = 13 + 2 * b ∧ j = 1 then nI N else S b' j
def daU (da : Nat → Nat) (b h : Nat) : Nat → Nat := fun i => if i = b then h else da i
def threes : DS → List Nat
  | .inl (_, fs) => fs.filterMap (fun f => if f.1 = 3 then some f.2.1 else none)
  | .inr _ => []
theorem ce_ext {v : EV} {da da' : Nat → Nat} {S S' : Mem} {d : DS} (h1 : ∀ q ∈ srcs d, S' q.1 q.2 = S q.1 q.2) (h3 : ∀ i ∈ threes d, da' i = da i) : ce v da' S' d = ce v da S d := by
  match d, h1, h3 with
  | .inl (ci, fs), h1, h3 =>
    refine congrArg (fun l => Sum.inr (ci, l)) (List.map_congr_left fun f hf => ?_)
    unfold fv
    by_cases h0 : f.1 = 0
    · rw [if_pos h0, if_pos h0]
      exact congrArg Value.int (h1 (f.2.1, f.2.2) (List.mem_filterMap.mpr ⟨f, hf, if_pos (Or.inl h0)⟩))
    · rw [if_neg h0, if_neg h0]
      by_cases h2 : f.1 = 2
      · rw [if_pos h2, if_pos h2, h1 (f.2.1, f.2.2) (List.mem_filterMap.mpr ⟨f, hf, if_pos (Or.inr h2)⟩)]
      · rw [if_neg h2, if_neg h2]
        by_cases h4 : f.1 = 3
        · rw [if_pos h4, if_pos h4, h3 f.2.1 (List.mem_filterMap.mpr ⟨f, hf, if_pos h4⟩)]
        · rw [if_neg h4, if_neg h4]
  | .inr (t, n, 0, b', st), h1, h3 =>
    refine congrArg (fun g => Sum.inl (eC v t, n, Sum.inl g)) (funext fun k => ?_)
    by_cases hk : k < n
    · rw [if_pos hk, if_pos hk]
      exact h1 (b', st + k) (List.mem_map.mpr ⟨k, List.mem_range.mpr hk, rfl⟩)
    · rw [if_neg hk, if_neg hk]
  | .inr (t, n, k + 1, y, z), h1, h3 => rfl
theorem far_all : ∀ b, b < 2 → ∀ p, p < layN → (p == pB b || ((srcs (layF p)).all (fun q => !(q.1 == 14 + 2 * b) && !(q.1 == 13 + 2 * b && q.2 == 1)) && (threes (layF p)).all (fun i => !(i == b)))) = true := by decide +kernel
theorem ce_far {N h p : Nat} {f : Nat → Int32} (hb : b < 2) (hp : p < layN) (hn : p ≠ pB b) : ce v (daU da b h) (grw S b N f) (layF p) = ce v da S (layF p) := by
  have h := far_all b hb p hp
  have e : (p == pB b) = false := by simpa using hn
  rw [e, Bool.false_or, Bool.and_eq_true] at h
  refine ce_ext (fun q hq => ?_) (fun i hi => ?_)
  · have h1 := List.all_eq_true.mp h.1 q hq
    simp only [Bool.and_eq_true, Bool.not_eq_true', beq_eq_false_iff_ne, ne_eq, Bool.and_eq_false_iff] at h1
    unfold grw
    rw [if_neg h1.1, if_neg (fun z => h1.2.elim (fun x => x z.1) (fun x => x z.2))]
  · have h1 := List.all_eq_true.mp h.2 i hi
    simp only [Bool.not_eq_true', beq_eq_false_iff_ne, ne_eq] at h1
    exact if_neg h1
theorem grw_cap {N : Nat} {f : Nat → Int32} (hN : N < 2 ^ 31) (hb : b < 2) : capN (grw S b N f) (13 + 2 * b) = N := by
  unfold capN grw
  rw [if_neg (by omega), if_pos ⟨rfl, rfl⟩]
  exact nI_clamp hN
theorem WX_grw {h N : Nat} {f : Nat → Int32} {H : Heap} (hb : b < 2) (hN : N < 2 ^ 31) {fs : List Value} (hfs : fs = [.ref h, .int 0, .int (S (13 + 2 * b) 2), .int (S (13 + 2 * b) 0)])
    (hP : va_P (eD v) vwCl ((wsX v da S h N f).set (pB b) (eA v (pB b), .inr (0, fs))) H) (hD : va_D (eG v) ((wsX v da S h N f).set (pB b) (eA v (pB b), .inr (0, fs)))) : WDa v (daU da b h) (grw S b N f) H := by
  have hg : ∀ (k : Nat) (q : Nat × va_E), (wsW v (daU da b h) (grw S b N f))[k]? = some q → ((wsX v da S h N f).set (pB b) (eA v (pB b), .inr (0, fs)))[if k = layN + b then layN + 2 else k]? = some q := by
    intro k q hk
    have hpl := pl_B hb
    have hlen : k < layN + 2 := by
      have := (List.getElem?_eq_some_iff.mp hk).1
      rwa [wsW_len] at this
    by_cases h1 : k = layN + b
    · subst h1
      rw [wsW_dy hb, grw_cap hN hb] at hk
      obtain rfl := Option.some.inj hk
      rw [if_pos rfl, List.getElem?_set, if_neg (by omega), wsX_new]
      have e1 : daU da b h b = h := if_pos rfl
      have e2 : grw S b N f (14 + 2 * b) = f := funext fun j => if_pos rfl
      rw [e1, e2]
    · rw [if_neg h1, List.getElem?_set]
      by_cases h2 : pB b = k
      · subst h2
        rw [wsW_at hpl] at hk
        obtain rfl := Option.some.inj hk
        rw [if_pos rfl, if_pos (by unfold wsX; rw [List.length_append, wsW_len]; omega), lay_B hb]
        have e1 : fv v (daU da b h) (grw S b N f) (3, b, 0) = .ref h := by
          unfold fv daU
          simp
        have e2 : grw S b N f (13 + 2 * b) 2 = S (13 + 2 * b) 2 := by
          unfold grw
          rw [if_neg (by omega), if_neg (by omega)]
        have e3 : grw S b N f (13 + 2 * b) 0 = S (13 + 2 * b) 0 := by
          unfold grw
          rw [if_neg (by omega), if_neg (by omega)]
        have e4 : ce v (daU da b h) (grw S b N f) (.inl (0, [(3, b, 0), (4, 0, 0), (0, 13 + 2 * b, 2), (0, 13 + 2 * b, 0)])) = .inr (0, [fv v (daU da b h) (grw S b N f) (3, b, 0), .int 0, .int (grw S b N f (13 + 2 * b) 2), .int (grw S b N f (13 + 2 * b) 0)]) := rfl
        rw [e4, e1, e2, e3, hfs]
      · rw [if_neg h2]
        by_cases h3 : k < layN
        · rw [wsW_at h3] at hk
          obtain rfl := Option.some.inj hk
          rw [wsX_old (by omega), wsW_at h3, ce_far hb h3 (fun z => h2 z.symm)]
        · have h4 : k = layN + (1 - b) := by omega
          subst h4
          have hb2 : 1 - b < 2 := by omega
          rw [wsW_dy hb2] at hk
          obtain rfl := Option.some.inj hk
          rw [wsX_old (by omega), wsW_dy hb2]
          have e1 : daU da b h (1 - b) = da (1 - b) := if_neg (by omega)
          have e2 : grw S b N f (14 + 2 * (1 - b)) = S (14 + 2 * (1 - b)) := funext fun j => by
            unfold grw
            rw [if_neg (by omega), if_neg (by omega)]
          have e3 : capN (grw S b N f) (13 + 2 * (1 - b)) = capN S (13 + 2 * (1 - b)) := by
            unfold capN grw
            rw [if_neg (by omega), if_neg (by omega)]
          rw [e1, e2, e3]
  refine ⟨hP.by _ hg, hD.by _ hg fun i j hi hj hij => ?_⟩
  rw [wsW_len] at hi hj
  by_cases h1 : i = layN + b
  · by_cases h2 : j = layN + b
    · omega
    · rw [if_pos h1, if_neg h2] at hij; omega
  · by_cases h2 : j = layN + b
    · rw [if_neg h1, if_pos h2] at hij; omega
    · rw [if_neg h1, if_neg h2] at hij; omega
section GROW2
variable {p : Program} {e : Env} {R : Room} {s : State} {m : MethodId} {args : Array Value} {below : List Frame} {meth : Method} {c : Code} {own : String} {cc : ByteArray} {nL : Nat} {ret : Option FieldType} {Q : State → Prop} {qb : Nat} {Wd : Mem → Heap → Prop} {pc : Nat} {lv : List (Nat × Value)} {st : List Value}
theorem j_putV (hC : Cx v p l e s m args meth c own cc nL ret) {idx h N : Nat} {f : Nat → Int32} (hb : b < 2) (hN : N < 2 ^ 31) (hF : FL own idx 0 0 false (.array .byte)) (hdg : decode cc pc = .ok (.putfield idx, 3))
    (k2 : Mw (WDa v (daU da b h)) v p l e R s m args below meth c nL Q qb (grw S b N f) (pc + 3) lv st) : Mw (fun _ H => WX v da S h N f H) v p l e R s m args below meth c nL Q qb S pc lv (.ref h :: .ref (eA v (pB b)) :: st) := by
  intro H locs ls cells slots hbu hW hS hl
  obtain ⟨K, T, N0, ty0, hc, hk, hlk, hin, hty, hnm, hfin, hd⟩ := hF
  have hpl := pl_B hb
  refine va_put hC.1 hC.2.1 hC.2.2.2.2.1 hin ty0 hty hnm hC.2.2.2.1 hC.2.2.2.2.2.1 hW.1 hW.2 hS (pB b) (fs := [.ref (da b), .int 0, .int (S (13 + 2 * b) 2), .int (S (13 + 2 * b) 0)]) (by rw [wsX_old (by omega), wsW_at hpl, lay_B hb]; rfl) hc 0 hk (hC.2.2.2.2.1 _ hlk) (fun _ h => h) hfin hd rfl rfl (Nat.le_of_ble_eq_true rfl) hdg fun H1 locs1 hP1 hD1 hS1 => ?_
  exact k2 H1 locs1 ls cells slots hbu (WX_grw hb hN rfl hP1 hD1) hS1 hl
end GROW2
/-- the room that a row gets: nothing new where q fits -/
def ens (S : Mem) (b q : Nat) : Mem := if q ≤ capN S (13 + 2 * b) then S else grw S b (sb_cap q (capN S (13 + 2 * b))) (va_cpy (S (14 + 2 * b)) (fun _ => 0) 0 0 (capN S (13 + 2 * b)))
def fitB (S : Mem) (b : Nat) : Prop := ∀ j, j < capN S (13 + 2 * b) → fits .byte (.int (S (14 + 2 * b) j)) = true
theorem en_le {q m : Nat} (hq : q < 2 ^ 30) (hm : m < 2 ^ 30) : (nI q - (Int32.ofNat m >>> ((0 : Int32) &&& 31)) ≤ 0) ↔ q ≤ m := by
  rw [sb_shr0, Int32.le_iff_toInt_le, show (nI q - Int32.ofNat m).toInt = (q : Int) - m from pk_sub_toInt hq hm, Int32.toInt_zero]
  omega
theorem en_z {q m : Nat} (hq : q < 2 ^ 28) (hm : m < 2 ^ 28) (h : ¬ q ≤ m) : Int32.ofNat m + mx (nI q <<< ((0 : Int32) &&& 31) - Int32.ofNat m) (Int32.ofNat m + (2 : Int32) <<< ((0 : Int32) &&& 31)) = nI (sb_cap q m) := by
  rw [sb_shl0, sb_shl0, show Int32.ofNat m + 2 = nI (m + 2) from nI_add m 2, show nI q - Int32.ofNat m = nI (q - m) from pk_sub (by omega)]
  unfold mx sb_cap
  rw [if_neg h]
  by_cases h2 : q - m < m + 2
  · rw [if_pos (nI_lt h2 (by omega)), if_neg (by omega), show 2 * m + 2 = m + (m + 2) by omega]
    exact nI_add m (m + 2)
  · rw [if_neg (nI_nlt (by omega) (by omega))]
    rw [show Int32.ofNat m + nI (q - m) = nI (m + (q - m)) from nI_add m (q - m)]
    by_cases h3 : 2 * m + 2 < q
    · rw [if_pos h3]; exact congrArg nI (by omega)
    · rw [if_neg h3]; exact congrArg nI (by omega)

end JDK0
