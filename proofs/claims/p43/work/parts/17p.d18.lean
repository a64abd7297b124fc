theorem mz_25 : Cond.initialized RL ∈ TW := tw_of (i := 25) (by decide +kernel) rfl
theorem mz_640 : Cond.methodLink RL 81 yJ4_append_15ec4 ∈ TW := tw_of (i := 640) (by decide +kernel) rfl
theorem mz_641 : Cond.instanceMethod yJ4_append_15ec4 ∈ TW := tw_of (i := 641) (by decide +kernel) rfl
theorem mz_642 : Cond.selects RJ4 yJ4_append_15ec4 yJ4_append_15ec4 ∈ TW := tw_of (i := 642) (by decide +kernel) rfl
theorem mz_643 : Cond.code yJ4_append_15ec4 cJ4_append_15ec4 2 (some (.object "java/lang/StringBuilder")) ∈ TW := tw_of (i := 643) (by decide +kernel) rfl
theorem mz_756 : Cond.methodLink RL 84 yJ4_append_bf812 ∈ TW := tw_of (i := 756) (by decide +kernel) rfl
theorem mz_757 : Cond.instanceMethod yJ4_append_bf812 ∈ TW := tw_of (i := 757) (by decide +kernel) rfl
theorem mz_758 : Cond.selects RJ4 yJ4_append_bf812 yJ4_append_bf812 ∈ TW := tw_of (i := 758) (by decide +kernel) rfl
theorem mz_759 : Cond.code yJ4_append_bf812 cJ4_append_bf812 2 (some (.object "java/lang/StringBuilder")) ∈ TW := tw_of (i := 759) (by decide +kernel) rfl
theorem mz_783 : Cond.methodLink RL 91 yJ4_toString_0e30d ∈ TW := tw_of (i := 783) (by decide +kernel) rfl
theorem mz_784 : Cond.instanceMethod yJ4_toString_0e30d ∈ TW := tw_of (i := 784) (by decide +kernel) rfl
theorem mz_785 : Cond.selects RJ4 yJ4_toString_0e30d yJ4_toString_0e30d ∈ TW := tw_of (i := 785) (by decide +kernel) rfl
theorem mz_786 : Cond.code yJ4_toString_0e30d cJ4_toString_0e30d 1 (some (.object "java/lang/String")) ∈ TW := tw_of (i := 786) (by decide +kernel) rfl
theorem mz_838 : Cond.methodLink RL 99 yL_reads ∈ TW := tw_of (i := 838) (by decide +kernel) rfl
theorem mz_839 : Cond.static yL_reads ∈ TW := tw_of (i := 839) (by decide +kernel) rfl
theorem mz_840 : Cond.code yL_reads cL_reads 4 (some .int) ∈ TW := tw_of (i := 840) (by decide +kernel) rfl
theorem mY_L_81 : MV RL 81 yJ4_append_15ec4 cJ4_append_15ec4 2 (some (.object "java/lang/StringBuilder")) 1 := ⟨gi_cons mz_640 (gi_cons mz_641 (gi_cons mz_642 (gi_cons mz_33 (gi_cons mz_643 tw_good)))), by decide +kernel⟩
theorem mY_L_84 : MV RL 84 yJ4_append_bf812 cJ4_append_bf812 2 (some (.object "java/lang/StringBuilder")) 1 := ⟨gi_cons mz_756 (gi_cons mz_757 (gi_cons mz_758 (gi_cons mz_33 (gi_cons mz_759 tw_good)))), by decide +kernel⟩
theorem mY_L_91 : MV RL 91 yJ4_toString_0e30d cJ4_toString_0e30d 1 (some (.object "java/lang/String")) 0 := ⟨gi_cons mz_783 (gi_cons mz_784 (gi_cons mz_785 (gi_cons mz_33 (gi_cons mz_786 tw_good)))), by decide +kernel⟩
theorem mS_L_99 : MS RL 99 yL_reads cL_reads 4 (some .int) 2 := ⟨gi_cons mz_838 (gi_cons mz_839 (gi_cons mz_25 (gi_cons mz_840 tw_good))), by decide +kernel⟩
/-! ===== the text that the law writes, and has read ===== -/
section D18
variable {v : EV} {p : Program} {l : Launch} {e : Env} {R : Room} {s : State} {m : MethodId} {args : Array Value} {below : List Frame} {meth : Method} {c : Code} {own : String} {cc : ByteArray} {nL : Nat} {ret : Option FieldType} {Q : State → Prop} {qb : Nat} {Wd Wd1 : Mem → Heap → Prop} {W0 W1 : Heap → Prop} {Pq : Value → Heap → Prop} {da da1 : Nat → Nat} {S S1 : Mem} {pc : Nat} {lv : List (Nat × Value)} {st : List Value} {Y : va_W} {ys : List SY} {is : List IY}
theorem Mw.re {Wd' : Mem → Heap → Prop} {S' : Mem} (h : ∀ H, Wd S H → Wd' S' H) (k : Mw Wd' v p l e R s m args below meth c nL Q qb S' pc lv st) : Mw Wd v p l e R s m args below meth c nL Q qb S pc lv st := fun H locs ls cells slots hbu hW hS hl => k H locs ls cells slots hbu (h H hW) hS hl
theorem we_ex (k : ∀ da, Mw (fun _ H => Lw v (wsW v da S ++ Y) H) v p l e R s m args below meth c nL Q qb S pc lv st) : Mw (WE v Y) v p l e R s m args below meth c nL Q qb S pc lv st := fun H locs ls cells slots hbu hW hS hl => hW.elim fun da h => k da H locs ls cells slots hbu h hS hl
theorem no_i {α : Type} {P : α → Prop} : ∀ q ∈ ([] : List α), P q := fun _ h => absurd h List.not_mem_nil
theorem sf_of (hC : Cx v p l e s m args meth c own cc nL ret) {H : Heap} {ws : va_W} {k1 k2 s1 a2 n : Nat} {f : Nat → Int32} {h z : Value} (hW : Lw v (ws ++ Y) H) (e1 : Y[k1]? = some (s1, .inr (8, [.ref a2, .int 0, h, z]))) (e2 : Y[k2]? = some (a2, .inl (eC v 3, n, .inl f))) : SFh (eG (vz v (zsX Y) ys is)) (s1, a2, n, f) s H := by
  have hP := hW.1
  obtain ⟨r, h1, cell, q1, q2, q3, q4⟩ := hP _ _ (ap_in e1)
  have hr : r = (RJ0, TJ0, 4) := Option.some.inj (h1.symm.trans rfl)
  subst hr
  have hK := hC.2.2.2.2.2.1
  obtain ⟨hS, hfc, kC, hkC, hkind⟩ := hK.1 8 (RJ0, TJ0, 4) rfl
  obtain ⟨cf0, kf0, i0, f0, hi0, hs0⟩ := hS 0 (by decide)
  obtain ⟨cf1, kf1, i1, f1, hi1, hs1⟩ := hS 1 (by decide)
  have ha : H[a2]? = some (vp_cell (eC v 3) (n, .inl f)) := hP _ _ (ap_in e2)
  refine ⟨⟨cell, q1, by rw [q3]; rfl, by rw [q2]; exact hfc, nG_vz e1⟩, ⟨cf1, kf1, i1, f1, cell, hi1, (u_facts hfc hkC (u_lays hC.2.2.2.2.1 uin_J0 (by decide)) hi1).1, q1, (by rw [q3]; intro z9; cases z9), ?_, nG_vz e1⟩, ⟨cf0, kf0, i0, f0, cell, hi0, (u_facts hfc hkC (u_lays hC.2.2.2.2.1 uin_J0 (by decide)) hi0).1, q1, (by rw [q3]; intro z9; cases z9), ?_, nG_vz e1⟩, va_T_of ha (hK.2 3 _ (tysOf_at v (by decide))).1 (nG_vz e2)⟩
  · rw [hs1]; exact q4 1 (by decide)
  · rw [hs0]; exact q4 0 (by decide)
theorem gx_callB (hC : Cx v p l e s m args meth c own cc nL ret) {K q2 idx b : Nat} {y : MethodName} {cy : ByteArray} {nLy F L n : Nat} {rety : Option FieldType} {As rest : List Value} {rv : Option Value} (hb : b < 2) (hy : y.cls = RJ4) (hV : MV own idx y cy nLy rety n) (hY : ∀ H, WE v Y S H → ∀ q ∈ ys, SFh (eG (vz v (zsX Y) ys [])) q s H) (hM : ConG K (vz v (zsX Y) ys []) l y cy nLy rety F L (.ref (eA v (pB b)) :: As) (WD (vz v (zsX Y) ys []) S) rv (WD (vz v (zsX Y) ys []) S1)) (hn : As.length = n) (hst : st = As.reverse ++ .ref (eA v (pB b)) :: rest)
    (hq2 : qb = q2 + K) (hR : F + 1 ≤ R.frames ∧ 8 + (nLy + 11) + L ≤ R.locals) (hr : (rest.map fun v => v.category).sum ≤ 8) (hdg : decode cc pc = .ok (.invokevirtual idx, 3)) (k : Mw (WE v Y) v p l e R s m args below meth c nL Q q2 S1 (pc + 3) lv (rv.toList ++ rest)) : Mw (WE v Y) v p l e R s m args below meth c nL Q qb S pc lv st := by
  refine xg_run (X := Y) (ys := ys) (is := []) hq2 (fun H H1 hW hW1 hk => WD_WE hW hW1 hk) (rest := rest) (a := (Value.ref (eA v (pB b)) :: As).toArray) (fun H locs ls cells slots hbu hW hS hl => ?_) k
  obtain ⟨da, hL⟩ := id hW
  exact va_runV (As := As) (rest := rest) ⟨hC.1, hC.2.1, hC.2.2.1, hC.2.2.2.1, hC.2.2.2.2.1⟩ hM (cwV n hC.2.2.2.2.1 hV.1 rfl rfl rfl ⟨rfl, hV.2⟩ hR) ⟨pg_blind (stb_all _), by rw [hy]; exact va_recv hC.2.2.2.2.2.1 hL.1 (ci := 0) (q0 := pB b) (q := (RJ4, TJ4, 4)) rfl (ap_lf (by rw [wsW_at (pl_B hb), lay_B hb]; rfl)), fun U hU hU2 => pgx_of hC hL (fun h => ⟨da, h⟩) hS (hY H hW) no_i hU hU2⟩ rfl hn hl.1 hst (lv_room hr) hdg hbu
theorem p_callB (hC : Cx v p l e s m args meth c own cc nL ret) {K q2 idx b : Nat} {y : MethodName} {cy : ByteArray} {nLy F L n : Nat} {rety : Option FieldType} {As rest : List Value} (hb : b < 2) (hy : y.cls = RJ4) (hV : MV own idx y cy nLy rety n) (hM : ConP K v l y cy nLy rety F L (.ref (eA v (pB b)) :: As) (Lw v (wsW v da S ++ Y)) Pq) (hn : As.length = n) (hst : st = As.reverse ++ .ref (eA v (pB b)) :: rest)
    (hq2 : qb = q2 + K) (hR : F + 1 ≤ R.frames ∧ 8 + (nLy + 11) + L ≤ R.locals) (hr : (rest.map fun v => v.category).sum ≤ 8) (hdg : decode cc pc = .ok (.invokevirtual idx, 3)) (k : ∀ u, Mw (fun _ H => Pq u H) v p l e R s m args below meth c nL Q q2 S (pc + 3) lv (u :: rest)) : Mw (fun _ H => Lw v (wsW v da S ++ Y) H) v p l e R s m args below meth c nL Q qb S pc lv st := by
  refine p_run hq2 (rest := rest) (a := (Value.ref (eA v (pB b)) :: As).toArray) (fun H locs ls cells slots hbu hW hS hl => ?_) k
  exact va_runV (As := As) (rest := rest) ⟨hC.1, hC.2.1, hC.2.2.1, hC.2.2.2.1, hC.2.2.2.2.1⟩ hM (cwV n hC.2.2.2.2.1 hV.1 rfl rfl rfl ⟨rfl, hV.2⟩ hR) ⟨pg_blind (stb_all _), by rw [hy]; exact va_recv hC.2.2.2.2.2.1 hW.1 (ci := 0) (q0 := pB b) (q := (RJ4, TJ4, 4)) rfl (ap_lf (by rw [wsW_at (pl_B hb), lay_B hb]; rfl)), fun U hU hU2 => pg_of hC hW hS hU hU2⟩ rfl hn hl.1 hst (lv_room hr) hdg hbu
/-- a call of a static method, or of one of an object's, with cells beside -/
theorem x_callS (hC : Cx v p l e s m args meth c own cc nL ret) {K q2 idx : Nat} {y : MethodName} {cy : ByteArray} {nLy F L n : Nat} {rety : Option FieldType} {As rest : List Value} {rv : Option Value} (ys : List SY) (is : List IY) (hV : MS own idx y cy nLy rety n) (hY : ∀ H, WE v Y S H → ∀ q ∈ ys, SFh (eG (vz v (zsX Y) ys is)) q s H) (hI : ∀ H, WE v Y S H → ∀ q ∈ is, va_T .int q.1 q.2.1 (fun j => .int (q.2.2 j)) (eG (vz v (zsX Y) ys is)) s H) (hM : ConK K (vz v (zsX Y) ys is) l y cy nLy rety F L As S rv S1) (hn : As.length = n) (hst : st = As.reverse ++ rest)
    (hq2 : qb = q2 + K) (hR : F + 1 ≤ R.frames ∧ 8 + (nLy + 11) + L ≤ R.locals) (hr : (rest.map fun v => v.category).sum ≤ 8) (hdg : decode cc pc = .ok (.invokestatic idx, 3)) (k : Mw (WE v Y) v p l e R s m args below meth c nL Q q2 S1 (pc + 3) lv (rv.toList ++ rest)) : Mw (WE v Y) v p l e R s m args below meth c nL Q qb S pc lv st := by
  refine xg_run (X := Y) (ys := ys) (is := is) hq2 (fun H H1 hW hW1 hk => WD_WE hW hW1 hk) (rest := rest) (a := As.toArray) (fun H locs ls cells slots hbu hW hS hl => ?_) k
  obtain ⟨da, hL⟩ := id hW
  exact va_runS (As := As) (rest := rest) ⟨hC.1, hC.2.1, hC.2.2.1, hC.2.2.2.1, hC.2.2.2.2.1⟩ hM (va_cwS n hC.2.2.2.2.1 hV.1 rfl rfl rfl hV.2 hR) ⟨pe_blind (stb_all _), fun U hU hU2 => pgx_of hC hL (fun h => ⟨da, h⟩) hS (hY H hW) (hI H hW) hU hU2⟩ rfl hn hl.1 hst (lv_room hr) hdg hbu
theorem x_callV (hC : Cx v p l e s m args meth c own cc nL ret) {K q2 idx : Nat} {y : MethodName} {cy : ByteArray} {nLy F L n : Nat} {rety : Option FieldType} {As rest : List Value} {rv : Option Value} {q ci : Nat} {fs : List FS} {TT : u_T} {N : Nat} (hV : MV own idx y cy nLy rety n) (hM : ConK K (vz v (zsX Y) [] []) l y cy nLy rety F L (.ref (eA v q) :: As) S rv S1) (hq : q < layN) (hy : layF q = .inl (ci, fs)) (hc : vwCl[ci]? = some (y.cls, TT, N)) (hn : As.length = n) (hst : st = As.reverse ++ .ref (eA v q) :: rest)
    (hq2 : qb = q2 + K) (hR : F + 1 ≤ R.frames ∧ 8 + (nLy + 11) + L ≤ R.locals) (hr : (rest.map fun v => v.category).sum ≤ 8) (hdg : decode cc pc = .ok (.invokevirtual idx, 3)) (k : Mw (WE v Y) v p l e R s m args below meth c nL Q q2 S1 (pc + 3) lv (rv.toList ++ rest)) : Mw (WE v Y) v p l e R s m args below meth c nL Q qb S pc lv st := by
  refine xg_run (X := Y) (ys := []) (is := []) hq2 (fun H H1 hW hW1 hk => WD_WE hW hW1 hk) (rest := rest) (a := (Value.ref (eA v q) :: As).toArray) (fun H locs ls cells slots hbu hW hS hl => ?_) k
  obtain ⟨da, hL⟩ := id hW
  exact va_runV (As := As) (rest := rest) ⟨hC.1, hC.2.1, hC.2.2.1, hC.2.2.2.1, hC.2.2.2.2.1⟩ hM (cwV n hC.2.2.2.2.1 hV.1 rfl rfl rfl ⟨rfl, hV.2⟩ hR) ⟨pe_blind (stb_all _), va_recv hC.2.2.2.2.2.1 hL.1 (ci := ci) (q0 := q) hc (ap_lf (by rw [wsW_at hq, hy]; rfl)), fun U hU hU2 => pgx_of hC hL (fun h => ⟨da, h⟩) hS no_i no_i hU hU2⟩ rfl hn hl.1 hst (lv_room hr) hdg hbu
end D18
/-! the builder's state, in numbers -/
def yL (i : Nat) : SY := (0, 0, lLen.getD i 0, fun j => (lByt.getD i []).getD j 0)
def LY (v : EV) : Prop := ∀ i, i < 5 → (eT v (40 + i), eT v (45 + i), (yL i).2.2) ∈ eY v
def ypr (q : SY) : Prop := ∀ j, j < q.2.2.1 → 32 ≤ (q.2.2.2 j).toInt ∧ (q.2.2.2 j).toInt ≤ 126
theorem yL_ok : ∀ i, i < 5 → yfit (yL i) ∧ ypr (yL i) := by
  have h : ∀ i, i < 5 → ∀ j, j < (yL i).2.2.1 → (fits .byte (.int ((yL i).2.2.2 j)) = true) ∧ 32 ≤ ((yL i).2.2.2 j).toInt ∧ ((yL i).2.2.2 j).toInt ≤ 126 := by decide +kernel
  exact fun i hi => ⟨fun j hj => (h i hi j hj).1, fun j hj => (h i hi j hj).2⟩
def SBk (S : Mem) (k m : Nat) : Prop := S 15 0 = nI k ∧ capN S 15 = m ∧ k ≤ m ∧ m ≤ 34 ∧ fitB S 1 ∧ ∀ j, j < k → 32 ≤ (S 16 j).toInt ∧ (S 16 j).toInt ≤ 126
theorem sbk_0 {S : Mem} : SBk (fresh S) 0 16 := by
  refine ⟨rfl, (by show (16 : Int32).toNatClampNeg = 16; decide), by decide, by decide, fun j _ => ?_, fun j h => absurd h (Nat.not_lt_zero j)⟩
  show fits .byte (.int 0) = true
  decide
theorem ens_16 {S : Mem} {k q m : Nat} (h : SBk S k m) {j : Nat} (hj : j < m) : ens S 1 q 16 j = S 16 j := by
  unfold ens
  by_cases h1 : q ≤ capN S (13 + 2 * 1)
  · rw [if_pos h1]
  · rw [if_neg h1]
    have e : capN S (13 + 2 * 1) = m := h.2.1
    show va_cpy (S 16) (fun _ => 0) 0 0 (capN S (13 + 2 * 1)) j = S 16 j
    rw [e, pk_cpy_in (by omega) (by omega)]
    exact congrArg (S 16) (by omega)
theorem fits_0 : fits .byte (.int 0) = true := by decide
theorem ens_fit {S : Mem} {k q m : Nat} (h : SBk S k m) : ∀ j, fits .byte (.int (ens S 1 q 16 j)) = true ∨ m ≤ j ∧ q ≤ m := by
  intro j
  have e : capN S (13 + 2 * 1) = m := h.2.1
  by_cases h1 : q ≤ capN S (13 + 2 * 1)
  · by_cases h2 : j < m
    · left
      rw [ens_16 h h2]
      exact h.2.2.2.2.1 j (by show j < capN S 15; rw [h.2.1]; exact h2)
    · right
      omega
  · left
    unfold ens
    rw [if_neg h1]
    show fits .byte (.int (va_cpy (S 16) (fun _ => 0) 0 0 (capN S (13 + 2 * 1)) j)) = true
    by_cases h2 : j < m
    · rw [e, pk_cpy_in (by omega) (by omega), show 0 + (j - 0) = j by omega]
      exact h.2.2.2.2.1 j (by show j < capN S 15; rw [h.2.1]; exact h2)
    · rw [e, pk_cpy_out (by omega)]
      exact fits_0
theorem sbk_Y {S : Mem} {k m : Nat} {q : SY} (h : SBk S k m) (hm : sb_cap (k + q.2.2.1) m ≤ 34) (hf : yfit q) (hp : ypr q) : SBk (appY S 1 k q) (k + q.2.2.1) (sb_cap (k + q.2.2.1) m) := by
  have hc0 := h.2.1
  have e : capN S (13 + 2 * 1) = m := hc0
  have hcap : capN (ens S 1 (k + q.2.2.1)) (13 + 2 * 1) = sb_cap (k + q.2.2.1) m := by
    rw [ens_cap (by decide) (fun _ => by rw [e]; omega), e]
  have hk := sb_cap_ge (k + q.2.2.1) m
  have e15 : capN (appY S 1 k q) 15 = sb_cap (k + q.2.2.1) m := by
    rw [← hcap]
    rfl
  have e16 : ∀ j, appY S 1 k q 16 j = va_cpy q.2.2.2 (ens S 1 (k + q.2.2.1) 16) 0 k q.2.2.1 j := fun j => rfl
  refine ⟨rfl, e15, hk, hm, fun j hj => ?_, fun j hj => ?_⟩
  · have hj2 : j < sb_cap (k + q.2.2.1) m := by rw [← e15]; exact hj
    show fits .byte (.int (appY S 1 k q 16 j)) = true
    rw [e16]
    by_cases h1 : k ≤ j ∧ j < k + q.2.2.1
    · rw [pk_cpy_in h1.1 h1.2]
      exact hf _ (by omega)
    · rw [pk_cpy_out (by omega)]
      rcases ens_fit (q := k + q.2.2.1) h j with h2 | h2
      · exact h2
      · unfold sb_cap at hj2
        rw [if_pos h2.2] at hj2
        omega
  · rw [e16]
    by_cases h1 : k ≤ j
    · rw [pk_cpy_in h1 hj]
      exact hp _ (by omega)
    · rw [pk_cpy_out (by omega), ens_16 h (by have := h.2.2.1; omega)]
      exact h.2.2.2.2.2 j (by omega)
theorem fits_dg : ∀ w, w < 10 → fits .byte (.int (nI (48 + w % 10))) = true ∧ 32 ≤ (nI (48 + w % 10)).toInt ∧ (nI (48 + w % 10)).toInt ≤ 126 := by decide +kernel
theorem sbk_I {S : Mem} {k m w : Nat} (h : SBk S k m) (hw : w < 10) (hm : k + 1 ≤ m) : SBk (appI S 1 k w) (k + 1) m := by
  have hd : sb_dg w = 1 := if_pos hw
  have e : capN S (13 + 2 * 1) = m := h.2.1
  have e1 : ens S 1 (k + 1) = S := ens_0 (by rw [e]; exact hm)
  have e2 : appI S 1 k w = up (up S 16 k (nI (48 + w % 10))) 15 0 (nI (k + 1)) := by
    unfold appI gcs
    rw [hd, if_pos (by omega), if_pos hw, e1, show k + 1 - 1 = k by omega]
  rw [e2]
  have hb := fits_dg w hw
  have e3 : capN (up (up S 16 k (nI (48 + w % 10))) 15 0 (nI (k + 1))) 15 = m := by
    rw [← e]
    unfold capN
    rw [up_ne _ _ (by omega), up_ne _ _ (by omega)]
  refine ⟨up_same _ _ _ _, e3, hm, h.2.2.2.1, fun j hj => ?_, fun j hj => ?_⟩
  · show fits .byte (.int (up (up S 16 k (nI (48 + w % 10))) 15 0 (nI (k + 1)) 16 j)) = true
    rw [up_ne _ _ (by omega)]
    by_cases h1 : j = k
    · subst h1; rw [up_same]; exact hb.1
    · rw [up_ne _ _ (by omega)]
      exact h.2.2.2.2.1 j (by show j < capN S 15; rw [h.2.1]; have : j < m := by rw [← e3]; exact hj
                              exact this)
  · rw [up_ne _ _ (by omega)]
    by_cases h1 : j = k
    · subst h1; rw [up_same]; exact hb.2
    · rw [up_ne _ _ (by omega)]
      exact h.2.2.2.2.2 j (by omega)
/-- the text of a builder, as a text -/
def tx2 (S : Mem) (n : Nat) : SY := (0, 0, n, va_cpy (S 16) (fun _ => 0) 0 0 n)
theorem tx2_ok {S : Mem} {n m : Nat} (h : SBk S n m) : yfit (tx2 S n) ∧ ypr (tx2 S n) := by
  have e : ∀ j, j < n → (tx2 S n).2.2.2 j = S 16 j := fun j hj => by
    show va_cpy (S 16) (fun _ => 0) 0 0 n j = S 16 j
    rw [pk_cpy_in (by omega) (by omega)]
    exact congrArg (S 16) (by omega)
  refine ⟨fun j hj => ?_, fun j hj => ?_⟩
  · rw [e j hj]
    exact h.2.2.2.2.1 j (by show j < capN S 15; rw [h.2.1]; have := h.2.2.1; have : j < n := hj; omega)
  · rw [e j hj]
    exact h.2.2.2.2.2 j hj
def rm (x n : Int32) : Int32 := x - x / n * n
def tA (S : Mem) (a b : Nat) : Mem := appI (appY (appI (appY (fresh S) 1 0 (yL 0)) 1 5 a) 1 6 (yL 1)) 1 11 b
def tB (S : Mem) (b : Nat) : Mem := appI (appY (fresh S) 1 0 (yL 2)) 1 6 b
def tC (S : Mem) (b : Nat) : Mem := appY (appI (appY (fresh S) 1 0 (yL 3)) 1 7 b) 1 8 (yL 4)
theorem tA_ok {S : Mem} {a b : Nat} (ha : a < 10) (hb : b < 10) : SBk (tA S a b) 12 16 := sbk_I (sbk_Y (k := 6) (sbk_I (sbk_Y (k := 0) sbk_0 (by decide) (yL_ok 0 (by decide)).1 (yL_ok 0 (by decide)).2) ha (by decide)) (by decide) (yL_ok 1 (by decide)).1 (yL_ok 1 (by decide)).2) hb (by decide)
theorem tB_ok {S : Mem} {b : Nat} (hb : b < 10) : SBk (tB S b) 7 16 := sbk_I (sbk_Y (k := 0) sbk_0 (by decide) (yL_ok 2 (by decide)).1 (yL_ok 2 (by decide)).2) hb (by decide)
theorem tC_ok {S : Mem} {b : Nat} (hb : b < 10) : SBk (tC S b) 10 16 := sbk_Y (k := 8) (sbk_I (sbk_Y (k := 0) sbk_0 (by decide) (yL_ok 3 (by decide)).1 (yL_ok 3 (by decide)).2) hb (by decide)) (by decide) (yL_ok 4 (by decide)).1 (yL_ok 4 (by decide)).2
/-- the second half of the text: its builder, its length -/
def tD (S : Mem) (a3 a4 : Nat) : Mem × Nat := if a3 % 3 = 0 then (tB S (a4 % 3), 7) else (tC S (a4 % 5), 10)
theorem tD_ok {S : Mem} {a3 a4 : Nat} : SBk (tD S a3 a4).1 (tD S a3 a4).2 16 ∧ (tD S a3 a4).2 ≤ 10 ∧ 5 ≤ (tD S a3 a4).2 := by
  unfold tD
  split
  · exact ⟨tB_ok (by omega), (by show 7 ≤ 10; decide), (by show 5 ≤ 7; decide)⟩
  · exact ⟨tC_ok (by omega), (by show 10 ≤ 10; decide), (by show 5 ≤ 10; decide)⟩
def tE (S : Mem) (a3 a4 : Nat) : SY :=
  let A := tA S (1 + a3 % 4) (a4 % 6)
  let d := tD A a3 a4
  tx2 (appY A 1 12 (tx2 d.1 d.2)) (12 + d.2)
theorem tE_sbk {S : Mem} {a3 a4 : Nat} : SBk (appY (tA S (1 + a3 % 4) (a4 % 6)) 1 12 (tx2 (tD (tA S (1 + a3 % 4) (a4 % 6)) a3 a4).1 (tD (tA S (1 + a3 % 4) (a4 % 6)) a3 a4).2)) (12 + (tD (tA S (1 + a3 % 4) (a4 % 6)) a3 a4).2) 34 := by
  obtain ⟨h1, h2, h3⟩ := tD_ok (S := tA S (1 + a3 % 4) (a4 % 6)) (a3 := a3) (a4 := a4)
  obtain ⟨q1, q2⟩ := tx2_ok h1
  have e : sb_cap (12 + (tD (tA S (1 + a3 % 4) (a4 % 6)) a3 a4).2) 16 = 34 := by
    unfold sb_cap
    rw [if_neg (by omega)]
    split <;> omega
  have := sbk_Y (q := tx2 (tD (tA S (1 + a3 % 4) (a4 % 6)) a3 a4).1 (tD (tA S (1 + a3 % 4) (a4 % 6)) a3 a4).2) (tA_ok (S := S) (a := 1 + a3 % 4) (b := a4 % 6) (by omega) (by omega)) (show sb_cap (12 + (tD (tA S (1 + a3 % 4) (a4 % 6)) a3 a4).2) 16 ≤ 34 by rw [e]; exact Nat.le_refl _) q1 q2
  show SBk _ (12 + _) 34
  rw [← e]
  exact this
theorem tE_ok {S : Mem} {a3 a4 : Nat} : ypr (tE S a3 a4) ∧ yfit (tE S a3 a4) ∧ (tE S a3 a4).2.2.1 ≤ 22 := by
  obtain ⟨h1, h2, h3⟩ := tD_ok (S := tA S (1 + a3 % 4) (a4 % 6)) (a3 := a3) (a4 := a4)
  refine ⟨(tx2_ok tE_sbk).2, (tx2_ok tE_sbk).1, ?_⟩
  show 12 + (tD (tA S (1 + a3 % 4) (a4 % 6)) a3 a4).2 ≤ 22
  omega
def g_L_d18 (S : Mem) (x3 x4 : Int32) : Option (Int32 × Mem) := ck (decide (0 ≤ x3) && decide (0 ≤ x4)) (g_L_reads S (tE S x3.toNatClampNeg x4.toNatClampNeg))
/-! what the builder's contracts ask -/
theorem sb_a {S : Mem} {k m q : Nat} (h : SBk S k m) (hq : sb_cap q m ≤ 160) : ¬ q ≤ capN S (13 + 2 * 1) → sb_cap q (capN S (13 + 2 * 1)) ≤ 160 := fun _ => by
  have e : capN S (13 + 2 * 1) = m := h.2.1
  rw [e]; exact hq
theorem sb_m {S : Mem} {k m : Nat} (h : SBk S k m) : capN S (13 + 2 * 1) ≤ 160 := by
  have e : capN S (13 + 2 * 1) = m := h.2.1
  have := h.2.2.2.1
  omega
