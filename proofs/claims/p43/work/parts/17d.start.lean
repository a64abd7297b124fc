theorem uin_J0 : ∀ w ∈ u_ws RJ0 TJ0 4, w ∈ TW := by decide +kernel
theorem va_eqw {args : Array Value} {s : State} {t u : Term} {a : Nat} (h : (Cond.eq t u).before args s = true) (ht : t.eval args s none [] s = some (.ref a)) : u.eval args s none [] s = some (.ref a) := by
  cases hu : u.eval args s none [] s with
  | none => simp [Cond.before, Cond.holds, Cond.value, ht, hu] at h
  | some w =>
    simp only [Cond.before, Cond.holds, Cond.value, ht, hu] at h
    cases w <;> simp_all
theorem sel_priv {C : String} {y y2 : MethodName} {s : State} {args : Array Value} (hy : y.cls ≠ "java/lang/invoke/MethodHandle" ∧ y.cls ≠ "java/lang/invoke/VarHandle") (hcls : y2.cls = y.cls) (hsel2 : (Cond.selects C y2 y2).before args s = true) (hinst2 : (Cond.instanceMethod y2).before args s = true) (hpriv : (Cond.privateMethod y).before args s = true) (hinst : (Cond.instanceMethod y).before args s = true) : (Cond.selects C y y).before args s = true := by
  obtain ⟨mk, methM, hnamed, hmethM, -, -⟩ := Cond.instanceMethod_spec hinst
  obtain ⟨mk2, methM2, hnamed2, hmethM2, -, -⟩ := Cond.instanceMethod_spec hinst2
  have hfound := State.methodFound?_of_named hnamed hy
  have hcls2 : mk2.cls = mk.cls := Option.some.inj ((findClass_of_methodNamed hnamed2).symm.trans (by rw [hcls]; exact findClass_of_methodNamed hnamed))
  have hsel : ∀ c, selectMethod {} s.vm c mk = .method mk := fun c => selectMethod_private hmethM (Cond.privateMethod_at hpriv mk methM hnamed hmethM)
  have h2 := hsel2
  simp only [Cond.before, Cond.holds, Cond.value, hnamed2] at h2
  cases hc : s.vm.findClass C with
  | none => rw [hc] at h2; simp at h2
  | some c =>
    rw [hc] at h2
    cases hf2 : s.methodFound? y2.cls y2.name y2.desc with
    | none => rw [hf2] at h2; simp at h2
    | some r =>
      rw [hf2] at h2
      simp only [Cond.before, Cond.holds, Cond.value, hc, hfound, hnamed, hsel]
      simp at h2 ⊢
      split at h2
      · simp at h2
        rw [← hcls2]
        exact h2.2
      · simp at h2
/-- the constants' addresses -/
def eTf (ad adK adV adL adW : Nat → Nat) (a b c d : Nat) (k : Nat) : Nat := if k < 9 then ad k else if k < 10 then 0 else if k < 19 then adK (k - 10) else if k < 20 then 0 else if k < 29 then adV (k - 20) else if k < 31 then a else if k = 31 then b else if k = 32 then c else if k < 40 then d else if k < 45 then adL (k - 40) else adW (k - 45)
theorem eX_start {s : State} {b : Nat} (hts : ∀ w ∈ lw_tbl, w.before #[Value.ref b] s = true) : eX s := by
  exact ⟨va_AO.of (hts _ tl_a4), va_AO.of (hts _ tl_a5), va_AO.of (hts _ tl_a6), va_Nw.of rfl (hts _ tl_n2), va_Nw.of rfl (hts _ tl_n3)⟩
/-- the law's own texts -/
def lY (T : Nat → Nat) : List SY := (List.range 5).map (fun i => (T (40 + i), T (45 + i), lLen.getD i 0, fun j => (lByt.getD i []).getD j 0))
theorem ne_dir {x : Nat → Term} {n : Nat} {d : List Nat} {i j : Nat} {args : Array Value} {s : State} (h : ∀ w ∈ gFL, w.before args s = true) (k : (if d.getD (n * i + j) 0 = 1 then Cond.not (.eq (x i) (x j)) else Cond.not (.eq (x j) (x i))) ∈ gFL) : (Cond.not (Cond.eq (x i) (x j))).before args s = true ∨ (Cond.not (Cond.eq (x j) (x i))).before args s = true := by
  split at k
  · exact Or.inl (h _ k)
  · exact Or.inr (h _ k)
theorem eF_start {s : State} {b L : Nat} {xs : Nat → Int32} (hL : L < 2 ^ 31) (hX0 : va_X b L xs s s.heap) (hts : ∀ w ∈ lw_tbl, w.before #[Value.ref b] s = true) (hgv : (Jvm.Cond.and given_1 narrow_1).before #[Value.ref b] s = true) : ∃ T : Nat → Nat, ∀ (D : va_G) (C : Nat → ClassId) (A : Nat → Nat) (w : Nat), eF (D, C, A, s.heap.size, T, [], lY T, [(b, L, xs)], w) s := by
  have hf : ∀ w ∈ gFL, w.before #[Value.ref b] s = true := flat_of_before _ hgv
  have hA : ∀ a : Nat, a < s.heap.size → ¬ (fun q => s.heap.size ≤ q ∧ q ∉ ([] : List Nat)) a := fun a h z => absurd z.1 (Nat.not_le.mpr h)
  obtain ⟨adK, adV, hS, hSe⟩ := vk_Sof (args := #[Value.ref b]) (s := s) (N := 9) (tm := tmS) (len := wLen) (byt := wByt) (A := fun q => s.heap.size ≤ q ∧ q ∉ ([] : List Nat)) (by decide +kernel) (fun i hi => hf _ (g_at (m_sx i hi))) (fun i hi => hf _ (g_at (m_sc i hi))) (fun i hi => hf _ (g_at (m_sa i hi))) (fun i hi => hf _ (g_at (m_sl i hi))) (fun i hi j hj => hf _ (g_at (m_se i hi j hj))) (fun i j hi hj hn => (Nat.lt_or_gt_of_ne hn).elim (fun z => ne_dir hf (g_at (m_sn i hi j hj z))) (fun z => (ne_dir hf (g_at (m_sn j hj i hi z))).symm)) hA
  obtain ⟨adL, adW, hZ, hZe⟩ := vk_Sof (args := #[Value.ref b]) (s := s) (N := 5) (tm := tmL) (len := lLen) (byt := lByt) (A := fun q => s.heap.size ≤ q ∧ q ∉ ([] : List Nat)) (by decide +kernel) (fun i hi => hf _ (g_at (m_zx i hi))) (fun i hi => hf _ (g_at (m_zc i hi))) (fun i hi => hf _ (g_at (m_za i hi))) (fun i hi => hf _ (g_at (m_zl i hi))) (fun i hi j hj => hf _ (g_at (m_ze i hi j hj))) (fun i j hi hj hn => (Nat.lt_or_gt_of_ne hn).elim (fun z => ne_dir hf (g_at (m_zn i hi j hj z))) (fun z => (ne_dir hf (g_at (m_zn j hj i hi z))).symm)) hA
  obtain ⟨ad, hE, hEe⟩ := va_Enof2 (args := #[Value.ref b]) (s := s) (E := "LogRaft$Word") (d := "LLogRaft$Word;") (nm := wNm) (F := [("java/lang/Enum", "ordinal", "I", [0, 1, 2, 3, 4, 5, 6, 7, 8])]) (A := fun q => s.heap.size ≤ q ∧ q ∉ ([] : List Nat)) (fun i hi => hts _ (List.mem_of_getElem? (t_l1 i hi))) (hts _ tl_iw) (fun i hi => hf _ (g_at (m_ex i hi))) (fun q hq i hi => by rw [List.mem_singleton.mp hq]; exact hf _ (g_at (m_eo i hi))) (fun i j hi hj hn => (Nat.lt_or_gt_of_ne hn).elim (fun z => ne_dir (x := tmE) hf (g_at (m_en i hi j hj z))) (fun z => (ne_dir (x := tmE) hf (g_at (m_en j hj i hi z))).symm)) hA
  have hX : va_Ef 9 "LogRaft$Word" "signs" "Ljava/lang/String;" (fun i => .ref (adK i)) ad (fun q => s.heap.size ≤ q ∧ q ∉ ([] : List Nat)) s s.heap := va_Efof (nm := wNm) (tm := tmS) hEe (fun i hi => hf _ (g_at (m_es i hi))) (fun i hi => hSe i hi) hA
  obtain ⟨tw, hw1, hw2⟩ := va_Tof (args := #[Value.ref b]) (s := s) (tm := .static "LogRaft" "WORDS" "[LLogRaft$Word;") (N := 9) (f := fun j => .ref (ad j)) (A := fun q => s.heap.size ≤ q ∧ q ∉ ([] : List Nat)) (by decide) (hf _ (g_at m_wa)) (va_eqt (hf _ (g_at m_wl))) (fun j hj => va_eqv (hf _ (g_at (m_we j hj))) (hEe j hj)) hA
  obtain ⟨tm, hm1, hm2⟩ := va_Tof (args := #[Value.ref b]) (s := s) (tm := .static "LogRaft$1" "$SwitchMap$LogRaft$Word" "[I") (N := 9) (f := fun j => .int (Int32.ofNat (j + 1))) (A := fun q => s.heap.size ≤ q ∧ q ∉ ([] : List Nat)) (by decide) (hf _ (g_at m_ma)) (va_eqt (hf _ (g_at m_ml))) (fun j hj => va_eqt (hf _ (g_at (m_me j hj)))) hA
  obtain ⟨to, ho1, ho2⟩ := va_Tof (args := #[Value.ref b]) (s := s) (tm := .static "java/lang/Integer" "DigitOnes" "[B") (N := 100) (f := fun j => .int (dgO j)) (A := fun q => s.heap.size ≤ q ∧ q ∉ ([] : List Nat)) (by decide) (hf _ (g_at m_oa)) (va_eqt (hf _ (g_at m_ol))) (fun j hj => va_eqt (hf _ (va_run m_oe j hj))) hA
  obtain ⟨tt, ht1, ht2⟩ := va_Tof (args := #[Value.ref b]) (s := s) (tm := .static "java/lang/Integer" "DigitTens" "[B") (N := 100) (f := fun j => .int (dgT j)) (A := fun q => s.heap.size ≤ q ∧ q ∉ ([] : List Nat)) (by decide) (hf _ (g_at m_ta)) (va_eqt (hf _ (g_at m_tl))) (fun j hj => va_eqt (hf _ (va_run m_te j hj))) hA
  generalize hT0 : eTf ad adK adV adL adW tm tw to tt = T
  have e1 : ∀ i, i < 9 → T i = ad i := fun i hi => by rw [← hT0]; exact if_pos hi
  have e2 : ∀ i, i < 9 → T (10 + i) = adK i := fun i hi => by
    rw [← hT0]
    unfold eTf
    rw [if_neg (by omega), if_neg (by omega), if_pos (by omega), Nat.add_sub_cancel_left]
  have e3 : ∀ i, i < 9 → T (20 + i) = adV i := fun i hi => by
    rw [← hT0]
    unfold eTf
    rw [if_neg (by omega), if_neg (by omega), if_neg (by omega), if_neg (by omega), if_pos (by omega), Nat.add_sub_cancel_left]
  have e4 : ∀ i, i < 5 → T (40 + i) = adL i := fun i hi => by
    rw [← hT0]
    unfold eTf
    rw [if_neg (by omega), if_neg (by omega), if_neg (by omega), if_neg (by omega), if_neg (by omega), if_neg (by omega), if_neg (by omega), if_neg (by omega), if_neg (by omega), if_pos (by omega), Nat.add_sub_cancel_left]
  have e5 : ∀ i, i < 5 → T (45 + i) = adW i := fun i hi => by
    rw [← hT0]
    unfold eTf
    rw [if_neg (by omega), if_neg (by omega), if_neg (by omega), if_neg (by omega), if_neg (by omega), if_neg (by omega), if_neg (by omega), if_neg (by omega), if_neg (by omega), if_neg (by omega), Nat.add_sub_cancel_left]
  have e30 : T 30 = tm := by rw [← hT0]; rfl
  have e31 : T 31 = tw := by rw [← hT0]; rfl
  have e32 : T 32 = to := by rw [← hT0]; rfl
  have e33 : T 33 = tt := by rw [← hT0]; rfl
  refine ⟨T, fun D C A w => ?_⟩
  refine ⟨⟨fun i hi => ?_, fun i j hi hj he => ?_⟩, fun i hi => ?_, ⟨fun i hi => ?_, fun i j hi hj he => ?_⟩, fun i hi => ?_, ?_, ?_, ?_, ?_, va_Zof (hts _ tl_sc) (hts _ tl_is) (va_eqi (hf _ (g_at m_c1))) hA, ?_, ?_, ?_, ?_, ?_, va_Nw.of rfl (hts _ tl_nf), va_Nw.of rfl (hts _ tl_n1), va_Nw.of rfl (hts _ tl_de), fun q hq => ?_, fun q hq => ?_, eX_start hts⟩
  · show va_Z _ _ _ (.ref (T i)) _ _ _ ∧ va_O _ (T i) _ _ _ ∧ ∀ q ∈ _, va_OF _ _ _ _ (T i) _ _ _
    rw [e1 i hi]
    exact hE.1 i hi
  · exact hE.2 i j hi hj (by rw [← e1 i hi, ← e1 j hj]; exact he)
  · show va_OF _ _ _ (.ref (T (10 + i))) (T i) _ _ _
    rw [e2 i hi, e1 i hi]
    exact hX i hi
  · show va_O _ (T (10 + i)) _ _ _ ∧ va_OF _ _ _ _ (T (10 + i)) _ _ _ ∧ va_OF _ _ _ (.ref (T (20 + i))) (T (10 + i)) _ _ _ ∧ va_T _ (T (20 + i)) _ _ _ _ _
    rw [e2 i hi, e3 i hi]
    exact hS.1 i hi
  · exact hS.2 i j hi hj (by rw [← e2 i hi, ← e2 j hj]; exact he)
  · show vk_R _ _ _ (T (40 + i)) _
    rw [e4 i hi]
    exact vk_R.of (hts _ (List.mem_of_getElem? (t_l2 i hi))) (hZe i hi)
  · show va_Z _ _ _ (.ref (T 31)) _ _ _
    rw [e31]
    exact va_Zref (hts _ tl_sw) (hts _ tl_il) hw1 hA
  · show va_T _ (T 31) _ _ _ _ _
    rw [e31]
    obtain ⟨cell, h1, h2, h3, h4, h5, h6, h7⟩ := hw2
    refine ⟨cell, h1, h2, h3, h4, h5, fun j hj => ?_, h7⟩
    show cell.slots[j]? = some (Value.ref (T j))
    rw [e1 j hj]
    exact h6 j hj
  · show va_Z _ _ _ (.ref (T 30)) _ _ _
    rw [e30]
    exact va_Zref (hts _ tl_s1) (hts _ tl_i1) hm1 hA
  · show va_T _ (T 30) _ _ _ _ _
    rw [e30]
    exact hm2
  · show va_Z _ _ _ (.ref (T 32)) _ _ _
    rw [e32]
    exact va_Zref (hts _ tl_so) (hts _ tl_ii) ho1 hA
  · show va_T _ (T 32) _ _ _ _ _
    rw [e32]
    exact ho2
  · show va_Z _ _ _ (.ref (T 33)) _ _ _
    rw [e33]
    exact va_Zref (hts _ tl_st) (hts _ tl_ii) ht1 hA
  · show va_T _ (T 33) _ _ _ _ _
    rw [e33]
    exact ht2
  · rcases va_Zqof (A := fun q => s.heap.size ≤ q ∧ q ∉ ([] : List Nat)) (hts _ tl_sp) (hts _ tl_ip) (hf _ (g_at m_c2)) hA with h | ⟨t, h⟩
    · exact ⟨.null, Or.inr ⟨rfl, h⟩⟩
    · exact ⟨.ref t, Or.inl ⟨⟨t, rfl⟩, h⟩⟩
  · obtain ⟨i, hi, rfl⟩ := List.mem_map.mp hq
    have hi5 := List.mem_range.mp hi
    show va_O _ (T (40 + i)) _ _ _ ∧ va_OF _ _ _ _ (T (40 + i)) _ _ _ ∧ va_OF _ _ _ (.ref (T (45 + i))) (T (40 + i)) _ _ _ ∧ va_T _ (T (45 + i)) _ _ _ _ _
    rw [e4 i hi5, e5 i hi5]
    exact hZ.1 i hi5
  · obtain rfl := List.mem_singleton.mp hq
    obtain ⟨scr, h1, h2, h3, h4, h5⟩ := hX0
    exact ⟨scr, h1, h2, h3, by rw [h4]; exact Nat.le_refl _, by rw [h4], h5, hA b (Array.getElem?_eq_some_iff.mp h1).1⟩
theorem tw_start {s : State} {b : Nat} (hts : ∀ w ∈ lw_tbl, w.before #[Value.ref b] s = true) : ∀ w ∈ TW, w.before #[Value.ref b] s = true := by
  intro w hw
  rcases List.mem_append.mp hw with h | h
  · have h2 : w = Cond.selects RJ4 yJ5_newCapacity_0f7a4 yJ5_newCapacity_0f7a4 ∨ w = Cond.selects RJ4 yJ5_ensureCapacityInternal_d00df yJ5_ensureCapacityInternal_d00df ∨ w = Cond.selects RJ4 yJ5_putStringAt_47b60 yJ5_putStringAt_47b60 ∨ w = Cond.selects RJ4 yJ5_inflateIfNeededFor_a7421 yJ5_inflateIfNeededFor_a7421 := by
      simpa [twX] using h
    rcases h2 with rfl | rfl | rfl | rfl
    rotate_left 2
    · exact sel_priv (y2 := yJ5_isLatin1_aae02) (by decide) rfl (hts _ tl_p5) (hts _ tl_p6) (hts _ tl_p7) (hts _ tl_p8)
    · exact sel_priv (y2 := yJ5_isLatin1_aae02) (by decide) rfl (hts _ tl_p5) (hts _ tl_p6) (hts _ tl_p9) (hts _ tl_p10)
    · exact sel_priv (y2 := yJ5_isLatin1_aae02) (by decide) rfl (hts _ tl_p5) (hts _ tl_p6) (hts _ tl_p1) (hts _ tl_p2)
    · exact sel_priv (y2 := yJ5_isLatin1_aae02) (by decide) rfl (hts _ tl_p5) (hts _ tl_p6) (hts _ tl_p3) (hts _ tl_p4)
  · exact hts w (List.mem_filter.mp h).1
theorem ar_prim {s : State} {args : Array Value} {ty : FieldType} (hp : refKind ty = false) (hra : ∀ cA : ClassId, s.vm.findClass ("[" ++ ty.toString) = some cA → va_RA s cA ty) (h : (Cond.arrayClass ty).before args s = true) : ∃ cA : ClassId, ArrOfT s cA ty ∧ va_RA s cA ty := by
  obtain ⟨c, k, comp, h1, h2, h3⟩ := Cond.arrayClass_spec h
  exact ⟨c, fun n z => ⟨(fun k h => (by cases h)), k, h2, comp, h3⟩, hra c h1⟩
theorem ar_obj {s : State} {args : Array Value} {C : String} (h : (Cond.arrayOver (.object C)).before args s = true) : ∃ cA : ClassId, ArrOfT s cA (.object C) ∧ va_RA s cA (.object C) := by
  obtain ⟨comp, c, k, h1, h2, h3, h4, h5⟩ := Cond.arrayOver_spec h
  exact ⟨c, fun n z => ⟨(fun k h => (by cases h)), k, h3, comp, h4⟩, k, comp, h3, h4, h1, h5⟩
theorem vK_start {s : State} {b : Nat} (hts : ∀ w ∈ lw_tbl, w.before #[Value.ref b] s = true) : ∃ (D : va_G) (C : Nat → ClassId), ∀ (A : Nat → Nat) (N : Nat) (T : Nat → Nat) (x : EXt), va_K D vwCl (tysOf (D, C, A, N, T, x)) s := by
  have hw := tw_start hts
  obtain ⟨c0, i0, h0⟩ := u_known (C := RJ4) (T := TJ4) (N := 4) (n := 4) hw uin_J4 (hts _ tl_cJ4)
  obtain ⟨c1, i1, h1⟩ := u_known (C := RX1) (T := TX1) (N := 3) (n := 3) hw uiz_X1 (hts _ tl_cX1)
  obtain ⟨c2, i2, h2⟩ := u_known (C := RX2) (T := TX2) (N := 12) (n := 12) hw uiz_X2 (hts _ tl_cX2)
  obtain ⟨c3, i3, h3⟩ := u_known (C := RX3) (T := TX3) (N := 3) (n := 3) hw uiz_X3 (hts _ tl_cX3)
  obtain ⟨c4, i4, h4⟩ := u_known (C := RX4) (T := TX4) (N := 10) (n := 10) hw uiz_X4 (hts _ tl_cX4)
  obtain ⟨c5, i5, h5⟩ := u_known (C := RX5) (T := TX5) (N := 4) (n := 4) hw uiz_X5 (hts _ tl_cX5)
  obtain ⟨c6, i6, h6⟩ := u_known (C := RX6) (T := TX6) (N := 4) (n := 4) hw uiz_X6 (hts _ tl_cX6)
  obtain ⟨c7, i7, h7⟩ := u_known (C := RX8) (T := TX8) (N := 9) (n := 9) hw uiz_X8 (hts _ tl_cX8)
  obtain ⟨c8, i8, h8⟩ := u_known (C := RJ0) (T := TJ0) (N := 4) (n := 4) hw uin_J0 (hts _ tl_cJ0)
  obtain ⟨a0, g0⟩ := ar_prim (s := s) (ty := .int) rfl (fun _ h => h) (hts _ tl_a0)
  obtain ⟨a1, g1⟩ := ar_prim (s := s) (ty := .char) rfl (fun _ h => h) (hts _ tl_a1)
  obtain ⟨a2, g2⟩ := ar_prim (s := s) (ty := .boolean) rfl (fun _ h => h) (hts _ tl_a2)
  obtain ⟨a3, g3⟩ := ar_prim (s := s) (ty := .byte) rfl (fun _ h => h) (hts _ tl_a3)
  obtain ⟨a4, g4⟩ := ar_obj (s := s) (C := "LogRaft$Driver") (hts _ tl_a4)
  obtain ⟨a5, g5⟩ := ar_obj (s := s) (C := "LogRaft$Raft") (hts _ tl_a5)
  obtain ⟨a6, g6⟩ := ar_obj (s := s) (C := "LogRaft$Command") (hts _ tl_a6)
  refine ⟨(fun k => [c0, c1, c2, c3, c4, c5, c6, c7, c8].getD k c0, fun k => [i0, i1, i2, i3, i4, i5, i6, i7, i8].getD k i0), fun k => [a0, a1, a2, a3, a4, a5, a6].getD k a0, fun A N T x => ⟨fun k q hq => ?_, fun k q hq => ?_⟩⟩
  · match k, hq with
    | 0, hq => cases hq; exact h0
    | 1, hq => cases hq; exact h1
    | 2, hq => cases hq; exact h2
    | 3, hq => cases hq; exact h3
    | 4, hq => cases hq; exact h4
    | 5, hq => cases hq; exact h5
    | 6, hq => cases hq; exact h6
    | 7, hq => cases hq; exact h7
    | 8, hq => cases hq; exact h8
    | n + 9, hq => simp [vwCl] at hq
  · match k, hq with
    | 0, hq => cases hq; exact g0
    | 1, hq => cases hq; exact g1
    | 2, hq => cases hq; exact g2
    | 3, hq => cases hq; exact g3
    | 4, hq => cases hq; exact g4
    | 5, hq => cases hq; exact g5
    | 6, hq => cases hq; exact g6
    | n + 7, hq => simp [tysOf] at hq
