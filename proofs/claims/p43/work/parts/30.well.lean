/-! ===== the pure part: questions, and isWell ===== -/
section P30
variable {a a' n i j x k M : Nat} {V V' : Nat → Int32} {S S' : Mem}
theorem acc_0 : g_X8_account S 0 = some (S 0 0) := by
  unfold g_X8_account f_X8_account_0
  rw [if_pos rfl]
theorem acc_1 : g_X8_account S 1 = some (S 0 1) := by
  unfold g_X8_account f_X8_account_0
  rw [if_neg (by decide), if_pos rfl]
theorem acc_2 (h1 : S 0 1 = nI n) (h5 : n ≤ 5) : g_X8_account S 2 = some (fg (· + ·) (abV (S 0)) 0 n) := by
  unfold g_X8_account f_X8_account_0
  rw [if_neg (by decide), if_neg (by decide), if_pos rfl, aboard_o h1 h5, bd1_s]
theorem acc_4 (h1 : S 0 1 = nI n) (h5 : n ≤ 5) : g_X8_account S 4 = some (fg mx (fun j => S 0 (33 + 34 * j + 1)) 0 n) := by
  unfold g_X8_account f_X8_account_0
  rw [if_neg (by decide), if_neg (by decide), if_neg (by decide), if_neg (by decide), if_pos rfl, gterm_o h1 h5, bd1_s]
theorem acc_5 : g_X8_account S 5 = some (S 0 2) := by
  unfold g_X8_account f_X8_account_0
  rw [if_neg (by decide), if_neg (by decide), if_neg (by decide), if_neg (by decide), if_neg (by decide), if_pos rfl]
theorem acc_6 : g_X8_account S 6 = some (S 0 3) := by
  unfold g_X8_account f_X8_account_0
  rw [if_neg (by decide), if_neg (by decide), if_neg (by decide), if_neg (by decide), if_neg (by decide), if_neg (by decide), if_pos rfl]
theorem acc_7 : g_X8_account S 7 = some (S 0 4) := by
  unfold g_X8_account f_X8_account_0
  rw [if_neg (by decide), if_neg (by decide), if_neg (by decide), if_neg (by decide), if_neg (by decide), if_neg (by decide), if_neg (by decide), if_pos rfl]
theorem acc_8 : g_X8_account S 8 = some (S 0 5) := by
  unfold g_X8_account f_X8_account_0
  rw [if_neg (by decide), if_neg (by decide), if_neg (by decide), if_neg (by decide), if_neg (by decide), if_neg (by decide), if_neg (by decide), if_neg (by decide), if_pos rfl]
theorem acc_9 : g_X8_account S 9 = some (S 0 6) := by
  unfold g_X8_account f_X8_account_0
  rw [if_neg (by decide), if_neg (by decide), if_neg (by decide), if_neg (by decide), if_neg (by decide), if_neg (by decide), if_neg (by decide), if_neg (by decide), if_neg (by decide), if_pos rfl]
theorem acc_10 : g_X8_account S 10 = some (S 0 7) := by
  unfold g_X8_account f_X8_account_0
  rw [if_neg (by decide), if_neg (by decide), if_neg (by decide), if_neg (by decide), if_neg (by decide), if_neg (by decide), if_neg (by decide), if_neg (by decide), if_neg (by decide), if_neg (by decide), if_pos rfl]
theorem acc_11 : g_X8_account S 11 = some (S 13 0) := by
  unfold g_X8_account f_X8_account_0
  rw [if_neg (by decide), if_neg (by decide), if_neg (by decide), if_neg (by decide), if_neg (by decide), if_neg (by decide), if_neg (by decide), if_neg (by decide), if_neg (by decide), if_neg (by decide), if_neg (by decide), if_pos rfl]
  rfl
theorem acc_12 : g_X8_account S 12 = some (S 11 3) := by
  unfold g_X8_account f_X8_account_0
  rw [if_neg (by decide), if_neg (by decide), if_neg (by decide), if_neg (by decide), if_neg (by decide), if_neg (by decide), if_neg (by decide), if_neg (by decide), if_neg (by decide), if_neg (by decide), if_neg (by decide), if_neg (by decide), if_pos rfl]
theorem drv_0 (H : RO a n (S 0)) (hi : i < n) : g_X8_driverOf S (nI i) 0 = some (S 0 (33 + 34 * i)) := by
  have h5 := H.le5
  unfold g_X8_driverOf f_X8_driverOf_0 f_X8_driverOf_131
  rw [has_1 H.cnt h5 hi, bd1_s, if_neg (by decide), ck_in (by omega) (by decide), if_pos rfl, nI_clamp (by omega)]
theorem drv_1 (H : RO a n (S 0)) (hi : i < n) : g_X8_driverOf S (nI i) 1 = some (S 0 (33 + 34 * i + 1)) := by
  have h5 := H.le5
  unfold g_X8_driverOf f_X8_driverOf_0 f_X8_driverOf_131
  rw [has_1 H.cnt h5 hi, bd1_s, if_neg (by decide), ck_in (by omega) (by decide), if_neg (by decide), if_pos rfl, nI_clamp (by omega)]
theorem drv_2 (H : RO a n (S 0)) (hi : i < n) : g_X8_driverOf S (nI i) 2 = some (S 0 (33 + 34 * i + 2)) := by
  have h5 := H.le5
  unfold g_X8_driverOf f_X8_driverOf_0 f_X8_driverOf_131
  rw [has_1 H.cnt h5 hi, bd1_s, if_neg (by decide), ck_in (by omega) (by decide), if_neg (by decide), if_neg (by decide), if_pos rfl, nI_clamp (by omega)]
theorem drv_3 (H : RO a n (S 0)) (hi : i < n) : g_X8_driverOf S (nI i) 3 = some (S 0 (33 + 34 * i + 3)) := by
  have h5 := H.le5
  unfold g_X8_driverOf f_X8_driverOf_0 f_X8_driverOf_131
  rw [has_1 H.cnt h5 hi, bd1_s, if_neg (by decide), ck_in (by omega) (by decide), if_neg (by decide), if_neg (by decide), if_neg (by decide), if_pos rfl, nI_clamp (by omega)]
theorem drv_4 (H : RO a n (S 0)) (hi : i < n) : g_X8_driverOf S (nI i) 4 = some (S 0 (33 + 34 * i + 4)) := by
  have h5 := H.le5
  unfold g_X8_driverOf f_X8_driverOf_0 f_X8_driverOf_131
  rw [has_1 H.cnt h5 hi, bd1_s, if_neg (by decide), ck_in (by omega) (by decide), if_neg (by decide), if_neg (by decide), if_neg (by decide), if_neg (by decide), if_pos rfl, nI_clamp (by omega)]
theorem drv_5 (H : RO a n (S 0)) (hi : i < n) : g_X8_driverOf S (nI i) 5 = some (S 0 (33 + 34 * i + 5)) := by
  have h5 := H.le5
  unfold g_X8_driverOf f_X8_driverOf_0 f_X8_driverOf_131
  rw [has_1 H.cnt h5 hi, bd1_s, if_neg (by decide), ck_in (by omega) (by decide), if_neg (by decide), if_neg (by decide), if_neg (by decide), if_neg (by decide), if_neg (by decide), if_pos rfl, nI_clamp (by omega)]
theorem drv_6 (H : RO a n (S 0)) (hi : i < n) : g_X8_driverOf S (nI i) 6 = some (S 0 (33 + 34 * i + 6)) := by
  have h5 := H.le5
  unfold g_X8_driverOf f_X8_driverOf_0 f_X8_driverOf_131
  rw [has_1 H.cnt h5 hi, bd1_s, if_neg (by decide), ck_in (by omega) (by decide), if_neg (by decide), if_neg (by decide), if_neg (by decide), if_neg (by decide), if_neg (by decide), if_neg (by decide), if_pos rfl, nI_clamp (by omega)]
theorem drv_7 (H : RO a n (S 0)) (hi : i < n) : g_X8_driverOf S (nI i) 7 = some (abV (S 0) i) := by
  have h5 := H.le5
  unfold g_X8_driverOf f_X8_driverOf_0 f_X8_driverOf_131
  rw [has_1 H.cnt h5 hi, bd1_s, if_neg (by decide), ck_in (by omega) (by decide), if_neg (by decide), if_neg (by decide), if_neg (by decide), if_neg (by decide), if_neg (by decide), if_neg (by decide), if_neg (by decide), if_pos rfl, nI_clamp (by omega)]
  unfold abV
  by_cases c : S 0 (33 + 34 * i + 7) = 0
  · rw [if_pos c, if_pos c]
  · rw [if_neg c, if_neg c]
theorem drv_8 (H : RO a n (S 0)) (hi : i < n) : g_X8_driverOf S (nI i) 8 = some (fg (· + ·) (rch (S 0) i) 0 n) := by
  have h5 := H.le5
  unfold g_X8_driverOf f_X8_driverOf_0 f_X8_driverOf_131
  rw [has_1 H.cnt h5 hi, bd1_s, if_neg (by decide), ck_in (by omega) (by decide), if_neg (by decide), if_neg (by decide), if_neg (by decide), if_neg (by decide), if_neg (by decide), if_neg (by decide), if_neg (by decide), if_neg (by decide), if_pos rfl, creach_o H hi, bd1_s]
theorem drv_9 (H : RO a n (S 0)) (hi : i < n) : g_X8_driverOf S (nI i) 9 = some (S 0 (33 + 34 * i + 8)) := by
  have h5 := H.le5
  unfold g_X8_driverOf f_X8_driverOf_0 f_X8_driverOf_131
  rw [has_1 H.cnt h5 hi, bd1_s, if_neg (by decide), ck_in (by omega) (by decide), if_neg (by decide), if_neg (by decide), if_neg (by decide), if_neg (by decide), if_neg (by decide), if_neg (by decide), if_neg (by decide), if_neg (by decide), if_neg (by decide), if_pos rfl, nI_clamp (by omega)]
theorem drv_10 (H : RO a n (S 0)) (hi : i < n) : g_X8_driverOf S (nI i) 10 = some (S 0 (33 + 34 * i + 9)) := by
  have h5 := H.le5
  unfold g_X8_driverOf f_X8_driverOf_0 f_X8_driverOf_131
  rw [has_1 H.cnt h5 hi, bd1_s, if_neg (by decide), ck_in (by omega) (by decide), if_neg (by decide), if_neg (by decide), if_neg (by decide), if_neg (by decide), if_neg (by decide), if_neg (by decide), if_neg (by decide), if_neg (by decide), if_neg (by decide), if_neg (by decide), if_pos rfl, nI_clamp (by omega)]
theorem hasL_o (H : RO a n (S 0)) (hi : i < n) {l : Nat} (hl : l < rL (S 0) i) : g_X4_hasLine S 0 (nI i) (nI (l + 1)) = some 1 := by
  have h5 := H.le5
  have l12 := H.l12 i hi
  unfold g_X4_hasLine f_X4_hasLine_0 f_X4_hasLine_30 f_X4_hasLine_31
  rw [has_1 H.cnt h5 hi, bd1_s, if_neg (by decide), show (1 : Int32) = nI 1 from rfl, nlt_le (by omega) (by omega), if_pos (by omega), ck_in (by omega) (by decide), nI_clamp (by omega), (H.many i hi).2, nlt_le (by omega) (by omega), if_pos (by omega)]
  rfl
theorem line_0 (H : RO a n (S 0)) (hi : i < n) {l : Nat} (hl : l < rL (S 0) i) : g_X8_lineOf S (nI i) (nI (l + 1)) 0 = some (S 0 (33 + 34 * i + 10 + l)) := by
  have h5 := H.le5
  have l12 := H.l12 i hi
  unfold g_X8_lineOf f_X8_lineOf_0 f_X8_lineOf_50
  rw [hasL_o H hi hl, bd1_s, if_neg (by decide), ck_in (by omega) (by decide), if_pos rfl, nI_m1 (by omega), ck_in (by omega) (by decide), nI_clamp (by omega), nI_clamp (by omega), Nat.add_sub_cancel]
theorem line_1 (H : RO a n (S 0)) (hi : i < n) {l : Nat} (hl : l < rL (S 0) i) : g_X8_lineOf S (nI i) (nI (l + 1)) 1 = some (S 0 (33 + 34 * i + 22 + l)) := by
  have h5 := H.le5
  have l12 := H.l12 i hi
  unfold g_X8_lineOf f_X8_lineOf_0 f_X8_lineOf_50
  rw [hasL_o H hi hl, bd1_s, if_neg (by decide), ck_in (by omega) (by decide), if_neg (by decide), nI_m1 (by omega), ck_in (by omega) (by decide), nI_clamp (by omega), nI_clamp (by omega), Nat.add_sub_cancel]
theorem reaches_o (H : RO a n (S 0)) (hi : i < n) (hj : j < n) : g_X8_reaches S (nI i) (nI j) = some (rch (S 0) i j) := by
  unfold g_X8_reaches f_X8_reaches_0 f_X8_reaches_38 f_X8_reaches_39
  rw [has_1 H.cnt H.le5 hi, bd1_s, if_neg (by decide), has_1 H.cnt H.le5 hj, bd1_s, if_neg (by decide), reach_o H hi hj, bd1_s]
  rcases rch_b (S 0) i j with c | c
  · rw [if_pos c, c]; rfl
  · rw [if_neg (by rw [c]; decide), c]; rfl
theorem longer_c (H : RO a n (S 0)) (hi : i < n) (hj : j < n) {p q : Int32} (p1 : g_X2_hasLongerTaleThan S 0 i 0 j = some p) (q1 : g_X2_hasLongerTaleThan S 0 j 0 i = some q) : g_X8_longer S (nI i) (nI j) = some (if p = 0 then if q = 0 then 0 else -1 else 1) := by
  have h5 := H.le5
  unfold g_X8_longer f_X8_longer_0 f_X8_longer_80
  rw [has_1 H.cnt h5 hi, bd1_s, if_neg (by decide), has_1 H.cnt h5 hj, bd1_s, if_neg (by decide), ck_in (by omega) (by decide), ck_in (by omega) (by decide), nI_clamp (by omega), nI_clamp (by omega), p1, bd1_s]
  by_cases c : p = 0
  · rw [if_pos c, if_pos c, ck_in (by omega) (by decide), ck_in (by omega) (by decide), q1, bd1_s]
    by_cases c2 : q = 0
    · rw [if_pos c2, if_pos c2]
    · rw [if_neg c2, if_neg c2]
  · rw [if_neg c, if_neg c]
theorem longer_oo (H : RO a n (S 0)) (hi : i < n) (hj : j < n) : ∃ r r' : Int32, g_X8_longer S (nI i) (nI j) = some r ∧ g_X8_longer S (nI j) (nI i) = some r' ∧ r = -r' := by
  obtain ⟨p, hp, p1, p2⟩ := longer_o H hi hj
  obtain ⟨q, hq, q1, q2⟩ := longer_o H hj hi
  refine ⟨_, _, longer_c H hi hj p1 q1, longer_c H hj hi q1 p1, ?_⟩
  rcases hp with rfl | rfl
  · rcases hq with rfl | rfl <;> decide
  · rcases hq with rfl | rfl
    · decide
    · exfalso
      have u : ¬ rf_nl (rL (S 0)) (rE (S 0)) i j := fun z => absurd (p2.mpr z) (by decide)
      have w : ¬ rf_nl (rL (S 0)) (rE (S 0)) j i := fun z => absurd (q2.mpr z) (by decide)
      unfold rf_nl at u w
      omega
theorem alike_o (H : RO a n (S 0)) (hi : i < n) (hj : j < n) : ∃ r : Int32, g_X8_alike S (nI i) (nI j) = some r ∧ g_X8_alike S (nI j) (nI i) = some r := by
  have h5 := H.le5
  obtain ⟨p, p1, p2, p3, p4, p5⟩ := same_o (S := S) (k := 0) (i := i) (j := j) (H.many i hi) (H.many j hj)
  obtain ⟨q, q1, q2, q3, q4, q5⟩ := same_o (S := S) (k := 0) (i := j) (j := i) (H.many j hj) (H.many i hi)
  have : p = q := by
    rcases Nat.lt_trichotomy p q with h | h | h
    · exact absurd (q3 p h).symm (p4 (by omega) (by omega))
    · exact h
    · exact absurd (p3 q h).symm (q4 (by omega) (by omega))
  subst this
  unfold g_X8_alike f_X8_alike_0
  rw [has_1 H.cnt h5 hi, bd1_s, if_neg (by decide), has_1 H.cnt h5 hj, bd1_s, if_neg (by decide), ck_in (by omega) (by decide), ck_in (by omega) (by decide), nI_clamp (by omega), nI_clamp (by omega), p5, bd1_s, bd1_s, if_neg (by decide), bd1_s, if_neg (by decide), ck_in (by omega) (by decide), ck_in (by omega) (by decide), q5, bd1_s]
  exact ⟨_, rfl, rfl⟩
theorem w295 (H : RO a n (S 0)) (hi : i < n) (hj : j < n) {ih16 : (Int32 × Int32 × Int32 × Int32 × Int32 × Int32) → Option Int32} {ih223 : (Int32 × Int32) → Option Int32} {x1 x2 x3 x4 x5 x7 x8 x9 : Int32} : f_L_isWell_295 ih16 ih223 S x1 x2 x3 x4 x5 (nI i) x7 x8 x9 (nI j) 0 = ih223 (x9, nI j + 1) := by
  obtain ⟨r, r', l1, l2, l3⟩ := longer_oo H hi hj
  obtain ⟨q, q1, q2⟩ := alike_o H hi hj
  unfold f_L_isWell_295
  rw [if_pos rfl, reaches_o H hi hj, bd1_s, reaches_o H hj hi, bd1_s, if_pos (rch_s H hi hj), l1, bd1_s, l2, bd1_s, if_pos l3, q1, bd1_s, q2, bd1_s, if_pos rfl]
theorem w251 (H : RO a n (S 0)) (hi : i < n) (hj : j < n) {ih16 : (Int32 × Int32 × Int32 × Int32 × Int32 × Int32) → Option Int32} {ih223 : (Int32 × Int32) → Option Int32} {x1 x2 x3 x4 x5 t0 t1 : Int32} : f_L_isWell_251 ih16 ih223 S x1 x2 x3 x4 x5 (nI i) (S 0 (33 + 34 * i)) (S 0 (33 + 34 * i + 1)) (nI j) t0 t1 = ih223 (t1 + t0, nI j + 1) := by
  have h5 := H.le5
  unfold f_L_isWell_251 f_L_isWell_294
  rw [w295 H hi hj]
  by_cases c : j = i
  · rw [if_pos (by rw [c])]
  · rw [if_neg (fun z => c ((nI_eq (by omega) (by omega)).mp z))]
    by_cases c2 : S 0 (33 + 34 * i) = 2
    · rw [if_pos c2, drv_0 H hj, bd1_s]
      by_cases c3 : S 0 (33 + 34 * j) = 2
      · rw [if_pos c3, drv_1 H hj, bd1_s]
        by_cases c4 : S 0 (33 + 34 * j + 1) = S 0 (33 + 34 * i + 1)
        · exact absurd (H.iv.2.2.2.2.2.1 j hj i hi (role2 c3) (role2 c2) (congrArg Int32.toInt c4)) c
        · rw [if_neg c4]
      · rw [if_neg c3]
    · rw [if_neg c2]
theorem w223 {P : Int32 → Prop} (H : RO a n (S 0)) (hi : i < n) {ih16 : (Int32 × Int32 × Int32 × Int32 × Int32 × Int32) → Option Int32} {x1 x2 x3 x4 : Int32} (K : Gv P (ih16 (x1, x2, x3, x4, ldI (ldr (S 0) (i + 1)), nI i + 1))) : Gv P (f_L_isWell_223 ih16 S x1 x2 x3 x4 (ldI (ldr (S 0) i)) (nI i) (S 0 (33 + 34 * i)) (S 0 (33 + 34 * i + 1)) 0 0) := by
  have h5 := H.le5
  unfold f_L_isWell_223
  refine Gv_lp (fun d s => ∃ j, j + d = n ∧ s = (fg (· + ·) (rch (S 0) i) 0 j, nI j)) ?_ n 2000 _ (by omega) ⟨0, by omega, rfl⟩
  rintro d s f ⟨j, hd, rfl⟩ K2
  unfold f_L_isWell_223_b f_L_isWell_406 f_L_isWell_411 f_L_isWell_413
  rw [acc_1, bd1_s, H.cnt]
  dsimp only
  rw [ile (by omega) (by omega)]
  by_cases c : n ≤ j
  · have : j = n := by omega
    subst this
    rw [if_pos c, drv_8 H hi, bd1_s, if_pos rfl]
    by_cases c2 : S 0 (33 + 34 * i) = 2
    · rw [if_pos c2]
      cases e : ldr (S 0) i with
      | none =>
        have e2 : ldr (S 0) (i + 1) = some i := by
          show (if S 0 (33 + 34 * i) = 2 then _ else _) = _
          rw [if_pos c2, e]
        rw [e2] at K
        rw [show ldI none = -4 from rfl, if_pos (by decide)]
        exact K
      | some w =>
        have hw := ldr_lt e
        rw [show ldI (some w) = nI w from rfl, if_neg (nI_pos (by omega)), drv_1 H (by omega), bd1_s]
        by_cases c3 : S 0 (33 + 34 * i + 1) ≤ S 0 (33 + 34 * w + 1)
        · have e2 : ldr (S 0) (i + 1) = some w := by
            show (if S 0 (33 + 34 * i) = 2 then _ else _) = _
            rw [if_pos c2, e]
            exact if_pos c3
          rw [e2] at K
          rw [if_pos c3]
          exact K
        · have e2 : ldr (S 0) (i + 1) = some i := by
            show (if S 0 (33 + 34 * i) = 2 then _ else _) = _
            rw [if_pos c2, e]
            exact if_neg c3
          rw [e2] at K
          rw [if_neg c3]
          exact K
    · have e2 : ldr (S 0) (i + 1) = ldr (S 0) i := by
        show (if S 0 (33 + 34 * i) = 2 then _ else _) = _
        rw [if_neg c2]
      rw [e2] at K
      rw [if_neg c2]
      exact K
  · have hj : j < n := by omega
    rw [if_neg c, reaches_o H hi hj, bd1_s, w251 H hi hj, w251 H hi hj]
    have e : (if rch (S 0) i j = 0 then f (fg (· + ·) (rch (S 0) i) 0 j + 0, nI j + 1) else f (fg (· + ·) (rch (S 0) i) 0 j + 1, nI j + 1)) = f (fg (· + ·) (rch (S 0) i) 0 (j + 1), nI (j + 1)) := by
      rw [nI_p1]
      show _ = f (fg (· + ·) (rch (S 0) i) 0 j + rch (S 0) i j, nI (j + 1))
      rcases rch_b (S 0) i j with c2 | c2
      · rw [if_pos c2, c2]
      · rw [if_neg (by rw [c2]; decide), c2]
    rw [e]
    exact K2 (d - 1) _ (by omega) ⟨j + 1, by omega, rfl⟩
theorem w171 {P : Int32 → Prop} (H : RO a n (S 0)) (hi : i < n) {ih16 : (Int32 × Int32 × Int32 × Int32 × Int32 × Int32) → Option Int32} {x1 x2 x3 x4 : Int32} (K : Gv P (ih16 (x1, x2, x3, x4, ldI (ldr (S 0) (i + 1)), nI i + 1))) : Gv P (f_L_isWell_165 ih16 S x1 x2 x3 x4 (ldI (ldr (S 0) i)) (nI i) (S 0 (33 + 34 * i)) (S 0 (33 + 34 * i + 1)) 0) := by
  have h5 := H.le5
  have l12 := H.l12 i hi
  obtain ⟨-, t1, t2⟩ := H.iv.2.2.1 i hi
  unfold f_L_isWell_165 f_L_isWell_171
  refine Gv_lp (fun d s => ∃ l y, l + d = rL (S 0) i ∧ s = (y, nI (l + 1)) ∧ ((l = 0 ∧ y = 0) ∨ (0 < l ∧ y = S 0 (33 + 34 * i + 10 + (l - 1))))) ?_ (rL (S 0) i) 2000 _ (by omega) ⟨0, 0, by omega, rfl, Or.inl ⟨rfl, rfl⟩⟩
  rintro d s f ⟨l, y, hd, rfl, hy⟩ K2
  unfold f_L_isWell_171_b
  rw [drv_5 H hi, bd1_s, (H.many i hi).2]
  dsimp only
  rw [nlt_le (by omega) (by omega)]
  by_cases c : l < rL (S 0) i
  · rw [if_pos (by omega), line_0 H hi c, bd1_s]
    have g1 : ¬ S 0 (33 + 34 * i + 10 + l) < y := by
      rw [Int32.lt_iff_toInt_lt]
      rcases hy with ⟨rfl, rfl⟩ | ⟨h0, rfl⟩
      · have := (t1 0 c).1
        have e : (rE (S 0) i 0).1 = (S 0 (33 + 34 * i + 10 + 0)).toInt := rfl
        rw [Int32.toInt_zero]
        omega
      · have := t2 (l - 1) l (by omega) c
        have e : (rE (S 0) i l).1 = (S 0 (33 + 34 * i + 10 + l)).toInt := rfl
        have e2 : (rE (S 0) i (l - 1)).1 = (S 0 (33 + 34 * i + 10 + (l - 1))).toInt := rfl
        omega
    have g2 : S 0 (33 + 34 * i + 10 + l) ≤ S 0 (33 + 34 * i + 1) := Int32.le_iff_toInt_le.mpr (t1 l c).2
    rw [if_neg g1, if_pos g2, nI_p1]
    exact K2 (d - 1) _ (by omega) ⟨l + 1, _, by omega, rfl, Or.inr ⟨by omega, rfl⟩⟩
  · rw [if_neg (by omega)]
    exact w223 H hi K
theorem well_o (H : RO a n (S 0)) : g_L_isWell S = some 1 := by
  have h5 := H.le5
  have R : Gv (fun y => y = (1 : Int32)) (g_L_isWell S) := by
    unfold g_L_isWell f_L_isWell_0 f_L_isWell_16
    refine Gv_lp (fun d s => ∃ i, i + d = n ∧ s = (fg (· + ·) (abV (S 0)) 0 i, smf (S 0) 8 i, smf (S 0) 9 i, fg mx (fun j => S 0 (33 + 34 * j + 6)) 0 i, ldI (ldr (S 0) i), nI i)) ?_ n 2000 _ (by omega) ⟨0, by omega, rfl⟩
    rintro d s f ⟨i, hd, rfl⟩ K
    unfold f_L_isWell_16_b
    rw [acc_1, bd1_s, H.cnt]
    dsimp only
    rw [ile (by omega) (by omega)]
    by_cases c : n ≤ i
    · have : i = n := by omega
      subst this
      unfold f_L_isWell_489
      rw [if_pos c, acc_2 H.cnt h5, bd1_s, if_pos rfl, acc_5, bd1_s, if_pos H.s8, acc_6, bd1_s, if_pos H.s9, agreed_o H.cnt h5, bd1_s, if_pos rfl, agreed2_o H, bd1_s, if_pos rfl, leader_o H, bd1_s, if_pos rfl, isSafe_o H, bd1_s, if_pos rfl]
      exact Gv.ret rfl
    · have hi : i < n := by omega
      have l12 := H.l12 i hi
      have cl := H.cle hi
      rw [if_neg c, drv_0 H hi, bd1_s, drv_1 H hi, bd1_s, drv_7 H hi, bd1_s, drv_9 H hi, bd1_s, drv_10 H hi, bd1_s, drv_6 H hi, bd1_s, bd1_s, drv_5 H hi, bd1_s, bd1_s, acc_4 H.cnt h5, bd1_s]
      have e1 : ¬ S 0 (33 + 34 * i + 5) < S 0 (33 + 34 * i + 6) := by
        rw [(H.many i hi).2, H.agr i hi]
        exact fun z => by have := (nI_ltI (by omega) (by omega)).mp z; omega
      have e2 : ¬ (12 : Int32) < S 0 (33 + 34 * i + 5) := by
        rw [(H.many i hi).2]
        exact fun z => by have := (nI_ltI (a := 12) (by omega) (by omega)).mp z; omega
      have e3 : ¬ fg mx (fun j => S 0 (33 + 34 * j + 1)) 0 n < S 0 (33 + 34 * i + 1) := Int32.not_lt.mpr (fg_mx (g := fun j => S 0 (33 + 34 * j + 1)) hi)
      rw [if_neg e1, if_neg e2, if_neg e3]
      have KK : Gv (fun y => y = (1 : Int32)) (f_L_isWell_165 f S (fg (· + ·) (abV (S 0)) 0 i + abV (S 0) i) (smf (S 0) 8 i + S 0 (33 + 34 * i + 8)) (smf (S 0) 9 i + S 0 (33 + 34 * i + 9)) (mx (fg mx (fun j => S 0 (33 + 34 * j + 6)) 0 i) (S 0 (33 + 34 * i + 6))) (ldI (ldr (S 0) i)) (nI i) (S 0 (33 + 34 * i)) (S 0 (33 + 34 * i + 1)) 0) := w171 H hi (K (d - 1) _ (by omega) ⟨i + 1, by omega, by rw [nI_p1]; rfl⟩)
      by_cases c2 : S 0 (33 + 34 * i) ≤ 0
      · rw [if_pos c2]
        exact KK
      · rw [if_neg c2]
        have r12 : S 0 (33 + 34 * i) = 1 ∨ S 0 (33 + 34 * i) = 2 := (H.role i hi).resolve_left (fun z => c2 (by rw [z]; exact Int32.le_refl _))
        have hv : S 0 (33 + 34 * i + 4) = nI i := by
          have := H.iv.1 i hi (by
            unfold rR
            rcases r12 with h | h
            · rw [h]; exact Or.inl rfl
            · rw [h]; exact Or.inr rfl)
          refine Int32.toInt_inj.mp ?_
          rw [nI_toInt (by omega)]
          exact this
        have ha : abV (S 0) i ≠ 0 := by
          unfold abV
          rw [if_neg]
          · decide
          · intro z
            rcases H.abd i hi with ⟨-, h⟩ | h
            · exact c2 (by rw [h]; exact Int32.le_refl _)
            · rw [h] at z; exact absurd z (by decide)
        rw [drv_4 H hi, bd1_s, if_pos hv, bd1_s, if_neg ha]
        exact KK
  obtain ⟨y, h, rfl⟩ := R
  exact h
end P30
