/-! ===== the pure part: undo, save, restore, clear, trials ===== -/
section CHG2
variable {a a' n n' k k' i j m m' x y g q M N : Nat} {S T S' T' : Mem} {r : Int32}
theorem cp0 {d0 d2 : Nat} (hd : d0 ≠ d2) (h0 : 203 ≤ lenM d0) (h2 : 203 ≤ lenM d2) : ∃ T', g_X9_copies T d0 0 d2 0 = some T' ∧ Fr d2 T T' ∧ ∀ c, c < 203 → T' d2 c = T d0 c := by
  obtain ⟨T1, t1, tF, tA, -⟩ := copies_r (T := T) (d0 := d0) (d2 := d2) (o := 0) (p := 0) (Or.inl hd) (by omega) (by omega) (by unfold lenM; split <;> decide) (by unfold lenM; split <;> decide)
  exact ⟨T1, t1, tF, fun c hc => by have := tA c hc; rw [Nat.zero_add] at this; exact this⟩
/-- the relation where the raft of now alone, and the pasts, are told anew -/
theorem RZ.of {N' : Nat} (H : RZ N S T) (hN : N ≤ N') (hnow : RN N' (S' 0) (T' 20)) (hP : PS N' S' T') (h1 : ∀ b, b ≠ 0 → b ≠ 1 → b ≠ 11 → (b < 3 ∨ 12 ≤ b) → S' b = S b) (h2 : ∀ j, j ≠ 2 → j ≠ 3 → S' 11 j = S 11 j) (h3 : ∀ b, b ≠ 20 → b ≠ 21 → b ≠ 22 → b ≠ 24 → b ≠ 28 → T' b = T b) (h4 : ∀ j, j ≠ 5 → T' 28 j = T 28 j) : RZ N' S' T' := by
  refine ⟨hnow, ⟨?_, ?_⟩, hP, ?_, ?_, ?_, ?_⟩
  · rw [h2 0 (by decide) (by decide), h4 11 (by decide)]; exact H.sv.1
  · rw [h2 0 (by decide) (by decide), h1 2 (by decide) (by decide) (by decide) (by decide), h3 23 (by decide) (by decide) (by decide) (by decide) (by decide)]
    exact H.sv.2.imp id (fun z => ⟨z.1, z.2.mono hN⟩)
  · rw [h2 1 (by decide) (by decide), h4 10 (by decide)]; exact H.flt
  · unfold RS
    rw [h2 4 (by decide) (by decide), h2 5 (by decide) (by decide), h2 6 (by decide) (by decide), h2 7 (by decide) (by decide), h4 6 (by decide), h4 7 (by decide), h4 8 (by decide), h4 9 (by decide)]
    exact H.rs
  · exact H.tx.congr (h1 _ (by omega) (by omega) (by omega) (by omega)) (h1 _ (by omega) (by omega) (by omega) (by omega)) (h4 14 (by decide)) (h3 _ (by omega) (by omega) (by omega) (by omega) (by omega))
  · exact H.wr.congr (h1 _ (by omega) (by omega) (by omega) (by omega)) (h1 _ (by omega) (by omega) (by omega) (by omega)) (h4 19 (by decide)) (h3 _ (by omega) (by omega) (by omega) (by omega) (by omega))
theorem l_undo (H : RZ N S T) : LK N S T (g_X8_undo S) (g_X9_undo T) := by
  obtain ⟨nx, c, c1, c2, c3, c4, c5, c6⟩ := H.past
  unfold g_X8_undo f_X8_undo_0 g_X9_undo f_X9_undo_0
  rw [c4, c5]
  by_cases hc : c = 0
  · subst hc
    rw [if_pos (by decide), if_pos (by decide)]
    exact ⟨-4, S, T, rfl, rfl, H, Lo.rf, Hi.rf⟩
  · rw [if_neg (nI_ne0 (by omega) (by omega)), if_neg (nI_ne0 (by omega) (by omega)), nI_m1 (by omega), up_same, show (203 : Int32) * nI (c - 1) = nI (203 * (c - 1)) from pk_mul 203 (c - 1)]
    obtain ⟨T1, t1, tF, tA, -⟩ := copies_r (T := up T 28 5 (nI (c - 1))) (d0 := 24) (d2 := 20) (o := 203 * (c - 1)) (p := 0) (Or.inl (by decide)) (by rw [show lenM 24 = 1624 from rfl]; omega) (by decide) (by decide) (by decide)
    rw [show (0 : Int32) = nI 0 from rfl, t1, bd1_s]
    unfold g_X3_takeBack f_X3_takeBack_0
    rw [c3, show (8 : Int32) = nI 8 from rfl, nI_add, nI_m1 (by omega), pk_rem (by omega) (by decide) (by decide), up_same, ck_in (Nat.mod_lt _ (by decide)) (by decide), nI_clamp (by omega)]
    obtain ⟨a, n, ha, hR⟩ := c6 (c - 1) (by omega)
    rw [show 3 + (nx + 8 - c + (c - 1)) % 8 = 3 + (nx + 8 - 1) % 8 by omega] at hR
    obtain ⟨S1, s1, sF, sR⟩ := copyF (S := up S 11 2 (nI ((nx + 8 - 1) % 8))) (k := 0) (k' := 3 + (nx + 8 - 1) % 8) (by rw [up_oth _ _ _ (by omega)]; exact hR) (by omega)
    rw [s1, bd1_s, bd1_s]
    have e3 : S1 11 3 = nI c := by rw [sF 11 (by decide), up_ne _ _ (by decide), c4]
    rw [e3, nI_m1 (by omega)]
    have e5 : T1 28 5 = nI (c - 1) := by rw [tF 28 (by decide), up_same]
    rw [up_same, e5]
    refine ⟨nI (c - 1), _, _, rfl, rfl, ?_, ?_, ?_⟩
    · refine H.of (Nat.le_refl _) ?_ ⟨(nx + 8 - 1) % 8, c - 1, Nat.mod_lt _ (by decide), by omega, ?_, ?_, e5, ?_⟩ ?_ ?_ ?_ ?_
      · rw [up_oth _ _ _ (by decide)]
        refine RN.congV ⟨a, n, ha, sR⟩ (fun z hz => ?_)
        have := tA z hz
        rw [Nat.zero_add, up_oth _ _ _ (by decide)] at this
        exact this
      · rw [up_ne _ _ (by decide), sF 11 (by decide), up_same]
      · rw [up_same]
      · intro i hi
        rw [up_oth _ _ _ (by omega), sF _ (by omega), up_oth _ _ _ (by omega), tF 24 (by decide), up_oth _ _ _ (by decide)]
        have := c6 i (by omega)
        rw [show (nx + 8 - c + i) % 8 = ((nx + 8 - 1) % 8 + 8 - (c - 1) + i) % 8 by omega] at this
        exact this
      · intro b b0 b1 b2 b3
        rw [up_oth _ _ _ b2, sF b b0, up_oth _ _ _ b2]
      · intro j j2 j3
        rw [up_ne _ _ (by omega), sF 11 (by decide), up_ne _ _ (by omega)]
      · intro b b0 b1 b2 b3 b4
        rw [tF b b0, up_oth _ _ _ b4]
      · intro j hj
        rw [tF 28 (by decide), up_ne _ _ (by omega)]
    · intro b hb
      rw [up_oth _ _ _ (by omega), sF b (by omega), up_oth _ _ _ (by omega)]
    · intro b hb
      rw [tF b (by omega), up_oth _ _ _ (by omega)]
theorem l_save (H : RZ N S T) : LK N S T (g_X8_save S) (g_X9_save T) := by
  obtain ⟨a, n, ha, hR⟩ := H.now
  obtain ⟨S1, s1, sF, sR⟩ := copyF (S := S) (k := 2) (k' := 0) hR (by decide)
  obtain ⟨T1, t1, tF, tA⟩ := cp0 (T := T) (d0 := 20) (d2 := 23) (by decide) (by decide) (by decide)
  unfold g_X8_save f_X8_save_0 g_X9_save f_X9_save_0
  rw [s1, t1, bd1_s, bd1_s]
  have R1 : RW a n (S1 0) (T1 20) := by rw [sF 0 (by decide), tF 20 (by decide)]; exact hR
  rw [up_ne _ _ (by decide), up_ne _ _ (by decide), R1.hd 0 (by decide)]
  refine ⟨_, _, _, rfl, rfl, ⟨?_, ⟨?_, ?_⟩, ?_, ?_, ?_, ?_, ?_⟩, ?_, ?_⟩
  · rw [up_oth _ _ _ (by decide), up_oth _ _ _ (by decide)]
    exact ⟨a, n, ha, R1⟩
  · rw [up_same, up_same]
  · right
    rw [up_same, up_oth _ _ _ (by decide), up_oth _ _ _ (by decide)]
    exact ⟨rfl, RN.congV ⟨a, n, ha, sR⟩ tA⟩
  · refine H.past.congr ?_ ?_ ?_ ?_ ?_
    · rw [up_ne _ _ (by decide), sF 11 (by decide)]
    · rw [up_ne _ _ (by decide), sF 11 (by decide)]
    · rw [up_ne _ _ (by decide), tF 28 (by decide)]
    · intro b _ _; rw [up_oth _ _ _ (by omega), sF b (by omega)]
    · rw [up_oth _ _ _ (by decide), tF 24 (by decide)]
  · rw [up_ne _ _ (by decide), up_ne _ _ (by decide), sF 11 (by decide), tF 28 (by decide)]; exact H.flt
  · unfold RS
    simp (disch := omega) only [up_ne, sF 11 (by decide), tF 28 (by decide)]
    exact H.rs
  · refine H.tx.congr ?_ ?_ ?_ ?_
    · rw [up_oth _ _ _ (by omega), sF _ (by omega)]
    · rw [up_oth _ _ _ (by omega), sF _ (by omega)]
    · rw [up_ne _ _ (by omega), tF 28 (by decide)]
    · rw [up_oth _ _ _ (by omega), tF _ (by omega)]
  · refine H.wr.congr ?_ ?_ ?_ ?_
    · rw [up_oth _ _ _ (by omega), sF _ (by omega)]
    · rw [up_oth _ _ _ (by omega), sF _ (by omega)]
    · rw [up_ne _ _ (by omega), tF 28 (by decide)]
    · rw [up_oth _ _ _ (by omega), tF _ (by omega)]
  · intro b hb; rw [up_oth _ _ _ (by omega), sF b (by omega)]
  · intro b hb; rw [up_oth _ _ _ (by omega), tF b (by omega)]
theorem PS.zero (h : ∃ nx, nx < 8 ∧ S 11 2 = nI nx) (h3 : S 11 3 = 0) (h5 : T 28 5 = 0) : PS N S T := by
  obtain ⟨nx, h1, h2⟩ := h
  exact ⟨nx, 0, h1, by omega, h2, h3, h5, fun i hi => absurd hi (Nat.not_lt_zero i)⟩
theorem PS.nx (h : PS N S T) : ∃ nx, nx < 8 ∧ S 11 2 = nI nx := by
  obtain ⟨nx, c, c1, -, c3, -⟩ := h
  exact ⟨nx, c1, c3⟩
theorem l_restore (H : RZ N S T) : LK N S T (g_X8_restore S) (g_X9_restore T) := by
  unfold g_X8_restore f_X8_restore_0 g_X9_restore f_X9_restore_0
  rw [← H.sv.1]
  rcases H.sv.2 with h0 | ⟨h0, a, n, ha, hR⟩
  · rw [if_pos h0, if_pos h0]
    exact ⟨-4, S, T, rfl, rfl, H, Lo.rf, Hi.rf⟩
  · obtain ⟨S1, s1, sF, sR⟩ := copyF (S := S) (k := 0) (k' := 2) hR (by decide)
    obtain ⟨T1, t1, tF, tA⟩ := cp0 (T := T) (d0 := 23) (d2 := 20) (by decide) (by decide) (by decide)
    rw [if_neg (by rw [h0]; decide), if_neg (by rw [h0]; decide), s1, t1, bd1_s, bd1_s]
    unfold g_X3_forget f_X3_forget_0
    have R1 : RW a n (S1 0) (T1 20) := sR.congV tA
    rw [bd1_s, up_ne _ _ (by decide), up_ne _ _ (by decide), R1.hd 0 (by decide)]
    refine ⟨_, _, _, rfl, rfl, ?_, ?_, ?_⟩
    · refine H.of (Nat.le_refl _) ?_ (PS.zero ?_ ?_ ?_) ?_ ?_ ?_ ?_
      · rw [up_oth _ _ _ (by decide), up_oth _ _ _ (by decide)]
        exact ⟨a, n, ha, R1⟩
      · rw [up_ne _ _ (by decide), sF 11 (by decide)]
        exact H.past.nx
      · rw [up_same]
      · rw [up_same]
      · intro b b0 b1 b2 b3; rw [up_oth _ _ _ b2, sF b b0]
      · intro j j2 j3; rw [up_ne _ _ (by omega), sF 11 (by decide)]
      · intro b b0 b1 b2 b3 b4; rw [up_oth _ _ _ b4, tF b b0]
      · intro j hj; rw [up_ne _ _ (by omega), tF 28 (by decide)]
    · intro b hb; rw [up_oth _ _ _ (by omega), sF b (by omega)]
    · intro b hb; rw [up_oth _ _ _ (by omega), tF b (by omega)]
theorem l_again (hN : N + 100 < 9000000) (x : Int32) (H : RZ N S T) : LK N S T (g_X8_couldLeadAgain S x) (g_X9_couldLeadAgain T x) := by
  obtain ⟨a, n, ha, hR⟩ := H.now
  unfold g_X8_couldLeadAgain f_X8_couldLeadAgain_0 g_X9_couldLeadAgain f_X9_couldLeadAgain_0
  rcases code_r hR x with ⟨i, hi, rfl, h1, h2, hA, -⟩ | ⟨r, hr, h1, h2⟩
  · rw [h1, h2, bd1_s, bd1_s, if_pos (by decide), if_pos rfl]
    obtain ⟨S1, s1, sF, sR⟩ := copyF (S := S) (k := 1) (k' := 0) hR (by decide)
    obtain ⟨T1, t1, tF, tA⟩ := cp0 (T := T) (d0 := 20) (d2 := 22) (by decide) (by decide) (by decide)
    have R1 : RW a n (S1 0) (T1 20) := by rw [sF 0 (by decide), tF 20 (by decide)]; exact hR
    obtain ⟨g, S2, T2, -, g1, g2, P⟩ := gather_r R1 hi (by rw [tF 20 (by decide)]; exact hA) (by omega)
    have R2 : RW a n (S2 1) (T2 22) := by
      rw [P.2.1 1 (by decide), P.2.2.1 22 (by decide)]
      exact sR.congV tA
    obtain ⟨S3, s3, sF3, sR3⟩ := copyF (S := S2) (k := 0) (k' := 1) R2 (by decide)
    obtain ⟨T3, t3, tF3, tA3⟩ := cp0 (T := T2) (d0 := 22) (d2 := 20) (by decide) (by decide) (by decide)
    rw [s1, t1, bd1_s, bd1_s, g1, g2, bd2_s, bd2_s, s3, t3, bd1_s, bd1_s]
    refine ⟨nI g, S3, T3, rfl, rfl, ?_, ?_, ?_⟩
    · refine H.of (Nat.le_refl _) ⟨a, n, ha, sR3.congV tA3⟩ (H.past.congr ?_ ?_ ?_ ?_ ?_) ?_ ?_ ?_ ?_
      · rw [sF3 11 (by decide), P.2.1 11 (by decide), sF 11 (by decide)]
      · rw [sF3 11 (by decide), P.2.1 11 (by decide), sF 11 (by decide)]
      · rw [tF3 28 (by decide), P.2.2.1 28 (by decide), tF 28 (by decide)]
      · intro b _ _; rw [sF3 b (by omega), P.2.1 b (by omega), sF b (by omega)]
      · rw [tF3 24 (by decide), P.2.2.1 24 (by decide), tF 24 (by decide)]
      · intro b b0 b1 _ _; rw [sF3 b b0, P.2.1 b b0, sF b b1]
      · intro j _ _; rw [sF3 11 (by decide), P.2.1 11 (by decide), sF 11 (by decide)]
      · intro b b0 b1 b2 _ _; rw [tF3 b b0, P.2.2.1 b b0, tF b b2]
      · intro j _; rw [tF3 28 (by decide), P.2.2.1 28 (by decide), tF 28 (by decide)]
    · intro b hb; rw [sF3 b (by omega), P.2.1 b (by omega), sF b (by omega)]
    · intro b hb; rw [tF3 b (by omega), P.2.2.1 b (by omega), tF b (by omega)]
  · rw [h1, h2, bd1_s, bd1_s, if_neg (Int32.not_le.mpr hr), if_neg (fun z => Int32.lt_irrefl (z ▸ hr))]
    exact ⟨r, S, T, rfl, rfl, H, Lo.rf, Hi.rf⟩
/-- what the reference's trial leaves -/
theorem q66 (T : Mem) (x v : Int32) : ∃ T', f_X9_quietBeats_66 T x v = some ((if v = 0 then -4 else x), T') ∧ Fr 20 T T' ∧ ∀ c, c < 203 → T' 20 c = T 22 c := by
  obtain ⟨T3, t3, tF3, tA3⟩ := cp0 (T := T) (d0 := 22) (d2 := 20) (by decide) (by decide) (by decide)
  refine ⟨T3, ?_, tF3, tA3⟩
  unfold f_X9_quietBeats_66 f_X9_quietBeats_90
  rw [t3, bd1_s]
  by_cases c : v = 0
  · rw [if_pos c, if_pos c]
  · rw [if_neg c, if_neg c]
theorem quiet_loop {S0 T0 : Mem} (hB : a + 100 < 9000000) (h22 : T0 22 2 = nI a) : ∀ d i F G S T, i + d = 10 → 1 ≤ i → d < F → d + 1 < G → PO 1 a n S0 T0 S T → ∃ r S2 T2, lp (fun ih13 s9 => f_X8_quietBeats_13_b ih13 s9.1 s9.2) F (S, nI i) = some (r, S2) ∧ lp (fun ih15 s9 => f_X9_quietBeats_15_b ih15 s9.1 s9.2) G (T, nI (i - 1)) = some (r, T2) ∧ Fr 1 S0 S2 ∧ Fr 20 T0 T2 ∧ ∀ c, c < 203 → T2 20 c = T0 22 c := by
  intro d
  induction d with
  | zero =>
    intro i F G S T hid h1 hF hG P
    have : i = 10 := by omega
    subst this
    obtain ⟨F, rfl⟩ : ∃ F', F = F' + 1 := ⟨F - 1, by omega⟩
    obtain ⟨G, rfl⟩ : ∃ G', G = G' + 1 := ⟨G - 1, by omega⟩
    have e22 : T 22 2 = nI a := by rw [P.2.2.1 22 (by decide)]; exact h22
    obtain ⟨T3, q1, q2, q3⟩ := q66 T (nI 9) 0
    refine ⟨-4, S, T3, ?_, ?_, P.2.1, P.2.2.1.tr q2, ?_⟩
    · show f_X8_quietBeats_13_b _ S (nI 10) = _
      unfold f_X8_quietBeats_13_b
      rw [if_pos (by decide)]
    · show f_X9_quietBeats_15_b _ T (nI 9) = _
      unfold f_X9_quietBeats_15_b f_X9_quietBeats_46
      rw [if_pos (by decide), e22, P.1.ask, if_pos rfl, q1]
      rfl
    · intro c hc
      rw [q3 c hc, P.2.2.1 22 (by decide)]
  | succ d ih =>
    intro i F G S T hid h1 hF hG P
    obtain ⟨F, rfl⟩ : ∃ F', F = F' + 1 := ⟨F - 1, by omega⟩
    obtain ⟨G, rfl⟩ : ∃ G', G = G' + 1 + 1 := ⟨G - 2, by omega⟩
    have e22 : T 22 2 = nI a := by rw [P.2.2.1 22 (by decide)]; exact h22
    obtain ⟨a1, S2, T2, g1, g2, b1, b2, P2⟩ := one_r P.1 hB
    have hC : lp (fun ih13 s9 => f_X8_quietBeats_13_b ih13 s9.1 s9.2) (F + 1) (S, nI i) = if a1 - a = 0 then lp (fun ih13 s9 => f_X8_quietBeats_13_b ih13 s9.1 s9.2) F (S2, nI (i + 1)) else some (nI i, S2) := by
      show f_X8_quietBeats_13_b _ S (nI i) = _
      unfold f_X8_quietBeats_13_b
      rw [show (9 : Int32) = nI 9 from rfl, nlt_le (by omega) (by omega), if_pos (by omega), b1, bd2_s, nI_p1]
      by_cases c : a1 - a = 0
      · rw [if_pos ((le0I (by omega)).mpr c), if_pos c]
      · rw [if_neg (fun z => c ((le0I (by omega)).mp z)), if_neg c]
    have hR : lp (fun ih15 s9 => f_X9_quietBeats_15_b ih15 s9.1 s9.2) (G + 1 + 1) (T, nI (i - 1)) = lp (fun ih15 s9 => f_X9_quietBeats_15_b ih15 s9.1 s9.2) (G + 1) (T2, nI i) := by
      show f_X9_quietBeats_15_b _ T (nI (i - 1)) = _
      unfold f_X9_quietBeats_15_b
      rw [show (9 : Int32) = nI 9 from rfl, ile (by omega) (by omega), if_neg (by omega), e22, P.1.ask, if_pos rfl, b2, bd1_s, nI_p1, Nat.sub_add_cancel h1]
    rw [hC, hR]
    have PP := P.tr P2
    by_cases c : a1 - a = 0
    · have : a1 = a := by omega
      subst this
      rw [if_pos c]
      obtain ⟨r, S3, T3, r1, r2, r3, r4, r5⟩ := ih (i + 1) F (G + 1) S2 T2 (by omega) (by omega) (by omega) (by omega) PP
      exact ⟨r, S3, T3, r1, r2, r3, r4, r5⟩
    · rw [if_neg c]
      have e22' : T2 22 2 = nI a := by rw [PP.2.2.1 22 (by decide)]; exact h22
      have hne : ¬ T2 20 2 = T2 22 2 := by
        rw [P2.1.ask, e22']
        intro z
        have := (nI_eq (a := a1) (b := a) (by have := P2.1.aB; omega) (by omega)).mp z
        omega
      obtain ⟨T3, q1, q2, q3⟩ := q66 T2 (nI i) 1
      refine ⟨nI i, S2, T3, rfl, ?_, PP.2.1, PP.2.2.1.tr q2, ?_⟩
      · show f_X9_quietBeats_15_b _ T2 (nI i) = _
        unfold f_X9_quietBeats_15_b f_X9_quietBeats_46
        rw [if_neg hne, if_neg hne, q1, ite_self]
        rfl
      · intro c hc
        rw [q3 c hc, PP.2.2.1 22 (by decide)]
theorem l_quiet (hN : N + 100 < 9000000) (H : RZ N S T) : LK N S T (g_X8_quietBeats S) (g_X9_quietBeats T) := by
  obtain ⟨a, n, ha, hR⟩ := H.now
  obtain ⟨S1, s1, sF, sR⟩ := copyF (S := S) (k := 1) (k' := 0) hR (by decide)
  obtain ⟨T1, t1, tF, tA⟩ := cp0 (T := T) (d0 := 20) (d2 := 22) (by decide) (by decide) (by decide)
  have R1 : RW a n (S1 1) (T1 20) := by rw [tF 20 (by decide)]; exact sR
  have e22 : T1 22 2 = nI a := by rw [tA 2 (by decide)]; exact hR.ask
  obtain ⟨r, S2, T2, q1, q2, F2, G2, A2⟩ := quiet_loop (S0 := S1) (T0 := T1) (n := n) (by omega) e22 9 1 2000 2000 S1 T1 (by omega) (by omega) (by omega) (by omega) (PO.rf R1)
  unfold g_X8_quietBeats f_X8_quietBeats_0 f_X8_quietBeats_13 g_X9_quietBeats f_X9_quietBeats_0 f_X9_quietBeats_15
  rw [s1, t1, bd1_s, bd1_s]
  refine ⟨r, S2, T2, q1, q2, ?_, ?_, ?_⟩
  · refine H.of (Nat.le_refl _) ?_ (H.past.congr ?_ ?_ ?_ ?_ ?_) ?_ ?_ ?_ ?_
    · rw [F2 0 (by decide), sF 0 (by decide)]
      refine RN.congV ⟨a, n, ha, hR⟩ (fun c hc => ?_)
      rw [A2 c hc, tA c hc]
    · rw [F2 11 (by decide), sF 11 (by decide)]
    · rw [F2 11 (by decide), sF 11 (by decide)]
    · rw [G2 28 (by decide), tF 28 (by decide)]
    · intro b _ _; rw [F2 b (by omega), sF b (by omega)]
    · rw [G2 24 (by decide), tF 24 (by decide)]
    · intro b b0 b1 _ _; rw [F2 b b1, sF b b1]
    · intro j _ _; rw [F2 11 (by decide), sF 11 (by decide)]
    · intro b b0 b1 b2 _ _; rw [G2 b b0, tF b b2]
    · intro j _; rw [G2 28 (by decide), tF 28 (by decide)]
  · intro b hb; rw [F2 b (by omega), sF b (by omega)]
  · intro b hb; rw [G2 b (by omega), tF b (by omega)]
end CHG2
