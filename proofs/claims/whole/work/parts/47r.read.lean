/-! ===== the pure part: read ===== -/
section RED
variable {a n k N N' : Nat} {S T S' T' : Mem}
/-- the relation where all but the saved raft and the line that was told may have changed -/
theorem RZ.rd (H : RZ N S T) (hN : N ≤ N') (now : RN N' (S' 0) (T' 20)) (past : PS N' S' T') (flt : S' 11 1 = T' 28 10) (rs : RS S' T') (tx : BX 0 25 14 60 S' T') (h1 : S' 11 0 = S 11 0) (h2 : S' 2 = S 2) (h3 : ∀ b, 15 ≤ b → b < 17 → S' b = S b) (h4 : T' 28 11 = T 28 11) (h5 : T' 23 = T 23) (h6 : T' 28 19 = T 28 19) (h7 : T' 27 = T 27) : RZ N' S' T' := by
  refine ⟨now, ⟨?_, ?_⟩, past, flt, rs, tx, ?_⟩
  · rw [h1, h4]; exact H.sv.1
  · rw [h1, h2, h5]; exact H.sv.2.imp id (fun z => ⟨z.1, z.2.mono hN⟩)
  · exact H.wr.congr (h3 _ (by omega) (by omega)) (h3 _ (by omega) (by omega)) h6 h7
theorem behind_1 (T : Mem) (x : Int32) : g_X9_isBehind T 1 x = some (up (up (up (up T 28 8 (T 28 6)) 28 9 ((up T 28 8 (T 28 6)) 28 7)) 28 6 8) 28 7 x) := rfl
theorem behind_0 (T : Mem) (x : Int32) : g_X9_isBehind T 0 x = some (up (up (up (up T 28 8 0) 28 9 0) 28 6 9) 28 7 x) := rfl
theorem l_read (hN : N + 1400 < 9000000) (H : RZ N S T) : LK (N + 1300) S T (g_X8_read S) (g_X9_read T) := by
  obtain ⟨len, b, pos, S1, T1, hb, e8, e9, K, F, G, hd⟩ := parse_r H.tx
  obtain ⟨s1, s2, s3⟩ := setl_r (b := 0) (by decide) K.2.1
  have f11 : setl S1 0 11 = S1 11 := s3 11 (by decide) (by decide)
  have f12 : setl S1 0 12 = S1 12 := s3 12 (by decide) (by decide)
  -- what stands of the class's and of the reference's memory
  have fS : ∀ e, e ≠ 11 → e ≠ 12 → e ≠ 13 → e ≠ 14 → setl S1 0 e = S e := fun e h1 h2 h3 h4 => by rw [s3 e h3 h4, F.1 e h1 h2]
  have fS11 : ∀ j, j ≠ 8 → j ≠ 9 → setl S1 0 11 j = S 11 j := fun j h1 h2 => by rw [f11, F.2 j h1 h2]
  have gT : ∀ e, e ≠ 26 → e ≠ 28 → up T1 28 14 0 e = T e := fun e h1 h2 => by rw [up_oth _ _ _ h2, G.1 e h1 h2]
  have gT28 : ∀ j, (j < 14 ∨ 17 < j) → up T1 28 14 0 28 j = T 28 j := fun j hj => by rw [up_ne _ _ (by omega), G.2 j (by omega)]
  have tx2 : BX 0 25 14 60 (setl S1 0) (up T1 28 14 0) := BX.of (len := 0) (by omega) s2 (by rw [up_same]; rfl) (fun i h => absurd h (Nat.not_lt_zero i))
  have past2 : PS (N + 1300) (setl S1 0) (up T1 28 14 0) := (H.past.mono (by omega)).congr (fS11 2 (by decide) (by decide)) (fS11 3 (by decide) (by decide)) (gT28 5 (by decide)) (fun b _ _ => fS b (by omega) (by omega) (by omega) (by omega)) (gT 24 (by decide) (by decide))
  have rs2 : RS (setl S1 0) (up T1 28 14 0) := by
    unfold RS
    rw [fS11 4 (by decide) (by decide), fS11 5 (by decide) (by decide), fS11 6 (by decide) (by decide), fS11 7 (by decide) (by decide), gT28 6 (by decide), gT28 7 (by decide), gT28 8 (by decide), gT28 9 (by decide)]
    exact H.rs
  unfold g_X8_read f_X8_read_0 g_X9_read f_X9_read_0 g_X6_empty f_X6_empty_0
  rw [e8, e9, bd2_s, bd2_s, ck_t _ s1, bd1_s]
  rcases hb with rfl | rfl
  · rw [if_pos rfl, if_pos rfl]
    have p1 : setl S1 0 11 9 = nI pos := by rw [f11]; exact K.2.2.2.2.2.1
    have p2 : up T1 28 14 0 28 15 = nI pos := by rw [up_ne _ _ (by omega)]; exact K.2.2.2.2.2.2
    rw [p1, p2]
    refine ⟨-2, _, _, rfl, rfl, H.rd (by omega) ?_ ?_ ?_ ?_ ?_ ?_ ?_ ?_ ?_ ?_ ?_ ?_, ?_, ?_⟩
    · rw [up_oth _ _ _ (by decide), fS 0 (by decide) (by decide) (by decide) (by decide), up_oth _ _ _ (by decide), gT 20 (by decide) (by decide)]
      exact H.now.mono (by omega)
    · exact past2.congr (by rw [up_ne _ _ (by omega)]) (by rw [up_ne _ _ (by omega)]) (by rw [up_ne _ _ (by omega)]) (fun b _ _ => by rw [up_oth _ _ _ (by omega)]) (by rw [up_oth _ _ _ (by omega)])
    · rw [up_same, up_same]
    · unfold RS
      simp (disch := omega) only [up_ne]
      have := rs2
      unfold RS at this
      simp (disch := omega) only [up_ne] at this
      exact this
    · exact tx2.congr (by rw [up_oth _ _ _ (by omega)]) (by rw [up_oth _ _ _ (by omega)]) (by rw [up_ne _ _ (by omega)]) (by rw [up_oth _ _ _ (by omega)])
    · rw [up_ne _ _ (by omega), fS11 0 (by decide) (by decide)]
    · rw [up_oth _ _ _ (by omega), fS 2 (by decide) (by decide) (by decide) (by decide)]
    · intro b h1 h2; rw [up_oth _ _ _ (by omega), fS b (by omega) (by omega) (by omega) (by omega)]
    · rw [up_ne _ _ (by omega), gT28 11 (by decide)]
    · rw [up_oth _ _ _ (by omega), gT 23 (by decide) (by decide)]
    · rw [up_ne _ _ (by omega), gT28 19 (by decide)]
    · rw [up_oth _ _ _ (by omega), gT 27 (by decide) (by decide)]
    · intro b hb; rw [up_oth _ _ _ (by omega), fS b (by omega) (by omega) (by omega) (by omega)]
    · intro b hb; rw [up_oth _ _ _ (by omega), gT b (by omega) (by omega)]
  · obtain ⟨k, hk, k1, k2, hC⟩ := hd rfl
    obtain ⟨a, n, ha, hR⟩ := H.now
    rw [if_neg (by decide), if_neg (by decide)]
    obtain ⟨S3, c1, cF, cR⟩ := copyF (S := setl S1 0) (k := 1) (k' := 0) (a := a) (n := n) (V := T 20) (by rw [fS 0 (by decide) (by decide) (by decide) (by decide)]; exact hR) (by decide)
    obtain ⟨T3, t1, tF, tA⟩ := cp0 (T := up T1 28 14 0) (d0 := 20) (d2 := 21) (by decide) (by decide) (by decide)
    have kp : g_X9_keeps (up T1 28 14 0) = some T3 := by
      unfold g_X9_keeps f_X9_keeps_0
      rw [t1, bd1_s]
    rw [c1, kp, bd1_s, bd1_s]
    have R3 : RW a n (S3 0) (T3 20) := by
      rw [cF 0 (by decide), tF 20 (by decide), fS 0 (by decide) (by decide) (by decide) (by decide), gT 20 (by decide) (by decide)]
      exact hR
    have rs3 : RS S3 T3 := by
      unfold RS
      rw [cF 11 (by decide), tF 28 (by decide)]
      exact rs2
    have W3 : RW a n (S3 1) (T3 21) := cR.congV (fun c hc => by rw [tA c hc, gT 20 (by decide) (by decide)])
    obtain ⟨S4, T4, a4, n4, ha4, R4, rs4, F4, G4, hx⟩ := read_loop hk k 0 2000 2000 S3 T3 a n (by omega) (by omega) (by omega) R3 rs3 (by omega) (by rw [cF 11 (by decide), f11]; exact k1) (by rw [tF 28 (by decide), up_ne _ _ (by omega)]; exact k2) (fun j hj => (hC j hj).congr (fun l _ => ⟨by rw [cF 12 (by decide), f12], by rw [tF 26 (by decide), up_oth _ _ _ (by decide)]⟩))
    have a1 : ∀ e, e ≠ 0 → e ≠ 1 → e ≠ 11 → S4 e = setl S1 0 e := fun e h0 h1 h2 => by rw [F4.1 e h0 h2, cF e h1]
    have a2 : ∀ j, (j < 4 ∨ 8 ≤ j) → S4 11 j = setl S1 0 11 j := fun j hj => by rw [F4.2 j hj, cF 11 (by decide)]
    have a3 : ∀ e, e ≠ 20 → e ≠ 21 → e ≠ 28 → T4 e = up T1 28 14 0 e := fun e h0 h1 h2 => by rw [G4.1 e h0 h2, tF e h1]
    have a5 : ∀ j, (j < 6 ∨ 10 ≤ j) → T4 28 j = up T1 28 14 0 28 j := fun j hj => by rw [G4.2 j hj, tF 28 (by decide)]
    have P4 : PS (N + 1300) S4 T4 := past2.congr (a2 2 (by decide)) (a2 3 (by decide)) (a5 5 (by decide)) (fun b _ _ => a1 b (by omega) (by omega) (by omega)) (a3 24 (by decide) (by decide) (by decide))
    have tx4 : BX 0 25 14 60 S4 T4 := tx2.congr (a1 _ (by omega) (by omega) (by omega)) (a1 _ (by omega) (by omega) (by omega)) (a5 14 (by decide)) (a3 25 (by decide) (by decide) (by decide))
    have flt4 : S4 11 1 = T4 28 10 := by
      rw [a2 1 (by decide), a5 10 (by decide), fS11 1 (by decide) (by decide), gT28 10 (by decide)]
      exact H.flt
    have W4 : RW a n (S4 1) (T4 21) := by
      rw [F4.1 1 (by decide) (by decide), G4.1 21 (by decide) (by decide)]
      exact W3
    have b0 : S4 11 0 = S 11 0 := (a2 0 (by decide)).trans (fS11 0 (by decide) (by decide))
    have b2 : S4 2 = S 2 := (a1 2 (by decide) (by decide) (by decide)).trans (fS 2 (by decide) (by decide) (by decide) (by decide))
    have b3 : ∀ b, 15 ≤ b → S4 b = S b := fun b h => (a1 b (by omega) (by omega) (by omega)).trans (fS b (by omega) (by omega) (by omega) (by omega))
    have b4 : ∀ j, (j = 11 ∨ j = 19) → T4 28 j = T 28 j := fun j hj => (a5 j (by omega)).trans (gT28 j (by omega))
    have b5 : ∀ b, (b < 20 ∨ b = 23 ∨ b = 27) → T4 b = T b := fun b hb => (a3 b (by omega) (by omega) (by omega)).trans (gT b (by omega) (by omega))
    unfold f_X8_read_46 f_X9_read_31
    rcases hx with ⟨x1, x2⟩ | ⟨r, x, x1, x2⟩
    · rw [show (0 : Int32) = nI 0 from rfl, x1, x2]
      obtain ⟨S5, T5, m1, m2, P5, q1, q2, q3, q4⟩ := remem_r P4 ⟨a, n, by omega, W4⟩
      unfold g_X9_ends f_X9_ends_0 f_X9_ends_8
      rw [m1, m2, bd1_s, if_neg (nI_pos (by omega)), bd1_s, bd2_s, q2 8 (by decide) (by decide), a2 8 (by decide), f11, k1]
      refine ⟨nI k, S5, T5, rfl, rfl, H.rd (by omega) ?_ P5 ?_ ?_ ?_ ?_ ?_ ?_ ?_ ?_ ?_ ?_, ?_, ?_⟩
      · rw [q1 0 (by decide), q3 20 (by decide) (by decide)]
        exact ⟨a4, n4, by omega, R4⟩
      · rw [q2 1 (by decide) (by decide), q4 10 (by decide)]; exact flt4
      · unfold RS
        rw [q2 4 (by decide) (by decide), q2 5 (by decide) (by decide), q2 6 (by decide) (by decide), q2 7 (by decide) (by decide), q4 6 (by decide), q4 7 (by decide), q4 8 (by decide), q4 9 (by decide)]
        exact rs4
      · exact tx4.congr (q1 _ (by omega)) (q1 _ (by omega)) (q4 14 (by decide)) (q3 25 (by decide) (by decide))
      · rw [q2 0 (by decide) (by decide)]; exact b0
      · rw [q1 2 (by decide)]; exact b2
      · intro b h1 h2; rw [q1 b (by omega)]; exact b3 b h1
      · rw [q4 11 (by decide)]; exact b4 11 (by omega)
      · rw [q3 23 (by decide) (by decide)]; exact b5 23 (by omega)
      · rw [q4 19 (by decide)]; exact b4 19 (by omega)
      · rw [q3 27 (by decide) (by decide)]; exact b5 27 (by omega)
      · intro b hb; rw [q1 b (by omega)]; exact b3 b (by omega)
      · intro b hb; rw [q3 b (by omega) (by omega)]; exact b5 b (by omega)
    · rw [show (0 : Int32) = nI 0 from rfl, x1, x2]
      obtain ⟨S5, m1, mF, mR⟩ := copyF (S := S4) (k := 0) (k' := 1) W4 (by decide)
      unfold g_X8_refuseCommand f_X8_refuseCommand_0 f_X8_refuseCommand_29 g_X5_putAhead f_X5_putAhead_0 g_X5_put f_X5_put_0 f_X9_read_63
      rw [m1, bd1_s]
      -- whatever the reasons are now
      have fin : ∀ S6 T6 T7, (∀ e, e ≠ 11 → S6 e = S5 e) → (∀ j, (j < 4 ∨ 8 ≤ j) → S6 11 j = S5 11 j) → (∀ e, e ≠ 28 → T6 e = T4 e) → (∀ j, (j < 6 ∨ 10 ≤ j) → T6 28 j = T4 28 j) → RS S6 T6 → Fr 20 T6 T7 → (∀ c, c < 203 → T7 20 c = T6 21 c) → RZ (N + 1300) S6 T7 ∧ Lo S S6 ∧ Hi T T7 := by
        intro S6 T6 T7 e1 e2 e3 e4 r6 tF7 tA7
        refine ⟨H.rd (by omega) ?_ ?_ ?_ ?_ ?_ ?_ ?_ ?_ ?_ ?_ ?_ ?_, ?_, ?_⟩
        · rw [e1 0 (by decide)]
          exact ⟨a, n, by omega, mR.congV (fun c hc => by rw [tA7 c hc, e3 21 (by decide)])⟩
        · refine P4.congr ?_ ?_ ?_ ?_ ?_
          · rw [e2 2 (by decide), mF 11 (by decide)]
          · rw [e2 3 (by decide), mF 11 (by decide)]
          · rw [tF7 28 (by decide), e4 5 (by decide)]
          · intro b _ _; rw [e1 b (by omega), mF b (by omega)]
          · rw [tF7 24 (by decide), e3 24 (by decide)]
        · rw [e2 1 (by decide), mF 11 (by decide), tF7 28 (by decide), e4 10 (by decide)]; exact flt4
        · unfold RS
          rw [tF7 28 (by decide)]
          exact r6
        · refine tx4.congr ?_ ?_ ?_ ?_
          · rw [e1 _ (by omega), mF _ (by omega)]
          · rw [e1 _ (by omega), mF _ (by omega)]
          · rw [tF7 28 (by decide), e4 14 (by decide)]
          · rw [tF7 25 (by decide), e3 25 (by decide)]
        · rw [e2 0 (by decide), mF 11 (by decide)]; exact b0
        · rw [e1 2 (by decide), mF 2 (by decide)]; exact b2
        · intro b h1 h2; rw [e1 b (by omega), mF b (by omega)]; exact b3 b h1
        · rw [tF7 28 (by decide), e4 11 (by decide)]; exact b4 11 (by omega)
        · rw [tF7 23 (by decide), e3 23 (by decide)]; exact b5 23 (by omega)
        · rw [tF7 28 (by decide), e4 19 (by decide)]; exact b4 19 (by omega)
        · rw [tF7 27 (by decide), e3 27 (by decide)]; exact b5 27 (by omega)
        · intro b hb; rw [e1 b (by omega), mF b (by omega)]; exact b3 b (by omega)
        · intro b hb; rw [tF7 b (by omega), e3 b (by omega)]; exact b5 b (by omega)
      have r5 : S5 11 = S4 11 := mF 11 (by decide)
      by_cases c3 : r = -3
      · rw [if_pos c3, if_pos c3, behind_1, bd1_s, bd1_s, bd2_s]
        obtain ⟨T7, t7, tF7, tA7⟩ := cp0 (T := up (up (up (up T4 28 8 (T4 28 6)) 28 9 ((up T4 28 8 (T4 28 6)) 28 7)) 28 6 8) 28 7 x) (d0 := 21) (d2 := 20) (by decide) (by decide) (by decide)
        rw [t7, bd1_s]
        refine ⟨-3, _, T7, rfl, rfl, fin _ _ T7 ?_ ?_ ?_ ?_ ?_ tF7 tA7⟩
        · intro e he; simp only [up_oth _ _ _ he]
        · intro j hj; simp (disch := omega) only [up_ne]
        · intro e he; simp only [up_oth _ _ _ he]
        · intro j hj; simp (disch := omega) only [up_ne]
        · refine ⟨?_, ?_, ?_, fun _ => ?_⟩
          · simp (disch := omega) only [up_ne, up_same]
          · simp (disch := omega) only [up_ne, up_same]
          · simp (disch := omega) only [up_ne, up_same, r5]; exact rs4.1
          · simp (disch := omega) only [up_ne, up_same, r5]; exact rs4.2.1
      · rw [if_neg c3, if_neg c3, behind_0, bd1_s, bd1_s, bd2_s]
        obtain ⟨T7, t7, tF7, tA7⟩ := cp0 (T := up (up (up (up T4 28 8 0) 28 9 0) 28 6 9) 28 7 x) (d0 := 21) (d2 := 20) (by decide) (by decide) (by decide)
        rw [t7, bd1_s]
        refine ⟨-3, _, T7, rfl, rfl, fin _ _ T7 ?_ ?_ ?_ ?_ ?_ tF7 tA7⟩
        · intro e he; simp only [up_oth _ _ _ he]
        · intro j hj; simp (disch := omega) only [up_ne]
        · intro e he; simp only [up_oth _ _ _ he]
        · intro j hj; simp (disch := omega) only [up_ne]
        · refine ⟨?_, ?_, ?_, fun z => ?_⟩
          · simp (disch := omega) only [up_ne, up_same]
          · simp (disch := omega) only [up_ne, up_same]
          · simp (disch := omega) only [up_ne, up_same]
          · simp (disch := omega) only [up_ne, up_same]
theorem pr_read : Pr_read Inv := fun n S hn h => LK.seq (N := 1300 * n) (N' := 1300 * (n + 1)) (fun S T R => by
  obtain ⟨r, S1, T1, e1, e2, e3, e4, e5⟩ := l_read (N := 1300 * n) (by omega) R
  exact ⟨r, S1, T1, e1, e2, e3.mono (by omega), e4, e5⟩) h
end RED
