/-! ===== the pure part: the changes ===== -/
section CHG
variable {a a' n n' k k' i j m m' x y g q M N : Nat} {S T S' T' : Mem} {r : Int32}
/-- one command, whichever way it was told to the two -/
def CL (w x y : Int32) (S T : Mem) (z : Option (Int32 × Mem)) : Prop := ∀ a n, RW a n (S 0) (T 20) → RS S T → a + 100 < 9000000 → CM a S T (g_X8_carryOut S w x y) z
theorem bd2_id {z : Option (Int32 × Mem)} : bd2 z (fun r U => some (r, U)) = z := by
  cases z with
  | none => rfl
  | some p => rfl
theorem carry1 (x y : Int32) : g_X8_carryOut S 1 x y = g_X8_letCome S x := bd2_id
theorem carry2 (x y : Int32) : g_X8_carryOut S 2 x y = g_X8_letAsk S x := bd2_id
theorem carry3 (x y : Int32) : g_X8_carryOut S 3 x y = g_X8_letSend S x := bd2_id
theorem carry4 (x y : Int32) : g_X8_carryOut S 4 x y = g_X8_letShout S x y := bd2_id
theorem carry5 (x y : Int32) : g_X8_carryOut S 5 x y = g_X8_washAway S x := bd2_id
theorem carry6 (x y : Int32) : g_X8_carryOut S 6 x y = g_X8_bringBack S x := bd2_id
theorem carry7 (x y : Int32) : g_X8_carryOut S 7 x y = g_X8_changeRope S x y 1 := bd2_id
theorem carry8 (x y : Int32) : g_X8_carryOut S 8 x y = g_X8_changeRope S x y 0 := bd2_id
theorem carry9 (x y : Int32) : g_X8_carryOut S 9 x y = (if x < 1 then some (-2, S) else if 20 < x then some (-2, S) else g_X4_passBeats S 0 x) := by
  show (if x < 1 then f_X8_carryOut_135 S else if 20 < x then f_X8_carryOut_135 S else bd2 (g_X4_passBeats S 0 x) (fun r U => f_X8_carryOut_137 U r)) = _
  rw [show bd2 (g_X4_passBeats S 0 x) (fun r U => f_X8_carryOut_137 U r) = g_X4_passBeats S 0 x from bd2_id]
  rfl
theorem change_r (w x y : Int32) (D : Mem → Option (Int32 × Mem)) (hN : N + 100 < 9000000) (H : RZ N S T) (hD : ∀ S T a n, RW a n (S 0) (T 20) → RS S T → a + 100 < 9000000 → CM a S T (g_X8_carryOut S w x y) (D T)) : LK (N + 100) S T (g_X8_change S w x y) (bd1 (g_X9_keeps T) (fun S1 => bd2 (D S1) (fun r2 S2 => bd2 (g_X9_ends S2 r2) (fun r3 S3 => some (r3, S3))))) := by
  obtain ⟨a, n, ha, hR⟩ := H.now
  obtain ⟨S1, s1, sF, sR⟩ := copyF (S := S) (k := 1) (k' := 0) hR (by decide)
  obtain ⟨T1, t1, tF, tA, tB⟩ := copies_r (T := T) (d0 := 20) (d2 := 21) (o := 0) (p := 0) (Or.inl (by decide)) (by decide) (by decide) (by decide) (by decide)
  have R1 : RW a n (S1 0) (T1 20) := by rw [sF 0 (by decide), tF 20 (by decide)]; exact hR
  have Q1 : RS S1 T1 := by unfold RS; rw [sF 11 (by decide), tF 28 (by decide)]; exact H.rs
  obtain ⟨r, S2, T2, a', n', c1, c2, h1, h2, R2, Q2, FC2, FT2⟩ := hD S1 T1 a n R1 Q1 (by omega)
  have t1' : g_X9_keeps T = some T1 := by
    unfold g_X9_keeps f_X9_keeps_0
    rw [show (0 : Int32) = nI 0 from rfl, t1, bd1_s]
  have c5 : T2 28 5 = T 28 5 := (FT2.2 5 (by decide)).trans (by rw [tF 28 (by decide)])
  have P2 : PS (N + 100) S2 T2 := by
    refine (H.past.mono (by omega)).congr ?_ ?_ c5 ?_ ?_
    · rw [FC2.2 2 (by decide), sF 11 (by decide)]
    · rw [FC2.2 3 (by decide), sF 11 (by decide)]
    · intro b hb1 hb2; rw [FC2.1 b (by omega) (by omega), sF b (by omega)]
    · rw [FT2.1 24 (by decide) (by decide), tF 24 (by decide)]
  have W2 : RN (N + 100) (S2 1) (T2 21) := by
    rw [FC2.1 1 (by decide) (by decide), FT2.1 21 (by decide) (by decide)]
    exact RN.congV ⟨a, n, by omega, sR⟩ (fun c hc => by have := tA c hc; rw [Nat.zero_add] at this; exact this)
  have B : ∀ S3 T3, (∀ b, (b < 3 ∨ 12 ≤ b) → S3 b = S2 b) → (∀ j, j ≠ 2 → j ≠ 3 → S3 11 j = S2 11 j) → (∀ b, b ≠ 24 → b ≠ 28 → T3 b = T2 b) → (∀ j, j ≠ 5 → T3 28 j = T2 28 j) → PS (N + 100) S3 T3 → RZ (N + 100) S3 T3 := by
    intro S3 T3 e1 e2 e3 e4 P3
    refine ⟨?_, ⟨?_, ?_⟩, P3, ?_, ?_, ?_, ?_⟩
    · rw [e1 0 (by decide), e3 20 (by decide) (by decide)]
      exact ⟨a', n', by omega, R2⟩
    · rw [e2 0 (by decide) (by decide), e4 11 (by decide), FC2.2 0 (by decide), FT2.2 11 (by decide), sF 11 (by decide), tF 28 (by decide)]
      exact H.sv.1
    · rw [e2 0 (by decide) (by decide), FC2.2 0 (by decide), sF 11 (by decide), e1 2 (by decide), FC2.1 2 (by decide) (by decide), sF 2 (by decide), e3 23 (by decide) (by decide), FT2.1 23 (by decide) (by decide), tF 23 (by decide)]
      exact H.sv.2.imp id (fun z => ⟨z.1, z.2.mono (by omega)⟩)
    · rw [e2 1 (by decide) (by decide), e4 10 (by decide), FC2.2 1 (by decide), FT2.2 10 (by decide), sF 11 (by decide), tF 28 (by decide)]
      exact H.flt
    · unfold RS
      rw [e2 4 (by decide) (by decide), e2 5 (by decide) (by decide), e2 6 (by decide) (by decide), e2 7 (by decide) (by decide), e4 6 (by decide), e4 7 (by decide), e4 8 (by decide), e4 9 (by decide)]
      exact Q2
    · refine H.tx.congr ?_ ?_ ?_ ?_
      · rw [e1 _ (by omega), FC2.1 _ (by omega) (by omega), sF _ (by omega)]
      · rw [e1 _ (by omega), FC2.1 _ (by omega) (by omega), sF _ (by omega)]
      · rw [e4 14 (by decide), FT2.2 14 (by decide), tF 28 (by decide)]
      · rw [e3 25 (by decide) (by decide), FT2.1 25 (by decide) (by decide), tF 25 (by decide)]
    · refine H.wr.congr ?_ ?_ ?_ ?_
      · rw [e1 _ (by omega), FC2.1 _ (by omega) (by omega), sF _ (by omega)]
      · rw [e1 _ (by omega), FC2.1 _ (by omega) (by omega), sF _ (by omega)]
      · rw [e4 19 (by decide), FT2.2 19 (by decide), tF 28 (by decide)]
      · rw [e3 27 (by decide) (by decide), FT2.1 27 (by decide) (by decide), tF 27 (by decide)]
  have lo2 : Lo S S2 := fun b hb => by rw [FC2.1 b (by omega) (by omega), sF b (by omega)]
  have hi2 : Hi T T2 := fun b hb => by rw [FT2.1 b (by omega) (by omega), tF b (by omega)]
  unfold g_X8_change f_X8_change_0 f_X8_change_36
  rw [s1, bd1_s, c1, bd2_s, t1', bd1_s, c2, bd2_s]
  unfold g_X9_ends f_X9_ends_0 f_X9_ends_8
  by_cases c : r < 0
  · rw [if_pos c, if_pos c, bd2_s]
    exact ⟨r, S2, T2, rfl, rfl, B S2 T2 (fun _ _ => rfl) (fun _ _ _ => rfl) (fun _ _ _ => rfl) (fun _ _ => rfl) P2, lo2, hi2⟩
  · obtain ⟨S3, T3, m1, m2, P3, e1, e2, e3, e4⟩ := remem_r P2 W2
    rw [if_neg c, if_neg c, m1, m2, bd1_s, bd1_s, bd2_s]
    exact ⟨r, S3, T3, rfl, rfl, B S3 T3 e1 e2 e3 e4 P3, fun b hb => by rw [e1 b (by omega), lo2 b hb], fun b hb => by rw [e3 b (by omega) (by omega), hi2 b hb]⟩
theorem chg_b {w x y : Int32} : bd2 (g_X8_change S w x y) (fun r1 S1 => some (r1, S1)) = g_X8_change S w x y := bd2_id
theorem l_driver (hN : N + 100 < 9000000) (x : Int32) (H : RZ N S T) : LK (N + 100) S T (g_X8_driver S x) (g_X9_driver T x) := by
  unfold g_X8_driver f_X8_driver_0 g_X9_driver f_X9_driver_0
  rw [chg_b]
  exact change_r 1 x 0 (fun U => g_X9_comes U x) hN H (fun S T a n h1 h2 h3 => by rw [carry1]; exact c_come h1 h2 x)
theorem l_ask (hN : N + 100 < 9000000) (x : Int32) (H : RZ N S T) : LK (N + 100) S T (g_X8_ask S x) (g_X9_ask T x) := by
  unfold g_X8_ask f_X8_ask_0 g_X9_ask f_X9_ask_0
  rw [chg_b]
  exact change_r 2 x 0 (fun U => g_X9_asks U x) hN H (fun S T a n h1 h2 h3 => by rw [carry2]; exact c_ask h1 h2 h3 x)
theorem l_send (hN : N + 100 < 9000000) (x : Int32) (H : RZ N S T) : LK (N + 100) S T (g_X8_send S x) (g_X9_send T x) := by
  unfold g_X8_send f_X8_send_0 g_X9_send f_X9_send_0
  rw [chg_b]
  exact change_r 3 x 0 (fun U => g_X9_sends U x) hN H (fun S T a n h1 h2 h3 => by rw [carry3]; exact c_send h1 h2 x)
theorem l_shout (hN : N + 100 < 9000000) (x y : Int32) (H : RZ N S T) : LK (N + 100) S T (g_X8_shout S x y) (g_X9_shout T x y) := by
  unfold g_X8_shout f_X8_shout_0 g_X9_shout f_X9_shout_0
  rw [chg_b]
  exact change_r 4 x y (fun U => g_X9_shouts U x y) hN H (fun S T a n h1 h2 h3 => by rw [carry4]; exact c_shout h1 h2 x y)
theorem l_wash (hN : N + 100 < 9000000) (x : Int32) (H : RZ N S T) : LK (N + 100) S T (g_X8_wash S x) (g_X9_wash T x) := by
  unfold g_X8_wash f_X8_wash_0 g_X9_wash f_X9_wash_0
  rw [chg_b]
  exact change_r 5 x 0 (fun U => g_X9_washes U x) hN H (fun S T a n h1 h2 h3 => by rw [carry5]; exact c_wash h1 h2 x)
theorem l_back (hN : N + 100 < 9000000) (x : Int32) (H : RZ N S T) : LK (N + 100) S T (g_X8_back S x) (g_X9_back T x) := by
  unfold g_X8_back f_X8_back_0 g_X9_back f_X9_back_0
  rw [chg_b]
  exact change_r 6 x 0 (fun U => g_X9_comesBack U x) hN H (fun S T a n h1 h2 h3 => by rw [carry6]; exact c_back h1 h2 x)
theorem l_cut (hN : N + 100 < 9000000) (x y : Int32) (H : RZ N S T) : LK (N + 100) S T (g_X8_cut S x y) (g_X9_cut T x y) := by
  unfold g_X8_cut f_X8_cut_0 g_X9_cut f_X9_cut_0
  rw [chg_b]
  exact change_r 7 x y (fun U => g_X9_ropes U x y 1) hN H (fun S T a n h1 h2 h3 => by rw [carry7]; exact c_rope h1 h2 x y 1 (Or.inr rfl))
theorem l_tie (hN : N + 100 < 9000000) (x y : Int32) (H : RZ N S T) : LK (N + 100) S T (g_X8_tie S x y) (g_X9_tie T x y) := by
  unfold g_X8_tie f_X8_tie_0 g_X9_tie f_X9_tie_0
  rw [chg_b]
  exact change_r 8 x y (fun U => g_X9_ropes U x y 0) hN H (fun S T a n h1 h2 h3 => by rw [carry8]; exact c_rope h1 h2 x y 0 (Or.inl rfl))
theorem l_beats (hN : N + 100 < 9000000) (x : Int32) (H : RZ N S T) : LK (N + 100) S T (g_X8_beats S x) (g_X9_beats T x) := by
  unfold g_X8_beats f_X8_beats_0 g_X9_beats f_X9_beats_0
  rw [chg_b]
  exact change_r 9 x 0 (fun U => g_X9_beatsGo U x) hN H (fun S T a n h1 h2 h3 => by rw [carry9]; exact c_beats h1 h2 h3 x)
end CHG
