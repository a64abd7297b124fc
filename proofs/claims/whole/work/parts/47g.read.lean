/-! ===== the pure part: a second argument read ===== -/
section SND
variable {len pos c : Nat} {S T : Mem}
theorem second_r (H : TP len pos S T) (hp : pos < 900) (hc : c < 12) : ∃ b pos' S' T', (b = (0 : Int32) ∨ b = 1) ∧ pos ≤ pos' ∧ pos' ≤ pos + 1 ∧ (b = 0 → pos' = pos) ∧ (b = 1 → pos' = pos + 1 ∧ pos < len) ∧ g_X6_takeSecond S c = some (b, S') ∧ g_X9_isDigit T (nI (3 * c + 2)) = some (b, T') ∧ TP len pos' S' T' ∧ FP8 S S' ∧ (b = 1 → S' 12 (3 * c + 2) = T' 26 (3 * c + 2)) ∧ (∀ j, j ≠ 3 * c + 2 → S' 12 j = S 12 j) ∧ S' 11 8 = S 11 8 ∧ FP9 T T' ∧ (∀ j, j ≠ 3 * c + 2 → T' 26 j = T 26 j) ∧ T' 28 16 = T 28 16 ∧ T' 28 17 = T 28 17 := by
  obtain ⟨b, v, pos', S', T', hb, p1, p2, p3, p4, e1, e2, K, F, f12, f8, G, g1, g2, g3, g4⟩ := digit_r H hp (x := 3 * c + 2) (by omega)
  have hS9 := K.2.2.2.2.2.1
  have hT9 := K.2.2.2.2.2.2
  have F2 : FP8 S' (up S' 12 (3 * c + 2) v) := ⟨fun e h1 h2 => by rw [up_oth _ _ _ h2], fun j h1 h2 => by rw [up_ne _ _ (by omega)]⟩
  have G2 : FP9 T' T' := ⟨fun _ _ _ => rfl, fun _ _ => rfl⟩
  refine ⟨b, pos', up S' 12 (3 * c + 2) v, T', hb, p1, p2, fun z => (p3 z).1, fun z => ⟨(p4 z).1, (p4 z).2.1⟩, ?_, e2, K.step (by omega) F2 G2 (by rw [up_ne _ _ (by omega)]; exact hS9) hT9, F.tr F2, fun z => by rw [up_same, g1 z], fun j hj => by rw [up_ne _ _ (by omega), f12], by rw [up_ne _ _ (by omega), f8], G, g2, g3, g4⟩
  unfold g_X6_takeSecond f_X6_takeSecond_0 f_X6_takeSecond_20
  rw [e1, bd2_s, up_same]
  rcases hb with rfl | rfl
  · rw [if_pos (p3 rfl).2]; rfl
  · rw [if_neg (Int32.not_lt.mpr (p4 rfl).2.2)]; rfl
end SND
/-! ===== the pure part: a letter read ===== -/
section LTR
variable {len pos c : Nat} {S T : Mem}
theorem let_r (H : TP len pos S T) (hp : pos < 900) (hc : c < 12) : ∃ b pos' S' T', (b = (0 : Int32) ∨ b = 1) ∧ pos ≤ pos' ∧ pos' ≤ pos + 1 ∧ (b = 0 → pos' = pos) ∧ (b = 1 → pos' = pos + 1 ∧ pos < len) ∧ g_X6_takeLetter S c = some (b, S') ∧ g_X9_isLetter T (nI (3 * c + 2)) = some (b, T') ∧ TP len pos' S' T' ∧ FP8 S S' ∧ (b = 1 → S' 12 (3 * c + 2) = T' 26 (3 * c + 2)) ∧ (∀ j, j ≠ 3 * c + 2 → S' 12 j = S 12 j) ∧ S' 11 8 = S 11 8 ∧ FP9 T T' ∧ (∀ j, j ≠ 3 * c + 2 → T' 26 j = T 26 j) ∧ T' 28 16 = T 28 16 ∧ T' 28 17 = T 28 17 := by
  obtain ⟨b, v, pos', S', T', hb, p1, p2, p3, p4, e1, e2, K, F, f12, f8, G, g1, g2, g3, g4⟩ := letter_r H hp (x := 3 * c + 2) (by omega)
  have hS9 := K.2.2.2.2.2.1
  have hT9 := K.2.2.2.2.2.2
  have F2 : FP8 S' (up S' 12 (3 * c + 2) v) := ⟨fun e h1 h2 => by rw [up_oth _ _ _ h2], fun j h1 h2 => by rw [up_ne _ _ (by omega)]⟩
  have G2 : FP9 T' T' := ⟨fun _ _ _ => rfl, fun _ _ => rfl⟩
  refine ⟨b, pos', up S' 12 (3 * c + 2) v, T', hb, p1, p2, fun z => (p3 z).1, fun z => ⟨(p4 z).1, (p4 z).2.1⟩, ?_, e2, K.step (by omega) F2 G2 (by rw [up_ne _ _ (by omega)]; exact hS9) hT9, F.tr F2, fun z => by rw [up_same, g1 z], fun j hj => by rw [up_ne _ _ (by omega), f12], by rw [up_ne _ _ (by omega), f8], G, g2, g3, g4⟩
  unfold g_X6_takeLetter f_X6_takeLetter_0 f_X6_takeLetter_24
  rw [e1, bd2_s, up_same]
  rcases hb with rfl | rfl
  · rw [if_pos (p3 rfl).2]; rfl
  · rw [if_neg (Int32.not_lt.mpr (p4 rfl).2.2)]; rfl
end LTR
