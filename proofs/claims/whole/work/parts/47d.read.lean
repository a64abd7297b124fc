/-! ===== the pure part: one sign read ===== -/
section SGN2
variable {len pos : Nat} {S T : Mem} {s : Int32}
theorem sign_r (H : TP len pos S T) (hp : pos < 900) (hs : 0 ≤ s) : ∃ b pos' S' T', (b = (0 : Int32) ∨ b = 1) ∧ pos ≤ pos' ∧ pos' ≤ pos + 1 ∧ (b = 0 → pos' = pos) ∧ (b = 1 → pos' = pos + 1 ∧ pos < len) ∧ g_X6_takeSign S s = some (b, S') ∧ g_X9_isSign T s = some (b, T') ∧ TP len pos' S' T' ∧ FP8 S S' ∧ S' 12 = S 12 ∧ S' 11 8 = S 11 8 ∧ FP9 T T' ∧ T' 26 = T 26 ∧ T' 28 16 = T 28 16 ∧ T' 28 17 = T 28 17 := by
  have hT := H
  obtain ⟨t1, t2, t6, t7, t8, t9, t10⟩ := hT
  unfold g_X6_takeSign f_X6_takeSign_0 f_X6_takeSign_14 g_X9_isSign f_X9_isSign_0 f_X9_isSign_13 f_X9_isSign_28
  rw [take8 H hs, sign9 H, bd1_s]
  have F0 : FP8 S S := ⟨fun _ _ _ => rfl, fun _ _ _ => rfl⟩
  have G : ∀ u, FP9 T (up T 28 15 u) := fun u => ⟨fun e h1 h2 => by rw [up_oth _ _ _ h2], fun j hj => by rw [up_ne _ _ (by omega)]⟩
  have bad : ∃ b pos' S' T', (b = (0 : Int32) ∨ b = 1) ∧ pos ≤ pos' ∧ pos' ≤ pos + 1 ∧ (b = 0 → pos' = pos) ∧ (b = 1 → pos' = pos + 1 ∧ pos < len) ∧ some ((0 : Int32), S) = some (b, S') ∧ some ((0 : Int32), up T 28 15 (T 28 15 + 0)) = some (b, T') ∧ TP len pos' S' T' ∧ FP8 S S' ∧ S' 12 = S 12 ∧ S' 11 8 = S 11 8 ∧ FP9 T T' ∧ T' 26 = T 26 ∧ T' 28 16 = T 28 16 ∧ T' 28 17 = T 28 17 :=
    ⟨0, pos, S, _, Or.inl rfl, Nat.le_refl _, by omega, fun _ => rfl, fun z => absurd z (by decide), rfl, rfl, H.step (by omega) F0 (G _) t9 (by rw [up_same, i_add0, t10]), F0, rfl, rfl, G _, by rw [up_oth _ _ _ (by decide)], by rw [up_ne _ _ (by omega)], by rw [up_ne _ _ (by omega)]⟩
  by_cases c1 : sgn len pos T < s
  · have ne : ¬ sgn len pos T = s := fun z => Int32.lt_irrefl (z ▸ c1)
    simp (decide := true) only [c1, ne, ↓reduceIte, bd2_s, ck_0]
    exact bad
  · by_cases c2 : sgn len pos T ≤ s
    · have e : sgn len pos T = s := Int32.le_antisymm c2 (Int32.not_lt.mp c1)
      have hl : pos < len := by
        rcases Nat.lt_or_ge pos len with h | h
        · exact h
        · have : sgn len pos T = -1 := by unfold sgn; rw [if_pos h]
          rw [e] at this
          rw [this] at hs
          exact absurd hs (by decide)
      have F : FP8 S (up S 11 9 (nI (pos + 1))) := ⟨fun e h1 h2 => by rw [up_oth _ _ _ h1], fun j h1 h2 => by rw [up_ne _ _ (by omega)]⟩
      rw [e]
      simp (decide := true) only [Int32.lt_irrefl, Int32.le_refl, ↓reduceIte, bd2_s, ck_1, Int32.not_lt.mpr hs]
      exact ⟨1, pos + 1, _, _, Or.inr rfl, by omega, Nat.le_refl _, fun z => absurd z (by decide), fun _ => ⟨rfl, hl⟩, rfl, rfl, H.step (by omega) F (G _) (by rw [up_same]) (by rw [up_same, t10, nI_p1]), F, by rw [up_oth _ _ _ (by decide)], by rw [up_ne _ _ (by decide)], G _, by rw [up_oth _ _ _ (by decide)], by rw [up_ne _ _ (by omega)], by rw [up_ne _ _ (by omega)]⟩
    · have ne : ¬ sgn len pos T = s := fun z => c2 (z ▸ Int32.le_refl _)
      simp (decide := true) only [c1, c2, ne, ↓reduceIte, bd2_s, ck_0]
      exact bad
end SGN2
