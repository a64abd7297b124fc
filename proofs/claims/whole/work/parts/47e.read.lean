/-! ===== the pure part: letters read ===== -/
section LET2
variable {a b c d i j k n m q len pos w x y N : Nat} {S T S' T' : Mem}
theorem letter_r (H : TP len pos S T) (hp : pos < 900) (hx : x < 39) : ∃ b v pos' S' T', (b = (0 : Int32) ∨ b = 1) ∧ pos ≤ pos' ∧ pos' ≤ pos + 1 ∧ (b = 0 → pos' = pos ∧ v < 0) ∧ (b = 1 → pos' = pos + 1 ∧ pos < len ∧ 0 ≤ v) ∧ g_X6_takeBetween S 97 122 = some (v, S') ∧ g_X9_isLetter T (nI x) = some (b, T') ∧ TP len pos' S' T' ∧ FP8 S S' ∧ S' 12 = S 12 ∧ S' 11 8 = S 11 8 ∧ FP9 T T' ∧ (b = 1 → T' 26 x = v) ∧ (∀ j, j ≠ x → T' 26 j = T 26 j) ∧ T' 28 16 = T 28 16 ∧ T' 28 17 = T 28 17 := by
  have hT := H
  obtain ⟨t1, t2, t6, t7, t8, t9, t10⟩ := hT
  unfold g_X9_isLetter f_X9_isLetter_0 f_X9_isLetter_35 g_X9_isIn f_X9_isIn_0 f_X9_isIn_14 f_X9_isIn_15
  rw [take8 H (by decide), sign9 H, bd1_s]
  simp only [ck_in hx (show 39 < 2 ^ 31 by decide), nI_clamp (show x < 2 ^ 31 by omega)]
  have bad : ∀ u : Int32, ∃ b v pos' S' T', (b = (0 : Int32) ∨ b = 1) ∧ pos ≤ pos' ∧ pos' ≤ pos + 1 ∧ (b = 0 → pos' = pos ∧ v < 0) ∧ (b = 1 → pos' = pos + 1 ∧ pos < len ∧ 0 ≤ v) ∧ some ((-1 : Int32), S) = some (v, S') ∧ some ((0 : Int32), up (up T 26 x u) 28 15 (up T 26 x u 28 15 + 0)) = some (b, T') ∧ TP len pos' S' T' ∧ FP8 S S' ∧ S' 12 = S 12 ∧ S' 11 8 = S 11 8 ∧ FP9 T T' ∧ (b = 1 → T' 26 x = v) ∧ (∀ j, j ≠ x → T' 26 j = T 26 j) ∧ T' 28 16 = T 28 16 ∧ T' 28 17 = T 28 17 := by
    intro u
    have F : FP8 S S := ⟨fun _ _ _ => rfl, fun _ _ _ => rfl⟩
    have G : FP9 T (up (up T 26 x u) 28 15 (up T 26 x u 28 15 + 0)) := ⟨fun e h1 h2 => by rw [up_oth _ _ _ h2, up_oth _ _ _ h1], fun j hj => by rw [up_ne _ _ (by omega), up_ne _ _ (by omega)]⟩
    refine ⟨0, -1, pos, S, _, Or.inl rfl, Nat.le_refl _, by omega, fun _ => ⟨rfl, by decide⟩, fun z => absurd z (by decide), rfl, rfl, H.step (by omega) F G t9 ?_, F, rfl, rfl, G, fun z => absurd z (by decide), ?_, ?_, ?_⟩
    · rw [up_same, i_add0, up_ne _ _ (by omega), t10]
    · intro j hj; rw [up_ne _ _ (by omega), up_ne _ _ (by omega)]
    · rw [up_ne _ _ (by omega), up_ne _ _ (by omega)]
    · rw [up_ne _ _ (by omega), up_ne _ _ (by omega)]
  by_cases c1 : sgn len pos T < 97
  · simp (decide := true) only [c1, ↓reduceIte, bd2_s, ck_0, bd1_s]
    exact bad _
  · by_cases c2 : sgn len pos T ≤ 122
    · have hl : pos < len := by
        rcases Nat.lt_or_ge pos len with h | h
        · exact h
        · have : sgn len pos T = -1 := by unfold sgn; rw [if_pos h]
          rw [this] at c1
          exact absurd (by decide) c1
      obtain ⟨u, hu, e⟩ := nI_of2 (M := 122) (n := 122) (by decide) (fun z => c1 (Int32.lt_trans z (by decide))) c2
      have hu2 : 97 ≤ u := by
        rcases Nat.lt_or_ge u 97 with h | h
        · rw [e] at c1
          exact absurd ((nI_ltI (a := u) (b := 97) (by omega) (by decide)).mpr h) c1
        · exact h
      simp (decide := true) only [c1, c2, Int32.not_lt.mpr c2, ↓reduceIte, bd2_s, ck_1, bd1_s]
      rw [e]
      have F : FP8 S (up S 11 9 (nI (pos + 1))) := ⟨fun e h1 h2 => by rw [up_oth _ _ _ h1], fun j h1 h2 => by rw [up_ne _ _ (by omega)]⟩
      have G : FP9 T (up (up T 26 x (nI u)) 28 15 (up T 26 x (nI u) 28 15 + 1)) := ⟨fun e h1 h2 => by rw [up_oth _ _ _ h2, up_oth _ _ _ h1], fun j hj => by rw [up_ne _ _ (by omega), up_ne _ _ (by omega)]⟩
      refine ⟨1, nI u, pos + 1, _, _, Or.inr rfl, by omega, Nat.le_refl _, fun z => absurd z (by decide), fun _ => ⟨rfl, hl, nI_pos' (by omega)⟩, rfl, rfl, H.step (by omega) F G (by rw [up_same]) ?_, F, by rw [up_oth _ _ _ (by decide)], by rw [up_ne _ _ (by decide)], G, fun _ => by rw [up_ne _ _ (by omega), up_same], ?_, ?_, ?_⟩
      · rw [up_same, up_ne _ _ (by omega), t10, nI_p1]
      · intro j hj; rw [up_ne _ _ (by omega), up_ne _ _ (by omega)]
      · rw [up_ne _ _ (by omega), up_ne _ _ (by omega)]
      · rw [up_ne _ _ (by omega), up_ne _ _ (by omega)]
    · simp (decide := true) only [c1, c2, Int32.not_le.mp c2, ↓reduceIte, bd2_s, ck_0, bd1_s]
      exact bad _
end LET2
