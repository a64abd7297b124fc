/-! ===== the pure part: numbers written ===== -/
section NUM
variable {b c d i j k n m len w Mx N : Nat} {S T S' T' : Mem}
theorem dg_100 (h : 100 ≤ w) (hw : w < 1000000000) : sb_dg w = sb_dg (w / 100) + 2 := by
  unfold sb_dg
  by_cases c1 : w < 1000
  · rw [if_neg (by omega), if_neg (by omega), if_pos c1, if_pos (by omega)]
  · by_cases c2 : w < 10000
    · rw [if_neg (by omega), if_neg (by omega), if_neg c1, if_pos c2, if_neg (by omega), if_pos (by omega)]
    · by_cases c3 : w < 100000
      · rw [if_neg (by omega), if_neg (by omega), if_neg c1, if_neg c2, if_pos c3, if_neg (by omega), if_neg (by omega), if_pos (by omega)]
      · by_cases c4 : w < 1000000
        · rw [if_neg (by omega), if_neg (by omega), if_neg c1, if_neg c2, if_neg c3, if_pos c4, if_neg (by omega), if_neg (by omega), if_neg (by omega), if_pos (by omega)]
        · by_cases c5 : w < 10000000
          · rw [if_neg (by omega), if_neg (by omega), if_neg c1, if_neg c2, if_neg c3, if_neg c4, if_pos c5, if_neg (by omega), if_neg (by omega), if_neg (by omega), if_neg (by omega), if_pos (by omega)]
          · by_cases c6 : w < 100000000
            · rw [if_neg (by omega), if_neg (by omega), if_neg c1, if_neg c2, if_neg c3, if_neg c4, if_neg c5, if_pos c6, if_neg (by omega), if_neg (by omega), if_neg (by omega), if_neg (by omega), if_neg (by omega), if_pos (by omega)]
            · rw [if_neg (by omega), if_neg (by omega), if_neg c1, if_neg c2, if_neg c3, if_neg c4, if_neg c5, if_neg c6, if_pos hw, if_neg (by omega), if_neg (by omega), if_neg (by omega), if_neg (by omega), if_neg (by omega), if_neg (by omega), if_pos (by omega)]
theorem dg_1 (h : w < 10) : sb_dg w = 1 := by unfold sb_dg; rw [if_pos h]
theorem dg_2 (h : ¬ w < 10) (h2 : w < 100) : sb_dg w = 2 := by unfold sb_dg; rw [if_neg h, if_pos h2]
theorem dg_10 (h : 10 ≤ w) (hw : w < 1000000000) : sb_dg w = sb_dg (w / 10) + 1 := by
  by_cases c1 : w < 100
  · rw [dg_2 (by omega) c1, dg_1 (by omega)]
  · by_cases c2 : w < 1000
    · rw [dg_100 (by omega) hw, dg_1 (w := w / 100) (by omega), dg_2 (w := w / 10) (by omega) (by omega)]
    · unfold sb_dg
      by_cases c3 : w < 10000
      · rw [if_neg (by omega), if_neg (by omega), if_neg (by omega), if_pos c3, if_neg (by omega), if_neg (by omega), if_pos (by omega)]
      · by_cases c4 : w < 100000
        · rw [if_neg (by omega), if_neg (by omega), if_neg (by omega), if_neg c3, if_pos c4, if_neg (by omega), if_neg (by omega), if_neg (by omega), if_pos (by omega)]
        · by_cases c5 : w < 1000000
          · rw [if_neg (by omega), if_neg (by omega), if_neg (by omega), if_neg c3, if_neg c4, if_pos c5, if_neg (by omega), if_neg (by omega), if_neg (by omega), if_neg (by omega), if_pos (by omega)]
          · by_cases c6 : w < 10000000
            · rw [if_neg (by omega), if_neg (by omega), if_neg (by omega), if_neg c3, if_neg c4, if_neg c5, if_pos c6, if_neg (by omega), if_neg (by omega), if_neg (by omega), if_neg (by omega), if_neg (by omega), if_pos (by omega)]
            · by_cases c7 : w < 100000000
              · rw [if_neg (by omega), if_neg (by omega), if_neg (by omega), if_neg c3, if_neg c4, if_neg c5, if_neg c6, if_pos c7, if_neg (by omega), if_neg (by omega), if_neg (by omega), if_neg (by omega), if_neg (by omega), if_neg (by omega), if_pos (by omega)]
              · rw [if_neg (by omega), if_neg (by omega), if_neg (by omega), if_neg c3, if_neg c4, if_neg c5, if_neg c6, if_neg c7, if_pos hw, if_neg (by omega), if_neg (by omega), if_neg (by omega), if_neg (by omega), if_neg (by omega), if_neg (by omega), if_neg (by omega), if_pos (by omega)]
theorem gcs_r : ∀ (f w p : Nat) (S : Mem), w < f → w < 1000000000 → sb_dg w ≤ p → (∀ j, j < sb_dg w → gcs b f w p S (14 + 2 * b) (p - 1 - j) = nI (48 + w / 10 ^ j % 10)) ∧ (∀ c, (c < p - sb_dg w ∨ p ≤ c) → gcs b f w p S (14 + 2 * b) c = S (14 + 2 * b) c) ∧ ∀ e, e ≠ 14 + 2 * b → gcs b f w p S e = S e := by
  intro f
  induction f with
  | zero => intro w p S h; omega
  | succ f ih =>
    intro w p S hf hw hp
    unfold gcs
    by_cases c1 : w < 100
    · rw [if_pos c1]
      by_cases c2 : w < 10
      · rw [dg_1 c2] at hp ⊢
        rw [if_pos c2]
        refine ⟨?_, ?_, ?_⟩
        · intro j hj
          have : j = 0 := by omega
          subst this
          rw [Nat.sub_zero, up_same, Nat.pow_zero, Nat.div_one]
        · intro c hc
          rw [up_ne _ _ (by omega)]
        · intro e he
          rw [up_oth _ _ _ he]
      · rw [dg_2 c2 c1] at hp ⊢
        rw [if_neg c2]
        refine ⟨?_, ?_, ?_⟩
        · intro j hj
          have : j = 0 ∨ j = 1 := by omega
          rcases this with rfl | rfl
          · rw [Nat.sub_zero, up_ne _ _ (by omega), up_same, Nat.pow_zero, Nat.div_one]
          · rw [up_same, Nat.pow_one, Nat.mod_eq_of_lt (by omega)]
        · intro c hc
          rw [up_ne _ _ (by omega), up_ne _ _ (by omega)]
        · intro e he
          rw [up_oth _ _ _ he, up_oth _ _ _ he]
    · rw [if_neg c1]
      have hdg := dg_100 (w := w) (by omega) hw
      have h1 := sb_dg_in (w / 100)
      obtain ⟨a1, a2, a3⟩ := ih (w / 100) (p - 1 - 1) (up (up S (14 + 2 * b) (p - 1) (nI (48 + w % 10))) (14 + 2 * b) (p - 1 - 1) (nI (48 + w / 10 % 10))) (by omega) (by omega) (by omega)
      refine ⟨?_, ?_, ?_⟩
      · intro j hj
        by_cases j0 : j = 0
        · subst j0
          rw [a2 _ (by omega), Nat.sub_zero, up_ne _ _ (by omega), up_same, Nat.pow_zero, Nat.div_one]
        · by_cases j1 : j = 1
          · subst j1
            rw [a2 _ (by omega), up_same, Nat.pow_one]
          · have := a1 (j - 2) (by omega)
            rw [show p - 1 - 1 - 1 - (j - 2) = p - 1 - j by omega] at this
            rw [this, Nat.div_div_eq_div_mul]
            have e : 100 * 10 ^ (j - 2) = 10 ^ j := by
              rw [show (100 : Nat) = 10 ^ 2 by decide, ← Nat.pow_add]
              exact congrArg _ (by omega)
            rw [e]
      · intro c hc
        rw [a2 c (by omega), up_ne _ _ (by omega), up_ne _ _ (by omega)]
      · intro e he
        rw [a3 e he, up_oth _ _ _ he, up_oth _ _ _ he]
end NUM
