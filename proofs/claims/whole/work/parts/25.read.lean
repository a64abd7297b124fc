/-! ===== the pure part: the questions, 2 ===== -/
section READ5
variable {a n k i j m m' x y : Nat} {S T : Mem}
theorem greatX (x y : Int32) : g_X9_greater x y = some (mx x y) := by
  unfold g_X9_greater f_X9_greater_0 f_X9_greater_10 mx
  by_cases c : x < y
  · rw [if_pos c, if_pos (Int32.le_of_lt c)]
  · rw [if_neg c]
    by_cases c2 : x ≤ y
    · rw [if_pos c2, Int32.le_antisymm c2 (Int32.not_lt.mp c)]
    · rw [if_neg c2]
theorem lessX (x y : Int32) : g_X9_lesser x y = some (mn x y) := by
  unfold g_X9_lesser f_X9_lesser_0 f_X9_lesser_10 mn
  by_cases c : y < x
  · rw [if_pos c, if_pos (Int32.le_of_lt c)]
  · rw [if_neg c]
    by_cases c2 : y ≤ x
    · rw [if_pos c2, Int32.le_antisymm c2 (Int32.not_lt.mp c)]
    · rw [if_neg c2]
theorem p_agreed (H : RW a n (S 0) (S 20)) : ∃ r, g_X8_agreed S = some r ∧ g_X9_agreed S = some r := by
  have h5 := H.le5
  unfold g_X8_agreed f_X8_agreed_0 f_X8_agreed_4 g_X9_agreed f_X9_agreed_0 f_X9_agreed_4
  refine RR.eq (RR.for (fun _ _ => True) n (by omega) trivial ?_ ?_)
  · intro x f g _
    unfold f_X8_agreed_4_b f_X9_agreed_4_b
    rw [H.cn, H.cnt, ile (by omega) (by omega), ile (by omega) (by omega), if_pos (Nat.le_refl _), if_pos (Nat.le_refl _)]
    exact RR.rf _
  · intro j x f g hj _ K
    unfold f_X8_agreed_4_b f_X9_agreed_4_b
    rw [H.cn, H.cnt, ile (by omega) (by omega), ile (by omega) (by omega), if_neg (Nat.not_le.mpr hj), if_neg (Nat.not_le.mpr hj), ck_in (by omega) (by decide), nI_clamp (by omega), H.c hj (by decide), of_6 S (by omega), bd1_s, greatX, bd1_s]
    exact K _ trivial
theorem cab_r (H : RW a n (S k) (T 20)) : ∃ r : Nat, r ≤ n ∧ g_X4_countAboard S k = some (nI r) ∧ g_X9_aboard T = some (nI r) := by
  have h5 := H.le5
  have R : RR (fun x y => ∃ r : Nat, r ≤ n ∧ x = nI r ∧ y = nI r) (g_X4_countAboard S k) (g_X9_aboard T) := by
    unfold g_X4_countAboard f_X4_countAboard_0 f_X4_countAboard_4 g_X9_aboard f_X9_aboard_0 f_X9_aboard_4
    refine RR.for (fun i x => ∃ r : Nat, r ≤ i ∧ x = nI r) n (by omega) ⟨0, by omega, rfl⟩ ?_ ?_
    · rintro x f g ⟨r, hr, rfl⟩
      unfold f_X4_countAboard_4_b f_X9_aboard_4_b
      rw [H.cn, H.cnt, ile (by omega) (by omega), ile (by omega) (by omega), if_pos (Nat.le_refl _), if_pos (Nat.le_refl _)]
      exact RR.ret ⟨r, hr, rfl, rfl⟩
    · rintro j x f g hj ⟨r, hr, rfl⟩ K
      unfold f_X4_countAboard_4_b f_X9_aboard_4_b f_X4_countAboard_27
      rw [H.cn, H.cnt, ile (by omega) (by omega), ile (by omega) (by omega), if_neg (Nat.not_le.mpr hj), if_neg (Nat.not_le.mpr hj), ck_in (by omega) (by decide), nI_clamp (by omega), H.c hj (by decide), of_7 T (by omega), bd1_s]
      rcases H.ab hj with hA | hA
      · rw [hA, if_pos rfl, i_add0]
        exact K _ ⟨r, by omega, rfl⟩
      · rw [hA, if_neg (by decide)]
        exact K _ ⟨r + 1, by omega, nI_p1 r⟩
  obtain ⟨x, y, h1, h2, r, h3, rfl, rfl⟩ := R
  exact ⟨r, h3, h1, h2⟩
theorem creach_r (H : RW a n (S k) (T 20)) (hi : i < n) : ∃ r, g_X4_countReached S k (nI i) = some r ∧ g_X9_reachedBy T (nI i) = some r := by
  have h5 := H.le5
  unfold g_X4_countReached f_X4_countReached_0 f_X4_countReached_4 g_X9_reachedBy f_X9_reachedBy_0 f_X9_reachedBy_4
  refine RR.eq (RR.for (fun _ _ => True) n (by omega) trivial ?_ ?_)
  · intro x f g _
    unfold f_X4_countReached_4_b f_X9_reachedBy_4_b
    rw [H.cn, H.cnt, ile (by omega) (by omega), ile (by omega) (by omega), if_pos (Nat.le_refl _), if_pos (Nat.le_refl _)]
    exact RR.rf _
  · intro j x f g hj _ K
    obtain ⟨b, hb, h1, h2, -⟩ := reach_r H hi hj
    unfold f_X4_countReached_4_b f_X9_reachedBy_4_b f_X4_countReached_24 f_X9_reachedBy_29
    rw [H.cn, H.cnt, ile (by omega) (by omega), ile (by omega) (by omega), if_neg (Nat.not_le.mpr hj), if_neg (Nat.not_le.mpr hj), h1, h2, bd1_s, bd1_s]
    rcases hb with rfl | rfl
    · rw [if_pos rfl, if_pos rfl, i_add0]
      exact K _ trivial
    · rw [if_neg (by decide), if_neg (by decide)]
      exact K _ trivial
theorem p_driverOf (H : RW a n (S 0) (S 20)) (x y : Int32) : ∃ r, g_X8_driverOf S x y = some r ∧ g_X9_driverOf S x y = some r := by
  have h5 := H.le5
  unfold g_X8_driverOf f_X8_driverOf_0 f_X8_driverOf_131 g_X9_driverOf f_X9_driverOf_0 f_X9_driverOf_76
  rcases has_r H x with ⟨i, hi, rfl, h1, h2⟩ | ⟨h1, h2⟩
  · obtain ⟨q, hq1, hq2⟩ := creach_r H hi
    simp (decide := true) only [h1, h2, hq1, hq2, bd1_s, ck_in (show i < 5 by omega) (show 5 < 2 ^ 31 by decide), nI_clamp (show i < 2 ^ 31 by omega), ↓reduceIte, H.c0 hi, H.fld i hi]
    have hi5 : i < 5 := by omega
    by_cases c0 : y = 0
    · subst c0; simp (decide := true) only [↓reduceIte, of_0 S hi5, bd1_s]; exact ⟨_, rfl, rfl⟩
    by_cases c1 : y = 1
    · subst c1; simp (decide := true) only [↓reduceIte, of_1 S hi5, bd1_s]; exact ⟨_, rfl, rfl⟩
    by_cases c2 : y = 2
    · subst c2; simp (decide := true) only [↓reduceIte, of_2 S hi5, bd1_s]; exact ⟨_, rfl, rfl⟩
    by_cases c3 : y = 3
    · subst c3; simp (decide := true) only [↓reduceIte, of_3 S hi5, bd1_s]; exact ⟨_, rfl, rfl⟩
    by_cases c4 : y = 4
    · subst c4; simp (decide := true) only [↓reduceIte, of_4 S hi5, bd1_s]; exact ⟨_, rfl, rfl⟩
    by_cases c5 : y = 5
    · subst c5; simp (decide := true) only [↓reduceIte, of_5 S hi5, bd1_s]; exact ⟨_, rfl, rfl⟩
    by_cases c6 : y = 6
    · subst c6; simp (decide := true) only [↓reduceIte, of_6 S hi5, bd1_s]; exact ⟨_, rfl, rfl⟩
    by_cases c7 : y = 7
    · subst c7
      simp (decide := true) only [↓reduceIte, of_7 S hi5, bd1_s]
      rcases H.ab hi with hA | hA
      · rw [hA]; exact ⟨_, rfl, rfl⟩
      · rw [hA]; exact ⟨_, rfl, rfl⟩
    by_cases c8 : y = 8
    · subst c8; simp (decide := true) only [↓reduceIte, bd1_s]; exact ⟨_, rfl, rfl⟩
    by_cases c9 : y = 9
    · subst c9
      rw [show ((9 : Int32) - 9) + 8 = 8 by decide]
      simp (decide := true) only [↓reduceIte, of_8 S hi5, bd1_s]; exact ⟨_, rfl, rfl⟩
    by_cases c10 : y = 10
    · subst c10
      rw [show ((10 : Int32) - 9) + 8 = 9 by decide]
      simp (decide := true) only [↓reduceIte, of_9 S hi5, bd1_s]; exact ⟨_, rfl, rfl⟩
    have hin : g_X9_isIn y 0 7 = some 0 := by
      unfold g_X9_isIn f_X9_isIn_0 f_X9_isIn_14 f_X9_isIn_15
      by_cases d0 : y < 0
      · rw [if_pos d0]; rfl
      · by_cases d1 : (7 : Int32) < y
        · rw [if_neg d0, if_pos d1]; rfl
        · exfalso
          obtain ⟨l, hl, rfl⟩ := nI_of2 (M := 7) (n := 7) (by decide) d0 (Int32.not_lt.mp d1)
          have : l = 0 ∨ l = 1 ∨ l = 2 ∨ l = 3 ∨ l = 4 ∨ l = 5 ∨ l = 6 ∨ l = 7 := by omega
          rcases this with rfl | rfl | rfl | rfl | rfl | rfl | rfl | rfl
          · exact c0 rfl
          · exact c1 rfl
          · exact c2 rfl
          · exact c3 rfl
          · exact c4 rfl
          · exact c5 rfl
          · exact c6 rfl
          · exact c7 rfl
    refine ⟨-2, ?_, ?_⟩
    · simp (decide := true) only [c0, c1, c2, c3, c4, c5, c6, c7, c8, c9, c10, ↓reduceIte]
    · simp (decide := true) only [c0, c1, c2, c3, c4, c5, c6, c7, c8, c9, c10, ↓reduceIte, hin, bd1_s]
  · rw [h1, h2]
    exact ⟨_, rfl, rfl⟩
theorem sumL (H : RW a n (S k) (T 20)) {F : Nat → Nat} {B : Nat} (hB : B < 1000) (hF : ∀ i, i < n → F i ≤ B) {b : ((Int32 × Int32) → Option Int32) → Int32 × Int32 → Option Int32} (fin : ∀ x f, b f (x, nI n) = some x) (step : ∀ i x f, i < n → b f (x, nI i) = f (x + nI (F i), nI i + 1)) : ∃ r : Nat, r ≤ n * B ∧ lp b 2000 (0, 0) = some (nI r) := by
  have h5 := H.le5
  have R : Gv (fun x => ∃ r : Nat, r ≤ n * B ∧ x = nI r) (lp b 2000 (0, 0)) := by
    refine Gv_lp (fun d s => ∃ i r : Nat, i + d = n ∧ r ≤ i * B ∧ s = (nI r, nI i)) ?_ n 2000 _ (by omega) ⟨0, 0, by omega, by omega, rfl⟩
    rintro d s f ⟨i, r, hd, hr, rfl⟩ K
    rcases Nat.lt_or_ge i n with h | h
    · rw [step i _ f h, nI_p1, nI_add]
      have := hF i h
      exact K (d - 1) _ (by omega) ⟨i + 1, r + F i, by omega, by rw [Nat.add_mul]; omega, rfl⟩
    · have : i = n := by omega
      subst this
      rw [fin]
      exact ⟨_, rfl, r, hr, rfl⟩
  obtain ⟨x, h1, r, h2, rfl⟩ := R
  exact ⟨r, h2, h1⟩
end READ5
