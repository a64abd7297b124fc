/-! ===== the pure part: the questions, 6 ===== -/
section READ9
variable {a n k i j m m' x y : Nat} {S T : Mem}
theorem p_account (H : RW a n (S 0) (S 20)) (hT : S 13 0 = S 28 14) (hP : S 11 3 = S 28 5) (x : Int32) : ∃ r, g_X8_account S x = some r ∧ g_X9_account S x = some r := by
  obtain ⟨u, -, u1, u2⟩ := cab_r H
  obtain ⟨v, -, v1, v2⟩ := ropes_r H
  obtain ⟨w, w1, w2⟩ := gterm_r H
  unfold g_X8_account f_X8_account_0 g_X6_size f_X6_size_0 g_X9_account f_X9_account_0
  simp only [u1, u2, v1, v2, w1, w2, bd1_s, Nat.reduceMul, Nat.reduceAdd, hT, hP, H.hd 0 (by decide), H.hd 1 (by decide), H.hd 2 (by decide), H.hd 3 (by decide), H.hd 4 (by decide), H.hd 5 (by decide), H.hd 6 (by decide), H.hd 7 (by decide)]
  by_cases c0 : x = 0
  · subst c0; exact ⟨_, rfl, rfl⟩
  by_cases c1 : x = 1
  · subst c1; exact ⟨_, rfl, rfl⟩
  by_cases c2 : x = 2
  · subst c2; exact ⟨_, rfl, rfl⟩
  by_cases c3 : x = 3
  · subst c3; exact ⟨_, rfl, rfl⟩
  by_cases c4 : x = 4
  · subst c4; exact ⟨_, rfl, rfl⟩
  by_cases c5 : x = 5
  · subst c5; exact ⟨_, rfl, rfl⟩
  by_cases c6 : x = 6
  · subst c6; exact ⟨_, rfl, rfl⟩
  by_cases c7 : x = 7
  · subst c7; exact ⟨_, rfl, rfl⟩
  by_cases c8 : x = 8
  · subst c8; exact ⟨_, rfl, rfl⟩
  by_cases c9 : x = 9
  · subst c9; exact ⟨_, rfl, rfl⟩
  by_cases c10 : x = 10
  · subst c10; exact ⟨_, rfl, rfl⟩
  by_cases c11 : x = 11
  · subst c11; exact ⟨_, rfl, rfl⟩
  by_cases c12 : x = 12
  · subst c12; exact ⟨_, rfl, rfl⟩
  refine ⟨-2, ?_, ?_⟩ <;> simp only [c0, c1, c2, c3, c4, c5, c6, c7, c8, c9, c10, c11, c12, ↓reduceIte]
theorem p_agreedAgain (H : RW a n (S 0) (S 20)) : ∃ r, g_X8_agreedAgain S = some r ∧ g_X9_agreedAgain S = some r := by
  have h5 := H.le5
  obtain ⟨F, hF⟩ := nats (B := 12) (by decide) H.agr
  have A : Gv (fun r => ∃ q, r = nI q ∧ (∀ i, i < n → F i ≤ q) ∧ (q = 0 ∨ ∃ i, i < n ∧ F i = q)) (g_X8_agreedAgain S) := by
    unfold g_X8_agreedAgain f_X8_agreedAgain_0 f_X8_agreedAgain_4
    refine Gv_lp (fun d s => ∃ i best, i + d = n ∧ s = (best, nI i) ∧ ((best = -1 ∧ i = 0) ∨ ∃ w, w < i ∧ best = nI w ∧ ∀ j, j < i → F j ≤ F w)) ?_ n 2000 _ (by omega) ⟨0, -1, by omega, rfl, Or.inl ⟨rfl, rfl⟩⟩
    rintro d s f ⟨i, best, hd, rfl, hb⟩ K
    unfold f_X8_agreedAgain_4_b f_X8_agreedAgain_47 f_X8_agreedAgain_49 f_X8_agreedAgain_76
    simp only [H.cn, ile (show n < 2 ^ 31 by omega) (show i < 2 ^ 31 by omega)]
    by_cases c : n ≤ i
    · have : i = n := by omega
      subst this
      simp only [c, ↓reduceIte]
      rcases hb with ⟨rfl, rfl⟩ | ⟨w, hw, rfl, hw2⟩
      · simp only [↓reduceIte]
        exact ⟨_, rfl, 0, rfl, fun j hj => by omega, Or.inl rfl⟩
      · simp (decide := true) only [nI_mm1 (show w < 2 ^ 31 by omega), ↓reduceIte, ck_in (show w < 5 by omega) (show 5 < 2 ^ 31 by decide), nI_clamp (show w < 2 ^ 31 by omega), H.fld w hw, (hF w hw).2]
        exact ⟨_, rfl, F w, rfl, hw2, Or.inr ⟨w, hw, rfl⟩⟩
    · have hi : i < n := by omega
      simp only [c, ↓reduceIte, nI_p1]
      rcases hb with ⟨rfl, rfl⟩ | ⟨w, hw, rfl, hw2⟩
      · simp only [↓reduceIte]
        exact K (d - 1) _ (by omega) ⟨1, _, by omega, rfl, Or.inr ⟨0, by omega, rfl, fun j hj => (show j = 0 by omega) ▸ Nat.le_refl _⟩⟩
      · have hw' : w < n := by omega
        have b1 := hF i hi
        have b2 := hF w hw'
        simp (decide := true) only [nI_mm1 (show w < 2 ^ 31 by omega), ↓reduceIte, ck_in (show w < 5 by omega) (show 5 < 2 ^ 31 by decide), ck_in (show i < 5 by omega) (show 5 < 2 ^ 31 by decide), nI_clamp (show w < 2 ^ 31 by omega), nI_clamp (show i < 2 ^ 31 by omega), H.fld w hw', H.fld i hi, b1.2, b2.2, ile (show F i < 2 ^ 31 by omega) (show F w < 2 ^ 31 by omega)]
        by_cases c2 : F i ≤ F w
        · simp only [c2, ↓reduceIte]
          refine K (d - 1) _ (by omega) ⟨i + 1, _, by omega, rfl, Or.inr ⟨w, by omega, rfl, fun j hj => ?_⟩⟩
          rcases Nat.lt_or_ge j i with h | h
          · exact hw2 j h
          · have : j = i := by omega
            rw [this]; exact c2
        · simp only [c2, ↓reduceIte]
          refine K (d - 1) _ (by omega) ⟨i + 1, _, by omega, rfl, Or.inr ⟨i, by omega, rfl, fun j hj => ?_⟩⟩
          rcases Nat.lt_or_ge j i with h | h
          · have := hw2 j h
            omega
          · have : j = i := by omega
            rw [this]; exact Nat.le_refl _
  have B : Gv (fun r => ∃ q, r = nI q ∧ (∀ i, i < n → F i ≤ q) ∧ (q = 0 ∨ ∃ i, i < n ∧ F i = q)) (g_X9_agreedAgain S) := by
    unfold g_X9_agreedAgain f_X9_agreedAgain_0 f_X9_agreedAgain_3
    refine Gv_lp (fun d s => ∃ q, q = d ∧ q ≤ 12 ∧ s = nI q ∧ ∀ i, i < n → F i ≤ q) ?_ 12 2000 _ (by omega) ⟨12, rfl, by omega, rfl, fun i hi => (hF i hi).1⟩
    rintro d s f ⟨q, rfl, hq, rfl, hb⟩ K
    unfold f_X9_agreedAgain_3_b
    by_cases c : q = 0
    · subst c
      rw [if_pos (by decide)]
      exact ⟨_, rfl, 0, rfl, hb, Or.inl rfl⟩
    · rw [if_neg (fun z => c ((le0I (by omega)).mp z))]
      unfold f_X9_agreedAgain_9
      refine Gv_lp (fun d s => ∃ i, i + d = n ∧ s = nI i ∧ ∀ j, j < i → F j ≠ q) ?_ n 2000 _ (by omega) ⟨0, by omega, rfl, fun j hj => by omega⟩
      rintro d s f' ⟨i, hd, rfl, hi0⟩ K'
      unfold f_X9_agreedAgain_9_b
      simp only [H.cnt, ile (show n < 2 ^ 31 by omega) (show i < 2 ^ 31 by omega), nI_p1]
      by_cases c2 : n ≤ i
      · simp only [c2, ↓reduceIte]
        rw [show nI q + (-1 : Int32) = nI (q - 1) by rw [← nI_m1 (by omega)]; exact (Int32.sub_eq_add_neg (nI q) 1).symm]
        refine K (q - 1) _ (by omega) ⟨q - 1, rfl, by omega, rfl, fun j hj => ?_⟩
        have h1 := hb j hj
        have h2 := hi0 j (by omega)
        omega
      · have hi : i < n := by omega
        have b1 := hF i hi
        simp only [c2, ↓reduceIte, of_6 S (show i < 5 by omega), bd1_s, b1.2, ieq (show F i < 2 ^ 31 by omega) (show q < 2 ^ 31 by omega)]
        by_cases c3 : F i = q
        · simp only [c3, ↓reduceIte]
          exact ⟨_, rfl, q, rfl, hb, Or.inr ⟨i, hi, c3⟩⟩
        · simp only [c3, ↓reduceIte]
          refine K' (d - 1) _ (by omega) ⟨i + 1, by omega, rfl, fun j hj => ?_⟩
          rcases Nat.lt_or_ge j i with h | h
          · exact hi0 j h
          · have : j = i := by omega
            rw [this]; exact c3
  obtain ⟨r, h1, q, rfl, q1, q2⟩ := A
  obtain ⟨r', h2, q', rfl, q3, q4⟩ := B
  have : q = q' := by
    rcases q2 with h | ⟨i, hi, h⟩
    · rcases q4 with h' | ⟨i', hi', h'⟩
      · omega
      · have := q1 i' hi'; omega
    · rcases q4 with h' | ⟨i', hi', h'⟩
      · have := q3 i hi; omega
      · have := q1 i' hi'; have := q3 i hi; omega
  exact ⟨_, h1, by rw [h2, this]⟩
end READ9
