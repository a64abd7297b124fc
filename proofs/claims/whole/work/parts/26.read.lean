/-! ===== the pure part: the questions, 3 ===== -/
section READ6
variable {a n k i j m m' x y : Nat} {S T : Mem}
/-- a bounded field of the drivers as numbers -/
theorem nats {V : Nat → Int32} {B f : Nat} (hB : B < 2 ^ 31) (h : ∀ i, i < n → bnd (V (33 + 34 * i + f)) B) : ∃ F : Nat → Nat, ∀ i, i < n → F i ≤ B ∧ V (33 + 34 * i + f) = nI (F i) := by
  refine ⟨fun i => (V (33 + 34 * i + f)).toNatClampNeg, fun i hi => ?_⟩
  obtain ⟨t, ht, he⟩ := h i hi
  have : (V (33 + 34 * i + f)).toNatClampNeg = t := by rw [he]; exact nI_clamp (by omega)
  show (V (33 + 34 * i + f)).toNatClampNeg ≤ B ∧ V (33 + 34 * i + f) = nI (V (33 + 34 * i + f)).toNatClampNeg
  rw [this]
  exact ⟨ht, he⟩
theorem lines_r (H : RW a n (S k) (T 20)) : ∃ r : Nat, r ≤ 60 ∧ g_X4_countLines S k = some (nI r) ∧ g_X9_allOf T 5 = some (nI r) := by
  have h5 := H.le5
  obtain ⟨F, hF⟩ := nats (B := 12) (by decide) H.many
  have R : RR (fun x y => ∃ r : Nat, r ≤ 60 ∧ x = nI r ∧ y = nI r) (g_X4_countLines S k) (g_X9_allOf T 5) := by
    unfold g_X4_countLines f_X4_countLines_0 f_X4_countLines_4 g_X9_allOf f_X9_allOf_0 f_X9_allOf_4
    refine RR.for (fun i x => ∃ r : Nat, r ≤ 12 * i ∧ x = nI r) n (by omega) ⟨0, by omega, rfl⟩ ?_ ?_
    · rintro x f g ⟨r, hr, rfl⟩
      unfold f_X4_countLines_4_b f_X9_allOf_4_b
      rw [H.cn, H.cnt, ile (by omega) (by omega), ile (by omega) (by omega), if_pos (Nat.le_refl _), if_pos (Nat.le_refl _)]
      exact RR.ret ⟨r, by omega, rfl, rfl⟩
    · rintro j x f g hj ⟨r, hr, rfl⟩ K
      unfold f_X4_countLines_4_b f_X9_allOf_4_b
      obtain ⟨h1, h2⟩ := hF j hj
      rw [H.cn, H.cnt, ile (by omega) (by omega), ile (by omega) (by omega), if_neg (Nat.not_le.mpr hj), if_neg (Nat.not_le.mpr hj), ck_in (by omega) (by decide), nI_clamp (by omega), H.c hj (by decide), of_5 T (by omega), bd1_s, h2, nI_add]
      exact K _ ⟨r + F j, by omega, rfl⟩
  obtain ⟨x, y, h1, h2, r, h3, rfl, rfl⟩ := R
  exact ⟨r, h3, h1, h2⟩
theorem known_r (H : RW a n (S k) (T 20)) : ∃ r : Nat, r ≤ 60 ∧ g_X4_countKnownLines S k = some (nI r) ∧ g_X9_allOf T 6 = some (nI r) := by
  have h5 := H.le5
  obtain ⟨F, hF⟩ := nats (B := 12) (by decide) H.agr
  have R : RR (fun x y => ∃ r : Nat, r ≤ 60 ∧ x = nI r ∧ y = nI r) (g_X4_countKnownLines S k) (g_X9_allOf T 6) := by
    unfold g_X4_countKnownLines f_X4_countKnownLines_0 f_X4_countKnownLines_4 g_X9_allOf f_X9_allOf_0 f_X9_allOf_4
    refine RR.for (fun i x => ∃ r : Nat, r ≤ 12 * i ∧ x = nI r) n (by omega) ⟨0, by omega, rfl⟩ ?_ ?_
    · rintro x f g ⟨r, hr, rfl⟩
      unfold f_X4_countKnownLines_4_b f_X9_allOf_4_b
      rw [H.cn, H.cnt, ile (by omega) (by omega), ile (by omega) (by omega), if_pos (Nat.le_refl _), if_pos (Nat.le_refl _)]
      exact RR.ret ⟨r, by omega, rfl, rfl⟩
    · rintro j x f g hj ⟨r, hr, rfl⟩ K
      unfold f_X4_countKnownLines_4_b f_X9_allOf_4_b
      obtain ⟨h1, h2⟩ := hF j hj
      rw [H.cn, H.cnt, ile (by omega) (by omega), ile (by omega) (by omega), if_neg (Nat.not_le.mpr hj), if_neg (Nat.not_le.mpr hj), ck_in (by omega) (by decide), nI_clamp (by omega), H.c hj (by decide), of_6 T (by omega), bd1_s, h2, nI_add]
      exact K _ ⟨r + F j, by omega, rfl⟩
  obtain ⟨x, y, h1, h2, r, h3, rfl, rfl⟩ := R
  exact ⟨r, h3, h1, h2⟩
theorem gterm_r (H : RW a n (S k) (T 20)) : ∃ r, g_X4_greatestTerm S k = some r ∧ g_X9_greatestTerm T = some r := by
  have h5 := H.le5
  unfold g_X4_greatestTerm f_X4_greatestTerm_0 f_X4_greatestTerm_4 g_X9_greatestTerm f_X9_greatestTerm_0 f_X9_greatestTerm_4
  refine RR.eq (RR.for (fun _ _ => True) n (by omega) trivial ?_ ?_)
  · intro x f g _
    unfold f_X4_greatestTerm_4_b f_X9_greatestTerm_4_b
    rw [H.cn, H.cnt, ile (by omega) (by omega), ile (by omega) (by omega), if_pos (Nat.le_refl _), if_pos (Nat.le_refl _)]
    exact RR.rf _
  · intro j x f g hj _ K
    unfold f_X4_greatestTerm_4_b f_X9_greatestTerm_4_b
    rw [H.cn, H.cnt, ile (by omega) (by omega), ile (by omega) (by omega), if_neg (Nat.not_le.mpr hj), if_neg (Nat.not_le.mpr hj), ck_in (by omega) (by decide), nI_clamp (by omega), H.c hj (by decide), of_1 T (by omega), bd1_s, greatX, bd1_s]
    exact K _ trivial
theorem p_meanTale (H : RW a n (S 0) (S 20)) : ∃ r : UInt32, g_X8_meanTale S = some r ∧ g_X9_meanTale S = some r ∧ nn64 (FP.f2d r) = true := by
  have h5 := H.le5
  obtain ⟨r, hr, h1, h2⟩ := lines_r H
  unfold g_X8_meanTale f_X8_meanTale_0 g_X9_meanTale f_X9_meanTale_0 f_X9_meanTale_27
  rw [h1, h2, H.cn, H.cnt]
  simp only [bd1_s]
  by_cases c : n = 0
  · subst c
    exact ⟨_, rfl, rfl, by decide +kernel⟩
  · rw [if_neg (nI_ne0 (by omega) (by omega)), ck_t _ (t_fdiv r (by omega) n (by omega) c)]
    exact ⟨_, rfl, rfl, t_f2d r (by omega) n (by omega) c⟩
theorem p_agreedShare (H : RW a n (S 0) (S 20)) : ∃ r : UInt64, g_X8_agreedShare S = some r ∧ g_X9_agreedShare S = some r := by
  have h5 := H.le5
  obtain ⟨r, hr, h1, h2⟩ := lines_r H
  obtain ⟨q, hq, h3, h4⟩ := known_r H
  unfold g_X8_agreedShare f_X8_agreedShare_0 g_X9_agreedShare f_X9_agreedShare_0 f_X9_agreedShare_24
  rw [h1, h2, h3, h4]
  simp only [bd1_s]
  by_cases c : r = 0
  · subst c
    exact ⟨_, rfl, rfl⟩
  · rw [if_neg (nI_ne0 (by omega) (by omega)), ck_t _ (t_ddiv q (by omega) r (by omega) c)]
    exact ⟨_, rfl, rfl⟩
theorem p_conflicts (H : RW a n (S 0) (S 20)) : ∃ r, g_X8_conflicts S = some r ∧ g_X9_conflicts S = some r := by
  have h5 := H.le5
  unfold g_X8_conflicts f_X8_conflicts_0 f_X8_conflicts_4 g_X9_conflicts f_X9_conflicts_0 f_X9_conflicts_4
  refine RR.eq (RR.for (fun _ _ => True) n (by omega) trivial ?_ ?_)
  · intro x f g _
    unfold f_X8_conflicts_4_b f_X9_conflicts_4_b
    rw [H.cn, H.cnt, ile (by omega) (by omega), ile (by omega) (by omega), if_pos (Nat.le_refl _), if_pos (Nat.le_refl _)]
    exact RR.rf _
  · intro j x f g hj _ K
    unfold f_X8_conflicts_4_b f_X9_conflicts_4_b f_X8_conflicts_17 f_X9_conflicts_16
    rw [H.cn, H.cnt, ile (by omega) (by omega), ile (by omega) (by omega), if_neg (Nat.not_le.mpr hj), if_neg (Nat.not_le.mpr hj)]
    refine RR.for (fun _ _ => True) j (by omega) trivial ?_ ?_
    · intro x f' g' _
      unfold f_X8_conflicts_17_b f_X9_conflicts_16_b
      rw [ile (by omega) (by omega), ile (by omega) (by omega), if_pos (Nat.le_refl _), if_pos (Nat.le_refl _)]
      exact K _ trivial
    · intro w x f' g' hw _ K'
      obtain ⟨m, hm, e⟩ := H.many j hj
      obtain ⟨m', hm', e'⟩ := H.many w (by omega)
      obtain ⟨q, -, -, h6, h7⟩ := same_r H hj (by omega) hm hm' e e'
      unfold f_X8_conflicts_17_b f_X9_conflicts_16_b f_X8_conflicts_37 f_X9_conflicts_51 g_X4_isConflict f_X4_isConflict_0 f_X4_isConflict_46
      rw [ile (by omega) (by omega), ile (by omega) (by omega), if_neg (Nat.not_le.mpr hw), if_neg (Nat.not_le.mpr hw), ck_in (by omega) (by decide), ck_in (by omega) (by decide), ck_in (by omega) (by decide), ck_in (by omega) (by decide), nI_clamp (by omega), nI_clamp (by omega), h6, h7, bd1_s, bd1_s, of_5 S (by omega), of_5 S (by omega), bd1_s, bd1_s, lessX, bd1_s, H.c hj (by decide), H.c (show w < n by omega) (by decide)]
      by_cases c : mn (S 20 (33 + 34 * j + 5)) (S 20 (33 + 34 * w + 5)) ≤ nI q
      · rw [if_pos c, if_pos c, ck_0, bd1_s, if_pos rfl, i_add0]
        exact K' _ trivial
      · rw [if_neg c, if_neg c, ck_1, bd1_s, if_neg (by decide)]
        exact K' _ trivial
theorem p_isSafe (H : RW a n (S 0) (S 20)) : ∃ r, g_X8_isSafe S = some r ∧ g_X9_isSafe S = some r := by
  have h5 := H.le5
  unfold g_X8_isSafe f_X8_isSafe_0 f_X8_isSafe_2 g_X9_isSafe f_X9_isSafe_0 f_X9_isSafe_2
  refine RR.eq (RR.for1 n (by omega) ?_ ?_)
  · intro f g
    unfold f_X8_isSafe_2_b f_X9_isSafe_2_b
    rw [H.cn, H.cnt, ile (by omega) (by omega), ile (by omega) (by omega), if_pos (Nat.le_refl _), if_pos (Nat.le_refl _)]
    exact RR.rf _
  · intro j f g hj K
    unfold f_X8_isSafe_2_b f_X9_isSafe_2_b f_X8_isSafe_15 f_X9_isSafe_14
    rw [H.cn, H.cnt, ile (by omega) (by omega), ile (by omega) (by omega), if_neg (Nat.not_le.mpr hj), if_neg (Nat.not_le.mpr hj)]
    refine RR.for1 j (by omega) ?_ ?_
    · intro f' g'
      unfold f_X8_isSafe_15_b f_X9_isSafe_14_b
      rw [ile (by omega) (by omega), ile (by omega) (by omega), if_pos (Nat.le_refl _), if_pos (Nat.le_refl _)]
      exact K
    · intro w f' g' hw K'
      obtain ⟨m, hm, e⟩ := H.many j hj
      obtain ⟨m', hm', e'⟩ := H.many w (by omega)
      obtain ⟨q, -, -, h6, h7⟩ := same_r H hj (by omega) hm hm' e e'
      unfold f_X8_isSafe_15_b f_X9_isSafe_14_b
      rw [ile (by omega) (by omega), ile (by omega) (by omega), if_neg (Nat.not_le.mpr hw), if_neg (Nat.not_le.mpr hw), ck_in (by omega) (by decide), ck_in (by omega) (by decide), nI_clamp (by omega), nI_clamp (by omega), h6, h7, bd1_s, bd1_s, of_6 S (by omega), of_6 S (by omega), bd1_s, bd1_s, lessX, bd1_s, H.c hj (by decide), H.c (show w < n by omega) (by decide)]
      by_cases c : mn (S 20 (33 + 34 * j + 6)) (S 20 (33 + 34 * w + 6)) ≤ nI q
      · rw [if_pos c, if_pos c]
        exact K'
      · rw [if_neg c, if_neg c]
        exact RR.rf _
end READ6
