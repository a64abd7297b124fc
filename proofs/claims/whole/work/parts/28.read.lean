/-! ===== the pure part: the questions, 5 ===== -/
section READ8
variable {a n k i j m m' x y : Nat} {S T : Mem}
theorem code_r (H : RW a n (S 0) (T 20)) (x : Int32) : (∃ i, i < n ∧ x = nI i ∧ g_X8_codeOfAsking S x = some 0 ∧ g_X9_codeOfAsking T x = some 0 ∧ T 20 (33 + 34 * i + 7) = 1 ∧ T 20 (33 + 34 * i) ≠ 2) ∨ (∃ r, r < 0 ∧ g_X8_codeOfAsking S x = some r ∧ g_X9_codeOfAsking T x = some r) := by
  have h5 := H.le5
  unfold g_X8_codeOfAsking f_X8_codeOfAsking_0 f_X8_codeOfAsking_42 f_X8_codeOfAsking_44 g_X9_codeOfAsking f_X9_codeOfAsking_0 f_X9_codeOfAsking_30 f_X9_codeOfAsking_36
  rcases has_r H x with ⟨i, hi, rfl, h1, h2⟩ | ⟨h1, h2⟩
  · simp (decide := true) only [h1, h2, bd1_s, ↓reduceIte, ck_in (show i < 5 by omega) (show 5 < 2 ^ 31 by decide), nI_clamp (show i < 2 ^ 31 by omega), H.fld i hi, H.c0 hi, H.ab9 hi, of_0 T (show i < 5 by omega)]
    rcases H.ab hi with hA | hA
    · simp (decide := true) only [hA, ↓reduceIte]
      exact Or.inr ⟨-4, by decide, rfl, rfl⟩
    · by_cases c : T 20 (33 + 34 * i) = 2
      · simp (decide := true) only [hA, c, ↓reduceIte]
        exact Or.inr ⟨-4, by decide, rfl, rfl⟩
      · simp (decide := true) only [hA, c, ↓reduceIte]
        exact Or.inl ⟨i, hi, rfl, trivial, trivial, by rw [hA], c⟩
  · simp (decide := true) only [h1, h2, bd1_s, ↓reduceIte]
    exact Or.inr ⟨-1, by decide, rfl, rfl⟩
theorem grant_r (H : RW a n (S 0) (S 20)) (hi : i < n) (hj : j < n) (hij : i ≠ j) : ∃ b : Int32, (b = 0 ∨ b = 1) ∧ g_X4_wouldGrantVote S 0 (nI i) (nI j) = some b ∧ g_X9_wouldGive S (nI i) (nI j) = some b := by
  have h5 := H.le5
  have hB := H.aB
  obtain ⟨r, hr, h1, h2, h3⟩ := longer_r H hi hj
  obtain ⟨p, hp, e⟩ := H.term i hi
  obtain ⟨q, hq, e'⟩ := H.term j hj
  unfold g_X4_wouldGrantVote f_X4_wouldGrantVote_0 f_X4_wouldGrantVote_42 f_X4_wouldGrantVote_69 f_X4_wouldGrantVote_74 g_X9_wouldGive f_X9_wouldGive_0 f_X9_wouldGive_46 f_X9_wouldGive_50 f_X9_wouldGive_51 f_X9_wouldGive_71 f_X9_wouldGive_72
  simp (decide := true) only [ck_in (show i < 5 by omega) (show 5 < 2 ^ 31 by decide), ck_in (show j < 5 by omega) (show 5 < 2 ^ 31 by decide), nI_clamp (show i < 2 ^ 31 by omega), nI_clamp (show j < 2 ^ 31 by omega), H.fld i hi, H.fld j hj, of_1 S (show i < 5 by omega), of_1 S (show j < 5 by omega), of_4 S (show i < 5 by omega), h1, h2, bd1_s, e, e', nI_p1, ieq (show i < 2 ^ 31 by omega) (show j < 2 ^ 31 by omega), hij, ↓reduceIte, nlt_le (show q + 1 < 2 ^ 31 by omega) (show p < 2 ^ 31 by omega), nlt_le (show p < 2 ^ 31 by omega) (show q + 1 < 2 ^ 31 by omega), ieq (show p < 2 ^ 31 by omega) (show q + 1 < 2 ^ 31 by omega)]
  have hv : p = q + 1 → ¬ S 20 (33 + 34 * i + 4) = nI j := by
    intro hpq hv
    rcases H.vote i hi with h | ⟨w, hw, hw2, hw3⟩
    · rw [h] at hv
      exact nI_m (w := j) (by omega) (c := -1) (by decide) hv.symm
    · rw [hv] at hw2
      have : j = w := (nI_eq (by omega) (by omega)).mp hw2
      subst this
      have := hw3 (fun z => hij z.symm)
      rw [e, e', nI_leI (by omega) (by omega)] at this
      omega
  by_cases c1 : p ≤ q + 1
  · by_cases c2 : q + 1 ≤ p
    · have c3 : p = q + 1 := by omega
      have hv' := hv c3
      by_cases c4 : S 20 (33 + 34 * i + 4) = -1
      · rcases hr with rfl | rfl | rfl
        · simp (decide := true) only [c1, c2, c3, c4, hv', ↓reduceIte, Nat.le_refl]; exact ⟨0, Or.inl rfl, rfl, rfl⟩
        · simp (decide := true) only [c1, c2, c3, c4, hv', ↓reduceIte, Nat.le_refl]; exact ⟨1, Or.inr rfl, rfl, rfl⟩
        · simp (decide := true) only [c1, c2, c3, c4, hv', ↓reduceIte, Nat.le_refl]; exact ⟨1, Or.inr rfl, rfl, rfl⟩
      · rcases hr with rfl | rfl | rfl
        · simp (decide := true) only [c1, c2, c3, c4, hv', ↓reduceIte, Nat.le_refl]; exact ⟨0, Or.inl rfl, rfl, rfl⟩
        · simp (decide := true) only [c1, c2, c3, c4, hv', ↓reduceIte, Nat.le_refl]; exact ⟨0, Or.inl rfl, rfl, rfl⟩
        · simp (decide := true) only [c1, c2, c3, c4, hv', ↓reduceIte, Nat.le_refl]; exact ⟨0, Or.inl rfl, rfl, rfl⟩
    · rcases hr with rfl | rfl | rfl
      · simp (decide := true) only [c1, c2, ↓reduceIte]; exact ⟨0, Or.inl rfl, rfl, rfl⟩
      · simp (decide := true) only [c1, c2, ↓reduceIte]; exact ⟨1, Or.inr rfl, rfl, rfl⟩
      · simp (decide := true) only [c1, c2, ↓reduceIte]; exact ⟨1, Or.inr rfl, rfl, rfl⟩
  · have c2 : q + 1 ≤ p := by omega
    have c3 : ¬ p = q + 1 := by omega
    refine ⟨0, Or.inl rfl, ?_, ?_⟩ <;> simp (decide := true) only [c1, c2, c3, ↓reduceIte]
theorem p_wouldVote (H : RW a n (S 0) (S 20)) (x y : Int32) : ∃ r, g_X8_wouldVote S x y = some r ∧ g_X9_wouldVote S x y = some r := by
  have h5 := H.le5
  unfold g_X8_wouldVote f_X8_wouldVote_0 f_X8_wouldVote_22 f_X8_wouldVote_41 f_X8_wouldVote_46 g_X9_wouldVote f_X9_wouldVote_0 f_X9_wouldVote_22 f_X9_wouldVote_23
  rcases has_r H x with ⟨i, hi, rfl, h1, h2⟩ | ⟨h1, h2⟩
  · rcases has_r H y with ⟨j, hj, rfl, h3, h4⟩ | ⟨h3, h4⟩
    · rw [areDr S h2 h4 (Or.inr rfl) (Or.inr rfl), h1, h3]
      by_cases c : i = j
      · subst c
        have : g_X9_wouldGive S (nI i) (nI i) = some 1 := by
          unfold g_X9_wouldGive f_X9_wouldGive_0
          rw [if_pos rfl]
        rw [this]
        exact ⟨1, by simp (decide := true) only [bd1_s, ↓reduceIte], by simp (decide := true) only [bd1_s, ↓reduceIte]⟩
      · obtain ⟨b, hb, h6, h7⟩ := grant_r H hi hj c
        rw [h6, h7]
        simp (decide := true) only [bd1_s, ↓reduceIte, ieq (show i < 2 ^ 31 by omega) (show j < 2 ^ 31 by omega), c]
        rcases hb with rfl | rfl
        · exact ⟨0, rfl, rfl⟩
        · exact ⟨1, rfl, rfl⟩
    · rw [areDr S h2 h4 (Or.inr rfl) (Or.inl rfl), h1, h3]
      exact ⟨0, rfl, rfl⟩
  · rcases has_r H y with ⟨j, hj, rfl, h3, h4⟩ | ⟨h3, h4⟩
    · rw [areDr S h2 h4 (Or.inl rfl) (Or.inr rfl), h1]
      exact ⟨0, rfl, rfl⟩
    · rw [areDr S h2 h4 (Or.inl rfl) (Or.inl rfl), h1]
      exact ⟨0, rfl, rfl⟩
theorem p_couldLead (H : RW a n (S 0) (S 20)) (x : Int32) : ∃ r, g_X8_couldLead S x = some r ∧ g_X9_couldLead S x = some r := by
  have h5 := H.le5
  have hB := H.aB
  unfold g_X8_couldLead f_X8_couldLead_0 f_X8_couldLead_22 g_X9_couldLead f_X9_couldLead_0
  rcases code_r H x with ⟨i, hi, rfl, h1, h2, -, -⟩ | ⟨r, hr, h1, h2⟩
  · rw [h1, h2]
    simp (decide := true) only [bd1_s, ↓reduceIte]
    suffices G : ∃ r, g_X4_votesToGet S 0 (nI i) = some r ∧ f_X9_couldLead_17 S (nI i) 1 0 = some r by
      obtain ⟨r, g1, g2⟩ := G
      rw [g1, g2]
      exact ⟨r, rfl, rfl⟩
    obtain ⟨q, hq, e⟩ := H.term i hi
    unfold g_X4_votesToGet f_X4_votesToGet_0 f_X4_votesToGet_17 f_X9_couldLead_17
    rw [ck_in (by omega) (by decide), nI_clamp (by omega), H.c hi (by decide), e]
    refine RR.eq (RR.for (fun _ _ => True) n (by omega) trivial ?_ ?_)
    · intro x f g _
      unfold f_X4_votesToGet_17_b f_X9_couldLead_17_b
      simp only [H.cn, H.cnt, Int32.le_refl, ↓reduceIte]
      exact RR.rf _
    · intro j x f g hj _ K
      obtain ⟨b, hb, h1, h2, h3⟩ := reach_r H hi hj
      unfold f_X4_votesToGet_17_b f_X9_couldLead_17_b f_X4_votesToGet_65 f_X9_couldLead_74 f_X9_couldLead_76
      simp (decide := true) only [H.cn, H.cnt, ile (show n < 2 ^ 31 by omega) (show j < 2 ^ 31 by omega), Nat.not_le.mpr hj, ↓reduceIte, h1, h2, bd1_s, of_1 S (show j < 5 by omega), of_1 S (show i < 5 by omega), ck_in (show j < 5 by omega) (show 5 < 2 ^ 31 by decide), nI_clamp (show j < 2 ^ 31 by omega), H.fld j hj, e, i_add0]
      rcases hb with rfl | rfl
      · simp only [↓reduceIte]
        exact K _ trivial
      · simp (decide := true) only [↓reduceIte]
        by_cases c : S 20 (33 + 34 * j + 1) ≤ nI q + 1
        · simp only [c, ↓reduceIte]
          obtain ⟨b, hb, h6, h7⟩ := grant_r H hj hi (fun z => (h3 rfl).1 z.symm)
          simp only [h6, h7, bd1_s]
          rcases hb with rfl | rfl
          · simp only [↓reduceIte]
            exact K _ trivial
          · simp (decide := true) only [↓reduceIte]
            exact K _ trivial
        · simp only [c, ↓reduceIte]
          exact RR.rf _
  · rw [h1, h2]
    simp only [bd1_s, Int32.not_le.mpr hr, ↓reduceIte]
    have : ¬ r = 0 := fun z => Int32.lt_irrefl (z ▸ hr)
    simp only [this, ↓reduceIte]
    exact ⟨r, rfl, rfl⟩
/-- sums of cells -/
def sm (f : Nat → Nat) : Nat → Nat
  | 0 => 0
  | x + 1 => sm f x + f x
theorem sm_le {f : Nat → Nat} (h : ∀ x, f x ≤ 1) : ∀ n, sm f n ≤ n := by
  intro n
  induction n with
  | zero => exact Nat.le_refl _
  | succ n ih => have := h n; simp only [sm]; omega
theorem ropes_r (H : RW a n (S k) (T 20)) : ∃ r : Nat, r ≤ 25 ∧ g_X4_countCutRopes S k = some (nI r) ∧ g_X9_ropesCut T = some (nI r) := by
  have hV : ∀ x, x < 25 → T 20 (8 + x) = nI (if T 20 (8 + x) = 0 then 0 else 1) := by
    intro x hx
    have hx2 : 8 + x = 8 + 5 * (x / 5) + x % 5 := by omega
    by_cases c : x / 5 < x % 5
    · obtain ⟨-, -, h⟩ := H.ropC (x / 5) (x % 5) c (by omega)
      rw [hx2]
      rcases h with h | h <;> rw [h] <;> rfl
    · have := H.ropV (x / 5) (x % 5) (by omega) (by omega)
      rw [hx2, this]
      rfl
  have A : g_X4_countCutRopes S k = some (nI (sm (fun x => if S k (8 + x) = 0 then 0 else 1) 25) / 2) := by
    have R : Gv (fun r => r = nI (sm (fun x => if S k (8 + x) = 0 then 0 else 1) 25) / 2) (g_X4_countCutRopes S k) := by
      unfold g_X4_countCutRopes f_X4_countCutRopes_0 f_X4_countCutRopes_4
      refine Gv_lp (fun d s => ∃ i, i + d = 25 ∧ s = (nI (sm (fun x => if S k (8 + x) = 0 then 0 else 1) i), nI i)) ?_ 25 2000 _ (by omega) ⟨0, by omega, rfl⟩
      rintro d s f ⟨i, hd, rfl⟩ K
      unfold f_X4_countCutRopes_4_b f_X4_countCutRopes_25
      rw [show (25 : Int32) = nI 25 from rfl, ile (by omega) (by omega)]
      by_cases c : 25 ≤ i
      · have : i = 25 := by omega
        subst this
        rw [if_pos c]
        exact ⟨_, rfl, rfl⟩
      · simp only [c, ↓reduceIte, ck_in (show i < 25 by omega) (show 25 < 2 ^ 31 by decide), nI_clamp (show i < 2 ^ 31 by omega), nI_p1]
        by_cases c2 : S k (8 + i) = 0
        · simp only [c2, ↓reduceIte]
          exact K (d - 1) _ (by omega) ⟨i + 1, by omega, by simp only [sm, c2, ↓reduceIte, Nat.add_zero]⟩
        · simp only [c2, ↓reduceIte]
          exact K (d - 1) _ (by omega) ⟨i + 1, by omega, by simp only [sm, c2, ↓reduceIte]⟩
    obtain ⟨r, h, rfl⟩ := R
    exact h
  have B : g_X9_ropesCut T = some (nI (sm (fun x => if T 20 (8 + x) = 0 then 0 else 1) 25)) := by
    have R : Gv (fun r => r = nI (sm (fun x => if T 20 (8 + x) = 0 then 0 else 1) 25)) (g_X9_ropesCut T) := by
      unfold g_X9_ropesCut f_X9_ropesCut_0 f_X9_ropesCut_4
      refine Gv_lp (fun d s => ∃ i, i + d = 25 ∧ s = (nI (sm (fun x => if T 20 (8 + x) = 0 then 0 else 1) i), nI i)) ?_ 25 2000 _ (by omega) ⟨0, by omega, rfl⟩
      rintro d s f ⟨i, hd, rfl⟩ K
      unfold f_X9_ropesCut_4_b
      rw [show (25 : Int32) = nI 25 from rfl, show (8 : Int32) = nI 8 from rfl, nI_add, ile (by omega) (by omega)]
      by_cases c : 25 ≤ i
      · have : i = 25 := by omega
        subst this
        rw [if_pos c]
        exact ⟨_, rfl, rfl⟩
      · simp only [c, ↓reduceIte, ck_in (show 8 + i < 203 by omega) (show 203 < 2 ^ 31 by decide), nI_clamp (show 8 + i < 2 ^ 31 by omega), nI_p1]
        rw [hV i (by omega), nI_add]
        exact K (d - 1) _ (by omega) ⟨i + 1, by omega, by simp only [sm]⟩
    obtain ⟨r, h, rfl⟩ := R
    exact h
  have C : sm (fun x => if S k (8 + x) = 0 then 0 else 1) 25 = 2 * sm (fun x => if T 20 (8 + x) = 0 then 0 else 1) 25 := by
    obtain ⟨p01, q01, -⟩ := H.ropC 0 1 (by decide) (by decide)
    obtain ⟨p02, q02, -⟩ := H.ropC 0 2 (by decide) (by decide)
    obtain ⟨p03, q03, -⟩ := H.ropC 0 3 (by decide) (by decide)
    obtain ⟨p04, q04, -⟩ := H.ropC 0 4 (by decide) (by decide)
    obtain ⟨p12, q12, -⟩ := H.ropC 1 2 (by decide) (by decide)
    obtain ⟨p13, q13, -⟩ := H.ropC 1 3 (by decide) (by decide)
    obtain ⟨p14, q14, -⟩ := H.ropC 1 4 (by decide) (by decide)
    obtain ⟨p23, q23, -⟩ := H.ropC 2 3 (by decide) (by decide)
    obtain ⟨p24, q24, -⟩ := H.ropC 2 4 (by decide) (by decide)
    obtain ⟨p34, q34, -⟩ := H.ropC 3 4 (by decide) (by decide)
    have d0 := H.ropD 0 (by decide)
    have d1 := H.ropD 1 (by decide)
    have d2 := H.ropD 2 (by decide)
    have d3 := H.ropD 3 (by decide)
    have d4 := H.ropD 4 (by decide)
    have v00 := H.ropV 0 0 (by decide) (by decide)
    have v10 := H.ropV 1 0 (by decide) (by decide)
    have v11 := H.ropV 1 1 (by decide) (by decide)
    have v20 := H.ropV 2 0 (by decide) (by decide)
    have v21 := H.ropV 2 1 (by decide) (by decide)
    have v22 := H.ropV 2 2 (by decide) (by decide)
    have v30 := H.ropV 3 0 (by decide) (by decide)
    have v31 := H.ropV 3 1 (by decide) (by decide)
    have v32 := H.ropV 3 2 (by decide) (by decide)
    have v33 := H.ropV 3 3 (by decide) (by decide)
    have v40 := H.ropV 4 0 (by decide) (by decide)
    have v41 := H.ropV 4 1 (by decide) (by decide)
    have v42 := H.ropV 4 2 (by decide) (by decide)
    have v43 := H.ropV 4 3 (by decide) (by decide)
    have v44 := H.ropV 4 4 (by decide) (by decide)
    simp only [Nat.reduceAdd, Nat.reduceMul] at p01 q01 p02 q02 p03 q03 p04 q04 p12 q12 p13 q13 p14 q14 p23 q23 p24 q24 p34 q34 d0 d1 d2 d3 d4 v00 v10 v11 v20 v21 v22 v30 v31 v32 v33 v40 v41 v42 v43 v44
    simp only [sm, Nat.reduceAdd, p01, q01, p02, q02, p03, q03, p04, q04, p12, q12, p13, q13, p14, q14, p23, q23, p24, q24, p34, q34, d0, d1, d2, d3, d4, v00, v10, v11, v20, v21, v22, v30, v31, v32, v33, v40, v41, v42, v43, v44, ↓reduceIte]
    omega
  rw [A, B, C, show (2 : Int32) = nI 2 from rfl]
  have hl : sm (fun x => if T 20 (8 + x) = 0 then 0 else 1) 25 ≤ 25 := sm_le (fun x => by show (if _ then _ else _) ≤ 1; split <;> omega) 25
  rw [pk_div (by omega) (by omega) (by omega), Nat.mul_div_cancel_left _ (by omega)]
  exact ⟨_, hl, rfl, rfl⟩
end READ8
