/-! ===== the pure part: the questions, 1 ===== -/
section READ4
variable {a n k i j m m' x y : Nat} {S T : Mem}
theorem p_reaches (H : RW a n (S 0) (S 20)) (x y : Int32) : ∃ r, g_X8_reaches S x y = some r ∧ g_X9_reaches S x y = some r := by
  unfold g_X8_reaches f_X8_reaches_0 f_X8_reaches_38 f_X8_reaches_39 g_X9_reaches f_X9_reaches_0 f_X9_reaches_22 f_X9_reaches_23
  rcases has_r H x with ⟨i, hi, rfl, h1, h2⟩ | ⟨h1, h2⟩
  · rcases has_r H y with ⟨j, hj, rfl, h3, h4⟩ | ⟨h3, h4⟩
    · obtain ⟨b, hb, h6, h7, -⟩ := reach_r H hi hj
      rw [areDr S h2 h4 (Or.inr rfl) (Or.inr rfl), h1, h3, h6, h7]
      rcases hb with rfl | rfl
      · exact ⟨0, rfl, rfl⟩
      · exact ⟨1, rfl, rfl⟩
    · rw [areDr S h2 h4 (Or.inr rfl) (Or.inl rfl), h1, h3]
      exact ⟨0, rfl, rfl⟩
  · rcases has_r H y with ⟨j, hj, rfl, h3, h4⟩ | ⟨h3, h4⟩
    · rw [areDr S h2 h4 (Or.inl rfl) (Or.inr rfl), h1]
      exact ⟨0, rfl, rfl⟩
    · rw [areDr S h2 h4 (Or.inl rfl) (Or.inl rfl), h1]
      exact ⟨0, rfl, rfl⟩
theorem p_longer (H : RW a n (S 0) (S 20)) (x y : Int32) : ∃ r, g_X8_longer S x y = some r ∧ g_X9_longer S x y = some r := by
  have h5 := H.le5
  unfold g_X8_longer f_X8_longer_0 f_X8_longer_22 f_X8_longer_80 g_X9_longer f_X9_longer_0 f_X9_longer_20
  rcases has_r H x with ⟨i, hi, rfl, h1, h2⟩ | ⟨h1, h2⟩
  · rcases has_r H y with ⟨j, hj, rfl, h3, h4⟩ | ⟨h3, h4⟩
    · obtain ⟨r, hr, h6, h7, h8⟩ := longer_r H hi hj
      rw [areDr S h2 h4 (Or.inr rfl) (Or.inr rfl), h1, h3, h6, bd1_s, bd1_s, ck_in (by omega) (by decide), ck_in (by omega) (by decide), ck_in (by omega) (by decide), ck_in (by omega) (by decide), nI_clamp (by omega), nI_clamp (by omega), h7, h8]
      rcases hr with rfl | rfl | rfl
      · exact ⟨1, rfl, rfl⟩
      · exact ⟨0, rfl, rfl⟩
      · exact ⟨-1, rfl, rfl⟩
    · rw [areDr S h2 h4 (Or.inr rfl) (Or.inl rfl), h1, h3]
      exact ⟨_, rfl, rfl⟩
  · rcases has_r H y with ⟨j, hj, rfl, h3, h4⟩ | ⟨h3, h4⟩
    · rw [areDr S h2 h4 (Or.inl rfl) (Or.inr rfl), h1]
      exact ⟨_, rfl, rfl⟩
    · rw [areDr S h2 h4 (Or.inl rfl) (Or.inl rfl), h1]
      exact ⟨_, rfl, rfl⟩
theorem p_alike (H : RW a n (S 0) (S 20)) (x y : Int32) : ∃ r, g_X8_alike S x y = some r ∧ g_X9_alike S x y = some r := by
  have h5 := H.le5
  unfold g_X8_alike f_X8_alike_0 f_X8_alike_22 g_X9_alike f_X9_alike_0 f_X9_alike_19
  rcases has_r H x with ⟨i, hi, rfl, h1, h2⟩ | ⟨h1, h2⟩
  · rcases has_r H y with ⟨j, hj, rfl, h3, h4⟩ | ⟨h3, h4⟩
    · obtain ⟨m, hm, e⟩ := H.many i hi
      obtain ⟨m', hm', e'⟩ := H.many j hj
      obtain ⟨q, -, -, h6, h7⟩ := same_r H hi hj hm hm' e e'
      rw [areDr S h2 h4 (Or.inr rfl) (Or.inr rfl), h1, h3, h7, bd1_s, bd1_s, ck_in (by omega) (by decide), ck_in (by omega) (by decide), nI_clamp (by omega), nI_clamp (by omega), h6]
      exact ⟨_, rfl, rfl⟩
    · rw [areDr S h2 h4 (Or.inr rfl) (Or.inl rfl), h1, h3]
      exact ⟨_, rfl, rfl⟩
  · rcases has_r H y with ⟨j, hj, rfl, h3, h4⟩ | ⟨h3, h4⟩
    · rw [areDr S h2 h4 (Or.inl rfl) (Or.inr rfl), h1]
      exact ⟨_, rfl, rfl⟩
    · rw [areDr S h2 h4 (Or.inl rfl) (Or.inl rfl), h1]
      exact ⟨_, rfl, rfl⟩
/-- does that driver hold that line -/
theorem line_r (H : RW a n (S 0) (S 20)) (x y : Int32) : (∃ i l m, i < n ∧ l < m ∧ m ≤ 12 ∧ S 20 (33 + 34 * i + 5) = nI m ∧ x = nI i ∧ y = nI (l + 1) ∧ g_X4_hasLine S 0 x y = some 1 ∧ g_X9_isLine S x y = some 1) ∨ (g_X4_hasLine S 0 x y = some 0 ∧ g_X9_isLine S x y = some 0) := by
  have h5 := H.le5
  unfold g_X4_hasLine f_X4_hasLine_0 f_X4_hasLine_30 f_X4_hasLine_31 g_X9_isLine f_X9_isLine_0 f_X9_isLine_26 f_X9_isLine_27
  rcases has_r H x with ⟨i, hi, rfl, h1, h2⟩ | ⟨h1, h2⟩
  · obtain ⟨m, hm, e⟩ := H.many i hi
    rw [h1, h2, bd1_s, bd1_s, of_5 S (by omega), bd1_s, ck_in (by omega) (by decide), nI_clamp (by omega), H.c hi (by decide), e]
    unfold g_X9_isIn f_X9_isIn_0 f_X9_isIn_14 f_X9_isIn_15
    by_cases c : y < 1
    · right
      simp (decide := true) only [c, ↓reduceIte, ck_0, bd1_s, and_self]
    · have hy : ¬ y < 0 := fun z => c (Int32.lt_trans z (by decide))
      obtain ⟨l, hl, rfl⟩ := nI_of hy
      have hl1 : 1 ≤ l := by
        rcases Nat.eq_zero_or_pos l with h | h
        · subst h; exact absurd (by decide) c
        · exact h
      by_cases c2 : m < l
      · right
        have c2' := (nI_ltI (a := m) (b := l) (by omega) hl).mpr c2
        simp (decide := true) only [c, c2', ↓reduceIte, ck_0, bd1_s, and_self]
      · left
        have c2' : ¬ nI m < nI l := fun z => c2 ((nI_ltI (a := m) (b := l) (by omega) hl).mp z)
        refine ⟨i, l - 1, m, hi, by omega, hm, e, rfl, by rw [Nat.sub_add_cancel hl1], ?_, ?_⟩
        · simp (decide := true) only [c, c2', ↓reduceIte, ck_1, bd1_s]
        · simp (decide := true) only [c, c2', ↓reduceIte, ck_1, bd1_s]
  · right
    rw [h1, h2]
    exact ⟨rfl, rfl⟩
theorem p_lineOf (H : RW a n (S 0) (S 20)) (x y b : Int32) : ∃ r, g_X8_lineOf S x y b = some r ∧ g_X9_lineOf S x y b = some r := by
  have h5 := H.le5
  unfold g_X8_lineOf f_X8_lineOf_0 f_X8_lineOf_50 g_X9_lineOf f_X9_lineOf_0 f_X9_lineOf_24
  rcases line_r H x y with ⟨i, l, m, hi, hl, hm, e, rfl, rfl, h1, h2⟩ | ⟨h1, h2⟩
  · obtain ⟨h6, h7, -, -⟩ := H.lin i hi m hm e l hl
    rw [h1, h2, bd1_s, bd1_s, ck_in (by omega) (by decide), nI_clamp (by omega), nI_m1 (by omega), ck_in (by omega) (by decide), ck_in (by omega) (by decide), nI_clamp (by omega), of_tp S (by omega) (by omega) (by omega), of_lp S (by omega) (by omega) (by omega), bd1_s, bd1_s, Nat.add_sub_cancel, h6, h7]
    by_cases c : b = 0
    · simp (decide := true) only [c, ↓reduceIte]; exact ⟨_, rfl, rfl⟩
    · simp (decide := true) only [c, ↓reduceIte]; exact ⟨_, rfl, rfl⟩
  · rw [h1, h2]
    exact ⟨_, rfl, rfl⟩
theorem nlt_le {A : Type} {p q : Nat} (hp : p < 2 ^ 31) (hq : q < 2 ^ 31) {u v : A} : (if nI p < nI q then u else v) = (if q ≤ p then v else u) := by
  by_cases c : p < q
  · rw [if_pos ((nI_ltI hp hq).mpr c), if_neg (by omega)]
  · rw [if_neg (fun z => c ((nI_ltI hp hq).mp z)), if_pos (by omega)]
theorem ile {A : Type} {p q : Nat} (hp : p < 2 ^ 31) (hq : q < 2 ^ 31) {u v : A} : (if nI p ≤ nI q then u else v) = (if p ≤ q then u else v) := by
  by_cases c : p ≤ q
  · rw [if_pos ((nI_leI hp hq).mpr c), if_pos c]
  · rw [if_neg (fun z => c ((nI_leI hp hq).mp z)), if_neg c]
theorem ieq {A : Type} {p q : Nat} (hp : p < 2 ^ 31) (hq : q < 2 ^ 31) {u v : A} : (if nI p = nI q then u else v) = (if p = q then u else v) := by
  by_cases c : p = q
  · rw [if_pos ((nI_eq hp hq).mpr c), if_pos c]
  · rw [if_neg (fun z => c ((nI_eq hp hq).mp z)), if_neg c]
theorem i_add0 (x : Int32) : x + 0 = x := by simp
/-- alike is alike both ways: the class asks (i, j) where the reference asks (j, i) -/
theorem same_sym (H : RW a n (S k) (T 20)) {i j m m' : Nat} (hi : i < n) (hj : j < n) (hm : m ≤ 12) (hm' : m' ≤ 12) (e : T 20 (33 + 34 * i + 5) = nI m) (e' : T 20 (33 + 34 * j + 5) = nI m') : g_X2_countSameLines S k i k j = g_X2_countSameLines S k j k i := by
  have h5 := H.le5
  obtain ⟨q, -, -, h1, h2⟩ := same_r H hi hj hm hm' e e'
  have R : RR Eq (g_X2_countSameLines S k i k j) (g_X2_countSameLines S k j k i) := by
    unfold g_X2_countSameLines f_X2_countSameLines_0 f_X2_countSameLines_14
    rw [H.c hi (by decide), H.c hj (by decide), e, e', mnI (by omega) (by omega), mnI (by omega) (by omega), Nat.min_comm m' m]
    refine RR_lp (fun d s t => ∃ q, q + d = min m m' ∧ s = nI q ∧ t = nI q) ?_ (min m m') 2000 2000 0 0 (by omega) (by omega) ⟨0, by omega, rfl, rfl⟩
    rintro d s t f g ⟨q, hq, rfl, rfl⟩ hr
    unfold f_X2_countSameLines_14_b f_X2_countSameLines_55
    rw [ile (by omega) (by omega), ile (by omega) (by omega)]
    by_cases c : min m m' ≤ q
    · rw [if_pos c, if_pos c]
      exact RR.rf _
    · rw [if_neg c, if_neg c]
      have i12 : inb (nI q) 12 = true := inb_t (by omega) (by decide)
      simp only [i12, ck_t, nI_p1]
      by_cases c1 : S k (33 + 34 * i + 10 + (nI q).toNatClampNeg) = S k (33 + 34 * j + 10 + (nI q).toNatClampNeg)
      · rw [if_pos c1, if_pos c1.symm]
        by_cases c2 : S k (33 + 34 * i + 22 + (nI q).toNatClampNeg) = S k (33 + 34 * j + 22 + (nI q).toNatClampNeg)
        · rw [if_pos c2, if_pos c2.symm]
          exact hr (d - 1) _ _ (by omega) ⟨q + 1, by omega, rfl, rfl⟩
        · rw [if_neg c2, if_neg (fun z => c2 z.symm)]
          exact RR.rf _
      · rw [if_neg c1, if_neg (fun z => c1 z.symm)]
        exact RR.rf _
  obtain ⟨r, h6, h7⟩ := RR.eq R
  rw [h6, h7]
theorem p_holders (H : RW a n (S 0) (S 20)) (x y : Int32) : ∃ r, g_X8_holders S x y = some r ∧ g_X9_holders S x y = some r := by
  have h5 := H.le5
  unfold g_X8_holders f_X8_holders_0 f_X8_holders_19 g_X9_holders f_X9_holders_0 f_X9_holders_16
  rcases line_r H x y with ⟨i, l, m, hi, hl, hm, e, rfl, rfl, h1, h2⟩ | ⟨h1, h2⟩
  · rw [h1, h2, bd1_s, bd1_s, if_neg (by decide), if_neg (by decide)]
    refine RR.eq (RR.for (fun _ _ => True) n (by omega) trivial ?_ ?_)
    · intro x f g _
      unfold f_X8_holders_19_b f_X9_holders_16_b
      rw [H.cn, H.cnt, ile (by omega) (by omega), ile (by omega) (by omega), if_pos (Nat.le_refl _), if_pos (Nat.le_refl _)]
      exact RR.rf _
    · intro j x f g hj _ K
      obtain ⟨m', hm', e'⟩ := H.many j hj
      obtain ⟨q, -, -, h6, h7⟩ := same_r H hi hj hm hm' e e'
      unfold f_X8_holders_19_b f_X9_holders_16_b f_X8_holders_60 f_X9_holders_44
      rw [H.cn, H.cnt, ile (by omega) (by omega), ile (by omega) (by omega), if_neg (by omega), if_neg (by omega), ck_in (by omega) (by decide), ck_in (by omega) (by decide), nI_clamp (by omega), nI_clamp (by omega), h7, ← same_sym H hi hj hm hm' e e', h6, bd1_s, bd1_s]
      by_cases c : nI q < nI (l + 1)
      · rw [if_pos c, if_pos c]
        simp only [i_add0]
        exact K _ trivial
      · rw [if_neg c, if_neg c]
        exact K _ trivial
  · rw [h1, h2]
    exact ⟨_, rfl, rfl⟩
end READ4
