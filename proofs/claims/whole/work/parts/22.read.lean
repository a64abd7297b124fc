/-! ===== the pure part: tales ===== -/
section READ2
variable {a n k i j m m' x y : Nat} {S T : Mem}
theorem sub0I {x y : Nat} (hx : x < 2 ^ 30) (hy : y < 2 ^ 30) : (nI x - nI y = 0) ↔ x = y := by
  rw [← Int32.toInt_inj, pk_sub_toInt hx hy, Int32.toInt_zero]
  omega
theorem subLeI {x y : Nat} (hx : x < 2 ^ 30) (hy : y < 2 ^ 30) : (nI x - nI y ≤ 0) ↔ x ≤ y := by
  rw [Int32.le_iff_toInt_le, pk_sub_toInt hx hy, Int32.toInt_zero]
  omega
theorem subGeI {x y : Nat} (hx : x < 2 ^ 30) (hy : y < 2 ^ 30) : (0 ≤ nI x - nI y) ↔ y ≤ x := by
  rw [Int32.le_iff_toInt_le, pk_sub_toInt hx hy, Int32.toInt_zero]
  omega
theorem RW.tale (H : RW a n (S k) (T 20)) {i : Nat} (hi : i < n) : ∃ m x, m ≤ 12 ∧ x ≤ a ∧ T 20 (33 + 34 * i + 5) = nI m ∧ S k (33 + 34 * i + 5) = nI m ∧ (m = 0 → x = 0) ∧ (0 < m → T 20 (33 + 34 * i + 10 + (m - 1)) = nI x ∧ S k (33 + 34 * i + 10 + (m - 1)) = nI x) := by
  obtain ⟨m, hm, he⟩ := H.many i hi
  by_cases h0 : m = 0
  · exact ⟨m, 0, hm, Nat.zero_le _, he, (H.c hi (by decide)).trans he, fun _ => rfl, fun h => by omega⟩
  · obtain ⟨h1, h2, ⟨x, hx, h3⟩, h4⟩ := H.lin i hi m hm he (m - 1) (by omega)
    exact ⟨m, x, hm, hx, he, (H.c hi (by decide)).trans he, fun h => absurd h h0, fun _ => ⟨h3, h1.trans h3⟩⟩
theorem last9 (hi : i < 5) (hm : m ≤ 12) (h5 : T 20 (33 + 34 * i + 5) = nI m) (h0 : m = 0 → x = 0) (h1 : 0 < m → T 20 (33 + 34 * i + 10 + (m - 1)) = nI x) : g_X9_lastTerm T (nI i) = some (nI x) := by
  unfold g_X9_lastTerm f_X9_lastTerm_0 f_X9_lastTerm_26
  rw [of_5 T hi, bd1_s, h5]
  by_cases h : m = 0
  · rw [if_pos ((z_eqI (by omega)).mpr h), h0 h]
    rfl
  · rw [if_neg (fun z => h ((z_eqI (by omega)).mp z)), of_tp T hi (by omega) (by omega), bd1_s, h1 (by omega)]
theorem hasL (hm : m ≤ 12) (hm' : m' ≤ 12) (hx : x < 2 ^ 30) (hy : y < 2 ^ 30) (h5 : S k (33 + 34 * i + 5) = nI m) (h0 : m = 0 → x = 0) (h1 : 0 < m → S k (33 + 34 * i + 10 + (m - 1)) = nI x) (h5' : S k (33 + 34 * j + 5) = nI m') (h0' : m' = 0 → y = 0) (h1' : 0 < m' → S k (33 + 34 * j + 10 + (m' - 1)) = nI y) : g_X2_hasLongerTaleThan S k i k j = some (if x = y then (if m ≤ m' then 0 else 1) else (if x ≤ y then 0 else 1)) := by
  have K : f_X2_hasLongerTaleThan_22 S k i k j (nI x) = some (if x = y then (if m ≤ m' then 0 else 1) else (if x ≤ y then 0 else 1)) := by
    have K1 : f_X2_hasLongerTaleThan_45 S k i k j (nI x) (nI y) = some (if x = y then (if m ≤ m' then 0 else 1) else (if x ≤ y then 0 else 1)) := by
      unfold f_X2_hasLongerTaleThan_45 f_X2_hasLongerTaleThan_80
      rw [h5, h5']
      by_cases c1 : x = y
      · rw [if_pos ((nI_eq (by omega) (by omega)).mpr c1), if_pos c1]
        by_cases c2 : m ≤ m'
        · rw [if_pos ((nI_leI (by omega) (by omega)).mpr c2), if_pos c2]; rfl
        · rw [if_neg (fun z => c2 ((nI_leI (by omega) (by omega)).mp z)), if_neg c2]; rfl
      · rw [if_neg (fun z => c1 ((nI_eq (by omega) (by omega)).mp z)), if_neg c1]
        by_cases c2 : x ≤ y
        · rw [if_pos ((nI_leI (by omega) (by omega)).mpr c2), if_pos c2]; rfl
        · rw [if_neg (fun z => c2 ((nI_leI (by omega) (by omega)).mp z)), if_neg c2]; rfl
    unfold f_X2_hasLongerTaleThan_22
    rw [h5']
    by_cases c : m' = 0
    · rw [if_pos ((le0I (by omega)).mpr c)]
      exact (congrArg (f_X2_hasLongerTaleThan_45 S k i k j (nI x)) (show (0 : Int32) = nI y by rw [h0' c]; rfl)).trans K1
    · rw [if_neg (fun z => c ((le0I (by omega)).mp z)), nI_m1 (by omega), ck_t _ (inb_t (by omega) (by decide)), nI_clamp (by omega), h1' (by omega)]
      exact K1
  unfold g_X2_hasLongerTaleThan f_X2_hasLongerTaleThan_0
  rw [h5]
  by_cases c : m = 0
  · rw [if_pos ((le0I (by omega)).mpr c)]
    exact (congrArg (f_X2_hasLongerTaleThan_22 S k i k j) (show (0 : Int32) = nI x by rw [h0 c]; rfl)).trans K
  · rw [if_neg (fun z => c ((le0I (by omega)).mp z)), nI_m1 (by omega), ck_t _ (inb_t (by omega) (by decide)), nI_clamp (by omega), h1 (by omega)]
    exact K
theorem longer_r (H : RW a n (S k) (T 20)) {i j : Nat} (hi : i < n) (hj : j < n) : ∃ r : Int32, (r = 1 ∨ r = 0 ∨ r = -1) ∧ g_X9_longerOf T (nI i) (nI j) = some r ∧ g_X2_hasLongerTaleThan S k i k j = some (if r = 1 then 1 else 0) ∧ g_X2_hasLongerTaleThan S k j k i = some (if r = -1 then 1 else 0) := by
  have h5 := H.le5
  have hB := H.aB
  obtain ⟨m, x, hm, hx, e1, e2, e3, e4⟩ := H.tale hi
  obtain ⟨m', y, hm', hy, e1', e2', e3', e4'⟩ := H.tale hj
  rw [hasL hm hm' (by omega) (by omega) e2 e3 (fun h => (e4 h).2) e2' e3' (fun h => (e4' h).2), hasL hm' hm (by omega) (by omega) e2' e3' (fun h => (e4' h).2) e2 e3 (fun h => (e4 h).2)]
  unfold g_X9_longerOf f_X9_longerOf_0
  rw [last9 (by omega) hm e1 e3 (fun h => (e4 h).1), bd1_s, last9 (by omega) hm' e1' e3' (fun h => (e4' h).1), bd1_s, of_5 T (by omega), bd1_s, of_5 T (by omega), bd1_s, e1, e1']
  have K : ∀ {p q : Nat}, p < 2 ^ 30 → q < 2 ^ 30 → f_X9_longerOf_33 T (nI p - nI q) = some (if p = q then 0 else if p ≤ q then -1 else 1) := by
    intro p q hp hq
    unfold f_X9_longerOf_33 f_X9_longerOf_51
    by_cases c : p = q
    · rw [if_pos ((subLeI hp hq).mpr (by omega)), if_pos ((subGeI hp hq).mpr (by omega)), if_pos c]
    · rw [if_neg c]
      by_cases c2 : p ≤ q
      · rw [if_pos ((subLeI hp hq).mpr c2), if_neg (fun z => by have := (subGeI hp hq).mp z; omega), if_pos c2]
      · rw [if_neg (fun z => by have := (subLeI hp hq).mp z; omega), if_neg c2]
  by_cases c : x = y
  · rw [if_pos ((sub0I (by omega) (by omega)).mpr c), K (by omega) (by omega), if_pos c, if_pos c.symm]
    rcases Nat.lt_trichotomy m m' with c1 | c1 | c1
    · refine ⟨-1, Or.inr (Or.inr rfl), by rw [if_neg (by omega), if_pos (by omega)], ?_, ?_⟩
      · rw [if_pos (by omega)]; rfl
      · rw [if_neg (by omega)]; rfl
    · refine ⟨0, Or.inr (Or.inl rfl), by rw [if_pos c1], ?_, ?_⟩
      · rw [if_pos (by omega)]; rfl
      · rw [if_pos (by omega)]; rfl
    · refine ⟨1, Or.inl rfl, by rw [if_neg (by omega), if_neg (by omega)], ?_, ?_⟩
      · rw [if_neg (by omega)]; rfl
      · rw [if_pos (by omega)]; rfl
  · rw [if_neg (fun z => c ((sub0I (by omega) (by omega)).mp z)), K (by omega) (by omega), if_neg c, if_neg c, if_neg (fun z : y = x => c z.symm)]
    rcases Nat.lt_or_ge x y with c1 | c1
    · refine ⟨-1, Or.inr (Or.inr rfl), by rw [if_pos (by omega)], ?_, ?_⟩
      · rw [if_pos (by omega)]; rfl
      · rw [if_neg (by omega)]; rfl
    · refine ⟨1, Or.inl rfl, by rw [if_neg (by omega)], ?_, ?_⟩
      · rw [if_neg (by omega)]; rfl
      · rw [if_pos (by omega)]; rfl
/-- how many lines two tales begin with alike -/
theorem same_rq (H : RW a n (S k) (T 20)) {i j m m' : Nat} (hi : i < n) (hj : j < n) (hm : m ≤ 12) (hm' : m' ≤ 12) (e : T 20 (33 + 34 * i + 5) = nI m) (e' : T 20 (33 + 34 * j + 5) = nI m') : ∃ q : Nat, q ≤ m ∧ q ≤ m' ∧ (∀ l, l < q → T 20 (33 + 34 * i + 10 + l) = T 20 (33 + 34 * j + 10 + l) ∧ T 20 (33 + 34 * i + 22 + l) = T 20 (33 + 34 * j + 22 + l)) ∧ g_X2_countSameLines S k i k j = some (nI q) ∧ g_X9_alikeTo T (nI i) (nI j) = some (nI q) := by
  have h5 := H.le5
  have R : RR (fun x y => ∃ q : Nat, q ≤ m ∧ q ≤ m' ∧ (∀ l, l < q → T 20 (33 + 34 * i + 10 + l) = T 20 (33 + 34 * j + 10 + l) ∧ T 20 (33 + 34 * i + 22 + l) = T 20 (33 + 34 * j + 22 + l)) ∧ x = nI q ∧ y = nI q) (g_X2_countSameLines S k i k j) (g_X9_alikeTo T (nI i) (nI j)) := by
    unfold g_X2_countSameLines f_X2_countSameLines_0 f_X2_countSameLines_14 g_X9_alikeTo f_X9_alikeTo_0 f_X9_alikeTo_19
    rw [of_5 T (by omega), bd1_s, of_5 T (by omega), bd1_s, H.c hi (by decide), H.c hj (by decide), e, e', mnI (by omega) (by omega), lessI (by omega) (by omega), bd1_s]
    refine RR_lp (fun d s t => ∃ q, q + d = min m m' ∧ (∀ l, l < q → T 20 (33 + 34 * i + 10 + l) = T 20 (33 + 34 * j + 10 + l) ∧ T 20 (33 + 34 * i + 22 + l) = T 20 (33 + 34 * j + 22 + l)) ∧ s = nI q ∧ t = nI q) ?_ (min m m') 2000 2000 0 0 (by omega) (by omega) ⟨0, by omega, fun l hl => absurd hl (Nat.not_lt_zero l), rfl, rfl⟩
    rintro d s t f g ⟨q, hq, hs, rfl, rfl⟩ hr
    unfold f_X2_countSameLines_14_b f_X9_alikeTo_19_b f_X2_countSameLines_55 f_X9_alikeTo_77
    have E : RR (fun x y => ∃ q : Nat, q ≤ m ∧ q ≤ m' ∧ (∀ l, l < q → T 20 (33 + 34 * i + 10 + l) = T 20 (33 + 34 * j + 10 + l) ∧ T 20 (33 + 34 * i + 22 + l) = T 20 (33 + 34 * j + 22 + l)) ∧ x = nI q ∧ y = nI q) (some (nI q)) (some (nI q)) := RR.ret ⟨q, by omega, by omega, hs, rfl, rfl⟩
    by_cases c : min m m' ≤ q
    · rw [if_pos ((nI_leI (by omega) (by omega)).mpr c), if_pos ((nI_leI (by omega) (by omega)).mpr c)]
      exact E
    · rw [if_neg (fun z => c ((nI_leI (by omega) (by omega)).mp z)), if_neg (fun z => c ((nI_leI (by omega) (by omega)).mp z))]
      obtain ⟨a1, a2, -, -⟩ := H.lin i hi m hm e q (by omega)
      obtain ⟨b1, b2, -, -⟩ := H.lin j hj m' hm' e' q (by omega)
      have i12 : inb (nI q) 12 = true := inb_t (by omega) (by decide)
      rw [ck_t _ i12, ck_t _ i12, ck_t _ i12, ck_t _ i12, of_t T (by omega) (by omega), bd1_s, of_t T (by omega) (by omega), bd1_s, of_l T (by omega) (by omega), bd1_s, of_l T (by omega) (by omega), bd1_s, nI_clamp (by omega), a1, a2, b1, b2]
      by_cases c1 : T 20 (33 + 34 * i + 10 + q) = T 20 (33 + 34 * j + 10 + q)
      · rw [if_pos c1, if_pos c1]
        by_cases c2 : T 20 (33 + 34 * i + 22 + q) = T 20 (33 + 34 * j + 22 + q)
        · rw [if_pos c2, if_pos c2, nI_p1]
          refine hr (d - 1) _ _ (by omega) ⟨q + 1, by omega, fun l hl => ?_, rfl, rfl⟩
          rcases Nat.lt_or_ge l q with h | h
          · exact hs l h
          · have : l = q := by omega
            rw [this]
            exact ⟨c1, c2⟩
        · rw [if_neg c2, if_neg c2]
          exact E
      · rw [if_neg c1, if_neg c1]
        exact E
  obtain ⟨x, y, h1, h2, q, q1, q2, q3, rfl, rfl⟩ := R
  exact ⟨q, q1, q2, q3, h1, h2⟩
theorem same_r (H : RW a n (S k) (T 20)) {i j m m' : Nat} (hi : i < n) (hj : j < n) (hm : m ≤ 12) (hm' : m' ≤ 12) (e : T 20 (33 + 34 * i + 5) = nI m) (e' : T 20 (33 + 34 * j + 5) = nI m') : ∃ q : Nat, q ≤ m ∧ q ≤ m' ∧ g_X2_countSameLines S k i k j = some (nI q) ∧ g_X9_alikeTo T (nI i) (nI j) = some (nI q) := by
  obtain ⟨q, q1, q2, -, h1, h2⟩ := same_rq H hi hj hm hm' e e'
  exact ⟨q, q1, q2, h1, h2⟩
end READ2
