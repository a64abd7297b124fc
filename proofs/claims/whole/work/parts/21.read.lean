/-! ===== the pure part: readers of one raft ===== -/
section READ
variable {a n k : Nat} {S T : Mem}
theorem RW.c (H : RW a n (S k) (T 20)) {i : Nat} (hi : i < n) {f : Nat} (hf : f < 10) : S k (33 + 34 * i + f) = T 20 (33 + 34 * i + f) := H.fld i hi f hf
theorem RW.cn (H : RW a n (S k) (T 20)) : S k 1 = nI n := (H.hd 1 (by decide)).trans H.cnt
theorem has_r (H : RW a n (S k) (T 20)) (x : Int32) : (∃ i, i < n ∧ x = nI i ∧ g_X4_has S k x = some 1 ∧ g_X9_isDriver T x = some 1) ∨ (g_X4_has S k x = some 0 ∧ g_X9_isDriver T x = some 0) := by
  have h5 := H.le5
  unfold g_X4_has f_X4_has_0 f_X4_has_17 f_X4_has_16 f_X4_has_17 g_X9_isDriver f_X9_isDriver_0 g_X9_isIn f_X9_isIn_0 f_X9_isIn_14 f_X9_isIn_15
  rw [H.cn, H.cnt]
  by_cases h0 : x < 0
  · right
    rw [if_pos h0, if_pos h0, ck_t _ isb_0, bd1_s, ck_t _ isb_0]
    exact ⟨ck_t _ isb_0, rfl⟩
  · rw [if_neg h0, if_neg h0]
    obtain ⟨j, hj, rfl⟩ := nI_of h0
    by_cases hn : n ≤ j
    · right
      rw [if_pos ((nI_leI (by omega) hj).mpr hn), ck_t _ isb_0]
      have : nI n - 1 < nI j := by
        rw [Int32.lt_iff_toInt_lt, show (1 : Int32) = nI 1 from rfl, pk_sub_toInt (by omega) (by decide), nI_toInt hj]
        omega
      rw [if_pos this, bd1_s]
      exact ⟨rfl, ck_t _ isb_0⟩
    · left
      rw [if_neg (fun z => hn ((nI_leI (by omega) hj).mp z)), nI_m1 (by omega), if_neg (fun z => by have := (nI_ltI (by omega) hj).mp z; omega), ck_t _ isb_1, bd1_s, ck_t _ isb_1]
      exact ⟨j, by omega, rfl, rfl, rfl⟩
theorem areDr (T : Mem) {x y b c : Int32} (hx : g_X9_isDriver T x = some b) (hy : g_X9_isDriver T y = some c) (hb : b = 0 ∨ b = 1) (hc : c = 0 ∨ c = 1) : g_X9_areDrivers T x y = some (if b = 0 then 0 else if c = 0 then 0 else 1) := by
  unfold g_X9_areDrivers f_X9_areDrivers_0 f_X9_areDrivers_20 f_X9_areDrivers_21
  rw [hx, hy, bd1_s]
  rcases hb with rfl | rfl
  · rfl
  · rcases hc with rfl | rfl <;> rfl
theorem isAb (T : Mem) {i : Nat} (hi : i < 5) (h : T 20 (33 + 34 * i + 7) = 0 ∨ T 20 (33 + 34 * i + 7) = 1) : g_X9_isAboard T (nI i) = some (T 20 (33 + 34 * i + 7)) := by
  unfold g_X9_isAboard f_X9_isAboard_0 f_X9_isAboard_16
  rw [of_7 T hi, bd1_s]
  rcases h with h | h <;> rw [h] <;> rfl
theorem RW.ab (H : RW a n (S k) (T 20)) {i : Nat} (hi : i < n) : T 20 (33 + 34 * i + 7) = 0 ∨ T 20 (33 + 34 * i + 7) = 1 := (H.abd i hi).imp And.left id
theorem RW.ab9 (H : RW a n (S k) (T 20)) {i : Nat} (hi : i < n) : g_X9_isAboard T (nI i) = some (T 20 (33 + 34 * i + 7)) := isAb T (Nat.lt_of_lt_of_le hi H.le5) (H.ab hi)
theorem rope9 {i j : Nat} (hi : i < 5) (hj : j < 5) : g_X9_ropeAt (nI i) (nI j) = some (nI (8 + 5 * min i j + max i j)) := by
  unfold g_X9_ropeAt f_X9_ropeAt_0
  rw [lessI (by omega) (by omega), greatI (by omega) (by omega), bd1_s, bd1_s, show (8 : Int32) = nI 8 from rfl, show (5 : Int32) = nI 5 from rfl, pk_mul, nI_add, nI_add]
theorem RW.rope (H : RW a n (S k) (T 20)) {i j : Nat} (hi : i < 5) (hj : j < 5) (h : i ≠ j) : S k (8 + (5 * i + j)) = T 20 (8 + 5 * min i j + max i j) ∧ (T 20 (8 + 5 * min i j + max i j) = 0 ∨ T 20 (8 + 5 * min i j + max i j) = 1) := by
  rcases Nat.lt_or_ge i j with h1 | h1
  · obtain ⟨h2, h3, h4⟩ := H.ropC i j h1 hj
    rw [Nat.min_eq_left (by omega), Nat.max_eq_right (by omega), ← Nat.add_assoc]
    exact ⟨h2, h4⟩
  · obtain ⟨h2, h3, h4⟩ := H.ropC j i (by omega) hi
    rw [Nat.min_eq_right (by omega), Nat.max_eq_left (by omega), ← Nat.add_assoc]
    exact ⟨h3, h4⟩
theorem rix {i j : Nat} (hi : i < 5) (hj : j < 5) : (nI i * (5 : Int32)) + nI j = nI (5 * i + j) := by
  rw [show (5 : Int32) = nI 5 from rfl, pk_mul, nI_add, Nat.mul_comm]
theorem isb_of {x : Int32} (h : x = 0 ∨ x = 1) : isb x = true := by
  rcases h with rfl | rfl <;> rfl
theorem cutr (H : RW a n (S k) (T 20)) {i j : Nat} (hi : i < 5) (hj : j < 5) (h : i ≠ j) : g_X4_isRopeCut S k (nI i) (nI j) = some (T 20 (8 + 5 * min i j + max i j)) := by
  obtain ⟨h1, h2⟩ := H.rope hi hj h
  unfold g_X4_isRopeCut f_X4_isRopeCut_0
  rw [rix hi hj, ck_t _ (inb_t (by omega) (by decide)), nI_clamp (by omega), h1, ck_t _ (isb_of h2)]
theorem reach_r (H : RW a n (S k) (T 20)) {i j : Nat} (hi : i < n) (hj : j < n) : ∃ b : Int32, (b = 0 ∨ b = 1) ∧ g_X4_canReach S k (nI i) (nI j) = some b ∧ g_X9_isReached T (nI i) (nI j) = some b ∧ (b = 1 → i ≠ j ∧ T 20 (33 + 34 * i + 7) = 1 ∧ T 20 (33 + 34 * j + 7) = 1) := by
  have h5 := H.le5
  unfold g_X4_canReach f_X4_canReach_0 f_X4_canReach_42 f_X4_canReach_43 g_X9_isReached f_X9_isReached_0 f_X9_isReached_39 f_X9_isReached_40
  by_cases h : i = j
  · subst h
    rw [if_pos rfl, if_pos rfl]
    exact ⟨0, Or.inl rfl, rfl, rfl, fun z => absurd z (by decide)⟩
  · rw [if_neg (fun z => h ((nI_eq (by omega) (by omega)).mp z)), if_neg (fun z => h ((nI_eq (by omega) (by omega)).mp z)), ck_t _ (inb_t (by omega) (by decide)), ck_t _ (inb_t (by omega) (by decide)), nI_clamp (by omega), nI_clamp (by omega), H.c hi (by decide), H.c hj (by decide), H.ab9 hi, bd1_s, H.ab9 hj, rope9 (by omega) (by omega), bd1_s, bd1_s, ck_t _ (inb_t (by omega) (by decide)), nI_clamp (by omega), cutr H (by omega) (by omega) h, bd1_s]
    obtain ⟨h1, h2⟩ := H.rope (i := i) (j := j) (by omega) (by omega) h
    rcases H.ab hi with hA | hA
    · rw [hA]
      exact ⟨0, Or.inl rfl, rfl, rfl, fun z => absurd z (by decide)⟩
    · rcases H.ab hj with hB | hB
      · rw [hA, hB]
        exact ⟨0, Or.inl rfl, rfl, rfl, fun z => absurd z (by decide)⟩
      · rcases h2 with hR | hR
        · rw [hA, hB, hR]
          exact ⟨1, Or.inr rfl, rfl, rfl, fun _ => ⟨h, rfl, rfl⟩⟩
        · rw [hA, hB, hR]
          exact ⟨0, Or.inl rfl, rfl, rfl, fun z => absurd z (by decide)⟩
end READ
