/-! ===== the pure part: a word read on both sides ===== -/
section WRD3
variable {len pos : Nat} {S T : Mem}
theorem len_4 : ∀ t, t < 9 → 4 ≤ lenT t := by decide +kernel
theorem word_r (H : TP len pos S T) (hp : pos < 900) : ∃ w pos' S' T', pos ≤ pos' ∧ pos' ≤ pos + 7 ∧ g_X6_takeWord S = some (nI w, S') ∧ TP len pos' S' T' ∧ FP8 S S' ∧ S' 12 = S 12 ∧ S' 11 8 = S 11 8 ∧ FP9 T T' ∧ T' 26 = T 26 ∧ T' 28 16 = T 28 16 ∧ ((w = 0 ∧ g_X9_isWord T = some (0, T')) ∨ ∃ t, t < 9 ∧ w = t + 1 ∧ g_X9_isWord T = some (1, T') ∧ T' 28 17 = nI t ∧ pos + 4 ≤ pos' ∧ pos' ≤ len) := by
  have hall : ∀ t, ∃ q, t < 9 → Fits len pos t q T ∧ g_X6_countFitting S t = some (nI q) ∧ g_X9_alikeHere T t = some (nI q) := by
    intro t
    by_cases ht : t < 9
    · obtain ⟨q, h⟩ := fit_r H hp ht
      exact ⟨q, fun _ => h⟩
    · exact ⟨0, fun z => absurd z ht⟩
  obtain ⟨q, hq⟩ : ∃ q : Nat → Nat, ∀ t, t < 9 → Fits len pos t (q t) T ∧ g_X6_countFitting S t = some (nI (q t)) ∧ g_X9_alikeHere T t = some (nI (q t)) := ⟨fun t => Classical.choose (hall t), fun t => Classical.choose_spec (hall t)⟩
  have h7 : ∀ t, t < 9 → q t ≤ 7 := fun t ht => Nat.le_trans (hq t ht).1.1 (len_7 t ht)
  have hS9 := H.2.2.2.2.2.1
  have hT9 := H.2.2.2.2.2.2
  have e8 : g_X6_takeWord S = some (nI (fnd q 9), up S 11 9 (S 11 9 + nI (mst q 9))) := tw_loop (fun t ht => (hq t ht).2.1) h7 9 0 2000 (by omega) (by omega)
  have F : FP8 S (up S 11 9 (S 11 9 + nI (mst q 9))) := ⟨fun e h1 h2 => by rw [up_oth _ _ _ h1], fun j h1 h2 => by rw [up_ne _ _ (by omega)]⟩
  by_cases hx : ∃ t, t < 9 ∧ q t = lenT t
  · obtain ⟨t, ht, he⟩ := hx
    have hm : ∀ u, u < 9 → u ≠ t → q u < lenT t ∧ q u < lenT u := fun u hu hut => whole_most ht hu (Ne.symm hut) (he ▸ (hq t ht).1) (hq u hu).1
    have hn : ∀ u, u < 9 → u ≠ t → q u ≠ lenT u := fun u hu hut => Nat.ne_of_lt (hm u hu hut).2
    have m1 : mst q 9 = lenT t := by
      apply Nat.le_antisymm
      · refine mst_le (fun u hu => ?_) 9 (by omega)
        by_cases c : u = t
        · rw [c, he]; omega
        · exact Nat.le_of_lt (hm u hu c).1
      · rw [← he]
        exact mst_ge 9 ht
    have f1 : fnd q 9 = t + 1 := fnd_of hn he 9 (by omega) ht
    have e9 : g_X9_isWord T = some (1, up (up T 28 17 (nI t)) 28 15 (T 28 15 + nI (lenT t))) := iw_hit (fun t ht => (hq t ht).2.2) h7 ht he hn t 0 2000 (by omega) (by omega)
    have l4 := len_4 t ht
    have l7 := len_7 t ht
    have hl := ((hq t ht).1.2.1 (lenT t - 1) (by omega)).1
    have G : FP9 T (up (up T 28 17 (nI t)) 28 15 (T 28 15 + nI (lenT t))) := ⟨fun e h1 h2 => by rw [up_oth _ _ _ h2, up_oth _ _ _ h2], fun j hj => by rw [up_ne _ _ (by omega), up_ne _ _ (by omega)]⟩
    rw [f1, m1] at e8
    rw [m1] at F
    refine ⟨t + 1, pos + lenT t, _, _, by omega, by omega, e8, H.step (by omega) F G ?_ ?_, F, by rw [up_oth _ _ _ (by decide)], by rw [up_ne _ _ (by decide)], G, by rw [up_oth _ _ _ (by decide), up_oth _ _ _ (by decide)], by rw [up_ne _ _ (by omega), up_ne _ _ (by omega)], Or.inr ⟨t, ht, rfl, e9, ?_, by omega, by omega⟩⟩
    · rw [up_same, hS9, nI_add]
    · rw [up_same, hT9, nI_add]
    · rw [up_ne _ _ (by omega), up_same]
  · have hn : ∀ u, u < 9 → q u ≠ lenT u := fun u hu z => hx ⟨u, hu, z⟩
    have f1 : fnd q 9 = 0 := fnd_none hn 9 (by omega)
    have m7 := mst_le h7 9 (by omega)
    have e9 : g_X9_isWord T = some (0, up T 28 15 (T 28 15 + nI (mst q 9))) := iw_none (fun t ht => (hq t ht).2.2) h7 hn 9 0 2000 (by omega) (by omega)
    have G : FP9 T (up T 28 15 (T 28 15 + nI (mst q 9))) := ⟨fun e h1 h2 => by rw [up_oth _ _ _ h2], fun j hj => by rw [up_ne _ _ (by omega)]⟩
    rw [f1] at e8
    refine ⟨0, pos + mst q 9, _, _, by omega, by omega, e8, H.step (by omega) F G ?_ ?_, F, by rw [up_oth _ _ _ (by decide)], by rw [up_ne _ _ (by decide)], G, by rw [up_oth _ _ _ (by decide)], by rw [up_ne _ _ (by omega)], Or.inl ⟨rfl, e9⟩⟩
    · rw [up_same, hS9, nI_add]
    · rw [up_same, hT9, nI_add]
end WRD3
