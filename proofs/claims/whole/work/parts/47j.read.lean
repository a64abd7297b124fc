/-! ===== the pure part: which word ===== -/
section WHO
variable {len pos t u q p : Nat} {S T : Mem}
theorem words_differ : ∀ t, t < 9 → ∀ u, u < 9 → t ≠ u → ∃ l, l < 8 ∧ l < lenT t ∧ l < lenT u ∧ wch t l ≠ wch u l := by decide +kernel
theorem wch_lt : ∀ t, t < 9 → ∀ l, l < lenT t → wch t l < 128 := by decide +kernel
/-- where one word fits whole, another fits less, and not whole -/
theorem whole_most (ht : t < 9) (hu : u < 9) (htu : t ≠ u) (h : Fits len pos t (lenT t) T) (h' : Fits len pos u q T) : q < lenT t ∧ q < lenT u := by
  obtain ⟨l, -, l1, l2, l3⟩ := words_differ t ht u hu htu
  have hq : q ≤ l := by
    rcases Nat.lt_or_ge l q with c | c
    · have e1 := (h.2.1 l l1).2
      have e2 := (h'.2.1 l c).2
      have := wch_lt t ht l l1
      have := wch_lt u hu l l2
      exact absurd ((nI_eq (by omega) (by omega)).mp (e1.symm.trans e2)) l3
    · exact c
  exact ⟨by omega, by omega⟩
end WHO
