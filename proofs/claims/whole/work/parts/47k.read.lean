/-! ===== the pure part: a word read ===== -/
section WRD2
variable {len pos t u : Nat} {q : Nat → Nat} {S T : Mem}
/-- the word that fits whole among the first i: one more than its number, or 0 -/
def fnd (q : Nat → Nat) : Nat → Nat
  | 0 => 0
  | i + 1 => if q i = lenT i then i + 1 else fnd q i
/-- the most signs that fit among the first i words -/
def mst (q : Nat → Nat) : Nat → Nat
  | 0 => 0
  | i + 1 => max (mst q i) (q i)
theorem mst_le {m : Nat} (h : ∀ t, t < 9 → q t ≤ m) : ∀ i, i ≤ 9 → mst q i ≤ m
  | 0, _ => Nat.zero_le _
  | i + 1, hi => Nat.max_le.mpr ⟨mst_le h i (by omega), h i (by omega)⟩
theorem mst_ge : ∀ i, t < i → q t ≤ mst q i
  | 0, h => absurd h (Nat.not_lt_zero t)
  | i + 1, h => by
    show q t ≤ max (mst q i) (q i)
    rcases Nat.lt_or_ge t i with c | c
    · exact Nat.le_trans (mst_ge i c) (Nat.le_max_left _ _)
    · have : t = i := by omega
      rw [this]
      exact Nat.le_max_right _ _
theorem fnd_none (h : ∀ u, u < 9 → q u ≠ lenT u) : ∀ i, i ≤ 9 → fnd q i = 0
  | 0, _ => rfl
  | i + 1, hi => by
    show (if q i = lenT i then i + 1 else fnd q i) = 0
    rw [if_neg (h i (by omega))]
    exact fnd_none h i (by omega)
theorem fnd_of (h : ∀ u, u < 9 → u ≠ t → q u ≠ lenT u) (ht : q t = lenT t) : ∀ i, i ≤ 9 → t < i → fnd q i = t + 1
  | 0, _, z => absurd z (Nat.not_lt_zero t)
  | i + 1, hi, z => by
    show (if q i = lenT i then i + 1 else fnd q i) = t + 1
    by_cases c : i = t
    · rw [c, if_pos ht]
    · rw [if_neg (h i (by omega) c)]
      exact fnd_of h ht i (by omega) (by omega)
theorem isw_i : ∀ i, i < 9 → isw (nI (i + 1)) = true := by decide +kernel
theorem word_i : ∀ i, i < 9 → g_X9_wordOf (nI i) = some i := by decide +kernel
theorem tw_loop (hq : ∀ t, t < 9 → g_X6_countFitting S t = some (nI (q t))) (h7 : ∀ t, t < 9 → q t ≤ 7) : ∀ d i F, i + d = 9 → d < F → lp (fun ih6 s9 => f_X6_takeWord_6_b ih6 S s9.1 s9.2.1 s9.2.2) F (nI (fnd q i), nI (mst q i), nI i) = some (nI (fnd q 9), up S 11 9 (S 11 9 + nI (mst q 9))) := by
  intro d
  induction d with
  | zero =>
    intro i F hi hF
    obtain ⟨F, rfl⟩ : ∃ F', F = F' + 1 := ⟨F - 1, by omega⟩
    have : i = 9 := by omega
    subst this
    show f_X6_takeWord_6_b _ S _ _ _ = _
    unfold f_X6_takeWord_6_b
    rw [if_pos (show (9 : Int32) ≤ nI 9 by decide)]
  | succ d ih =>
    intro i F hi hF
    obtain ⟨F, rfl⟩ : ∃ F', F = F' + 1 := ⟨F - 1, by omega⟩
    have hi9 : i < 9 := by omega
    have l7 := len_7 i hi9
    have m7 := mst_le h7 i (by omega)
    have q7 := h7 i hi9
    have e1 : fnd q (i + 1) = if q i = lenT i then i + 1 else fnd q i := rfl
    have e2 : mst q (i + 1) = max (mst q i) (q i) := rfl
    have z := ih (i + 1) F (by omega) (by omega)
    show f_X6_takeWord_6_b _ S _ _ _ = _
    unfold f_X6_takeWord_6_b f_X6_takeWord_57
    rw [show (9 : Int32) = nI 9 from rfl, ile (by omega) (by omega), if_neg (by omega)]
    simp only [nI_p1, nI_m1 (show 0 < i + 1 by omega), Nat.add_sub_cancel, nI_clamp (show i < 2 ^ 31 by omega), ck_in hi9 (show 9 < 2 ^ 31 by decide), ck_t _ (isw_i i hi9), hq i hi9, bd1_s, len_t i hi9]
    rw [ieq (by omega) (by omega), mxI (by omega) (by omega)]
    rw [e1, e2] at z
    by_cases c : q i = lenT i
    · rw [if_pos c] at z ⊢
      exact z
    · rw [if_neg c] at z ⊢
      exact z
theorem iw_none (hq : ∀ t, t < 9 → g_X9_alikeHere T t = some (nI (q t))) (h7 : ∀ t, t < 9 → q t ≤ 7) (hn : ∀ u, u < 9 → q u ≠ lenT u) : ∀ d i F, i + d = 9 → d < F → lp (fun ih4 s9 => f_X9_isWord_4_b ih4 T s9.1 s9.2) F (nI (mst q i), nI i) = some (0, up T 28 15 (T 28 15 + nI (mst q 9))) := by
  intro d
  induction d with
  | zero =>
    intro i F hi hF
    obtain ⟨F, rfl⟩ : ∃ F', F = F' + 1 := ⟨F - 1, by omega⟩
    have : i = 9 := by omega
    subst this
    show f_X9_isWord_4_b _ T _ _ = _
    unfold f_X9_isWord_4_b
    rw [if_pos (show (8 : Int32) < nI 9 by decide)]
  | succ d ih =>
    intro i F hi hF
    obtain ⟨F, rfl⟩ : ∃ F', F = F' + 1 := ⟨F - 1, by omega⟩
    have hi9 : i < 9 := by omega
    have l7 := len_7 i hi9
    have m7 := mst_le h7 i (by omega)
    have q7 := h7 i hi9
    have e2 : mst q (i + 1) = max (mst q i) (q i) := rfl
    have z := ih (i + 1) F (by omega) (by omega)
    show f_X9_isWord_4_b _ T _ _ = _
    unfold f_X9_isWord_4_b
    rw [show (8 : Int32) = nI 8 from rfl, nlt_le (by omega) (by omega), if_pos (by omega), word_i i hi9, bd1_s, ck_t _ (decide_eq_true hi9), hq i hi9, bd1_s, bd1_s, ck_t _ (decide_eq_true hi9), len_t i hi9, bd1_s, ieq (by omega) (by omega), if_neg (hn i hi9), greatI (by omega) (by omega), bd1_s, nI_p1]
    rw [e2] at z
    exact z
theorem iw_hit (hq : ∀ t, t < 9 → g_X9_alikeHere T t = some (nI (q t))) (h7 : ∀ t, t < 9 → q t ≤ 7) (ht : t < 9) (he : q t = lenT t) (hn : ∀ u, u < 9 → u ≠ t → q u ≠ lenT u) : ∀ d i F, i + d = t → d < F → lp (fun ih4 s9 => f_X9_isWord_4_b ih4 T s9.1 s9.2) F (nI (mst q i), nI i) = some (1, up (up T 28 17 (nI t)) 28 15 (T 28 15 + nI (lenT t))) := by
  intro d
  induction d with
  | zero =>
    intro i F hi hF
    obtain ⟨F, rfl⟩ : ∃ F', F = F' + 1 := ⟨F - 1, by omega⟩
    have : i = t := by omega
    subst this
    have l7 := len_7 i ht
    show f_X9_isWord_4_b _ T _ _ = _
    unfold f_X9_isWord_4_b
    rw [show (8 : Int32) = nI 8 from rfl, nlt_le (by omega) (by omega), if_pos (by omega), word_i i ht, bd1_s, ck_t _ (decide_eq_true ht), hq i ht, bd1_s, bd1_s, ck_t _ (decide_eq_true ht), len_t i ht, bd1_s, he, if_pos rfl, up_ne _ _ (by omega)]
  | succ d ih =>
    intro i F hi hF
    obtain ⟨F, rfl⟩ : ∃ F', F = F' + 1 := ⟨F - 1, by omega⟩
    have hi9 : i < 9 := by omega
    have l7 := len_7 i hi9
    have m7 := mst_le h7 i (by omega)
    have q7 := h7 i hi9
    have e2 : mst q (i + 1) = max (mst q i) (q i) := rfl
    have z := ih (i + 1) F (by omega) (by omega)
    show f_X9_isWord_4_b _ T _ _ = _
    unfold f_X9_isWord_4_b
    rw [show (8 : Int32) = nI 8 from rfl, nlt_le (by omega) (by omega), if_pos (by omega), word_i i hi9, bd1_s, ck_t _ (decide_eq_true hi9), hq i hi9, bd1_s, bd1_s, ck_t _ (decide_eq_true hi9), len_t i hi9, bd1_s, ieq (by omega) (by omega), if_neg (hn i hi9 (by omega)), greatI (by omega) (by omega), bd1_s, nI_p1]
    rw [e2] at z
    exact z
end WRD2
