/-! ===== the pure part: signs read ===== -/
section SGN
variable {a b c d i j k n m q len pos w x y N : Nat} {S T S' T' : Mem}
/-- the text told alike: len signs, the position, each sign -/
def TP (len pos : Nat) (S T : Mem) : Prop := len ≤ 60 ∧ BO S 0 len ∧ T 28 14 = nI len ∧ (∀ i, i < len → sbch S 0 (nI i) = T 25 i) ∧ pos < 1000 ∧ S 11 9 = nI pos ∧ T 28 15 = nI pos
/-- the sign at the position, or -1 -/
def sgn (len pos : Nat) (T : Mem) : Int32 := if len ≤ pos then -1 else T 25 pos
theorem sign9 (H : TP len pos S T) : g_X9_sign T = some (sgn len pos T) := by
  obtain ⟨h1, h2, h3, h4, h5, h6, h7⟩ := H
  unfold g_X9_sign f_X9_sign_0 f_X9_sign_24 sgn
  rw [h3, h7, ile (by omega) (by omega)]
  by_cases c : len ≤ pos
  · rw [if_pos c, if_pos c]
  · rw [if_neg c, if_neg c, ck_in (by omega) (by decide), nI_clamp (by omega)]
theorem take8 (H : TP len pos S T) {lo hi : Int32} (hlo : 0 ≤ lo) : g_X6_takeBetween S lo hi = some (if sgn len pos T < lo then (-1, S) else if sgn len pos T ≤ hi then (sgn len pos T, up S 11 9 (nI (pos + 1))) else (-1, S)) := by
  obtain ⟨h1, h2, h3, h4, h5, h6, h7⟩ := H
  unfold g_X6_takeBetween f_X6_takeBetween_0 f_X6_takeBetween_21 f_X6_takeBetween_45 sgn
  rw [h6, h2.1, if_neg (nI_pos (by omega)), nlt_le (by omega) (by omega)]
  by_cases c : len ≤ pos
  · rw [if_pos c, if_pos c, if_pos (show (-1 : Int32) < lo from Int32.lt_of_lt_of_le (by decide) hlo)]
  · have hs : sbat S 0 (nI pos) = true := by
      unfold sbat cnN
      rw [h2.1, nI_clamp (by omega)]
      have a1 := h2.2.1
      have a2 : capN S (13 + 2 * 0) ≤ 160 := by have := h2.2.2.1; omega
      rw [decide_eq_true (nI_pos' (show pos < 2 ^ 31 by omega)), decide_eq_true (show nI pos < nI len from nI_lt (by omega) (by omega)), decide_eq_true a1, decide_eq_true a2]
      rfl
    rw [if_neg c, if_neg c, hs, ck_t _ rfl, h4 pos (by omega), nI_p1]
    by_cases c1 : T 25 pos < lo
    · rw [if_pos c1, if_pos c1]
    · rw [if_neg c1, if_neg c1]
      by_cases c2 : T 25 pos ≤ hi
      · rw [if_pos c2, if_pos c2]
      · rw [if_neg c2, if_neg c2]
end SGN
