/-! ===== the pure part: digits and letters read ===== -/
section DGT
variable {a b c d i j k n m q len pos w x y N : Nat} {S T S' T' : Mem}
/-- only the position and the commands have changed -/
def FP8 (S S' : Mem) : Prop := (∀ e, e ≠ 11 → e ≠ 12 → S' e = S e) ∧ ∀ j, j ≠ 8 → j ≠ 9 → S' 11 j = S 11 j
def FP9 (T T' : Mem) : Prop := (∀ e, e ≠ 26 → e ≠ 28 → T' e = T e) ∧ ∀ j, (j < 15 ∨ 17 < j) → T' 28 j = T 28 j
theorem FP8.tr {S1 S2 : Mem} (h : FP8 S S1) (h' : FP8 S1 S2) : FP8 S S2 := ⟨fun e h1 h2 => (h'.1 e h1 h2).trans (h.1 e h1 h2), fun j h1 h2 => (h'.2 j h1 h2).trans (h.2 j h1 h2)⟩
theorem FP9.tr {S1 S2 : Mem} (h : FP9 S S1) (h' : FP9 S1 S2) : FP9 S S2 := ⟨fun e h1 h2 => (h'.1 e h1 h2).trans (h.1 e h1 h2), fun j h1 => (h'.2 j h1).trans (h.2 j h1)⟩
theorem TP.step (H : TP len pos S T) {pos' : Nat} (hp : pos' < 1000) (F : FP8 S S') (G : FP9 T T') (h1 : S' 11 9 = nI pos') (h2 : T' 28 15 = nI pos') : TP len pos' S' T' := by
  obtain ⟨t1, ⟨t2, t3, t4, t5⟩, t6, t7, t8, t9, t10⟩ := H
  have e13 : S' (13 + 2 * 0) = S (13 + 2 * 0) := F.1 13 (by decide) (by decide)
  have e14 : S' (14 + 2 * 0) = S (14 + 2 * 0) := F.1 14 (by decide) (by decide)
  have hc : capN S' (13 + 2 * 0) = capN S (13 + 2 * 0) := by unfold capN; rw [e13]
  refine ⟨t1, ⟨by rw [e13]; exact t2, by rw [hc]; exact t3, by rw [hc]; exact t4, ?_⟩, by rw [G.2 14 (by decide)]; exact t6, ?_, hp, h1, h2⟩
  · unfold fitB
    rw [hc, e14]
    exact t5
  · intro i hi
    unfold sbch
    rw [e14, G.1 25 (by decide) (by decide)]
    exact t7 i hi
end DGT
