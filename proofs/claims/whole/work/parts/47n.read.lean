/-! ===== the pure part: a command read ===== -/
section RCM
variable {len pos k t : Nat} {S T S1 T1 U : Mem}
/-- the reference's arguments, by the word -/
def rdA (U : Mem) (k : Nat) (x : Int32) : Option (Int32 × Mem) :=
  if x = (3 : Int32) then bd2 (g_X9_isDigit U (nI (3 * k + 1))) (fun r U => (if r = 0 then f_X9_readsCommand_113 U else bd2 (g_X9_isSign U (32 : Int32)) (fun r2 U2 => (if r2 = 0 then f_X9_readsCommand_113 U2 else bd2 (g_X9_isLetter U2 (nI (3 * k + 2))) (fun r3 U3 => (if r3 = 0 then f_X9_readsCommand_113 U3 else f_X9_readsCommand_114 U3 (1 : Int32)))))))
  else if x = (4 : Int32) then bd2 (g_X9_isDigit U (nI (3 * k + 1))) (fun r U => ck (isb r) (some (r, U)))
  else if x = (5 : Int32) then bd2 (g_X9_isDigit U (nI (3 * k + 1))) (fun r U => ck (isb r) (some (r, U)))
  else if x = (6 : Int32) then bd2 (g_X9_isDigit U (nI (3 * k + 1))) (fun r U => (if r = 0 then f_X9_readsCommand_139 U else bd2 (g_X9_isDigit U (nI (3 * k + 2))) (fun r2 U2 => (if r2 = 0 then f_X9_readsCommand_139 U2 else f_X9_readsCommand_140 U2 (1 : Int32)))))
  else if x = (7 : Int32) then bd2 (g_X9_isDigit U (nI (3 * k + 1))) (fun r U => (if r = 0 then f_X9_readsCommand_139 U else bd2 (g_X9_isDigit U (nI (3 * k + 2))) (fun r2 U2 => (if r2 = 0 then f_X9_readsCommand_139 U2 else f_X9_readsCommand_140 U2 (1 : Int32)))))
  else if x = (8 : Int32) then bd2 (g_X9_isSign (up U 26 (3 * k + 1) (1 : Int32)) (32 : Int32)) (fun r U => (if r = 0 then f_X9_readsCommand_169 U else bd2 (g_X9_isDigit U (nI (3 * k + 1))) (fun r2 U2 => (if r2 = 0 then f_X9_readsCommand_174 U2 (0 : Int32) else f_X9_readsCommand_169 U2))))
  else bd2 (g_X9_isDigit U (nI (3 * k + 1))) (fun r U => ck (isb r) (some (r, U)))
theorem nI_p2 (a : Nat) : nI a + (2 : Int32) = nI (a + 2) := nI_add a 2
theorem rd9 (e : g_X9_isWord T = some (1, T1)) (hk : k < 12) (h16 : T1 28 16 = nI k) (h17 : T1 28 17 = nI t) : g_X9_readsCommand T = rdA (up (up T1 26 (3 * k) (nI t)) 28 16 (nI (k + 1))) k (nI t) := by
  have a1 : (3 : Int32) * nI k = nI (3 * k) := pk_mul 3 k
  unfold g_X9_readsCommand f_X9_readsCommand_0 rdA
  rw [e, bd2_s, if_neg (by decide)]
  simp (disch := omega) only [h16, h17, a1, nI_clamp, up_ne, nI_p1, nI_p2, ck_in (show 3 * k < 39 by omega) (show 39 < 2 ^ 31 by decide), ck_in (show 3 * k + 1 < 39 by omega) (show 39 < 2 ^ 31 by decide)]
theorem args8_3 (h : U 12 (3 * k) = nI 4) : g_X6_takeArguments U k = bd2 (g_X6_takeFirst U k) (fun r U => (if r = 0 then f_X6_takeArguments_77 U else bd2 (g_X6_takeSign U (32 : Int32)) (fun r2 U2 => (if r2 = 0 then f_X6_takeArguments_77 U2 else bd2 (g_X6_takeLetter U2 k) (fun r3 U3 => (if r3 = 0 then f_X6_takeArguments_77 U3 else f_X6_takeArguments_78 U3 (1 : Int32))))))) := by
  unfold g_X6_takeArguments f_X6_takeArguments_0
  rw [h]
  rfl
theorem args8_1 (h : ∃ t, (t = 1 ∨ t = 2 ∨ t = 3 ∨ t = 5 ∨ t = 6) ∧ U 12 (3 * k) = nI t) : g_X6_takeArguments U k = bd2 (g_X6_takeFirst U k) (fun r U => ck (isb r) (some (r, U))) := by
  obtain ⟨t, ht, h⟩ := h
  unfold g_X6_takeArguments f_X6_takeArguments_0
  rw [h]
  rcases ht with rfl | rfl | rfl | rfl | rfl <;> rfl
theorem args8_2 (h : ∃ t, (t = 7 ∨ t = 8) ∧ U 12 (3 * k) = nI t) : g_X6_takeArguments U k = bd2 (g_X6_takeFirst U k) (fun r U => (if r = 0 then f_X6_takeArguments_99 U else bd2 (g_X6_takeSecond U k) (fun r2 U2 => (if r2 = 0 then f_X6_takeArguments_99 U2 else f_X6_takeArguments_100 U2 (1 : Int32))))) := by
  obtain ⟨t, ht, h⟩ := h
  unfold g_X6_takeArguments f_X6_takeArguments_0
  rw [h]
  rcases ht with rfl | rfl <;> rfl
theorem args8_8 (h : U 12 (3 * k) = nI 9) : g_X6_takeArguments U k = bd2 (g_X6_takeSign (up U 12 (3 * k + 1) (1 : Int32)) (32 : Int32)) (fun r U => (if r = 0 then f_X6_takeArguments_123 U else bd2 (g_X6_takeFirst U k) (fun r2 U2 => (if r2 = 0 then f_X6_takeArguments_128 U2 (0 : Int32) else f_X6_takeArguments_123 U2)))) := by
  unfold g_X6_takeArguments f_X6_takeArguments_0
  rw [h]
  rfl
theorem args_r (H : TP len pos S T) (hp : pos < 800) (hl : pos ≤ len) (hk : k < 12) (ht : t < 9) (hS : S 12 (3 * k) = nI (t + 1)) : AR len pos k 3 (t = 3 ∨ t = 6 ∨ t = 7) S T (g_X6_takeArguments S k) (rdA T k (nI t)) := by
  have one : (t = 0 ∨ t = 1 ∨ t = 2 ∨ t = 4 ∨ t = 5) → AR len pos k 3 (t = 3 ∨ t = 6 ∨ t = 7) S T (g_X6_takeArguments S k) (rdA T k (nI t)) := by
    intro h
    rw [args8_1 ⟨t + 1, by omega, hS⟩]
    have e : rdA T k (nI t) = bd2 (g_X9_isDigit T (nI (3 * k + 1))) (fun r U => ck (isb r) (some (r, U))) := by
      rcases h with rfl | rfl | rfl | rfl | rfl <;> rfl
    rw [e]
    exact (ar_one H hp hk).wk (by omega) (fun z => by omega)
  have two : (t = 6 ∨ t = 7) → AR len pos k 3 (t = 3 ∨ t = 6 ∨ t = 7) S T (g_X6_takeArguments S k) (rdA T k (nI t)) := by
    intro h
    rw [args8_2 ⟨t + 1, by omega, hS⟩]
    have e : rdA T k (nI t) = bd2 (g_X9_isDigit T (nI (3 * k + 1))) (fun r U => (if r = 0 then f_X9_readsCommand_139 U else bd2 (g_X9_isDigit U (nI (3 * k + 2))) (fun r2 U2 => (if r2 = 0 then f_X9_readsCommand_139 U2 else f_X9_readsCommand_140 U2 (1 : Int32))))) := by
      rcases h with rfl | rfl <;> rfl
    rw [e]
    exact (ar_two H hp hk).wk (by omega) (fun _ => trivial)
  by_cases c3 : t = 3
  · subst c3
    rw [args8_3 hS]
    exact (ar_shout H hp hk).wk (by omega) (fun _ => trivial)
  · by_cases c8 : t = 8
    · subst c8
      rw [args8_8 hS]
      exact (ar_beat H hp hl hk).wk (by omega) (fun z => by omega)
    · by_cases c6 : t = 6 ∨ t = 7
      · exact two c6
      · exact one (by omega)
end RCM
