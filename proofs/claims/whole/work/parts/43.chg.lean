/-! ===== the pure part: clear, fault, reason, written ===== -/
section CHG3
variable {a a' n n' k k' i j m m' x y g q M N : Nat} {S T S' T' : Mem} {r : Int32}
theorem RW.none {C V : Nat → Int32} (hC : ∀ c, c < 33 → C c = 0) (hV : ∀ c, c < 203 → V c = 0) : RW 0 0 C V := by
  refine ⟨by omega, by omega, hV 1 (by omega), hV 2 (by omega), ?_, ?_, ?_, ?_, ?_, ?_, ?_, ?_, ?_, ?_, ?_, ?_, ?_⟩
  · intro f hf; rw [hC f (by omega), hV f (by omega)]
  · intro i hi; exact absurd hi (Nat.not_lt_zero i)
  · intro i hi; exact absurd hi (Nat.not_lt_zero i)
  · intro i hi; exact absurd hi (Nat.not_lt_zero i)
  · intro i hi; exact absurd hi (Nat.not_lt_zero i)
  · intro i hi; exact absurd hi (Nat.not_lt_zero i)
  · intro i hi; exact absurd hi (Nat.not_lt_zero i)
  · intro i hi; exact absurd hi (Nat.not_lt_zero i)
  · intro i hi; exact absurd hi (Nat.not_lt_zero i)
  · intro p q hpq hq
    rw [hC _ (by omega), hC _ (by omega), hV _ (by omega)]
    exact ⟨rfl, rfl, Or.inl rfl⟩
  · intro p hp; exact hC _ (by omega)
  · intro p q hpq hp; exact hV _ (by omega)
  · intro i _ hi5 f hf; exact hV _ (by omega)
theorem l_clear (H : RZ N S T) : LK N S T (g_X8_clear S) (g_X9_clear T) := by
  obtain ⟨a, n, ha, hR⟩ := H.now
  have A : Gv (fun S' => Fr 0 S S' ∧ ∀ c, c < 33 → S' 0 c = 0) (g_X4_empty S 0) := by
    unfold g_X4_empty f_X4_empty_0 f_X4_empty_2
    refine Gv_lp (fun d s => ∃ q S', q + d = 25 ∧ s = (S', nI q) ∧ Fr 0 S S' ∧ ∀ c, c < q → S' 0 (8 + c) = 0) ?_ 25 2000 _ (by omega) ⟨0, S, by omega, rfl, Fr.rf, fun c h => absurd h (Nat.not_lt_zero c)⟩
    rintro d s f ⟨q, S1, hd, rfl, hF, hA⟩ K
    unfold f_X4_empty_2_b
    rw [show (25 : Int32) = nI 25 from rfl, ile (by omega) (by omega)]
    by_cases c : 25 ≤ q
    · rw [if_pos c]
      refine ⟨_, rfl, (((((((hF.up _ _).up _ _).up _ _).up _ _).up _ _).up _ _).up _ _).up _ _, ?_⟩
      intro c hc
      by_cases h8 : c < 8
      · have : c = 0 ∨ c = 1 ∨ c = 2 ∨ c = 3 ∨ c = 4 ∨ c = 5 ∨ c = 6 ∨ c = 7 := by omega
        rcases this with rfl | rfl | rfl | rfl | rfl | rfl | rfl | rfl <;> simp (disch := omega) only [up_ne, up_same]
      · simp (disch := omega) only [up_ne, up_same]
        have := hA (c - 8) (by omega)
        rw [show 8 + (c - 8) = c by omega] at this
        exact this
    · rw [if_neg c, ck_in (by omega) (by decide), nI_clamp (by omega), nI_p1, show vp_nar .boolean (0 : Int32) = 0 by decide +kernel]
      refine K (d - 1) _ (by omega) ⟨q + 1, _, by omega, rfl, hF.up _ _, ?_⟩
      intro c hc
      by_cases hcq : c = q
      · subst hcq; rw [up_same]
      · rw [up_ne _ _ (by omega)]; exact hA c (by omega)
  obtain ⟨S1, s1, sF, sA⟩ := A
  have B : Gv (fun p => ∃ T', p = (T 20 1, up T' 28 5 0) ∧ Fr 20 T T' ∧ ∀ c, c < 203 → T' 20 c = 0) (g_X9_clear T) := by
    unfold g_X9_clear f_X9_clear_0 f_X9_clear_9
    refine Gv_lp (fun d s => ∃ q T', q + d = 203 ∧ s = (T', nI q) ∧ Fr 20 T T' ∧ ∀ c, c < q → T' 20 c = 0) ?_ 203 2000 _ (by omega) ⟨0, T, by omega, rfl, Fr.rf, fun c h => absurd h (Nat.not_lt_zero c)⟩
    rintro d s f ⟨q, T1, hd, rfl, hF, hA⟩ K
    unfold f_X9_clear_9_b
    rw [show (203 : Int32) = nI 203 from rfl, ile (by omega) (by omega)]
    by_cases c : 203 ≤ q
    · rw [if_pos c]
      exact ⟨_, rfl, T1, rfl, hF, fun c hc => hA c (by omega)⟩
    · rw [if_neg c, ck_in (by omega) (by decide), nI_clamp (by omega), nI_p1]
      refine K (d - 1) _ (by omega) ⟨q + 1, _, by omega, rfl, hF.up _ _, ?_⟩
      intro c hc
      by_cases hcq : c = q
      · subst hcq; rw [up_same]
      · rw [up_ne _ _ (by omega)]; exact hA c (by omega)
  obtain ⟨p, t1, T1, rfl, tF, tA⟩ := B
  unfold g_X8_clear f_X8_clear_0 g_X3_forget f_X3_forget_0
  rw [s1, t1, bd1_s, bd1_s, hR.hd 1 (by decide)]
  refine ⟨_, _, _, rfl, rfl, ?_, ?_, ?_⟩
  · refine H.of (Nat.le_refl _) ?_ (PS.zero ?_ ?_ ?_) ?_ ?_ ?_ ?_
    · rw [up_oth _ _ _ (by decide), up_oth _ _ _ (by decide)]
      exact ⟨0, 0, Nat.zero_le _, RW.none sA tA⟩
    · rw [up_ne _ _ (by decide), sF 11 (by decide)]
      exact H.past.nx
    · rw [up_same]
    · rw [up_same]
    · intro b b0 b1 b2 b3; rw [up_oth _ _ _ b2, sF b b0]
    · intro j j2 j3; rw [up_ne _ _ (by omega), sF 11 (by decide)]
    · intro b b0 b1 b2 b3 b4; rw [up_oth _ _ _ b4, tF b b0]
    · intro j hj; rw [up_ne _ _ (by omega), tF 28 (by decide)]
  · intro b hb; rw [up_oth _ _ _ (by omega), sF b (by omega)]
  · intro b hb; rw [up_oth _ _ _ (by omega), tF b (by omega)]
theorem p_fault (H : RZ N S S) : ∃ r, g_X8_fault S = some r ∧ g_X9_fault S = some r := ⟨S 11 1, rfl, congrArg some H.flt.symm⟩
theorem p_reason (H : RZ N S S) (x b : Int32) : ∃ r, g_X8_reason S x b = some r ∧ g_X9_reason S x b = some r := by
  obtain ⟨r1, r2, r3, r4⟩ := H.rs
  unfold g_X8_reason f_X8_reason_0 f_X8_reason_9 f_X8_reason_33 f_X8_reason_68 g_X9_reason f_X9_reason_0 f_X9_reason_33 f_X9_reason_36 f_X9_reason_73 g_X9_isIn f_X9_isIn_0 f_X9_isIn_14 f_X9_isIn_15
  by_cases c1 : x < 0
  · refine ⟨-2, ?_, ?_⟩ <;> simp (decide := true) only [c1, ↓reduceIte, ck_0, bd1_s]
  · by_cases c2 : x ≤ 1
    · simp (decide := true) only [c1, c2, Int32.not_lt.mpr c2, ↓reduceIte, ck_1, bd1_s, r1, r2, r3]
      by_cases c3 : x = 0
      · simp (decide := true) only [c3, ↓reduceIte]
        by_cases c4 : S 28 6 = 0
        · refine ⟨-4, ?_, ?_⟩ <;> simp (decide := true) only [c4, ↓reduceIte]
        · by_cases c5 : b = 0
          · simp (decide := true) only [c4, c5, ↓reduceIte]; exact ⟨_, rfl, rfl⟩
          · simp (decide := true) only [c4, c5, ↓reduceIte]; exact ⟨_, rfl, rfl⟩
      · simp (decide := true) only [c3, ↓reduceIte]
        by_cases c4 : S 28 8 = 0
        · refine ⟨-4, ?_, ?_⟩ <;> simp (decide := true) only [c4, ↓reduceIte]
        · by_cases c5 : b = 0
          · simp (decide := true) only [c4, c5, ↓reduceIte]; exact ⟨_, rfl, rfl⟩
          · simp (decide := true) only [c4, c5, ↓reduceIte, r4 c4]; exact ⟨_, rfl, rfl⟩
    · refine ⟨-2, ?_, ?_⟩ <;> simp (decide := true) only [c1, c2, Int32.not_le.mp c2, ↓reduceIte, ck_0, bd1_s]
theorem BX.sbat {b c d Mx : Nat} (h : BX b c d Mx S T) (hi : nI i < S (13 + 2 * b) 0) (h31 : i < 2 ^ 31) : sbat S b (nI i) = true := by
  obtain ⟨len, l1, l2, l3, l4, l5, l6, l7⟩ := h
  unfold Jvm.Pilot.CLogRaftLaw_law_r5543_ff0d90.sbat cnN
  have h3 : len < 2 ^ 31 := by omega
  rw [l2, nI_clamp h3]
  rw [l2] at hi
  have h160 : capN S (13 + 2 * b) ≤ 160 := by omega
  simp [nI_pos' h31, hi, l4, h160]
theorem p_written (H : RZ N S S) (x : Int32) : ∃ r, g_X8_written S x = some r ∧ g_X9_written S x = some r := by
  obtain ⟨len, l1, l2, l3, l4, l5, l6, l7⟩ := H.wr
  unfold g_X8_written f_X8_written_0 f_X8_written_26 f_X8_written_27 g_X9_written f_X9_written_0 f_X9_written_24 g_X9_isIn f_X9_isIn_0 f_X9_isIn_14 f_X9_isIn_15
  by_cases c1 : x < 0
  · refine ⟨-1, ?_, ?_⟩ <;> simp (decide := true) only [c1, ↓reduceIte, ck_0, bd1_s]
  · obtain ⟨i, hi, rfl⟩ := nI_of c1
    rw [l2, l3, ile (by omega) (by omega)]
    by_cases c2 : len ≤ i
    · have : nI len - 1 < nI i := by
        rw [Int32.lt_iff_toInt_lt, show (1 : Int32) = nI 1 from rfl, pk_sub_toInt (by omega) (by decide), nI_toInt hi]
        omega
      refine ⟨-1, ?_, ?_⟩ <;> simp (decide := true) only [c1, c2, this, ↓reduceIte, ck_0, bd1_s]
    · have h3 : ¬ nI len - 1 < nI i := by
        rw [nI_m1 (by omega)]
        intro z
        have := (nI_ltI (by omega) hi).mp z
        omega
      have h4 : sbat S 1 (nI i) = true := H.wr.sbat (by rw [l2]; exact nI_lt (by omega) (by omega)) hi
      simp (decide := true) only [c1, c2, h3, ↓reduceIte, ck_1, bd1_s, h4, ck_t, ck_in (show i < 120 by omega) (show 120 < 2 ^ 31 by decide), nI_clamp (show i < 2 ^ 31 by omega), l7 i (by omega)]
      exact ⟨_, rfl, rfl⟩
end CHG3
