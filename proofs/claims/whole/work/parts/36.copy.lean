/-! ===== the pure part: rafts copied ===== -/
section COPY
variable {a n k k' i j m m' x y g q M : Nat} {S T : Mem}
theorem RW.copy {C V C' : Nat → Int32} (H : RW a n C V) (h0 : ∀ f, f < 8 → C' f = C f) (h1 : ∀ i, i < n → ∀ f, f < 10 → C' (33 + 34 * i + f) = C (33 + 34 * i + f)) (h2 : ∀ i, i < n → ∀ m, m ≤ 12 → V (33 + 34 * i + 5) = nI m → ∀ l, l < m → C' (33 + 34 * i + 10 + l) = C (33 + 34 * i + 10 + l) ∧ C' (33 + 34 * i + 22 + l) = C (33 + 34 * i + 22 + l)) (h3 : ∀ c, c < 25 → C' (8 + c) = C (8 + c)) : RW a n C' V := by
  refine ⟨H.le5, H.aB, H.cnt, H.ask, fun f hf => (h0 f hf).trans (H.hd f hf), fun i hi f hf => (h1 i hi f hf).trans (H.fld i hi f hf), H.role, H.term, H.vote, H.many, H.agr, H.abd, ?_, ?_, ?_, H.ropV, H.dead⟩
  · intro i hi m hm e l hl
    obtain ⟨g1, g2, g3, g4⟩ := H.lin i hi m hm e l hl
    obtain ⟨c1, c2⟩ := h2 i hi m hm e l hl
    exact ⟨c1.trans g1, c2.trans g2, g3, g4⟩
  · intro p q hpq hq
    obtain ⟨g1, g2, g3⟩ := H.ropC p q hpq hq
    refine ⟨?_, ?_, g3⟩
    · rw [Nat.add_assoc, h3 _ (by omega), ← Nat.add_assoc]; exact g1
    · rw [Nat.add_assoc, h3 _ (by omega), ← Nat.add_assoc]; exact g2
  · intro p hp
    rw [Nat.add_assoc, h3 _ (by omega), ← Nat.add_assoc]
    exact H.ropD p hp
set_option maxRecDepth 100000 in
set_option maxHeartbeats 4000000 in
theorem copyD (hk : k ≠ k') (hi : i < 5) (hm : m ≤ 12) (e : S k' (33 + 34 * i + 5) = nI m) (hb : S k' (33 + 34 * i + 7) = 0 ∨ S k' (33 + 34 * i + 7) = 1) (hl : ∀ l, l < m → ∃ c : Nat, 97 ≤ c ∧ c ≤ 122 ∧ S k' (33 + 34 * i + 22 + l) = nI c) : ∃ S', g_X2_copyFrom S k i k' i = some S' ∧ Fr k S S' ∧ (∀ f, f < 10 → S' k (33 + 34 * i + f) = S k' (33 + 34 * i + f)) ∧ (∀ l, l < m → S' k (33 + 34 * i + 10 + l) = S k' (33 + 34 * i + 10 + l) ∧ S' k (33 + 34 * i + 22 + l) = S k' (33 + 34 * i + 22 + l)) ∧ ∀ c, (c < 33 + 34 * i ∨ 33 + 34 * i + 34 ≤ c) → S' k c = S k c := by
  have ro : ∀ (S : Mem) (j j' : Nat) (x : Int32), up S k j x k' j' = S k' j' := fun S j j' x => up_ne S x (fun z => hk z.1.symm)
  unfold g_X2_copyFrom f_X2_copyFrom_0
  simp only [ro]
  rw [ck_t _ (isb_of hb)]
  generalize hS9 : (up (up (up (up (up (up (up (up (up S k (33 + 34 * i) (S k' (33 + 34 * i))) k (33 + 34 * i + 1) (S k' (33 + 34 * i + 1))) k (33 + 34 * i + 2) (S k' (33 + 34 * i + 2))) k (33 + 34 * i + 3) (S k' (33 + 34 * i + 3))) k (33 + 34 * i + 4) (S k' (33 + 34 * i + 4))) k (33 + 34 * i + 6) (S k' (33 + 34 * i + 6))) k (33 + 34 * i + 7) (S k' (33 + 34 * i + 7))) k (33 + 34 * i + 8) (S k' (33 + 34 * i + 8))) k (33 + 34 * i + 9) (S k' (33 + 34 * i + 9))) = S9
  have F9 : Fr k S S9 := by
    rw [← hS9]
    exact ((((((((Fr.rf.up _ _).up _ _).up _ _).up _ _).up _ _).up _ _).up _ _).up _ _).up _ _
  have r9 : S9 k' = S k' := F9 k' (fun z => hk z.symm)
  obtain ⟨S', s1, sF, s5, sA, sB, sC⟩ := copyL (S := S9) (k := k) (c' := k') (i := i) (x := i) (m := m) (q := 0) hm (Nat.zero_le _) (by rw [r9]; exact e) (fun z => hk z.1) hi hi (by rw [r9]; exact fun l _ h => hl l h)
  rw [show (0 : Int32) = nI 0 from rfl, s1, bd1_s]
  refine ⟨S', rfl, F9.tr sF, ?_, ?_, ?_⟩
  · intro f hf
    by_cases c5 : f = 5
    · subst c5; rw [s5, e]
    · rw [sA _ (by omega) (by omega), ← hS9]
      have : f = 0 ∨ f = 1 ∨ f = 2 ∨ f = 3 ∨ f = 4 ∨ f = 6 ∨ f = 7 ∨ f = 8 ∨ f = 9 := by omega
      rcases this with rfl | rfl | rfl | rfl | rfl | rfl | rfl | rfl | rfl <;> simp (disch := omega) only [up_ne, up_same, Nat.add_zero]
  · intro l h
    obtain ⟨c1, c2⟩ := sC l (Nat.zero_le _) h
    rw [c1, c2, r9]
    exact ⟨rfl, rfl⟩
  · intro c hc
    rw [sA c (by omega) (by omega), ← hS9]
    simp (disch := omega) only [up_ne, up_same]
set_option maxRecDepth 100000 in
set_option maxHeartbeats 4000000 in
theorem copyF {V : Nat → Int32} (H : RW a n (S k') V) (hk : k ≠ k') : ∃ S', g_X4_copyFrom S k k' = some S' ∧ Fr k S S' ∧ RW a n (S' k) V := by
  have h5 := H.le5
  have ro : ∀ (S : Mem) (j j' : Nat) (x : Int32), up S k j x k' j' = S k' j' := fun S j j' x => up_ne S x (fun z => hk z.1.symm)
  have hrope : ∀ c, c < 25 → S k' (8 + c) = 0 ∨ S k' (8 + c) = 1 := by
    intro c hc
    rcases Nat.lt_trichotomy (c / 5) (c % 5) with h | h | h
    · obtain ⟨g1, -, g3⟩ := H.ropC (c / 5) (c % 5) h (by omega)
      rw [show 8 + c = 8 + 5 * (c / 5) + c % 5 by omega, g1]
      exact g3
    · have := H.ropD (c / 5) (by omega)
      rw [show 8 + c = 8 + 5 * (c / 5) + c / 5 by omega]
      exact Or.inl this
    · obtain ⟨-, g2, g3⟩ := H.ropC (c % 5) (c / 5) h (by omega)
      rw [show 8 + c = 8 + 5 * (c / 5) + c % 5 by omega, g2]
      exact g3
  have R : Gv (fun S' => Fr k S S' ∧ RW a n (S' k) V) (g_X4_copyFrom S k k') := by
    unfold g_X4_copyFrom f_X4_copyFrom_0 f_X4_copyFrom_2
    refine Gv_lp (fun d s => ∃ p S', p + d = n ∧ s = (S', nI p) ∧ Fr k S S' ∧ (∀ i, i < p → ∀ f, f < 10 → S' k (33 + 34 * i + f) = S k' (33 + 34 * i + f)) ∧ (∀ i, i < p → ∀ m, m ≤ 12 → V (33 + 34 * i + 5) = nI m → ∀ l, l < m → S' k (33 + 34 * i + 10 + l) = S k' (33 + 34 * i + 10 + l) ∧ S' k (33 + 34 * i + 22 + l) = S k' (33 + 34 * i + 22 + l))) ?_ n 2000 _ (by omega) ⟨0, S, by omega, rfl, Fr.rf, fun i h => absurd h (Nat.not_lt_zero i), fun i h => absurd h (Nat.not_lt_zero i)⟩
    rintro d s f ⟨p, S1, hd, rfl, hF, hA, hB⟩ K
    have r1 : S1 k' = S k' := hF k' (fun z => hk z.symm)
    unfold f_X4_copyFrom_2_b
    simp only [r1, (H.hd 1 (by decide)).trans H.cnt, ile (show n < 2 ^ 31 by omega) (show p < 2 ^ 31 by omega)]
    by_cases c : n ≤ p
    · rw [if_pos c]
      have hpn : p = n := by omega
      subst hpn
      unfold f_X4_copyFrom_33
      refine Gv_lp (fun d s => ∃ q S', q + d = 25 ∧ s = (S', nI q) ∧ Fr k S S' ∧ (∀ c, 33 ≤ c → S' k c = S1 k c) ∧ ∀ c, c < q → S' k (8 + c) = S k' (8 + c)) ?_ 25 2000 _ (by omega) ⟨0, S1, by omega, rfl, hF, fun _ _ => rfl, fun c h => absurd h (Nat.not_lt_zero c)⟩
      rintro d s g ⟨q, S2, hd, rfl, hF2, hA2, hB2⟩ K2
      have r2 : S2 k' = S k' := hF2 k' (fun z => hk z.symm)
      unfold f_X4_copyFrom_33_b
      simp only [ro]
      rw [show (25 : Int32) = nI 25 from rfl, ile (by omega) (by omega)]
      by_cases c2 : 25 ≤ q
      · rw [if_pos c2]
        refine ⟨_, rfl, (((((((hF2.up _ _).up _ _).up _ _).up _ _).up _ _).up _ _).up _ _).up _ _, ?_⟩
        refine H.copy ?_ ?_ ?_ ?_
        · intro f hf
          have : f = 0 ∨ f = 1 ∨ f = 2 ∨ f = 3 ∨ f = 4 ∨ f = 5 ∨ f = 6 ∨ f = 7 := by omega
          rcases this with rfl | rfl | rfl | rfl | rfl | rfl | rfl | rfl <;> simp (disch := omega) only [up_ne, up_same, r2]
        · intro i hi f hf
          simp (disch := omega) only [up_ne, up_same]
          rw [hA2 _ (by omega)]
          exact hA i hi f hf
        · intro i hi m hm e l hl
          simp (disch := omega) only [up_ne, up_same]
          rw [hA2 _ (by omega), hA2 _ (by omega)]
          exact hB i hi m hm e l hl
        · intro c hc
          simp (disch := omega) only [up_ne, up_same]
          exact hB2 c (by omega)
      · have hnb : vp_nar .boolean (S2 k' (8 + q)) = S k' (8 + q) := by
          rw [r2]
          rcases hrope q (by omega) with h | h <;> rw [h] <;> decide +kernel
        rw [if_neg c2, ck_in (by omega) (by decide), ck_in (by omega) (by decide), nI_clamp (by omega), hnb, nI_p1]
        refine K2 (d - 1) _ (by omega) ⟨q + 1, _, by omega, rfl, hF2.up _ _, ?_, ?_⟩
        · intro c hc
          simp (disch := omega) only [up_ne, up_same]
          exact hA2 c hc
        · intro c hc
          by_cases hcq : c = q
          · subst hcq
            simp (disch := omega) only [up_ne, up_same]
          · simp (disch := omega) only [up_ne, up_same]
            exact hB2 c (by omega)
    · have hp : p < n := by omega
      obtain ⟨m, hm, e⟩ := H.many p hp
      have e1 : S k' (33 + 34 * p + 5) = nI m := (H.fld p hp 5 (by decide)).trans e
      have hb : S k' (33 + 34 * p + 7) = 0 ∨ S k' (33 + 34 * p + 7) = 1 := by
        rw [H.fld p hp 7 (by decide)]
        exact (H.abd p hp).imp And.left id
      obtain ⟨S2, s1, sF, sA, sB, sC⟩ := copyD (S := S1) (k := k) (k' := k') (i := p) (m := m) hk (by omega) hm (by rw [r1]; exact e1) (by rw [r1]; exact hb) (by
        rw [r1]
        intro l hl
        obtain ⟨-, g2, -, ch, g4, g5, g6⟩ := H.lin p hp m hm e l hl
        exact ⟨ch, g4, g5, g2.trans g6⟩)
      rw [if_neg c, ck_in (by omega) (by decide), ck_in (by omega) (by decide), nI_clamp (by omega), s1, bd1_s, nI_p1]
      rw [r1] at sA sB
      refine K (d - 1) _ (by omega) ⟨p + 1, S2, by omega, rfl, hF.tr sF, ?_, ?_⟩
      · intro i hi f hf
        by_cases hip : i = p
        · subst hip; exact sA f hf
        · rw [sC _ (by omega)]
          exact hA i (by omega) f hf
      · intro i hi m' hm' e' l hl
        by_cases hip : i = p
        · subst hip
          have : m' = m := (nI_eq (by omega) (by omega)).mp (e'.symm.trans e)
          subst this
          exact sB l hl
        · rw [sC _ (by omega), sC _ (by omega)]
          exact hB i (by omega) m' hm' e' l hl
  obtain ⟨S', h1, h2, h3⟩ := R
  exact ⟨S', h1, h2, h3⟩
/-- the reference's rows copied: 203 cells -/
theorem copies_r {d0 d2 o p : Nat} (hd : d0 ≠ d2 ∨ p + 203 ≤ o) (h0 : o + 203 ≤ lenM d0) (h2 : p + 203 ≤ lenM d2) (hl0 : lenM d0 < 2 ^ 31) (hl2 : lenM d2 < 2 ^ 31) : ∃ T', g_X9_copies T d0 (nI o) d2 (nI p) = some T' ∧ Fr d2 T T' ∧ (∀ c, c < 203 → T' d2 (p + c) = T d0 (o + c)) ∧ ∀ c, (c < p ∨ p + 203 ≤ c) → T' d2 c = T d2 c := by
  unfold g_X9_copies f_X9_copies_0 f_X9_copies_3
  refine Gv_lp (P := fun T' => Fr d2 T T' ∧ (∀ c, c < 203 → T' d2 (p + c) = T d0 (o + c)) ∧ ∀ c, (c < p ∨ p + 203 ≤ c) → T' d2 c = T d2 c) (fun d s => ∃ q T', q + d = 203 ∧ s = (T', nI q) ∧ Fr d2 T T' ∧ (∀ c, c < q → T' d2 (p + c) = T d0 (o + c)) ∧ ∀ c, (c < p ∨ p + q ≤ c) → T' d2 c = T d2 c) ?_ 203 2000 _ (by omega) ⟨0, T, by omega, rfl, Fr.rf, fun c h => absurd h (Nat.not_lt_zero c), fun _ _ => rfl⟩
  rintro d s f ⟨q, T1, hd', rfl, hF, hA, hB⟩ K
  unfold f_X9_copies_3_b
  rw [show (203 : Int32) = nI 203 from rfl, ile (by omega) (by omega)]
  by_cases c : 203 ≤ q
  · have : q = 203 := by omega
    subst this
    rw [if_pos c]
    exact ⟨_, rfl, hF, hA, hB⟩
  · have rd : T1 d0 (o + q) = T d0 (o + q) := by
      by_cases h : d0 = d2
      · subst h
        exact hB _ (by omega)
      · rw [hF d0 h]
    rw [if_neg c, nI_add, nI_add, ck_in (by omega) hl0, ck_in (by omega) hl2, nI_clamp (by omega), nI_clamp (by omega)]
    simp only [rd, nI_p1]
    refine K (d - 1) _ (by omega) ⟨q + 1, _, by omega, rfl, hF.up _ _, ?_, ?_⟩
    · intro c hc
      by_cases hcq : c = q
      · subst hcq
        simp (disch := omega) only [up_ne, up_same]
      · simp (disch := omega) only [up_ne, up_same]
        exact hA c (by omega)
    · intro c hc
      simp (disch := omega) only [up_ne, up_same]
      exact hB c (by omega)
end COPY
