/-! ===== the pure part: rafts copied ===== -/
section P28
variable {a n k k' i j m m' x y g q M : Nat} {S T : Mem} {V V' V1 V2 : Nat → Int32}
/-- the live cells are the same -/
def SR (n : Nat) (V V' : Nat → Int32) : Prop := (∀ f, f < 8 → V' f = V f) ∧ (∀ i, i < n → ∀ f, f < 10 → V' (33 + 34 * i + f) = V (33 + 34 * i + f)) ∧ (∀ i, i < n → ∀ l, l < rL V i → V' (33 + 34 * i + 10 + l) = V (33 + 34 * i + 10 + l) ∧ V' (33 + 34 * i + 22 + l) = V (33 + 34 * i + 22 + l)) ∧ ∀ c, c < 25 → V' (8 + c) = V (8 + c)
theorem SR.rf : SR n V V := ⟨fun _ _ => rfl, fun _ _ _ _ => rfl, fun _ _ _ _ => ⟨rfl, rfl⟩, fun _ _ => rfl⟩
theorem SR.rL (h : SR n V V') (hi : i < n) : rL V' i = rL V i := rL_e (h.2.1 i hi 5 (by decide))
theorem SR.sy (h : SR n V V') : SR n V' V := ⟨fun f hf => (h.1 f hf).symm, fun i hi f hf => (h.2.1 i hi f hf).symm, fun i hi l hl => by
  rw [h.rL hi] at hl
  exact ⟨(h.2.2.1 i hi l hl).1.symm, (h.2.2.1 i hi l hl).2.symm⟩, fun c hc => (h.2.2.2 c hc).symm⟩
theorem SR.tr (h : SR n V V1) (h' : SR n V1 V2) : SR n V V2 := ⟨fun f hf => (h'.1 f hf).trans (h.1 f hf), fun i hi f hf => (h'.2.1 i hi f hf).trans (h.2.1 i hi f hf), fun i hi l hl => by
  have h2 := h'.2.2.1 i hi l (by rw [h.rL hi]; exact hl)
  have h3 := h.2.2.1 i hi l hl
  exact ⟨h2.1.trans h3.1, h2.2.trans h3.2⟩, fun c hc => (h'.2.2.2 c hc).trans (h.2.2.2 c hc)⟩
theorem RO.same (H : RO a n V) (h : SR n V V') : RO a n V' := by
  have h5 := H.le5
  obtain ⟨b, hb, e, f⟩ := H.ask
  have h0 : ∀ i, i < n → V' (33 + 34 * i) = V (33 + 34 * i) := fun i hi => h.2.1 i hi 0 (by decide)
  refine ⟨h5, H.aB, (h.1 1 (by decide)).trans H.cnt, ⟨b, hb, (h.1 2 (by decide)).trans e, fun z i hi => ?_⟩, fun i hi => ?_, fun i hi => ?_, fun i hi => ?_, fun i hi => ?_, fun i hi => ?_, fun i hi l hl => ?_, fun i j hi hj => ?_, ?_, ?_, H.iv.ext (fun i hi => ⟨h0 i hi, h.2.1 i hi 1 (by decide), h.2.1 i hi 4 (by decide), h.2.1 i hi 5 (by decide), h.2.1 i hi 6 (by decide)⟩) h.2.2.1⟩
  · unfold FRd
    rw [h0 i hi, h.2.1 i hi 1 (by decide), h.2.1 i hi 4 (by decide), h.2.1 i hi 5 (by decide), h.2.1 i hi 6 (by decide)]
    exact f z i hi
  · rw [h0 i hi]; exact H.role i hi
  · rw [h.2.1 i hi 1 (by decide)]; exact H.term i hi
  · rw [h.rL hi, h.2.1 i hi 5 (by decide)]; exact H.many i hi
  · rw [rC_e (h.2.1 i hi 6 (by decide)), h.2.1 i hi 6 (by decide)]; exact H.agr i hi
  · rw [h0 i hi, h.2.1 i hi 7 (by decide)]; exact H.abd i hi
  · rw [h.rL hi] at hl
    rw [(h.2.2.1 i hi l hl).1, (h.2.2.1 i hi l hl).2]
    exact H.lin i hi l hl
  · rw [Nat.add_assoc, Nat.add_assoc, h.2.2.2 _ (by omega), h.2.2.2 _ (by omega), ← Nat.add_assoc, ← Nat.add_assoc]
    exact H.rope i j hi hj
  · rw [smf_e (fun i hi => h.2.1 i hi 8 (by decide)), h.1 2 (by decide)]; exact H.s8
  · rw [smf_e (fun i hi => h.2.1 i hi 9 (by decide)), h.1 3 (by decide)]; exact H.s9
set_option maxRecDepth 100000 in
set_option maxHeartbeats 4000000 in
theorem copyD (hk : k ≠ k') (hi : i < 5) (hm : m ≤ 12) (e : S k' (33 + 34 * i + 5) = nI m) (hb : S k' (33 + 34 * i + 7) = 0 ∨ S k' (33 + 34 * i + 7) = 1) (hl : ∀ l, l < m → ∃ c : Nat, 97 ≤ c ∧ c ≤ 122 ∧ S k' (33 + 34 * i + 22 + l) = nI c) : ∃ S', g_X2_copyFrom S k i k' i = some S' ∧ Fr k S S' ∧ (∀ f, f < 10 → S' k (33 + 34 * i + f) = S k' (33 + 34 * i + f)) ∧ (∀ l, l < m → S' k (33 + 34 * i + 10 + l) = S k' (33 + 34 * i + 10 + l) ∧ S' k (33 + 34 * i + 22 + l) = S k' (33 + 34 * i + 22 + l)) ∧ ∀ c, (c < 33 + 34 * i ∨ 33 + 34 * i + 34 ≤ c) → S' k c = S k c := by
  have ro : ∀ (S : Mem) (j j' : Nat) (x : Int32), up S k j x k' j' = S k' j' := fun S j j' x => up_ne S x (fun z => hk z.1.symm)
  unfold g_X2_copyFrom f_X2_copyFrom_0
  simp only [ro]
  rw [ck_t _ (isb_of hb)]
  generalize hS9 : (up (up (up (up (up (up (up (up (up S k (33 + 34 * i) (S k' (33 + 34 * i))) k (33 + 34 * i + 1) (S k' (33 + 34 * i + 1))) k (33 + 34 * i + 2) (S k' (33 + 34 * i + 2))) k (33 + 34 * i + 3) (S k' (33 + 34 * i + 3))) k (33 + 34 * i + 4) (S k' (33 + 34 * i + 4))) k (33 + 34 * i + 6) (S k' (33 + 34 * i + 6))) k (33 + 34 * i + 7) (S k' (33 + 34 * i + 7))) k (33 + 34 * i + 8) (S k' (33 + 34 * i + 8))) k (33 + 34 * i + 9) (S k' (33 + 34 * i + 9))) = S9
  have F9 : Fr k S S9 := by
    rw [← hS9]
    exact ((((((((Fr.rf.up _ _).up _ _).up _ _).up _ _).up _ _).up _ _).up _ _).up _ _).up _ _
  have r9 : S9 k' = S k' := F9 k' (fun z => hk z.symm)
  obtain ⟨S', s1, sF, s5, sA, sB, sC⟩ := copyL (S := S9) (k := k) (c' := k') (i := i) (x := i) (m := m) (q := 0) hm (Nat.zero_le _) (by rw [r9]; exact e) (fun z => hk z.1) hi hi (by rw [r9]; exact fun l _ h => hl l h)
  rw [show (0 : Int32) = nI 0 from rfl, s1, bd1_s]
  refine ⟨S', rfl, F9.tr sF, ?_, ?_, ?_⟩
  · intro f hf
    by_cases c5 : f = 5
    · subst c5; rw [s5, e]
    · rw [sA _ (by omega) (by omega), ← hS9]
      have : f = 0 ∨ f = 1 ∨ f = 2 ∨ f = 3 ∨ f = 4 ∨ f = 6 ∨ f = 7 ∨ f = 8 ∨ f = 9 := by omega
      rcases this with rfl | rfl | rfl | rfl | rfl | rfl | rfl | rfl | rfl <;> simp (disch := omega) only [up_ne, up_same, Nat.add_zero]
  · intro l h
    obtain ⟨c1, c2⟩ := sC l (Nat.zero_le _) h
    rw [c1, c2, r9]
    exact ⟨rfl, rfl⟩
  · intro c hc
    rw [sA c (by omega) (by omega), ← hS9]
    simp (disch := omega) only [up_ne, up_same]
set_option maxRecDepth 100000 in
set_option maxHeartbeats 4000000 in
theorem copy_o (H : RO a n (S k')) (hk : k ≠ k') : ∃ S', g_X4_copyFrom S k k' = some S' ∧ Fr k S S' ∧ SR n (S k') (S' k) := by
  have h5 := H.le5
  have ro : ∀ (S : Mem) (j j' : Nat) (x : Int32), up S k j x k' j' = S k' j' := fun S j j' x => up_ne S x (fun z => hk z.1.symm)
  have hrope : ∀ c, c < 25 → S k' (8 + c) = 0 ∨ S k' (8 + c) = 1 := by
    intro c hc
    rw [show 8 + c = 8 + 5 * (c / 5) + c % 5 by omega]
    exact (H.rope (c / 5) (c % 5) (by omega) (by omega)).2
  have R : Gv (fun S' => Fr k S S' ∧ SR n (S k') (S' k)) (g_X4_copyFrom S k k') := by
    unfold g_X4_copyFrom f_X4_copyFrom_0 f_X4_copyFrom_2
    refine Gv_lp (fun d s => ∃ p S', p + d = n ∧ s = (S', nI p) ∧ Fr k S S' ∧ (∀ i, i < p → ∀ f, f < 10 → S' k (33 + 34 * i + f) = S k' (33 + 34 * i + f)) ∧ (∀ i, i < p → ∀ l, l < rL (S k') i → S' k (33 + 34 * i + 10 + l) = S k' (33 + 34 * i + 10 + l) ∧ S' k (33 + 34 * i + 22 + l) = S k' (33 + 34 * i + 22 + l))) ?_ n 2000 _ (by omega) ⟨0, S, by omega, rfl, Fr.rf, fun i h => absurd h (Nat.not_lt_zero i), fun i h => absurd h (Nat.not_lt_zero i)⟩
    rintro d s f ⟨p, S1, hd, rfl, hF, hA, hB⟩ K
    have r1 : S1 k' = S k' := hF k' (fun z => hk z.symm)
    unfold f_X4_copyFrom_2_b
    simp only [r1, H.cnt, ile (show n < 2 ^ 31 by omega) (show p < 2 ^ 31 by omega)]
    by_cases c : n ≤ p
    · rw [if_pos c]
      have hpn : p = n := by omega
      subst hpn
      unfold f_X4_copyFrom_33
      refine Gv_lp (fun d s => ∃ q S', q + d = 25 ∧ s = (S', nI q) ∧ Fr k S S' ∧ (∀ c, 33 ≤ c → S' k c = S1 k c) ∧ ∀ c, c < q → S' k (8 + c) = S k' (8 + c)) ?_ 25 2000 _ (by omega) ⟨0, S1, by omega, rfl, hF, fun _ _ => rfl, fun c h => absurd h (Nat.not_lt_zero c)⟩
      rintro d s g ⟨q, S2, hd, rfl, hF2, hA2, hB2⟩ K2
      have r2 : S2 k' = S k' := hF2 k' (fun z => hk z.symm)
      unfold f_X4_copyFrom_33_b
      simp only [ro]
      rw [show (25 : Int32) = nI 25 from rfl, ile (by omega) (by omega)]
      by_cases c2 : 25 ≤ q
      · rw [if_pos c2]
        refine ⟨_, rfl, (((((((hF2.up _ _).up _ _).up _ _).up _ _).up _ _).up _ _).up _ _).up _ _, ?_, ?_, ?_, ?_⟩
        · intro f hf
          have : f = 0 ∨ f = 1 ∨ f = 2 ∨ f = 3 ∨ f = 4 ∨ f = 5 ∨ f = 6 ∨ f = 7 := by omega
          rcases this with rfl | rfl | rfl | rfl | rfl | rfl | rfl | rfl <;> simp (disch := omega) only [up_ne, up_same, r2]
        · intro i hi f hf
          simp (disch := omega) only [up_ne, up_same]
          rw [hA2 _ (by omega)]
          exact hA i hi f hf
        · intro i hi l hl
          simp (disch := omega) only [up_ne, up_same]
          rw [hA2 _ (by omega), hA2 _ (by omega)]
          exact hB i hi l hl
        · intro c hc
          simp (disch := omega) only [up_ne, up_same]
          exact hB2 c (by omega)
      · have hnb : vp_nar .boolean (S2 k' (8 + q)) = S k' (8 + q) := by
          rw [r2]
          rcases hrope q (by omega) with h | h <;> rw [h] <;> decide +kernel
        rw [if_neg c2, ck_in (by omega) (by decide), ck_in (by omega) (by decide), nI_clamp (by omega), hnb, nI_p1]
        refine K2 (d - 1) _ (by omega) ⟨q + 1, _, by omega, rfl, hF2.up _ _, ?_, ?_⟩
        · intro c hc
          simp (disch := omega) only [up_ne, up_same]
          exact hA2 c hc
        · intro c hc
          by_cases hcq : c = q
          · subst hcq
            simp (disch := omega) only [up_ne, up_same]
          · simp (disch := omega) only [up_ne, up_same]
            exact hB2 c (by omega)
    · have hp : p < n := by omega
      obtain ⟨hm, e1⟩ := H.many p hp
      have hb : S k' (33 + 34 * p + 7) = 0 ∨ S k' (33 + 34 * p + 7) = 1 := (H.abd p hp).imp And.left id
      obtain ⟨S2, s1, sF, sA, sB, sC⟩ := copyD (S := S1) (k := k) (k' := k') (i := p) (m := rL (S k') p) hk (by omega) hm (by rw [r1]; exact e1) (by rw [r1]; exact hb) (by
        rw [r1]
        intro l hl
        exact (H.lin p hp l hl).2)
      rw [if_neg c, ck_in (by omega) (by decide), ck_in (by omega) (by decide), nI_clamp (by omega), s1, bd1_s, nI_p1]
      rw [r1] at sA sB
      refine K (d - 1) _ (by omega) ⟨p + 1, S2, by omega, rfl, hF.tr sF, ?_, ?_⟩
      · intro i hi f hf
        by_cases hip : i = p
        · subst hip; exact sA f hf
        · rw [sC _ (by omega)]
          exact hA i (by omega) f hf
      · intro i hi l hl
        by_cases hip : i = p
        · subst hip
          exact sB l hl
        · have := H.l12 i (by omega)
          rw [sC _ (by omega), sC _ (by omega)]
          exact hB i (by omega) l hl
  obtain ⟨S', h1, h2, h3⟩ := R
  exact ⟨S', h1, h2, h3⟩
end P28
