/-! ===== the pure part: the past ===== -/
section PAST
variable {a n k k' i j m m' x y g q M N : Nat} {S T : Mem}
theorem RW.congV {C V V' : Nat → Int32} (H : RW a n C V) (h : ∀ c, c < 203 → V' c = V c) : RW a n C V' := by
  have h5 := H.le5
  have hf : ∀ i, i < 5 → ∀ f, f < 34 → V' (33 + 34 * i + f) = V (33 + 34 * i + f) := fun i hi f hf => h _ (by omega)
  have h0 : ∀ i, i < 5 → V' (33 + 34 * i) = V (33 + 34 * i) := fun i hi => h _ (by omega)
  refine ⟨h5, H.aB, by rw [h 1 (by decide)]; exact H.cnt, by rw [h 2 (by decide)]; exact H.ask, ?_, ?_, ?_, ?_, ?_, ?_, ?_, ?_, ?_, ?_, H.ropD, ?_, ?_⟩
  · intro f hf'; rw [h f (by omega)]; exact H.hd f hf'
  · intro i hi f hf'; rw [hf i (by omega) f (by omega)]; exact H.fld i hi f hf'
  · intro i hi; rw [h0 i (by omega)]; exact H.role i hi
  · intro i hi; rw [hf i (by omega) 1 (by omega)]; exact H.term i hi
  · intro i hi
    rw [hf i (by omega) 4 (by omega), hf i (by omega) 1 (by omega)]
    refine (H.vote i hi).imp id (fun ⟨w, hw, h3, h4⟩ => ⟨w, hw, h3, fun hwj => ?_⟩)
    rw [hf w (by omega) 1 (by omega)]
    exact h4 hwj
  · intro i hi; rw [hf i (by omega) 5 (by omega)]; exact H.many i hi
  · intro i hi; rw [hf i (by omega) 6 (by omega)]; exact H.agr i hi
  · intro i hi; rw [hf i (by omega) 7 (by omega), h0 i (by omega)]; exact H.abd i hi
  · intro i hi m hm e l hl
    rw [hf i (by omega) 5 (by omega)] at e
    rw [h _ (by omega), h _ (by omega)]
    exact H.lin i hi m hm e l hl
  · intro p q hpq hq
    rw [h _ (by omega)]
    exact H.ropC p q hpq hq
  · intro p q hpq hp
    rw [h _ (by omega)]
    exact H.ropV p q hpq hp
  · intro i hi hi5 f hf'
    rw [hf i hi5 f (by omega)]
    exact H.dead i hi hi5 f hf'
/-- a raft with at most N asks -/
def RN (N : Nat) (C V : Nat → Int32) : Prop := ∃ a n, a ≤ N ∧ RW a n C V
theorem RN.mono {C V : Nat → Int32} {N' : Nat} (h : RN N C V) (hN : N ≤ N') : RN N' C V := by
  obtain ⟨a, n, h1, h2⟩ := h
  exact ⟨a, n, by omega, h2⟩
theorem RN.congV {C V V' : Nat → Int32} (H : RN N C V) (h : ∀ c, c < 203 → V' c = V c) : RN N C V' := by
  obtain ⟨a, n, h1, h2⟩ := H
  exact ⟨a, n, h1, h2.congV h⟩
/-- the pasts agree: the class's ring, the reference's row -/
def PS (N : Nat) (S T : Mem) : Prop := ∃ nx c, nx < 8 ∧ c ≤ 8 ∧ S 11 2 = nI nx ∧ S 11 3 = nI c ∧ T 28 5 = nI c ∧ ∀ i, i < c → RN N (S (3 + (nx + 8 - c + i) % 8)) (fun z => T 24 (203 * i + z))
theorem PS.congr {S1 T1 : Mem} (h : PS N S T) (h1 : S1 11 2 = S 11 2) (h2 : S1 11 3 = S 11 3) (h3 : T1 28 5 = T 28 5) (h4 : ∀ b, 3 ≤ b → b < 11 → S1 b = S b) (h5 : T1 24 = T 24) : PS N S1 T1 := by
  obtain ⟨nx, c, c1, c2, c3, c4, c5, c6⟩ := h
  refine ⟨nx, c, c1, c2, h1.trans c3, h2.trans c4, h3.trans c5, fun i hi => ?_⟩
  rw [h4 _ (by omega) (by omega), h5]
  exact c6 i hi
theorem PS.mono {N' : Nat} (h : PS N S T) (hN : N ≤ N') : PS N' S T := by
  obtain ⟨nx, c, c1, c2, c3, c4, c5, c6⟩ := h
  exact ⟨nx, c, c1, c2, c3, c4, c5, fun i hi => (c6 i hi).mono hN⟩
theorem remem_r (hP : PS N S T) (hW : RN N (S 1) (T 21)) : ∃ S' T', g_X3_remember S 1 = some S' ∧ g_X9_changed T = some T' ∧ PS N S' T' ∧ (∀ b, (b < 3 ∨ 12 ≤ b) → S' b = S b) ∧ (∀ j, j ≠ 2 → j ≠ 3 → S' 11 j = S 11 j) ∧ (∀ b, b ≠ 24 → b ≠ 28 → T' b = T b) ∧ (∀ j, j ≠ 5 → T' 28 j = T 28 j) := by
  obtain ⟨nx, c, c1, c2, c3, c4, c5, c6⟩ := hP
  obtain ⟨a, n, ha, hR⟩ := hW
  have e8 : (8 : Int32) = nI 8 := rfl
  have l21 : lenM 21 = 203 := rfl
  have l24 : lenM 24 = 1624 := rfl
  obtain ⟨S1, s1, sF, sR⟩ := copyF (S := S) (k := 3 + nx) (k' := 1) hR (by omega)
  have s2 : g_X3_remember S 1 = some (up (up S1 11 2 (nI ((nx + 1) % 8))) 11 3 (nI (min (c + 1) 8))) := by
    unfold g_X3_remember f_X3_remember_0
    rw [c3, ck_in (by omega) (by decide), nI_clamp (by omega), s1, bd1_s, sF 11 (by omega), c3, nI_p1, e8, pk_rem (by omega) (by decide) (by decide), up_ne _ _ (by decide), sF 11 (by omega), c4, nI_p1, mnI (by omega) (by omega)]
  have K : ∀ T1 c', c' < 8 → T1 28 5 = nI c' → ∃ T', f_X9_changed_56 T1 = some T' ∧ T' 28 5 = nI (c' + 1) ∧ (∀ b, b ≠ 24 → b ≠ 28 → T' b = T1 b) ∧ (∀ j, j ≠ 5 → T' 28 j = T1 28 j) ∧ (∀ z, z < 203 → T' 24 (203 * c' + z) = T1 21 z) ∧ (∀ z, (z < 203 * c' ∨ 203 * c' + 203 ≤ z) → T' 24 z = T1 24 z) := by
    intro T1 c' hc' he
    obtain ⟨T2, t1, tF, tA, tB⟩ := copies_r (T := T1) (d0 := 21) (d2 := 24) (o := 0) (p := 203 * c') (Or.inl (by decide)) (by rw [l21]; omega) (by rw [l24]; omega) (by decide) (by decide)
    unfold f_X9_changed_56
    rw [he, show (203 : Int32) * nI c' = nI (203 * c') from pk_mul 203 c', show (0 : Int32) = nI 0 from rfl, t1, bd1_s]
    refine ⟨_, rfl, ?_, ?_, ?_, ?_, ?_⟩
    · rw [up_same, tF 28 (by decide), he, nI_p1]
    · intro b h1 h2
      rw [up_oth _ _ _ h2, tF b h1]
    · intro j hj
      rw [up_ne _ _ (by omega), tF 28 (by decide)]
    · intro z hz
      rw [up_ne _ _ (by omega), tA z hz, Nat.zero_add]
    · intro z hz
      rw [up_ne _ _ (by omega), tB z hz]
  by_cases h8 : c = 8
  · subst h8
    have L : ∃ T1, g_X9_changed T = f_X9_changed_56 (up T1 28 5 (T1 28 5 - 1)) ∧ Fr 24 T T1 ∧ (∀ z, z < 203 * 7 → T1 24 z = T 24 (203 + z)) := by
      have R := QQ_lp (b := fun (f : (Mem × Int32) → Option Unit) s => f s) (fun (_ : Option Unit) y => ∃ T1, y = f_X9_changed_56 (up T1 28 5 (T1 28 5 - 1)) ∧ Fr 24 T T1 ∧ (∀ z, z < 203 * 7 → T1 24 z = T 24 (203 + z))) (c := fun ih11 s9 => f_X9_changed_11_b ih11 s9.1 s9.2) (fun d _ s => ∃ p T1, p + d = 8 ∧ 1 ≤ p ∧ s = (T1, nI p) ∧ Fr 24 T T1 ∧ (∀ z, z < 203 * (p - 1) → T1 24 z = T 24 (203 + z)) ∧ (∀ z, 203 * (p - 1) ≤ z → T1 24 z = T 24 z ∨ z < 203 * p) ∧ (∀ z, 203 * p ≤ z → T1 24 z = T 24 z)) ?_ 7 2000 2000 (T, 1) (T, 1) (by omega) (by omega) ⟨1, T, by omega, by omega, rfl, Fr.rf, fun z h => absurd h (by omega), fun _ _ => Or.inl rfl, fun _ _ => rfl⟩
      · unfold g_X9_changed f_X9_changed_0
        rw [c5, if_pos (show nI 8 = (8 : Int32) from rfl)]
        exact R
      rintro d u s g f ⟨p, T1, hd, hp, rfl, hF, hA, -, hB⟩ K'
      replace K' := fun m' s' hm' hJ => K' m' u s' hm' hJ
      unfold f_X9_changed_11_b
      simp only [e8, ile (show 8 < 2 ^ 31 by decide) (show p < 2 ^ 31 by omega)]
      by_cases cc : 8 ≤ p
      · rw [if_pos cc]
        have : p = 8 := by omega
        subst this
        exact ⟨T1, rfl, hF, fun z hz => hA z (by omega)⟩
      · rw [if_neg cc]
        obtain ⟨T2, t1, tF, tA, tB⟩ := copies_r (T := T1) (d0 := 24) (d2 := 24) (o := 203 * p) (p := 203 * (p - 1)) (Or.inr (by omega)) (by rw [l24]; omega) (by rw [l24]; omega) (by decide) (by decide)
        rw [nI_m1 (by omega), show (203 : Int32) * nI p = nI (203 * p) from pk_mul 203 p, show (203 : Int32) * nI (p - 1) = nI (203 * (p - 1)) from pk_mul 203 (p - 1), t1, bd1_s, nI_p1]
        refine K' (d - 1) _ (by omega) ⟨p + 1, T2, by omega, by omega, rfl, hF.tr tF, ?_, ?_, ?_⟩
        · intro z hz
          rcases Nat.lt_or_ge z (203 * (p - 1)) with h | h
          · rw [tB z (Or.inl h)]; exact hA z h
          · have := tA (z - 203 * (p - 1)) (by omega)
            rw [show 203 * (p - 1) + (z - 203 * (p - 1)) = z by omega, show 203 * p + (z - 203 * (p - 1)) = 203 + z by omega] at this
            rw [this]
            exact hB _ (by omega)
        · intro z hz
          rcases Nat.lt_or_ge z (203 * (p + 1)) with h | h
          · exact Or.inr h
          · left
            rw [tB z (Or.inr (by omega))]
            exact hB z (by omega)
        · intro z hz
          rw [tB z (Or.inr (by omega))]
          exact hB z (by omega)
    obtain ⟨T1, t1, tF, tA⟩ := L
    obtain ⟨T', k1, k2, k3, k4, k5, k6⟩ := K (up T1 28 5 (T1 28 5 - 1)) 7 (by omega) (by rw [up_same, tF 28 (by decide), c5]; rfl)
    refine ⟨_, T', s2, t1.trans k1, ⟨(nx + 1) % 8, 8, Nat.mod_lt _ (by decide), Nat.le_refl _, ?_, ?_, k2, ?_⟩, ?_, ?_, ?_, ?_⟩
    · rw [up_ne _ _ (by decide), up_same]
    · rw [up_same]; rfl
    · intro i hi
      rw [up_oth _ _ _ (by omega), up_oth _ _ _ (by omega)]
      by_cases hi7 : i = 7
      · subst hi7
        rw [show 3 + ((nx + 1) % 8 + 8 - 8 + 7) % 8 = 3 + nx by omega]
        refine RN.congV ⟨a, n, ha, sR⟩ (fun z hz => ?_)
        rw [k5 z hz, up_oth _ _ _ (by decide), tF 21 (by decide)]
      · have := c6 (i + 1) (by omega)
        rw [show 3 + (nx + 8 - 8 + (i + 1)) % 8 = 3 + ((nx + 1) % 8 + 8 - 8 + i) % 8 by omega] at this
        rw [sF _ (by omega)]
        refine this.congV (fun z hz => ?_)
        rw [k6 _ (by omega), up_oth _ _ _ (by decide), tA _ (by omega)]
        exact congrArg (T 24) (by omega)
    · intro b hb
      rw [up_oth _ _ _ (by omega), up_oth _ _ _ (by omega), sF b (by omega)]
    · intro j h1 h2
      rw [up_ne _ _ (by omega), up_ne _ _ (by omega), sF 11 (by omega)]
    · intro b h1 h2
      rw [k3 b h1 h2, up_oth _ _ _ h2, tF b h1]
    · intro j hj
      rw [k4 j hj, up_ne _ _ (by omega), tF 28 (by decide)]
  · obtain ⟨T', k1, k2, k3, k4, k5, k6⟩ := K T c (by omega) c5
    have t1 : g_X9_changed T = some T' := by
      unfold g_X9_changed f_X9_changed_0
      rw [c5, if_neg (fun z : nI c = (8 : Int32) => h8 ((nI_eq (by omega) (by decide)).mp z))]
      exact k1
    refine ⟨_, T', s2, t1, ⟨(nx + 1) % 8, c + 1, Nat.mod_lt _ (by decide), by omega, ?_, ?_, k2, ?_⟩, ?_, ?_, k3, k4⟩
    · rw [up_ne _ _ (by decide), up_same]
    · rw [up_same, Nat.min_eq_left (by omega)]
    · intro i hi
      rw [up_oth _ _ _ (by omega), up_oth _ _ _ (by omega)]
      by_cases hic : i = c
      · subst hic
        rw [show 3 + ((nx + 1) % 8 + 8 - (i + 1) + i) % 8 = 3 + nx by omega]
        refine RN.congV ⟨a, n, ha, sR⟩ (fun z hz => ?_)
        exact k5 z hz
      · have := c6 i (by omega)
        rw [show 3 + (nx + 8 - c + i) % 8 = 3 + ((nx + 1) % 8 + 8 - (c + 1) + i) % 8 by omega] at this
        rw [sF _ (by omega)]
        refine this.congV (fun z hz => ?_)
        rw [k6 _ (by omega)]
    · intro b hb
      rw [up_oth _ _ _ (by omega), up_oth _ _ _ (by omega), sF b (by omega)]
    · intro j h1 h2
      rw [up_ne _ _ (by omega), up_ne _ _ (by omega), sF 11 (by omega)]
end PAST
