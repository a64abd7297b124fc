/-! ===== the pure part: taking over a term, voting, asking for votes ===== -/
section P24
variable {a a' n i j x k : Nat} {V V' : Nat → Int32} {S S' : Mem}
theorem agr_k (H : RO a n V) (hi : i < n) (h : V' (33 + 34 * i + 6) = V (33 + 34 * i + 6)) : V' (33 + 34 * i + 6) = nI (rC V' i) := by
  rw [rC_e h, h]
  exact H.agr i hi
theorem PM.put (H : RO a n (S k)) (hi : i < n) (ha : a ≤ a') (hB : a' < 9000000) (hF : Fr k S S') (hV : ∀ c, 8 ≤ c → c ≠ 33 + 34 * i → c ≠ 33 + 34 * i + 1 → c ≠ 33 + 34 * i + 2 → c ≠ 33 + 34 * i + 3 → c ≠ 33 + 34 * i + 4 → c ≠ 33 + 34 * i + 8 → c ≠ 33 + 34 * i + 9 → S' k c = S k c) (h1 : S' k 1 = nI n) (h2 : ∃ b : Nat, b ≤ a' ∧ S' k 2 = nI b ∧ (b = 0 → S k 2 = 0 ∧ FRd (S' k) i) ∧ (S k 2).toInt ≤ (b : Int))
    (role : S' k (33 + 34 * i) = 0 ∨ S' k (33 + 34 * i) = 1 ∨ S' k (33 + 34 * i) = 2) (term : bnd (S' k (33 + 34 * i + 1)) a') (abd : S k (33 + 34 * i + 7) = 0 → S' k (33 + 34 * i) = 0) (s8 : smf (S' k) 8 n = S' k 2) (s9 : smf (S' k) 9 n = S' k 3)
    (ht : rT (S k) i ≤ rT (S' k) i) (hv : rT (S' k) i = rT (S k) i → rV (S' k) i = rV (S k) i ∨ rV (S k) i = -1) (i1 : rR (S' k) i = 1 ∨ rR (S' k) i = 2 → rV (S' k) i = (i : Int)) (i2 : ∀ w : Nat, w < n → w ≠ i → rV (S' k) i = (w : Int) → rT (S' k) i ≤ rT (S k) w) (hl : rR (S' k) i = 2 → rR (S k) i = 2 ∧ rT (S' k) i = rT (S k) i) (hc : rR (S' k) i = 1 → rT (S' k) i = rT (S k) i → rR (S k) i = 1) : PM k a' n S S' := by
  have e7 : S' k (33 + 34 * i + 7) = S k (33 + 34 * i + 7) := hV _ (by omega) (by omega) (by omega) (by omega) (by omega) (by omega) (by omega) (by omega)
  have e6 : S' k (33 + 34 * i + 6) = S k (33 + 34 * i + 6) := hV _ (by omega) (by omega) (by omega) (by omega) (by omega) (by omega) (by omega) (by omega)
  obtain ⟨b, hb, hb2, hb3, hb4⟩ := h2
  refine ⟨?_, hF, fun j => hV _ (by omega) (by omega) (by omega) (by omega) (by omega) (by omega) (by omega) (by omega), fun j hj => ?_, ?_⟩
  · refine H.put hi ha hB (fun c h8 c0 c1 c2 c3 c4 c6 c7 c8 c9 => hV c h8 c0 c1 c2 c3 c4 c8 c9) h1 ⟨b, hb, hb2, hb3⟩ role term (agr_k H hi e6) ?_ s8 s9 ?_
    · rw [e7]
      exact (H.abd i hi).imp (fun z => ⟨z.1, abd z.1⟩) id
    · exact H.iv.put H.l12 hi (fun c h8 c0 c1 c2 c3 c4 c7 c8 c9 => hV c (by omega) c0 c1 c2 c3 c4 c8 c9) ht hv i1 i2 hl hc
  · by_cases c : j = i
    · subst c
      exact ⟨ht, by rw [rC_e e6]; exact Nat.le_refl _⟩
    · have o : ∀ f, f < 34 → S' k (33 + 34 * j + f) = S k (33 + 34 * j + f) := fun f hf => hV _ (by omega) (by omega) (by omega) (by omega) (by omega) (by omega) (by omega) (by omega)
      rw [rT_e (o 1 (by decide)), rC_e (o 6 (by decide))]
      exact ⟨Int.le_refl _, Nat.le_refl _⟩
  · rw [hb2, nI_toInt (by omega)]
    exact hb4
theorem RO.b2 (H : RO a n V) (hp : V 2 ≠ 0) : ∃ b : Nat, 0 < b ∧ b ≤ a ∧ V 2 = nI b := by
  obtain ⟨b, hb, e, -⟩ := H.ask
  refine ⟨b, Nat.pos_of_ne_zero fun z => hp ?_, hb, e⟩
  rw [e, z]
  rfl
theorem take_P (H : RO a n (S k)) (hi : i < n) {t : Nat} (ht : t ≤ a) (hlt : rT (S k) i < (t : Int)) (hp : S k 2 ≠ 0) : PM k a n S (up (up (up S k (33 + 34 * i + 1) (nI t)) k (33 + 34 * i) 0) k (33 + 34 * i + 4) (-1)) := by
  have hB := H.aB
  obtain ⟨b, hb0, hb, e⟩ := H.b2 hp
  have eT : rT (up (up (up S k (33 + 34 * i + 1) (nI t)) k (33 + 34 * i) 0) k (33 + 34 * i + 4) (-1) k) i = (t : Int) := by
    unfold rT
    simp (disch := omega) only [up_ne, up_same]
    exact nI_toInt (by omega)
  have eR : rR (up (up (up S k (33 + 34 * i + 1) (nI t)) k (33 + 34 * i) 0) k (33 + 34 * i + 4) (-1) k) i = 0 := by
    unfold rR
    simp (disch := omega) only [up_ne, up_same]
    rfl
  have eV : rV (up (up (up S k (33 + 34 * i + 1) (nI t)) k (33 + 34 * i) 0) k (33 + 34 * i + 4) (-1) k) i = -1 := by
    unfold rV
    simp (disch := omega) only [up_ne, up_same]
    rfl
  refine PM.put H hi (Nat.le_refl _) hB (((Fr.rf.up _ _).up _ _).up _ _) (fun c h8 c0 c1 c2 c3 c4 c8 c9 => by simp (disch := omega) only [up_ne]) ?_ ⟨b, hb, ?_, fun z => by omega, ?_⟩ ?_ ?_ ?_ ?_ ?_ ?_ ?_ ?_ ?_ ?_ ?_
  · simp (disch := omega) only [up_ne]; exact H.cnt
  · simp (disch := omega) only [up_ne]; exact e
  · rw [e, nI_toInt (by omega)]; exact Int.le_refl _
  · simp (disch := omega) only [up_ne, up_same]; exact Or.inl trivial
  · simp (disch := omega) only [up_ne, up_same]; exact ⟨t, ht, rfl⟩
  · intro _; simp (disch := omega) only [up_ne, up_same]
  · rw [smf_e (V := S k) (fun j _ => by simp (disch := omega) only [up_ne])]
    simp (disch := omega) only [up_ne]; exact H.s8
  · rw [smf_e (V := S k) (fun j _ => by simp (disch := omega) only [up_ne])]
    simp (disch := omega) only [up_ne]; exact H.s9
  · rw [eT]; omega
  · rw [eT]; intro z; omega
  · rw [eR]; intro z; omega
  · rw [eV]; intro w _ _ z; omega
  · rw [eR]; intro z; omega
  · rw [eR]; intro z; omega
theorem vote_o (H : RO a n (S k)) (hi : i < n) (hx : x < n) (hix : i ≠ x) (ht : S k (33 + 34 * i + 1) = S k (33 + 34 * x + 1)) (hp : S k 2 ≠ 0) : ∃ (b : Int32) (S' : Mem), f_X4_letVote_26 S k k i (nI x) k x = some (b, S') ∧ PM k a n S S' ∧ (∀ c, c ≠ 33 + 34 * i + 3 → c ≠ 33 + 34 * i + 4 → c ≠ 7 → S' k c = S k c) ∧ ((b = 0 ∧ S' = S) ∨ (b = 1 ∧ rV (S' k) i = (x : Int) ∧ rf_nl (rL (S k)) (rE (S k)) i x)) := by
  have h5 := H.le5
  have hB := H.aB
  obtain ⟨r, hr, h1, h2⟩ := longer_o H hi hx
  have Z : ∃ (b : Int32) (S' : Mem), some ((0 : Int32), S) = some (b, S') ∧ PM k a n S S' ∧ (∀ c, c ≠ 33 + 34 * i + 3 → c ≠ 33 + 34 * i + 4 → c ≠ 7 → S' k c = S k c) ∧ ((b = 0 ∧ S' = S) ∨ (b = 1 ∧ rV (S' k) i = (x : Int) ∧ rf_nl (rL (S k)) (rE (S k)) i x)) := ⟨0, S, rfl, PM.rf H, fun _ _ _ _ => rfl, Or.inl ⟨rfl, rfl⟩⟩
  have W : (S k (33 + 34 * i + 4) = -1 ∨ S k (33 + 34 * i + 4) = nI x) → ∃ (b : Int32) (S' : Mem), (if r = 0 then some ((1 : Int32), (up (up (up S k (33 + 34 * i + 4) (nI x)) k (33 + 34 * i + 3) (0 : Int32)) k 7 (((up (up S k (33 + 34 * i + 4) (nI x)) k (33 + 34 * i + 3) (0 : Int32)) k 7) + (1 : Int32)))) else some ((0 : Int32), S)) = some (b, S') ∧ PM k a n S S' ∧ (∀ c, c ≠ 33 + 34 * i + 3 → c ≠ 33 + 34 * i + 4 → c ≠ 7 → S' k c = S k c) ∧ ((b = 0 ∧ S' = S) ∨ (b = 1 ∧ rV (S' k) i = (x : Int) ∧ rf_nl (rL (S k)) (rE (S k)) i x)) := by
    intro hv
    by_cases c : r = 0
    · rw [if_pos c]
      obtain ⟨b, hb0, hb, e⟩ := H.b2 hp
      generalize ((up (up S k (33 + 34 * i + 4) (nI x)) k (33 + 34 * i + 3) (0 : Int32)) k 7) + (1 : Int32) = w7
      have eT : rT (up (up (up S k (33 + 34 * i + 4) (nI x)) k (33 + 34 * i + 3) 0) k 7 w7 k) i = rT (S k) i := rT_e (by simp (disch := omega) only [up_ne])
      have eR : rR (up (up (up S k (33 + 34 * i + 4) (nI x)) k (33 + 34 * i + 3) 0) k 7 w7 k) i = rR (S k) i := rR_e (by simp (disch := omega) only [up_ne])
      have eV : rV (up (up (up S k (33 + 34 * i + 4) (nI x)) k (33 + 34 * i + 3) 0) k 7 w7 k) i = (x : Int) := by
        unfold rV
        simp (disch := omega) only [up_ne, up_same]
        exact nI_toInt (by omega)
      have oV : rV (S k) i = -1 ∨ rV (S k) i = (x : Int) := by
        unfold rV
        rcases hv with hv | hv
        · rw [hv]; exact Or.inl rfl
        · rw [hv, nI_toInt (by omega)]; exact Or.inr rfl
      refine ⟨1, _, rfl, ?_, fun c c3 c4 c7 => by simp (disch := omega) only [up_ne], Or.inr ⟨rfl, eV, h2.mp c⟩⟩
      refine PM.put H hi (Nat.le_refl _) hB (((Fr.rf.up _ _).up _ _).up _ _) (fun c h8 c0 c1 c2 c3 c4 c8 c9 => by simp (disch := omega) only [up_ne]) ?_ ⟨b, hb, ?_, fun z => by omega, ?_⟩ ?_ ?_ ?_ ?_ ?_ ?_ ?_ ?_ ?_ ?_ ?_
      · simp (disch := omega) only [up_ne]; exact H.cnt
      · simp (disch := omega) only [up_ne]; exact e
      · rw [e, nI_toInt (by omega)]; exact Int.le_refl _
      · simp (disch := omega) only [up_ne]; exact H.role i hi
      · simp (disch := omega) only [up_ne]; exact H.term i hi
      · intro z; simp (disch := omega) only [up_ne]
        exact ((H.abd i hi).resolve_right (fun z2 => by rw [z2] at z; exact absurd z (by decide))).2
      · rw [smf_e (V := S k) (fun j _ => by simp (disch := omega) only [up_ne])]
        simp (disch := omega) only [up_ne]; exact H.s8
      · rw [smf_e (V := S k) (fun j _ => by simp (disch := omega) only [up_ne])]
        simp (disch := omega) only [up_ne]; exact H.s9
      · rw [eT]; exact Int.le_refl _
      · intro _
        rw [eV]
        rcases oV with z | z
        · exact Or.inr z
        · exact Or.inl z.symm
      · rw [eR]
        intro z
        have := H.iv.1 i hi z
        omega
      · rw [eV, eT]
        intro w _ _ z
        have : w = x := by omega
        subst this
        unfold rT
        rw [ht]
        exact Int.le_refl _
      · rw [eR, eT]; exact fun z => ⟨z, rfl⟩
      · rw [eR]; exact fun z _ => z
    · rw [if_neg c]
      exact Z
  unfold f_X4_letVote_26 f_X4_letVote_42 f_X4_letVote_47 f_X4_letVote_62
  by_cases c1 : S k (33 + 34 * i + 4) = -1
  · rw [if_pos c1, if_neg (by decide), h1, bd1_s]
    exact W (Or.inl c1)
  · rw [if_neg c1]
    by_cases c2 : S k (33 + 34 * i + 4) = nI x
    · rw [if_pos c2, if_neg (by decide), h1, bd1_s]
      exact W (Or.inr c2)
    · rw [if_neg c2, if_pos rfl]
      exact Z
end P24
