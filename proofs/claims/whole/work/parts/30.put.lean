/-! ===== the pure part: changes of one raft ===== -/
section PUT
variable {a n k i j m m' x y : Nat} {S T : Mem}
theorem bnd.mono {z : Int32} {B B' : Nat} (h : bnd z B) (hB : B ≤ B') : bnd z B' := by
  obtain ⟨t, ht, he⟩ := h
  exact ⟨t, by omega, he⟩
theorem RW.put {a' : Nat} {C V C' V' : Nat → Int32} (H : RW a n C V) (hi : i < n) (ha : a ≤ a') (hB : a' < 9000000) (hV : ∀ c, 8 ≤ c → (∀ f, f < 10 → f ≠ 5 → c ≠ 33 + 34 * i + f) → V' c = V c) (hC : ∀ c, 8 ≤ c → (∀ f, f < 10 → f ≠ 5 → c ≠ 33 + 34 * i + f) → C' c = C c) (h1 : V' 1 = nI n) (h2 : V' 2 = nI a') (hh : ∀ f, f < 8 → C' f = V' f) (he : ∀ f, f < 10 → f ≠ 5 → C' (33 + 34 * i + f) = V' (33 + 34 * i + f)) (role : V' (33 + 34 * i) = 0 ∨ V' (33 + 34 * i) = 1 ∨ V' (33 + 34 * i) = 2) (term : bnd (V' (33 + 34 * i + 1)) a') (vote : V' (33 + 34 * i + 4) = -1 ∨ ∃ w, w < n ∧ V' (33 + 34 * i + 4) = nI w ∧ (w ≠ i → V' (33 + 34 * i + 1) ≤ V (33 + 34 * w + 1))) (oth : ∀ j, j < n → j ≠ i → V (33 + 34 * j + 4) = nI i → V (33 + 34 * j + 1) ≤ V' (33 + 34 * i + 1)) (agr : bnd (V' (33 + 34 * i + 6)) 12) (abd : (V' (33 + 34 * i + 7) = 0 ∧ V' (33 + 34 * i) = 0) ∨ V' (33 + 34 * i + 7) = 1) : RW a' n C' V' := by
  have h5 := H.le5
  have vj : ∀ j f, j ≠ i → f < 34 → V' (33 + 34 * j + f) = V (33 + 34 * j + f) := fun j f hj hf => hV _ (by omega) (fun f' _ _ => by omega)
  have cj : ∀ j f, j ≠ i → f < 34 → C' (33 + 34 * j + f) = C (33 + 34 * j + f) := fun j f hj hf => hC _ (by omega) (fun f' _ _ => by omega)
  have vl : ∀ f, f = 5 ∨ 10 ≤ f → f < 34 → V' (33 + 34 * i + f) = V (33 + 34 * i + f) := fun f hf hf' => hV _ (by omega) (fun f' _ _ => by omega)
  have cl : ∀ f, f = 5 ∨ 10 ≤ f → f < 34 → C' (33 + 34 * i + f) = C (33 + 34 * i + f) := fun f hf hf' => hC _ (by omega) (fun f' _ _ => by omega)
  have vr : ∀ c, 8 ≤ c → c < 33 → V' c = V c := fun c h8 hc => hV _ h8 (fun f' _ _ => by omega)
  have cr : ∀ c, 8 ≤ c → c < 33 → C' c = C c := fun c h8 hc => hC _ h8 (fun f' _ _ => by omega)
  have v0 : ∀ j, j ≠ i → V' (33 + 34 * j) = V (33 + 34 * j) := fun j hj => vj j 0 hj (by decide)
  refine ⟨h5, hB, h1, h2, hh, ?_, ?_, ?_, ?_, ?_, ?_, ?_, ?_, ?_, ?_, ?_, ?_⟩
  · intro j hj f hf
    by_cases c : j = i
    · subst c
      by_cases c5 : f = 5
      · rw [vl f (Or.inl c5) (by omega), cl f (Or.inl c5) (by omega)]
        exact H.fld j hj f hf
      · exact he f hf c5
    · rw [vj j f c (by omega), cj j f c (by omega)]
      exact H.fld j hj f hf
  · intro j hj
    by_cases c : j = i
    · subst c; exact role
    · rw [v0 j c]; exact H.role j hj
  · intro j hj
    by_cases c : j = i
    · subst c; exact term
    · rw [vj j 1 c (by omega)]; exact (H.term j hj).mono ha
  · intro j hj
    by_cases c : j = i
    · subst c
      refine vote.imp id (fun ⟨w, hw, h3, h4⟩ => ⟨w, hw, h3, fun hwi => ?_⟩)
      rw [vj w 1 hwi (by omega)]
      exact h4 hwi
    · rw [vj j 4 c (by omega), vj j 1 c (by omega)]
      refine (H.vote j hj).imp id (fun ⟨w, hw, h3, h4⟩ => ⟨w, hw, h3, fun hwj => ?_⟩)
      by_cases cw : w = i
      · subst cw
        exact oth j hj c h3
      · rw [vj w 1 cw (by omega)]
        exact h4 hwj
  · intro j hj
    by_cases c : j = i
    · subst c; rw [vl 5 (Or.inl rfl) (by omega)]; exact H.many j hj
    · rw [vj j 5 c (by omega)]; exact H.many j hj
  · intro j hj
    by_cases c : j = i
    · subst c; exact agr
    · rw [vj j 6 c (by omega)]; exact H.agr j hj
  · intro j hj
    by_cases c : j = i
    · subst c; exact abd
    · rw [vj j 7 c (by omega), v0 j c]; exact H.abd j hj
  · intro j hj m hm hm2 l hl
    rw [show 33 + 34 * j + 10 + l = 33 + 34 * j + (10 + l) by omega, show 33 + 34 * j + 22 + l = 33 + 34 * j + (22 + l) by omega]
    have G := H.lin j hj m hm
    rw [show V (33 + 34 * j + 5) = V' (33 + 34 * j + 5) by
      by_cases c : j = i
      · subst c; exact (vl 5 (Or.inl rfl) (by omega)).symm
      · exact (vj j 5 c (by omega)).symm] at G
    obtain ⟨g1, g2, g3, g4⟩ := G hm2 l hl
    rw [show 33 + 34 * j + 10 + l = 33 + 34 * j + (10 + l) by omega] at g1 g3
    rw [show 33 + 34 * j + 22 + l = 33 + 34 * j + (22 + l) by omega] at g2 g4
    by_cases c : j = i
    · subst c
      rw [vl (10 + l) (Or.inr (by omega)) (by omega), vl (22 + l) (Or.inr (by omega)) (by omega), cl (10 + l) (Or.inr (by omega)) (by omega), cl (22 + l) (Or.inr (by omega)) (by omega)]
      exact ⟨g1, g2, g3.mono ha, g4⟩
    · rw [vj j (10 + l) c (by omega), vj j (22 + l) c (by omega), cj j (10 + l) c (by omega), cj j (22 + l) c (by omega)]
      exact ⟨g1, g2, g3.mono ha, g4⟩
  · intro p q hpq hq
    rw [cr _ (by omega) (by omega), cr _ (by omega) (by omega), vr _ (by omega) (by omega)]
    exact H.ropC p q hpq hq
  · intro p hp
    rw [cr _ (by omega) (by omega)]
    exact H.ropD p hp
  · intro p q hpq hp
    rw [vr _ (by omega) (by omega)]
    exact H.ropV p q hpq hp
  · intro j hj hj5 f hf
    rw [vj j f (by omega) (by omega)]
    exact H.dead j hj hj5 f hf
theorem RW.head {a' : Nat} {C V C' V' : Nat → Int32} (H : RW a n C V) (ha : a' = a) (hV : ∀ c, 8 ≤ c → V' c = V c) (hC : ∀ c, 8 ≤ c → C' c = C c) (h1 : V' 1 = nI n) (h2 : V' 2 = nI a) (hh : ∀ f, f < 8 → C' f = V' f) : RW a' n C' V' := by
  subst ha
  have h5 := H.le5
  have vj : ∀ j f, V' (33 + 34 * j + f) = V (33 + 34 * j + f) := fun j f => hV _ (by omega)
  have cj : ∀ j f, C' (33 + 34 * j + f) = C (33 + 34 * j + f) := fun j f => hC _ (by omega)
  have v0 : ∀ j, V' (33 + 34 * j) = V (33 + 34 * j) := fun j => hV _ (by omega)
  refine ⟨h5, H.aB, h1, h2, hh, ?_, ?_, ?_, ?_, ?_, ?_, ?_, ?_, ?_, ?_, ?_, ?_⟩
  · intro j hj f hf; rw [vj, cj]; exact H.fld j hj f hf
  · intro j hj; rw [v0]; exact H.role j hj
  · intro j hj; rw [vj]; exact H.term j hj
  · intro j hj; rw [vj, vj]; simp only [vj]; exact H.vote j hj
  · intro j hj; rw [vj]; exact H.many j hj
  · intro j hj; rw [vj]; exact H.agr j hj
  · intro j hj; rw [vj, v0]; exact H.abd j hj
  · intro j hj m hm hm2 l hl
    rw [vj] at hm2
    rw [hV _ (by omega), hV _ (by omega), hC _ (by omega), hC _ (by omega)]
    exact H.lin j hj m hm hm2 l hl
  · intro p q hpq hq
    rw [hV _ (by omega), hC _ (by omega), hC _ (by omega)]
    exact H.ropC p q hpq hq
  · intro p hp
    rw [hC _ (by omega)]
    exact H.ropD p hp
  · intro p q hpq hp
    rw [hV _ (by omega)]
    exact H.ropV p q hpq hp
  · intro j hj hj5 f hf; rw [vj]; exact H.dead j hj hj5 f hf
/-- only bank k has changed -/
def Fr (k : Nat) (S S' : Mem) : Prop := ∀ b, b ≠ k → S' b = S b
theorem Fr.rf : Fr k S S := fun _ _ => rfl
theorem Fr.tr {S1 S2 : Mem} (h : Fr k S S1) (h' : Fr k S1 S2) : Fr k S S2 := fun b hb => (h' b hb).trans (h b hb)
theorem Fr.up {S1 : Mem} (h : Fr k S S1) (c : Nat) (x : Int32) : Fr k S (up S1 k c x) := fun b hb => (up_oth S1 c x hb).trans (h b hb)
/-- the raft after a change: still one raft, nothing else changed, the same aboard -/
def PO (k a n : Nat) (S T S' T' : Mem) : Prop := RW a n (S' k) (T' 20) ∧ Fr k S S' ∧ Fr 20 T T' ∧ ∀ j, T' 20 (33 + 34 * j + 7) = T 20 (33 + 34 * j + 7)
theorem PO.tr {a' n' : Nat} {S1 T1 S2 T2 : Mem} (h : PO k a n S T S1 T1) (h' : PO k a' n' S1 T1 S2 T2) : PO k a' n' S T S2 T2 := ⟨h'.1, h.2.1.tr h'.2.1, h.2.2.1.tr h'.2.2.1, fun j => (h'.2.2.2 j).trans (h.2.2.2 j)⟩
/-- the same with the cells named -/
theorem RW.put' {a' : Nat} {C V C' V' : Nat → Int32} (H : RW a n C V) (hi : i < n) (ha : a ≤ a') (hB : a' < 9000000) (hV : ∀ c, 8 ≤ c → c ≠ 33 + 34 * i → c ≠ 33 + 34 * i + 1 → c ≠ 33 + 34 * i + 2 → c ≠ 33 + 34 * i + 3 → c ≠ 33 + 34 * i + 4 → c ≠ 33 + 34 * i + 6 → c ≠ 33 + 34 * i + 7 → c ≠ 33 + 34 * i + 8 → c ≠ 33 + 34 * i + 9 → V' c = V c ∧ C' c = C c) (h1 : V' 1 = nI n) (h2 : V' 2 = nI a') (hh : ∀ f, f < 8 → C' f = V' f) (he : ∀ f, f < 10 → f ≠ 5 → C' (33 + 34 * i + f) = V' (33 + 34 * i + f)) (role : V' (33 + 34 * i) = 0 ∨ V' (33 + 34 * i) = 1 ∨ V' (33 + 34 * i) = 2) (term : bnd (V' (33 + 34 * i + 1)) a') (vote : V' (33 + 34 * i + 4) = -1 ∨ ∃ w, w < n ∧ V' (33 + 34 * i + 4) = nI w ∧ (w ≠ i → V' (33 + 34 * i + 1) ≤ V (33 + 34 * w + 1))) (oth : V (33 + 34 * i + 1) ≤ V' (33 + 34 * i + 1)) (agr : bnd (V' (33 + 34 * i + 6)) 12) (abd : (V' (33 + 34 * i + 7) = 0 ∧ V' (33 + 34 * i) = 0) ∨ V' (33 + 34 * i + 7) = 1) : RW a' n C' V' := by
  have K : ∀ c, 8 ≤ c → (∀ f, f < 10 → f ≠ 5 → c ≠ 33 + 34 * i + f) → V' c = V c ∧ C' c = C c := fun c h8 hc => hV c h8 (hc 0 (by decide) (by decide)) (hc 1 (by decide) (by decide)) (hc 2 (by decide) (by decide)) (hc 3 (by decide) (by decide)) (hc 4 (by decide) (by decide)) (hc 6 (by decide) (by decide)) (hc 7 (by decide) (by decide)) (hc 8 (by decide) (by decide)) (hc 9 (by decide) (by decide))
  refine H.put hi ha hB (fun c h8 hc => (K c h8 hc).1) (fun c h8 hc => (K c h8 hc).2) h1 h2 hh he role term vote ?_ agr abd
  intro j hj hji hv
  rcases H.vote j hj with h | ⟨w, hw, h3, h4⟩
  · exact absurd (hv.symm.trans h) (nI_m (by have := H.le5; omega) (by decide))
  · have h5 := H.le5
    have : i = w := (nI_eq (by omega) (by omega)).mp (hv.symm.trans h3)
    subst this
    exact Int32.le_trans (h4 (fun z => hji z.symm)) oth
theorem take_r (H : RW a n (S k) (T 20)) (hi : i < n) (hj : j < n) (hij : T 20 (33 + 34 * i + 1) ≤ T 20 (33 + 34 * j + 1)) : ∃ S' T', g_X2_takeOver S k i (S k (33 + 34 * j + 1)) = some S' ∧ g_X9_takesOver T (nI i) (T 20 (33 + 34 * j + 1)) = some T' ∧ PO k a n S T S' T' ∧ T' 20 (33 + 34 * i + 1) = T 20 (33 + 34 * j + 1) ∧ (∀ w, w ≠ i → T' 20 (33 + 34 * w + 1) = T 20 (33 + 34 * w + 1)) ∧ T' 20 5 = T 20 5 := by
  have h5 := H.le5
  unfold g_X2_takeOver f_X2_takeOver_0 g_X9_takesOver f_X9_takesOver_0
  rw [sets_1 T _ (by omega), bd1_s, sets_0 _ _ (by omega), bd1_s, sets_4 _ _ (by omega), bd1_s, H.c hj (by decide)]
  refine ⟨_, _, rfl, rfl, ⟨?_, ((Fr.rf.up _ _).up _ _).up _ _, ((Fr.rf.up _ _).up _ _).up _ _, ?_⟩, ?_, ?_, ?_⟩
  · refine H.put' hi (Nat.le_refl _) H.aB ?_ ?_ ?_ ?_ ?_ ?_ ?_ ?_ ?_ ?_ ?_
    · intro c _ _ _ _ _ _ _ _ _ _
      constructor <;> simp (disch := omega) only [up_ne, up_same]
    · simp (disch := omega) only [up_ne, up_same]; exact H.cnt
    · simp (disch := omega) only [up_ne, up_same]; exact H.ask
    · intro f hf; simp only [up_at, true_and, H.hd f hf]
    · intro f hf _; simp only [up_at, true_and, H.c hi hf]
    · simp (disch := omega) only [up_ne, up_same]; exact Or.inl trivial
    · simp (disch := omega) only [up_ne, up_same]; exact H.term j hj
    · simp (disch := omega) only [up_ne, up_same]; exact Or.inl trivial
    · simp (disch := omega) only [up_ne, up_same]; exact hij
    · simp (disch := omega) only [up_ne, up_same]; exact H.agr i hi
    · simp (disch := omega) only [up_ne, up_same]; exact (H.abd i hi).imp (fun h => ⟨h.1, trivial⟩) id
  · intro w
    simp (disch := omega) only [up_ne, up_same]
  · simp (disch := omega) only [up_ne, up_same]
  · intro w hw
    simp (disch := omega) only [up_ne, up_same]
  · simp (disch := omega) only [up_ne, up_same]
theorem vote_r (H : RW a n (S k) (T 20)) (hi : i < n) (hx : x < n) (hix : i ≠ x) (ht : T 20 (33 + 34 * i + 1) = T 20 (33 + 34 * x + 1)) : ∃ b S' T', (b = (0 : Int32) ∨ b = 1) ∧ f_X4_letVote_26 S k k i (nI x) k x = some (b, S') ∧ g_X9_votes T (nI i) (nI x) = some (b, T') ∧ PO k a n S T S' T' := by
  have h5 := H.le5
  obtain ⟨r, hr, h1, h2, -⟩ := longer_r H hi hx
  unfold f_X4_letVote_26 f_X4_letVote_42 f_X4_letVote_47 f_X4_letVote_62 g_X9_votes f_X9_votes_0 f_X9_votes_35 f_X9_votes_48 f_X9_votes_49 f_X9_votes_79
  simp (decide := true) only [of_1 T (show i < 5 by omega), of_1 T (show x < 5 by omega), of_4 T (show i < 5 by omega), bd1_s, ht, ↓reduceIte, H.fld i hi, h1, h2]
  have Z : ∃ b S' T', (b = (0 : Int32) ∨ b = 1) ∧ some ((0 : Int32), S) = some (b, S') ∧ ck (isb 0) (some ((0 : Int32), T)) = some (b, T') ∧ PO k a n S T S' T' := ⟨0, S, T, Or.inl rfl, rfl, rfl, H, Fr.rf, Fr.rf, fun _ => rfl⟩
  have G : PO k a n S T (up (up (up S k (33 + 34 * i + 4) (nI x)) k (33 + 34 * i + 3) 0) k 7 (T 20 7 + 1)) (up (up (up T 20 (33 + 34 * i + 4) (nI x)) 20 (33 + 34 * i + 3) 0) 20 7 (T 20 7 + 1)) := by
    refine ⟨?_, ((Fr.rf.up _ _).up _ _).up _ _, ((Fr.rf.up _ _).up _ _).up _ _, ?_⟩
    · refine H.put' hi (Nat.le_refl _) H.aB ?_ ?_ ?_ ?_ ?_ ?_ ?_ ?_ ?_ ?_ ?_
      · intro c _ _ _ _ _ _ _ _ _ _
        constructor <;> simp (disch := omega) only [up_ne, up_same]
      · simp (disch := omega) only [up_ne, up_same]; exact H.cnt
      · simp (disch := omega) only [up_ne, up_same]; exact H.ask
      · intro f hf; simp only [up_at, true_and, H.hd f hf]
      · intro f hf _; simp only [up_at, true_and, H.c hi hf]
      · simp (disch := omega) only [up_ne, up_same]; exact H.role i hi
      · simp (disch := omega) only [up_ne, up_same]; exact H.term i hi
      · simp (disch := omega) only [up_ne, up_same]
        exact Or.inr ⟨x, hx, rfl, fun _ => Int32.le_of_eq ht⟩
      · simp (disch := omega) only [up_ne, up_same]; exact Int32.le_refl _
      · simp (disch := omega) only [up_ne, up_same]; exact H.agr i hi
      · simp (disch := omega) only [up_ne, up_same]; exact H.abd i hi
    · intro w
      simp (disch := omega) only [up_ne, up_same]
  have W : ∃ b S' T', (b = (0 : Int32) ∨ b = 1) ∧ (if (if r = 1 then (1 : Int32) else 0) = 0 then some ((1 : Int32), up (up (up S k (33 + 34 * i + 4) (nI x)) k (33 + 34 * i + 3) 0) k 7 (up (up S k (33 + 34 * i + 4) (nI x)) k (33 + 34 * i + 3) 0 k 7 + 1)) else some (0, S)) = some (b, S') ∧ (if 0 < r then ck (isb 0) (some ((0 : Int32), T)) else bd1 (g_X9_sets T (nI i) 4 (nI x)) fun S6 => bd1 (g_X9_sets S6 (nI i) 3 0) fun S7 => ck (isb 1) (some (1, up S7 20 7 (S7 20 7 + 1)))) = some (b, T') ∧ PO k a n S T S' T' := by
    have e1 : up (up S k (33 + 34 * i + 4) (nI x)) k (33 + 34 * i + 3) 0 k 7 = T 20 7 := by
      simp (disch := omega) only [up_ne, up_same]
      exact H.hd 7 (by decide)
    have e2 : up (up T 20 (33 + 34 * i + 4) (nI x)) 20 (33 + 34 * i + 3) 0 20 7 = T 20 7 := by
      simp (disch := omega) only [up_ne, up_same]
    rw [sets_4 _ _ (by omega), bd1_s, sets_3 _ _ (by omega), bd1_s, e1, e2]
    rcases hr with rfl | rfl | rfl
    · exact Z
    · exact ⟨1, _, _, Or.inr rfl, rfl, rfl, G⟩
    · exact ⟨1, _, _, Or.inr rfl, rfl, rfl, G⟩
  by_cases c1 : T 20 (33 + 34 * i + 4) = -1
  · simp only [c1, ↓reduceIte]
    exact W
  · by_cases c2 : T 20 (33 + 34 * i + 4) = nI x
    · rw [if_neg c1, if_neg c1, if_pos c2, if_pos c2]
      exact W
    · simp only [c1, c2, ↓reduceIte]
      exact Z
end PUT
