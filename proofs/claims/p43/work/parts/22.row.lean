/-! ===== the pure part: one raft of n drivers, whose terms and asks are at most a ===== -/
def FRd (V : Nat → Int32) (i : Nat) : Prop := V (33 + 34 * i) = 0 ∧ V (33 + 34 * i + 1) = 0 ∧ V (33 + 34 * i + 4) = -1 ∧ V (33 + 34 * i + 5) = 0 ∧ V (33 + 34 * i + 6) = 0
abbrev RO (a n : Nat) (V : Nat → Int32) : Prop :=
  (n ≤ 5)
  ∧ (a < 9000000)
  ∧ (V 1 = nI n)
  ∧ (∃ b : Nat, b ≤ a ∧ V 2 = nI b ∧ (b = 0 → ∀ i, i < n → FRd V i))
  ∧ (∀ i, i < n → V (33 + 34 * i) = 0 ∨ V (33 + 34 * i) = 1 ∨ V (33 + 34 * i) = 2)
  ∧ (∀ i, i < n → bnd (V (33 + 34 * i + 1)) a)
  ∧ (∀ i, i < n → rL V i ≤ 12 ∧ V (33 + 34 * i + 5) = nI (rL V i))
  ∧ (∀ i, i < n → V (33 + 34 * i + 6) = nI (rC V i))
  ∧ (∀ i, i < n → (V (33 + 34 * i + 7) = 0 ∧ V (33 + 34 * i) = 0) ∨ V (33 + 34 * i + 7) = 1)
  ∧ (∀ i, i < n → ∀ l, l < rL V i → bnd (V (33 + 34 * i + 10 + l)) a ∧ ∃ c : Nat, 97 ≤ c ∧ c ≤ 122 ∧ V (33 + 34 * i + 22 + l) = nI c)
  ∧ (∀ i j, i < 5 → j < 5 → V (8 + 5 * i + j) = V (8 + 5 * j + i) ∧ (V (8 + 5 * i + j) = 0 ∨ V (8 + 5 * i + j) = 1))
  ∧ (smf V 8 n = V 2)
  ∧ (smf V 9 n = V 3)
  ∧ (IV n V)
theorem RO.le5 {a n : Nat} {V : Nat → Int32} (h : RO a n V) : n ≤ 5 := h.1
theorem RO.aB {a n : Nat} {V : Nat → Int32} (h : RO a n V) : a < 9000000 := h.2.1
theorem RO.cnt {a n : Nat} {V : Nat → Int32} (h : RO a n V) : V 1 = nI n := h.2.2.1
theorem RO.ask {a n : Nat} {V : Nat → Int32} (h : RO a n V) : ∃ b : Nat, b ≤ a ∧ V 2 = nI b ∧ (b = 0 → ∀ i, i < n → FRd V i) := h.2.2.2.1
theorem RO.role {a n : Nat} {V : Nat → Int32} (h : RO a n V) : ∀ i, i < n → V (33 + 34 * i) = 0 ∨ V (33 + 34 * i) = 1 ∨ V (33 + 34 * i) = 2 := h.2.2.2.2.1
theorem RO.term {a n : Nat} {V : Nat → Int32} (h : RO a n V) : ∀ i, i < n → bnd (V (33 + 34 * i + 1)) a := h.2.2.2.2.2.1
theorem RO.many {a n : Nat} {V : Nat → Int32} (h : RO a n V) : ∀ i, i < n → rL V i ≤ 12 ∧ V (33 + 34 * i + 5) = nI (rL V i) := h.2.2.2.2.2.2.1
theorem RO.agr {a n : Nat} {V : Nat → Int32} (h : RO a n V) : ∀ i, i < n → V (33 + 34 * i + 6) = nI (rC V i) := h.2.2.2.2.2.2.2.1
theorem RO.abd {a n : Nat} {V : Nat → Int32} (h : RO a n V) : ∀ i, i < n → (V (33 + 34 * i + 7) = 0 ∧ V (33 + 34 * i) = 0) ∨ V (33 + 34 * i + 7) = 1 := h.2.2.2.2.2.2.2.2.1
theorem RO.lin {a n : Nat} {V : Nat → Int32} (h : RO a n V) : ∀ i, i < n → ∀ l, l < rL V i → bnd (V (33 + 34 * i + 10 + l)) a ∧ ∃ c : Nat, 97 ≤ c ∧ c ≤ 122 ∧ V (33 + 34 * i + 22 + l) = nI c := h.2.2.2.2.2.2.2.2.2.1
theorem RO.rope {a n : Nat} {V : Nat → Int32} (h : RO a n V) : ∀ i j, i < 5 → j < 5 → V (8 + 5 * i + j) = V (8 + 5 * j + i) ∧ (V (8 + 5 * i + j) = 0 ∨ V (8 + 5 * i + j) = 1) := h.2.2.2.2.2.2.2.2.2.2.1
theorem RO.s8 {a n : Nat} {V : Nat → Int32} (h : RO a n V) : smf V 8 n = V 2 := h.2.2.2.2.2.2.2.2.2.2.2.1
theorem RO.s9 {a n : Nat} {V : Nat → Int32} (h : RO a n V) : smf V 9 n = V 3 := h.2.2.2.2.2.2.2.2.2.2.2.2.1
theorem RO.iv {a n : Nat} {V : Nat → Int32} (h : RO a n V) : IV n V := h.2.2.2.2.2.2.2.2.2.2.2.2.2
section P22
variable {a a' n i x k : Nat} {V V' : Nat → Int32} {S T : Mem}
theorem RO.l12 (H : RO a n V) : ∀ j, j < n → rL V j ≤ 12 := fun j hj => (H.many j hj).1
theorem RO.cle (H : RO a n V) (hi : i < n) : rC V i ≤ rL V i := (H.iv.2.2.2.2.2.2.2.2 i hi).1
theorem RO.tm (H : RO a n V) (hi : i < n) : ∃ t : Nat, t ≤ a ∧ V (33 + 34 * i + 1) = nI t ∧ rT V i = (t : Int) := by
  obtain ⟨t, ht, e⟩ := H.term i hi
  have := H.aB
  refine ⟨t, ht, e, ?_⟩
  unfold rT
  rw [e, nI_toInt (by omega)]
theorem RO.up (H : RO a n V) (h : a ≤ a') (hB : a' < 9000000) : RO a' n V := by
  obtain ⟨b, hb, e, f⟩ := H.ask
  exact ⟨H.le5, hB, H.cnt, ⟨b, by omega, e, f⟩, H.role, fun i hi => (H.term i hi).mono h, H.many, H.agr, H.abd, fun i hi l hl => ⟨(H.lin i hi l hl).1.mono h, (H.lin i hi l hl).2⟩, H.rope, H.s8, H.s9, H.iv⟩
theorem role2 (h : V (33 + 34 * i) = 2) : rR V i = 2 := by
  unfold rR
  rw [h]
  rfl
theorem role2' (h : rR V i = 2) : V (33 + 34 * i) = 2 := Int32.toInt_inj.mp h
theorem RO.put (H : RO a n V) (hi : i < n) (ha : a ≤ a') (hB : a' < 9000000) (hV : ∀ c, 8 ≤ c → c ≠ 33 + 34 * i → c ≠ 33 + 34 * i + 1 → c ≠ 33 + 34 * i + 2 → c ≠ 33 + 34 * i + 3 → c ≠ 33 + 34 * i + 4 → c ≠ 33 + 34 * i + 6 → c ≠ 33 + 34 * i + 7 → c ≠ 33 + 34 * i + 8 → c ≠ 33 + 34 * i + 9 → V' c = V c) (h1 : V' 1 = nI n) (h2 : ∃ b : Nat, b ≤ a' ∧ V' 2 = nI b ∧ (b = 0 → V 2 = 0 ∧ FRd V' i))
    (role : V' (33 + 34 * i) = 0 ∨ V' (33 + 34 * i) = 1 ∨ V' (33 + 34 * i) = 2) (term : bnd (V' (33 + 34 * i + 1)) a') (agr : V' (33 + 34 * i + 6) = nI (rC V' i)) (abd : (V' (33 + 34 * i + 7) = 0 ∧ V' (33 + 34 * i) = 0) ∨ V' (33 + 34 * i + 7) = 1) (s8 : smf V' 8 n = V' 2) (s9 : smf V' 9 n = V' 3) (iv : IV n V') : RO a' n V' := by
  have h5 := H.le5
  have o : ∀ j f, j ≠ i → f < 34 → V' (33 + 34 * j + f) = V (33 + 34 * j + f) := fun j f hj hf => hV _ (by omega) (by omega) (by omega) (by omega) (by omega) (by omega) (by omega) (by omega) (by omega) (by omega)
  have l : ∀ j f, f = 5 ∨ 10 ≤ f → f < 34 → V' (33 + 34 * j + f) = V (33 + 34 * j + f) := fun j f hf hf' => hV _ (by omega) (by omega) (by omega) (by omega) (by omega) (by omega) (by omega) (by omega) (by omega) (by omega)
  have lL : ∀ j, rL V' j = rL V j := fun j => rL_e (l j 5 (Or.inl rfl) (by decide))
  have r : ∀ c, 8 ≤ c → c < 33 → V' c = V c := fun c h8 hc => hV _ h8 (by omega) (by omega) (by omega) (by omega) (by omega) (by omega) (by omega) (by omega) (by omega)
  have o0 : ∀ j, j ≠ i → V' (33 + 34 * j) = V (33 + 34 * j) := fun j hj => o j 0 hj (by decide)
  obtain ⟨b, hb, hb2, hb3⟩ := h2
  refine ⟨h5, hB, h1, ⟨b, hb, hb2, fun hz j hj => ?_⟩, fun j hj => ?_, fun j hj => ?_, fun j hj => ?_, fun j hj => ?_, fun j hj => ?_, fun j hj y hy => ?_, fun p q hp hq => ?_, s8, s9, iv⟩
  · obtain ⟨e1, e2⟩ := hb3 hz
    by_cases c : j = i
    · subst c; exact e2
    · obtain ⟨b0, hb0, e0, f0⟩ := H.ask
      have : b0 = 0 := (z_eqI (by have := H.aB; omega)).mp (e0.symm.trans e1)
      unfold FRd
      rw [o0 j c, o j 1 c (by decide), o j 4 c (by decide), o j 5 c (by decide), o j 6 c (by decide)]
      exact f0 this j hj
  · by_cases c : j = i
    · subst c; exact role
    · rw [o0 j c]; exact H.role j hj
  · by_cases c : j = i
    · subst c; exact term
    · rw [o j 1 c (by decide)]; exact (H.term j hj).mono ha
  · rw [lL, l j 5 (Or.inl rfl) (by decide)]; exact H.many j hj
  · by_cases c : j = i
    · subst c; exact agr
    · rw [rC_e (o j 6 c (by decide)), o j 6 c (by decide)]; exact H.agr j hj
  · by_cases c : j = i
    · subst c; exact abd
    · rw [o j 7 c (by decide), o0 j c]; exact H.abd j hj
  · rw [lL] at hy
    have := H.l12 j hj
    obtain ⟨g1, g2⟩ := H.lin j hj y hy
    rw [show 33 + 34 * j + 10 + y = 33 + 34 * j + (10 + y) from Nat.add_assoc _ _ _] at g1 ⊢
    rw [show 33 + 34 * j + 22 + y = 33 + 34 * j + (22 + y) from Nat.add_assoc _ _ _] at g2 ⊢
    rw [l j (10 + y) (by omega) (by omega), l j (22 + y) (by omega) (by omega)]
    exact ⟨g1.mono ha, g2⟩
  · rw [r _ (by omega) (by omega), r _ (by omega) (by omega)]; exact H.rope p q hp hq
theorem RO.lines {m : Nat} (H : RO a n V) (hi : i < n) (hV : ∀ c, 8 ≤ c → c ≠ 33 + 34 * i + 5 → (c < 33 + 34 * i + 10 ∨ 33 + 34 * i + 34 ≤ c) → V' c = V c) (hh : ∀ f, f < 4 → V' f = V f) (hm : m ≤ 12) (e : V' (33 + 34 * i + 5) = nI m) (hl : ∀ l, l < m → bnd (V' (33 + 34 * i + 10 + l)) a ∧ ∃ c : Nat, 97 ≤ c ∧ c ≤ 122 ∧ V' (33 + 34 * i + 22 + l) = nI c) (hp : V 2 = 0 → False) (iv : IV n V') : RO a n V' := by
  have h5 := H.le5
  have o : ∀ j f, j ≠ i → f < 34 → V' (33 + 34 * j + f) = V (33 + 34 * j + f) := fun j f hj hf => hV _ (by omega) (by omega) (by omega)
  have l : ∀ j f, f ≠ 5 → f < 10 → V' (33 + 34 * j + f) = V (33 + 34 * j + f) := fun j f hf hf' => hV _ (by omega) (by omega) (by omega)
  have l0 : ∀ j, V' (33 + 34 * j) = V (33 + 34 * j) := fun j => l j 0 (by decide) (by decide)
  have eL : rL V' i = m := by
    unfold rL
    rw [e, nI_clamp (by omega)]
  obtain ⟨b, hb, hb2, hb3⟩ := H.ask
  refine ⟨h5, H.aB, (hh 1 (by decide)).trans H.cnt, ⟨b, hb, (hh 2 (by decide)).trans hb2, fun hz => (hp (by rw [hb2, hz]; rfl)).elim⟩, fun j hj => ?_, fun j hj => ?_, fun j hj => ?_, fun j hj => ?_, fun j hj => ?_, fun j hj y hy => ?_, fun p q hp hq => ?_, ?_, ?_, iv⟩
  · rw [l0]; exact H.role j hj
  · rw [l j 1 (by decide) (by decide)]; exact H.term j hj
  · by_cases c : j = i
    · subst c; rw [eL]; exact ⟨hm, e⟩
    · rw [rL_e (o j 5 c (by decide)), o j 5 c (by decide)]; exact H.many j hj
  · rw [rC_e (l j 6 (by decide) (by decide)), l j 6 (by decide) (by decide)]; exact H.agr j hj
  · rw [l j 7 (by decide) (by decide), l0]; exact H.abd j hj
  · by_cases c : j = i
    · subst c; rw [eL] at hy; exact hl y hy
    · rw [rL_e (o j 5 c (by decide))] at hy
      have := H.l12 j hj
      have g := H.lin j hj y hy
      rw [show 33 + 34 * j + 10 + y = 33 + 34 * j + (10 + y) from Nat.add_assoc _ _ _, show 33 + 34 * j + 22 + y = 33 + 34 * j + (22 + y) from Nat.add_assoc _ _ _] at g ⊢
      rw [o j (10 + y) c (by omega), o j (22 + y) c (by omega)]
      exact g
  · rw [hV _ (by omega) (by omega) (by omega), hV _ (by omega) (by omega) (by omega)]; exact H.rope p q hp hq
  · rw [smf_e (fun j _ => l j 8 (by decide) (by decide)), hh 2 (by decide)]; exact H.s8
  · rw [smf_e (fun j _ => l j 9 (by decide) (by decide)), hh 3 (by decide)]; exact H.s9
/-- only cells of the head that the raft's invariant doesn't speak of have changed -/
theorem RO.head (H : RO a n V) (hV : ∀ c, 8 ≤ c → V' c = V c) (hh : ∀ f, f < 4 → 0 < f → V' f = V f) : RO a n V' := by
  obtain ⟨b, hb, hb2, hb3⟩ := H.ask
  have l : ∀ c, V' (33 + c) = V (33 + c) := fun c => hV _ (by omega)
  have l0 : ∀ j f, V' (33 + 34 * j + f) = V (33 + 34 * j + f) := fun j f => hV _ (by omega)
  have lL : ∀ j, rL V' j = rL V j := fun j => rL_e (l0 j 5)
  refine ⟨H.le5, H.aB, (hh 1 (by decide) (by decide)).trans H.cnt, ⟨b, hb, (hh 2 (by decide) (by decide)).trans hb2, fun hz j hj => ?_⟩, fun j hj => ?_, fun j hj => ?_, fun j hj => ?_, fun j hj => ?_, fun j hj => ?_, fun j hj y hy => ?_, fun p q hp hq => ?_, ?_, ?_, H.iv.ext (fun j hj => ⟨l _, l0 j 1, l0 j 4, l0 j 5, l0 j 6⟩) (fun j hj y hy => ⟨by rw [Nat.add_assoc]; exact l0 j _, by rw [Nat.add_assoc]; exact l0 j _⟩)⟩
  · unfold FRd
    rw [l, l0, l0, l0, l0]
    exact hb3 hz j hj
  · rw [l]; exact H.role j hj
  · rw [l0]; exact H.term j hj
  · rw [lL, l0]; exact H.many j hj
  · rw [rC_e (l0 j 6), l0]; exact H.agr j hj
  · rw [l0, l]; exact H.abd j hj
  · rw [lL] at hy
    have g := H.lin j hj y hy
    rw [show 33 + 34 * j + 10 + y = 33 + 34 * j + (10 + y) from Nat.add_assoc _ _ _, show 33 + 34 * j + 22 + y = 33 + 34 * j + (22 + y) from Nat.add_assoc _ _ _] at g ⊢
    rw [l0, l0]
    exact g
  · rw [hV _ (by omega), hV _ (by omega)]; exact H.rope p q hp hq
  · rw [smf_e (fun j _ => l0 j 8), hh 2 (by decide) (by decide)]; exact H.s8
  · rw [smf_e (fun j _ => l0 j 9), hh 3 (by decide) (by decide)]; exact H.s9
end P22
