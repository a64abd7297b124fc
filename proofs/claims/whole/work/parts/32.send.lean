/-! ===== the pure part: following a leader ===== -/
section SEND
variable {a n k i j m m' x y g q : Nat} {S T : Mem}
theorem RW.lines {C V C' V' : Nat → Int32} (H : RW a n C V) (hi : i < n) (hV : ∀ c, 8 ≤ c → c ≠ 33 + 34 * i + 5 → (c < 33 + 34 * i + 10 ∨ 33 + 34 * i + 34 ≤ c) → V' c = V c ∧ C' c = C c) (h1 : V' 1 = nI n) (h2 : V' 2 = nI a) (hh : ∀ f, f < 8 → C' f = V' f) (hm : m' ≤ 12) (e : V' (33 + 34 * i + 5) = nI m') (ee : C' (33 + 34 * i + 5) = nI m') (hl : ∀ l, l < m' → C' (33 + 34 * i + 10 + l) = V' (33 + 34 * i + 10 + l) ∧ C' (33 + 34 * i + 22 + l) = V' (33 + 34 * i + 22 + l) ∧ bnd (V' (33 + 34 * i + 10 + l)) a ∧ ∃ c : Nat, 97 ≤ c ∧ c ≤ 122 ∧ V' (33 + 34 * i + 22 + l) = nI c) : RW a n C' V' := by
  have h5 := H.le5
  have vj : ∀ j f, j ≠ i → f < 34 → V' (33 + 34 * j + f) = V (33 + 34 * j + f) := fun j f hj hf => (hV _ (by omega) (by omega) (by omega)).1
  have cj : ∀ j f, j ≠ i → f < 34 → C' (33 + 34 * j + f) = C (33 + 34 * j + f) := fun j f hj hf => (hV _ (by omega) (by omega) (by omega)).2
  have vf : ∀ j f, f < 10 → f ≠ 5 → V' (33 + 34 * j + f) = V (33 + 34 * j + f) := fun j f hf hf' => (hV _ (by omega) (by omega) (by omega)).1
  have cf : ∀ j f, f < 10 → f ≠ 5 → C' (33 + 34 * j + f) = C (33 + 34 * j + f) := fun j f hf hf' => (hV _ (by omega) (by omega) (by omega)).2
  have v0 : ∀ j, V' (33 + 34 * j) = V (33 + 34 * j) := fun j => vf j 0 (by decide) (by decide)
  refine ⟨h5, H.aB, h1, h2, hh, ?_, ?_, ?_, ?_, ?_, ?_, ?_, ?_, ?_, ?_, ?_, ?_⟩
  · intro j hj f hf
    by_cases c5 : f = 5
    · subst c5
      by_cases c : j = i
      · subst c; rw [e, ee]
      · rw [vj j 5 c (by omega), cj j 5 c (by omega)]; exact H.fld j hj 5 hf
    · rw [vf j f hf c5, cf j f hf c5]; exact H.fld j hj f hf
  · intro j hj; rw [v0]; exact H.role j hj
  · intro j hj; rw [vf j 1 (by decide) (by decide)]; exact H.term j hj
  · intro j hj
    rw [vf j 4 (by decide) (by decide), vf j 1 (by decide) (by decide)]
    refine (H.vote j hj).imp id (fun ⟨w, hw, h3, h4⟩ => ⟨w, hw, h3, fun hwj => ?_⟩)
    rw [vf w 1 (by decide) (by decide)]
    exact h4 hwj
  · intro j hj
    by_cases c : j = i
    · subst c; rw [e]; exact ⟨m', hm, rfl⟩
    · rw [vj j 5 c (by omega)]; exact H.many j hj
  · intro j hj; rw [vf j 6 (by decide) (by decide)]; exact H.agr j hj
  · intro j hj; rw [vf j 7 (by decide) (by decide), v0]; exact H.abd j hj
  · intro j hj p hp hp2 l hl'
    by_cases c : j = i
    · subst c
      have : p = m' := (nI_eq (by omega) (by omega)).mp (hp2.symm.trans e)
      subst this
      exact hl l hl'
    · rw [vj j 5 c (by omega)] at hp2
      rw [show 33 + 34 * j + 10 + l = 33 + 34 * j + (10 + l) by omega, show 33 + 34 * j + 22 + l = 33 + 34 * j + (22 + l) by omega, vj j (10 + l) c (by omega), vj j (22 + l) c (by omega), cj j (10 + l) c (by omega), cj j (22 + l) c (by omega), ← Nat.add_assoc, ← Nat.add_assoc]
      exact H.lin j hj p hp hp2 l hl'
  · intro p q hpq hq
    rw [(hV _ (by omega) (by omega) (by omega)).1, (hV _ (by omega) (by omega) (by omega)).2, (hV _ (by omega) (by omega) (by omega)).2]
    exact H.ropC p q hpq hq
  · intro p hp
    rw [(hV _ (by omega) (by omega) (by omega)).2]
    exact H.ropD p hp
  · intro p q hpq hp
    rw [(hV _ (by omega) (by omega) (by omega)).1]
    exact H.ropV p q hpq hp
  · intro j hj hj5 f hf
    rw [vj j f (by omega) (by omega)]
    exact H.dead j hj hj5 f hf
theorem nar_c {c : Nat} (h : c < 128) : vp_nar .char (nI c) = nI c := by
  have : ∀ c, c < 128 → vp_nar .char (nI c) = nI c := by decide +kernel
  exact this c h
/-- the class's lines copied -/
theorem copyL {c' : Nat} (hm : m ≤ 12) (hqm : q ≤ m) (e : S c' (33 + 34 * x + 5) = nI m) (hix : ¬ (k = c' ∧ i = x)) (hx : x < 5) (hi : i < 5) (hl : ∀ l, q ≤ l → l < m → ∃ c : Nat, 97 ≤ c ∧ c ≤ 122 ∧ S c' (33 + 34 * x + 22 + l) = nI c) : ∃ S', g_X2_copyLines S k i c' x (nI q) = some S' ∧ Fr k S S' ∧ S' k (33 + 34 * i + 5) = nI m ∧ (∀ c, c ≠ 33 + 34 * i + 5 → (c < 33 + 34 * i + 10 ∨ 33 + 34 * i + 34 ≤ c) → S' k c = S k c) ∧ (∀ l, l < q → S' k (33 + 34 * i + 10 + l) = S k (33 + 34 * i + 10 + l) ∧ S' k (33 + 34 * i + 22 + l) = S k (33 + 34 * i + 22 + l)) ∧ (∀ l, q ≤ l → l < m → S' k (33 + 34 * i + 10 + l) = S c' (33 + 34 * x + 10 + l) ∧ S' k (33 + 34 * i + 22 + l) = S c' (33 + 34 * x + 22 + l)) := by
  unfold g_X2_copyLines f_X2_copyLines_0 f_X2_copyLines_2
  refine Gv_lp (P := fun S' => Fr k S S' ∧ S' k (33 + 34 * i + 5) = nI m ∧ (∀ c, c ≠ 33 + 34 * i + 5 → (c < 33 + 34 * i + 10 ∨ 33 + 34 * i + 34 ≤ c) → S' k c = S k c) ∧ (∀ l, l < q → S' k (33 + 34 * i + 10 + l) = S k (33 + 34 * i + 10 + l) ∧ S' k (33 + 34 * i + 22 + l) = S k (33 + 34 * i + 22 + l)) ∧ (∀ l, q ≤ l → l < m → S' k (33 + 34 * i + 10 + l) = S c' (33 + 34 * x + 10 + l) ∧ S' k (33 + 34 * i + 22 + l) = S c' (33 + 34 * x + 22 + l))) (fun d s => ∃ p S', p + d = m ∧ q ≤ p ∧ s = (S', nI p) ∧ Fr k S S' ∧ (∀ c, (c < 33 + 34 * i + 10 ∨ 33 + 34 * i + 34 ≤ c) → S' k c = S k c) ∧ (∀ l, l < 12 → (l < q ∨ p ≤ l) → S' k (33 + 34 * i + 10 + l) = S k (33 + 34 * i + 10 + l) ∧ S' k (33 + 34 * i + 22 + l) = S k (33 + 34 * i + 22 + l)) ∧ (∀ l, q ≤ l → l < p → S' k (33 + 34 * i + 10 + l) = S c' (33 + 34 * x + 10 + l) ∧ S' k (33 + 34 * i + 22 + l) = S c' (33 + 34 * x + 22 + l))) ?_ (m - q) 2000 _ (by omega) ⟨q, S, by omega, Nat.le_refl _, rfl, Fr.rf, fun _ _ => rfl, fun _ _ _ => ⟨rfl, rfl⟩, fun l h1 h2 => absurd h1 (by omega)⟩
  rintro d s f ⟨p, S', hd, hqp, rfl, hF, hA, hB, hC⟩ K
  unfold f_X2_copyLines_2_b
  have same : ∀ c, (c < 33 + 34 * x + 34 ∧ 33 + 34 * x ≤ c) → S' c' c = S c' c := by
    intro c hc
    by_cases hk : c' = k
    · subst hk
      have : i ≠ x := fun z => hix ⟨rfl, z⟩
      exact hA c (by omega)
    · rw [hF c' hk]
  simp only [same (33 + 34 * x + 5) (by omega), e, ile (show m < 2 ^ 31 by omega) (show p < 2 ^ 31 by omega)]
  by_cases c : m ≤ p
  · simp only [c, ↓reduceIte]
    have : p = m := by omega
    subst this
    refine ⟨_, rfl, hF.up _ _, ?_, ?_, ?_, ?_⟩
    · simp (disch := omega) only [up_ne, up_same]
    · intro c hc h8
      simp (disch := omega) only [up_ne, up_same]
      exact hA c h8
    · intro l hl'
      simp (disch := omega) only [up_ne, up_same]
      exact hB l (by omega) (Or.inl hl')
    · intro l hl1 hl2
      simp (disch := omega) only [up_ne, up_same]
      exact hC l hl1 hl2
  · have i12 : inb (nI p) 12 = true := inb_t (by omega) (by decide)
    simp only [c, ↓reduceIte, i12, ck_t, nI_clamp (show p < 2 ^ 31 by omega), nI_p1]
    obtain ⟨ch, hc1, hc2, hc3⟩ := hl p hqp (by omega)
    have r2 : up S' k (33 + 34 * i + 10 + p) (S' c' (33 + 34 * x + 10 + p)) c' (33 + 34 * x + 22 + p) = nI ch := by
      have : ¬ (c' = k ∧ 33 + 34 * x + 22 + p = 33 + 34 * i + 10 + p) := by
        rintro ⟨z1, z2⟩
        exact hix ⟨z1.symm, by omega⟩
      rw [up_ne _ _ this, same _ (by omega), hc3]
    rw [r2, nar_c (by omega), same _ (by omega)]
    refine K (d - 1) _ (by omega) ⟨p + 1, _, by omega, by omega, rfl, (hF.up _ _).up _ _, ?_, ?_, ?_⟩
    · intro c hc
      simp (disch := omega) only [up_ne, up_same]
      exact hA c hc
    · intro l hl1 hl2
      simp (disch := omega) only [up_ne, up_same]
      exact hB l hl1 (by omega)
    · intro l hl1 hl2
      by_cases hlp : l = p
      · subst hlp
        simp (disch := omega) only [up_ne, up_same]
        exact ⟨trivial, hc3.symm⟩
      · simp (disch := omega) only [up_ne, up_same]
        exact hC l hl1 (by omega)
theorem gets178 (T : Mem) (hi : i < 5) (hx : x < 5) : f_X9_gets_178 T (nI i) (nI x) = some (up T 20 (33 + 34 * i + 6) (mx (T 20 (33 + 34 * i + 6)) (mn (T 20 (33 + 34 * x + 6)) (T 20 (33 + 34 * i + 5))))) := by
  unfold f_X9_gets_178
  rw [of_6 _ (by omega), bd1_s, of_5 _ (by omega), bd1_s, lessX, bd1_s, of_6 _ (by omega), bd1_s, greatX, bd1_s, sets_6 _ _ (by omega), bd1_s]
/-- the reference's lines copied -/
theorem copyR (hm : m ≤ 12) (e : T 20 (33 + 34 * x + 5) = nI m) (hix : i ≠ x) (hx : x < 5) (hi : i < 5) : ∃ T', f_X9_gets_77 T (nI i) (nI x) 0 = f_X9_gets_178 T' (nI i) (nI x) ∧ Fr 20 T T' ∧ T' 20 (33 + 34 * i + 5) = nI m ∧ (∀ c, c ≠ 33 + 34 * i + 5 → (c < 33 + 34 * i + 10 ∨ 33 + 34 * i + 34 ≤ c) → T' 20 c = T 20 c) ∧ (∀ l, l < m → T' 20 (33 + 34 * i + 10 + l) = T 20 (33 + 34 * x + 10 + l) ∧ T' 20 (33 + 34 * i + 22 + l) = T 20 (33 + 34 * x + 22 + l)) := by
  unfold f_X9_gets_77
  have R := QQ_lp (b := fun (f : (Mem × Int32) → Option Unit) s => f s) (fun (_ : Option Unit) y => ∃ T', y = f_X9_gets_178 T' (nI i) (nI x) ∧ Fr 20 T T' ∧ T' 20 (33 + 34 * i + 5) = nI m ∧ (∀ c, c ≠ 33 + 34 * i + 5 → (c < 33 + 34 * i + 10 ∨ 33 + 34 * i + 34 ≤ c) → T' 20 c = T 20 c) ∧ (∀ l, l < m → T' 20 (33 + 34 * i + 10 + l) = T 20 (33 + 34 * x + 10 + l) ∧ T' 20 (33 + 34 * i + 22 + l) = T 20 (33 + 34 * x + 22 + l))) (c := fun ih77 s9 => f_X9_gets_77_b ih77 s9.1 (nI i) (nI x) s9.2) (fun d _ s => ∃ p T', p + d = 12 ∧ s = (T', nI p) ∧ Fr 20 T T' ∧ (∀ c, (c < 33 + 34 * i + 10 ∨ 33 + 34 * i + 34 ≤ c) → T' 20 c = T 20 c) ∧ (∀ l, l < p → l < m → T' 20 (33 + 34 * i + 10 + l) = T 20 (33 + 34 * x + 10 + l) ∧ T' 20 (33 + 34 * i + 22 + l) = T 20 (33 + 34 * x + 22 + l))) ?_ 12 2000 2000 (T, 0) (T, 0) (by omega) (by omega) ⟨0, T, by omega, rfl, Fr.rf, fun _ _ => rfl, fun l h => absurd h (Nat.not_lt_zero l)⟩
  · exact R
  rintro d u s g f ⟨p, T', hd, rfl, hF, hA, hC⟩ K
  replace K := fun m' s' hm' hJ => K m' u s' hm' hJ
  unfold f_X9_gets_77_b f_X9_gets_100 f_X9_gets_128 f_X9_gets_157
  dsimp only
  rw [of_5 _ (by omega), bd1_s, bd1_s, hA _ (by omega), e, show (12 : Int32) = nI 12 from rfl, ile (by omega) (by omega), ile (by omega) (by omega)]
  by_cases c : 12 ≤ p
  · rw [if_pos c, sets_5 _ _ (by omega), bd1_s]
    refine ⟨_, rfl, hF.up _ _, ?_, ?_, ?_⟩
    · simp (disch := omega) only [up_ne, up_same]
    · intro c hc h8
      simp (disch := omega) only [up_ne, up_same]
      exact hA c h8
    · intro l hl
      simp (disch := omega) only [up_ne, up_same]
      exact hC l (by omega) hl
  · rw [if_neg c]
    have goal : ∀ z w, (p < m → z = T 20 (33 + 34 * x + 10 + p) ∧ w = T 20 (33 + 34 * x + 22 + p)) → ∃ T'', f (up (up T' 20 (33 + 34 * i + 10 + p) z) 20 (33 + 34 * i + 22 + p) w, nI (p + 1)) = f_X9_gets_178 T'' (nI i) (nI x) ∧ Fr 20 T T'' ∧ T'' 20 (33 + 34 * i + 5) = nI m ∧ (∀ c, c ≠ 33 + 34 * i + 5 → (c < 33 + 34 * i + 10 ∨ 33 + 34 * i + 34 ≤ c) → T'' 20 c = T 20 c) ∧ (∀ l, l < m → T'' 20 (33 + 34 * i + 10 + l) = T 20 (33 + 34 * x + 10 + l) ∧ T'' 20 (33 + 34 * i + 22 + l) = T 20 (33 + 34 * x + 22 + l)) := by
      intro z w hzw
      refine K (d - 1) _ (by omega) ⟨p + 1, _, by omega, rfl, (hF.up _ _).up _ _, ?_, ?_⟩
      · intro c hc
        simp (disch := omega) only [up_ne, up_same]
        exact hA c hc
      · intro l hl1 hl2
        by_cases hlp : l = p
        · subst hlp
          simp (disch := omega) only [up_ne, up_same]
          exact hzw hl2
        · simp (disch := omega) only [up_ne, up_same]
          exact hC l (by omega) hl2
    by_cases c2 : m ≤ p
    · simp (decide := true) only [c2, ↓reduceIte]
      rw [sets_t _ _ (by omega) (by omega), bd1_s, sets_l _ _ (by omega) (by omega), bd1_s, nI_p1]
      exact goal 0 0 (fun h => absurd c2 (by omega))
    · simp (decide := true) only [c2, ↓reduceIte]
      rw [of_t _ (by omega) (by omega), bd1_s, sets_t _ _ (by omega) (by omega), bd1_s, of_l _ (by omega) (by omega), bd1_s, sets_l _ _ (by omega) (by omega), bd1_s, nI_p1]
      refine goal _ _ (fun h => ⟨hA _ (by omega), ?_⟩)
      simp (disch := omega) only [up_ne, up_same]
      exact hA _ (by omega)
theorem up_comm (S : Mem) {b c d : Nat} (u v : Int32) (h : c ≠ d) : up (up S b c u) b d v = up (up S b d v) b c u := by
  funext b' j'
  simp only [up_at]
  by_cases h1 : b' = b ∧ j' = d
  · have : ¬ (b' = b ∧ j' = c) := fun z => h (z.2.symm.trans h1.2)
    rw [if_pos h1, if_neg this, if_pos h1]
  · rw [if_neg h1, if_neg h1]
end SEND
