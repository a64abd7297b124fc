/-! ===== the pure part: what one raft answers ===== -/
section P23
variable {a n i j x k : Nat} {V V' : Nat → Int32} {S T : Mem}
theorem has_o (h1 : S k 1 = nI n) (h5 : n ≤ 5) (x : Int32) : (∃ i, i < n ∧ x = nI i ∧ g_X4_has S k x = some 1) ∨ ((∀ i, i < n → x ≠ nI i) ∧ g_X4_has S k x = some 0) := by
  unfold g_X4_has f_X4_has_0 f_X4_has_17 f_X4_has_16 f_X4_has_17
  rw [h1]
  by_cases h0 : x < 0
  · right
    rw [if_pos h0]
    refine ⟨fun i hi e => ?_, rfl⟩
    rw [e] at h0
    exact nI_pos (by omega) h0
  · rw [if_neg h0]
    obtain ⟨j, hj, rfl⟩ := nI_of h0
    by_cases hn : n ≤ j
    · right
      rw [if_pos ((nI_leI (by omega) hj).mpr hn)]
      refine ⟨fun i hi e => ?_, rfl⟩
      have := (nI_eq hj (by omega)).mp e
      omega
    · left
      rw [if_neg (fun z => hn ((nI_leI (by omega) hj).mp z))]
      exact ⟨j, by omega, rfl, rfl⟩
theorem has_1 (h1 : S k 1 = nI n) (h5 : n ≤ 5) (hi : i < n) : g_X4_has S k (nI i) = some 1 := by
  rcases has_o h1 h5 (nI i) with ⟨j, hj, e, h⟩ | ⟨h, -⟩
  · exact h
  · exact absurd rfl (h i hi)
/-- does i reach j -/
def rch (V : Nat → Int32) (i j : Nat) : Int32 := if i = j then 0 else if V (33 + 34 * i + 7) = 0 then 0 else if V (33 + 34 * j + 7) = 0 then 0 else if V (8 + 5 * i + j) = 0 then 1 else 0
theorem rch_b (V : Nat → Int32) (i j : Nat) : rch V i j = 0 ∨ rch V i j = 1 := by
  unfold rch
  repeat' split
  all_goals first | exact Or.inl rfl | exact Or.inr rfl
theorem rch_s (H : RO a n V) (hi : i < n) (hj : j < n) : rch V i j = rch V j i := by
  have h5 := H.le5
  unfold rch
  rw [(H.rope i j (by omega) (by omega)).1]
  by_cases c : i = j
  · rw [if_pos c, if_pos c.symm]
  · have c' : ¬ j = i := fun z => c z.symm
    by_cases c1 : V (33 + 34 * i + 7) = 0 <;> by_cases c2 : V (33 + 34 * j + 7) = 0 <;> simp only [c, c', c1, c2, ↓reduceIte]
theorem rch_1 (H : RO a n V) (hi : i < n) (hj : j < n) (h : rch V i j = 1) : i ≠ j ∧ V (33 + 34 * i + 7) = 1 ∧ V (33 + 34 * j + 7) = 1 := by
  unfold rch at h
  by_cases c : i = j
  · rw [if_pos c] at h; exact absurd h (by decide)
  · rw [if_neg c] at h
    by_cases c1 : V (33 + 34 * i + 7) = 0
    · rw [if_pos c1] at h; exact absurd h (by decide)
    · rw [if_neg c1] at h
      by_cases c2 : V (33 + 34 * j + 7) = 0
      · rw [if_pos c2] at h; exact absurd h (by decide)
      · exact ⟨c, (H.abd i hi).resolve_left (fun z => c1 z.1), (H.abd j hj).resolve_left (fun z => c2 z.1)⟩
theorem cut_o (H : RO a n (S k)) (hi : i < 5) (hj : j < 5) : g_X4_isRopeCut S k (nI i) (nI j) = some (S k (8 + 5 * i + j)) := by
  obtain ⟨h1, h2⟩ := H.rope i j hi hj
  unfold g_X4_isRopeCut f_X4_isRopeCut_0
  rw [rix hi hj, ck_t _ (inb_t (by omega) (by decide)), nI_clamp (by omega), ← Nat.add_assoc, ck_t _ (isb_of h2)]
theorem reach_o (H : RO a n (S k)) (hi : i < n) (hj : j < n) : g_X4_canReach S k (nI i) (nI j) = some (rch (S k) i j) := by
  have h5 := H.le5
  unfold g_X4_canReach f_X4_canReach_0 f_X4_canReach_42 f_X4_canReach_43 rch
  by_cases h : i = j
  · subst h
    rw [if_pos rfl, if_pos rfl]
    rfl
  · rw [if_neg (fun z => h ((nI_eq (by omega) (by omega)).mp z)), if_neg h, ck_t _ (inb_t (by omega) (by decide)), ck_t _ (inb_t (by omega) (by decide)), nI_clamp (by omega), nI_clamp (by omega), cut_o H (by omega) (by omega), bd1_s]
    by_cases c1 : S k (33 + 34 * i + 7) = 0
    · rw [if_pos c1, if_pos c1]; rfl
    · rw [if_neg c1, if_neg c1]
      by_cases c2 : S k (33 + 34 * j + 7) = 0
      · rw [if_pos c2, if_pos c2]; rfl
      · rw [if_neg c2, if_neg c2]
        by_cases c3 : S k (8 + 5 * i + j) = 0
        · rw [if_pos c3, if_pos c3]; rfl
        · rw [if_neg c3, if_neg c3]; rfl
theorem last_o (H : RO a n V) (hi : i < n) : ∃ x : Nat, x ≤ a ∧ (rL V i = 0 → x = 0) ∧ (0 < rL V i → V (33 + 34 * i + 10 + (rL V i - 1)) = nI x) ∧ rf_lt (rL V) (rE V) i = (x : Int) := by
  by_cases c : 0 < rL V i
  · obtain ⟨⟨x, hx, e⟩, -⟩ := H.lin i hi (rL V i - 1) (by omega)
    have := H.aB
    refine ⟨x, hx, fun z => by omega, fun _ => e, ?_⟩
    unfold rf_lt
    rw [if_pos c]
    show (V (33 + 34 * i + 10 + (rL V i - 1))).toInt = _
    rw [e, nI_toInt (by omega)]
  · refine ⟨0, Nat.zero_le _, fun _ => rfl, fun z => absurd z c, ?_⟩
    unfold rf_lt
    rw [if_neg c]
    rfl
theorem longer_o (H : RO a n (S k)) (hi : i < n) (hj : j < n) : ∃ r : Int32, (r = 0 ∨ r = 1) ∧ g_X2_hasLongerTaleThan S k i k j = some r ∧ (r = 0 ↔ rf_nl (rL (S k)) (rE (S k)) i j) := by
  have hB := H.aB
  obtain ⟨x, hx, x0, x1, x2⟩ := last_o H hi
  obtain ⟨y, hy, y0, y1, y2⟩ := last_o H hj
  have hm := (H.many i hi).1
  have hm' := (H.many j hj).1
  rw [hasL (m := rL (S k) i) (m' := rL (S k) j) hm hm' (by omega) (by omega) (H.many i hi).2 x0 x1 (H.many j hj).2 y0 y1]
  unfold rf_nl
  rw [x2, y2]
  by_cases c1 : x = y
  · rw [if_pos c1]
    by_cases c2 : rL (S k) i ≤ rL (S k) j
    · rw [if_pos c2]; exact ⟨0, Or.inl rfl, rfl, fun _ => Or.inr ⟨by omega, c2⟩, fun _ => rfl⟩
    · rw [if_neg c2]; exact ⟨1, Or.inr rfl, rfl, fun z => absurd z (by decide), fun z => by omega⟩
  · rw [if_neg c1]
    by_cases c2 : x ≤ y
    · rw [if_pos c2]; exact ⟨0, Or.inl rfl, rfl, fun _ => Or.inl (by omega), fun _ => rfl⟩
    · rw [if_neg c2]; exact ⟨1, Or.inr rfl, rfl, fun z => absurd z (by decide), fun z => by omega⟩
theorem rE_q {l : Nat} (h : rE V i l = rE V j l) : V (33 + 34 * i + 10 + l) = V (33 + 34 * j + 10 + l) ∧ V (33 + 34 * i + 22 + l) = V (33 + 34 * j + 22 + l) := ⟨Int32.toInt_inj.mp (congrArg Prod.fst h), Int32.toInt_inj.mp (congrArg Prod.snd h)⟩
theorem same_o (h1 : rL (S k) i ≤ 12 ∧ S k (33 + 34 * i + 5) = nI (rL (S k) i)) (h2 : rL (S k) j ≤ 12 ∧ S k (33 + 34 * j + 5) = nI (rL (S k) j)) : ∃ q : Nat, q ≤ rL (S k) i ∧ q ≤ rL (S k) j ∧ (∀ l, l < q → rE (S k) i l = rE (S k) j l) ∧ (q < rL (S k) i → q < rL (S k) j → rE (S k) i q ≠ rE (S k) j q) ∧ g_X2_countSameLines S k i k j = some (nI q) := by
  have R : Gv (fun y => ∃ q : Nat, q ≤ rL (S k) i ∧ q ≤ rL (S k) j ∧ (∀ l, l < q → rE (S k) i l = rE (S k) j l) ∧ (q < rL (S k) i → q < rL (S k) j → rE (S k) i q ≠ rE (S k) j q) ∧ y = nI q) (g_X2_countSameLines S k i k j) := by
    unfold g_X2_countSameLines f_X2_countSameLines_0 f_X2_countSameLines_14
    rw [h1.2, h2.2, mnI (by omega) (by omega)]
    refine Gv_lp (fun d s => ∃ q, q + d = min (rL (S k) i) (rL (S k) j) ∧ (∀ l, l < q → rE (S k) i l = rE (S k) j l) ∧ s = nI q) ?_ (min (rL (S k) i) (rL (S k) j)) 2000 _ (by omega) ⟨0, by omega, fun l hl => absurd hl (Nat.not_lt_zero l), rfl⟩
    rintro d s f ⟨q, hq, hs, rfl⟩ hr
    unfold f_X2_countSameLines_14_b f_X2_countSameLines_55
    rw [ile (by omega) (by omega)]
    by_cases c : min (rL (S k) i) (rL (S k) j) ≤ q
    · rw [if_pos c]
      exact Gv.ret ⟨q, by omega, by omega, hs, fun z1 z2 => by omega, rfl⟩
    · rw [if_neg c]
      have i12 : inb (nI q) 12 = true := inb_t (by omega) (by decide)
      rw [ck_t _ i12, ck_t _ i12, ck_t _ i12, ck_t _ i12, nI_clamp (by omega)]
      by_cases c1 : S k (33 + 34 * i + 10 + q) = S k (33 + 34 * j + 10 + q)
      · rw [if_pos c1]
        by_cases c2 : S k (33 + 34 * i + 22 + q) = S k (33 + 34 * j + 22 + q)
        · rw [if_pos c2, nI_p1]
          refine hr (d - 1) _ (by omega) ⟨q + 1, by omega, fun l hl => ?_, rfl⟩
          rcases Nat.lt_or_ge l q with h | h
          · exact hs l h
          · have : l = q := by omega
            rw [this]
            exact rE_e c1 c2
        · rw [if_neg c2]
          exact Gv.ret ⟨q, by omega, by omega, hs, fun _ _ z => c2 (rE_q z).2, rfl⟩
      · rw [if_neg c1]
        exact Gv.ret ⟨q, by omega, by omega, hs, fun _ _ z => c1 (rE_q z).1, rfl⟩
  obtain ⟨y, h3, q, q1, q2, q3, q4, rfl⟩ := R
  exact ⟨q, q1, q2, q3, q4, h3⟩
theorem maj_o {g : Nat} (h1 : S k 1 = nI n) (h5 : n ≤ 5) (hg : g < 1000) : g_X4_isMajority S k (nI g) = some (if g ≤ n / 2 then 0 else 1) := by
  unfold g_X4_isMajority f_X4_isMajority_0 f_X4_isMajority_15
  rw [h1, show (2 : Int32) = nI 2 from rfl, pk_div (by omega) (by decide) (by decide), ile (by omega) (by omega)]
  by_cases c : g ≤ n / 2
  · rw [if_pos c, if_pos c]; rfl
  · rw [if_neg c, if_neg c]; rfl
/-! ===== a raft after a change ===== -/
/-- still one raft; nothing else changed; the same aboard; no term fell, no driver knows less agreed -/
def PM (k a n : Nat) (S S' : Mem) : Prop := RO a n (S' k) ∧ Fr k S S' ∧ (∀ j, S' k (33 + 34 * j + 7) = S k (33 + 34 * j + 7)) ∧ (∀ j, j < n → rT (S k) j ≤ rT (S' k) j ∧ rC (S k) j ≤ rC (S' k) j) ∧ (S k 2).toInt ≤ (S' k 2).toInt
theorem PM.rf (H : RO a n (S k)) : PM k a n S S := ⟨H, Fr.rf, fun _ => rfl, fun _ _ => ⟨Int.le_refl _, Nat.le_refl _⟩, Int.le_refl _⟩
theorem PM.tr {a' : Nat} {S1 S2 : Mem} (h : PM k a n S S1) (h' : PM k a' n S1 S2) : PM k a' n S S2 := ⟨h'.1, h.2.1.tr h'.2.1, fun j => (h'.2.2.1 j).trans (h.2.2.1 j), fun j hj => ⟨Int.le_trans (h.2.2.2.1 j hj).1 (h'.2.2.2.1 j hj).1, Nat.le_trans (h.2.2.2.1 j hj).2 (h'.2.2.2.1 j hj).2⟩, Int.le_trans h.2.2.2.2 h'.2.2.2.2⟩
/-- the lines stay -/
def KL (n : Nat) (V V' : Nat → Int32) : Prop := ∀ j, j < n → rL V' j = rL V j ∧ ∀ l, l < rL V j → rE V' j l = rE V j l
theorem KL.rf : KL n V V := fun _ _ => ⟨rfl, fun _ _ => rfl⟩
theorem KL.of (hm : ∀ j, j < n → rL V j ≤ 12) (h : ∀ j f, j < n → (f = 5 ∨ 10 ≤ f) → f < 34 → V' (33 + 34 * j + f) = V (33 + 34 * j + f)) : KL n V V' := fun j hj => ⟨rL_e (h j 5 hj (Or.inl rfl) (by decide)), fun l hl => by
  have := hm j hj
  exact rE_e (by rw [Nat.add_assoc]; exact h j (10 + l) hj (by omega) (by omega)) (by rw [Nat.add_assoc]; exact h j (22 + l) hj (by omega) (by omega))⟩
theorem KL.lt (h : KL n V V') (hi : i < n) : rf_lt (rL V') (rE V') i = rf_lt (rL V) (rE V) i := by
  unfold rf_lt
  rw [(h i hi).1]
  by_cases c : 0 < rL V i
  · rw [if_pos c, if_pos c, (h i hi).2 _ (by omega)]
  · rw [if_neg c, if_neg c]
theorem KL.nl (h : KL n V V') (hi : i < n) (hj : j < n) (k : rf_nl (rL V) (rE V) i j) : rf_nl (rL V') (rE V') i j := by
  unfold rf_nl
  rw [h.lt hi, h.lt hj, (h i hi).1, (h j hj).1]
  exact k
theorem KL.hp (h : KL n V V') (hi : i < n) (hx : x < n) (k : rf_Hp (rL V) (rE V) (rE V x) (rL V x) i) : rf_Hp (rL V') (rE V') (rE V' x) (rL V' x) i := by
  unfold rf_Hp at k ⊢
  rw [(h i hi).1, (h x hx).1]
  refine ⟨k.1, fun l hl => ?_⟩
  rw [(h x hx).2 l hl, (h i hi).2 l (by have := k.1; omega)]
  exact k.2 l hl
theorem mj_le (p : Nat → Bool) : ∀ n, mj_ct p n ≤ n
  | 0 => Nat.le_refl 0
  | n + 1 => by
    have := mj_le p n
    unfold mj_ct
    split <;> omega
theorem mj_e {p q : Nat → Bool} : ∀ {n : Nat}, (∀ j, j < n → q j = p j) → mj_ct q n = mj_ct p n
  | 0, _ => rfl
  | n + 1, h => by
    unfold mj_ct
    rw [mj_e (fun j hj => h j (Nat.lt_succ_of_lt hj)), h n (Nat.lt_succ_self n)]
theorem mj_add {p : Nat → Bool} (hp : p i = false) : ∀ {n : Nat}, i < n → mj_ct (fun j => j == i || p j) n = mj_ct p n + 1
  | 0, h => absurd h (Nat.not_lt_zero i)
  | n + 1, h => by
    unfold mj_ct
    by_cases c : n = i
    · subst c
      rw [mj_e (p := p) (fun j hj => by simp [Nat.ne_of_lt hj])]
      simp [hp]
    · rw [mj_add hp (n := n) (by omega)]
      simp [c]
      omega
theorem mj_one : ∀ {n : Nat}, x < n → mj_ct (fun j => j == x) n = 1
  | 0, h => absurd h (Nat.not_lt_zero x)
  | n + 1, h => by
    unfold mj_ct
    by_cases c : n = x
    · subst c
      have : mj_ct (fun j => j == n) n = mj_ct (fun _ => false) n := mj_e (fun j hj => by simp [Nat.ne_of_lt hj])
      have z : ∀ n, mj_ct (fun _ => false) n = 0 := fun n => by
        induction n with
        | zero => rfl
        | succ n ih => unfold mj_ct; rw [ih]; rfl
      rw [this, z]
      simp
    · rw [mj_one (n := n) (by omega)]
      simp [c]
end P23
