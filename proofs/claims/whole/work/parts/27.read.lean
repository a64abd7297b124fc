/-! ===== the pure part: the questions, 4 ===== -/
section READ7
variable {a n k i j m m' x y : Nat} {S T : Mem}
theorem QQ_lp {σ τ ρ π : Type} {b : (σ → Option ρ) → σ → Option ρ} {c : (τ → Option π) → τ → Option π} (Q : Option ρ → Option π → Prop) (J : Nat → σ → τ → Prop) (step : ∀ n s t f g, J n s t → (∀ m s' t', m < n → J m s' t' → Q (f s') (g t')) → Q (b f s) (c g t)) : ∀ n F G s t, n < F → n < G → J n s t → Q (lp b F s) (lp c G t) := by
  intro n
  induction n using Nat.strongRecOn with
  | _ n ih =>
    intro F G s t hF hG hJ
    cases F with
    | zero => omega
    | succ F =>
      cases G with
      | zero => omega
      | succ G =>
        exact step n s t _ _ hJ (fun m s' t' hm hJ' => ih m hm F G s' t' (by omega) (by omega) hJ')
/-- the left gives a number, the right goes on with it -/
def TL {α ρ : Type} (F : α → Option ρ) (x : Option α) (y : Option ρ) : Prop := ∃ r, x = some r ∧ y = F r
theorem TL.for {ρ : Type} {b : ((Int32 × Int32) → Option Int32) → Int32 × Int32 → Option Int32} {c : ((Int32 × Int32) → Option ρ) → Int32 × Int32 → Option ρ} {F : Int32 → Option ρ} (n : Nat) (hn : n < 1900) {x0 : Int32} (fin : ∀ x f g, TL F (b f (x, nI n)) (c g (x, nI n))) (step : ∀ i x f g, i < n → (∀ x', TL F (f (x', nI i + 1)) (g (x', nI i + 1))) → TL F (b f (x, nI i)) (c g (x, nI i))) : TL F (lp b 2000 (x0, 0)) (lp c 2000 (x0, 0)) := by
  refine QQ_lp (TL F) (fun d s t => ∃ i x, i + d = n ∧ s = (x, nI i) ∧ t = (x, nI i)) ?_ n 2000 2000 _ _ (by omega) (by omega) ⟨0, x0, by omega, rfl, rfl⟩
  rintro d s t f g ⟨i, x, hd, rfl, rfl⟩ hr
  rcases Nat.lt_or_ge i n with h | h
  · refine step i x f g h (fun x' => ?_)
    refine hr (d - 1) _ _ (by omega) ⟨i + 1, x', by omega, ?_, ?_⟩ <;> rw [nI_p1]
  · have : i = n := by omega
    subst this
    exact fin x f g
theorem ahead_r (H : RW a n (S k) (T 20)) (hi : i < n) (hj : j < n) : ∃ b : Int32, (b = 0 ∨ b = 1) ∧ g_X4_isRankedAhead S k (nI i) (nI j) = some b ∧ g_X9_isAhead T (nI i) (nI j) = some b := by
  have h5 := H.le5
  have hB := H.aB
  obtain ⟨r, hr, h1, h2, h3⟩ := longer_r H hi hj
  obtain ⟨p, hp, e⟩ := H.term i hi
  obtain ⟨q, hq, e'⟩ := H.term j hj
  unfold g_X4_isRankedAhead f_X4_isRankedAhead_0 f_X4_isRankedAhead_79 g_X9_isAhead f_X9_isAhead_0 f_X9_isAhead_20 f_X9_isAhead_64
  rw [ck_in (by omega) (by decide), ck_in (by omega) (by decide), nI_clamp (by omega), nI_clamp (by omega), h1, h2, h3, bd1_s, bd1_s, H.c hi (by decide), H.c hj (by decide), of_1 T (by omega), of_1 T (by omega), bd1_s]
  rcases hr with rfl | rfl | rfl
  · exact ⟨1, Or.inr rfl, rfl, rfl⟩
  · simp (decide := true) only [↓reduceIte, bd1_s, e, e', ile (show i < 2 ^ 31 by omega) (show j < 2 ^ 31 by omega), ile (show j < 2 ^ 31 by omega) (show i < 2 ^ 31 by omega), nI_eq (show p < 2 ^ 31 by omega) (show q < 2 ^ 31 by omega), nI_leI (show p < 2 ^ 31 by omega) (show q < 2 ^ 31 by omega), sub0I (show p < 2 ^ 30 by omega) (show q < 2 ^ 30 by omega), subLeI (show p < 2 ^ 30 by omega) (show q < 2 ^ 30 by omega)]
    by_cases c1 : p = q
    · simp only [c1, ↓reduceIte]
      by_cases c2 : j ≤ i
      · simp only [c2, ↓reduceIte]; exact ⟨0, Or.inl rfl, rfl, rfl⟩
      · simp only [c2, ↓reduceIte]; exact ⟨1, Or.inr rfl, rfl, rfl⟩
    · simp only [c1, ↓reduceIte]
      by_cases c2 : p ≤ q
      · simp only [c2, ↓reduceIte]; exact ⟨0, Or.inl rfl, rfl, rfl⟩
      · simp only [c2, ↓reduceIte]; exact ⟨1, Or.inr rfl, rfl, rfl⟩
  · exact ⟨0, Or.inl rfl, rfl, rfl⟩
theorem p_ranked (H : RW a n (S 0) (S 20)) (x : Int32) : ∃ r, g_X8_ranked S x = some r ∧ g_X9_ranked S x = some r := by
  have h5 := H.le5
  unfold g_X8_ranked f_X8_ranked_0 f_X8_ranked_2 g_X9_ranked f_X9_ranked_0 f_X9_ranked_2
  refine RR.eq (RR.for1 n (by omega) ?_ ?_)
  · intro f g
    unfold f_X8_ranked_2_b f_X9_ranked_2_b
    rw [H.cn, H.cnt, ile (by omega) (by omega), ile (by omega) (by omega), if_pos (Nat.le_refl _), if_pos (Nat.le_refl _)]
    exact RR.rf _
  · intro j f g hj K
    unfold f_X8_ranked_2_b f_X9_ranked_2_b f_X9_ranked_17 g_X4_countRankedAhead f_X4_countRankedAhead_0 f_X4_countRankedAhead_4
    rw [H.cn, H.cnt, ile (by omega) (by omega), ile (by omega) (by omega), if_neg (Nat.not_le.mpr hj), if_neg (Nat.not_le.mpr hj)]
    obtain ⟨r, h1, h2⟩ : TL (fun r => if r = x then some (nI j) else g (nI j + 1)) (lp (fun ih4 s9 => f_X4_countRankedAhead_4_b ih4 S 0 (nI j) s9.1 s9.2) 2000 (0, 0)) (lp (fun ih17 s9 => f_X9_ranked_17_b g ih17 S x (nI j) s9.1 s9.2) 2000 (0, 0)) := by
      refine TL.for n (by omega) ?_ ?_
      · intro x' f' g'
        unfold f_X4_countRankedAhead_4_b f_X9_ranked_17_b
        rw [H.cn, H.cnt, ile (by omega) (by omega), ile (by omega) (by omega), if_pos (Nat.le_refl _), if_pos (Nat.le_refl _)]
        exact ⟨x', rfl, rfl⟩
      · intro w x' f' g' hw K'
        unfold f_X4_countRankedAhead_4_b f_X9_ranked_17_b f_X4_countRankedAhead_29 f_X9_ranked_49 f_X9_ranked_50
        rw [H.cn, H.cnt, ile (by omega) (by omega), ile (by omega) (by omega), if_neg (Nat.not_le.mpr hw), if_neg (Nat.not_le.mpr hw), ieq (by omega) (by omega), ieq (by omega) (by omega)]
        by_cases c : w = j
        · rw [if_pos c, if_pos c, i_add0]
          exact K' _
        · rw [if_neg c, if_neg c]
          obtain ⟨b, hb, h1, h2⟩ := ahead_r H hw hj
          rw [h1, h2, bd1_s, bd1_s]
          rcases hb with rfl | rfl
          · rw [if_pos rfl, if_pos rfl, i_add0]
            exact K' _
          · rw [if_neg (by decide), if_neg (by decide)]
            exact K' _
    rw [h1, h2, bd1_s]
    by_cases c : r = x
    · rw [if_pos c]
      show RR Eq _ (if r = x then _ else _)
      rw [if_pos c]
      exact RR.rf _
    · rw [if_neg c]
      show RR Eq _ (if r = x then _ else _)
      rw [if_neg c]
      exact K
theorem p_oldest (H : RW a n (S 0) (S 20)) (x : Int32) : ∃ r, g_X8_oldest S x = some r ∧ g_X9_oldest S x = some r := by
  have h5 := H.le5
  unfold g_X8_oldest f_X8_oldest_0 f_X8_oldest_2 g_X9_oldest f_X9_oldest_0 f_X9_oldest_2
  refine RR.eq (RR.for1 n (by omega) ?_ ?_)
  · intro f g
    unfold f_X8_oldest_2_b f_X9_oldest_2_b
    rw [H.cn, H.cnt, ile (by omega) (by omega), ile (by omega) (by omega), if_pos (Nat.le_refl _), if_pos (Nat.le_refl _)]
    exact RR.rf _
  · intro j f g hj K
    obtain ⟨b, hb, hw1, hw2⟩ := wait_r H hj
    obtain ⟨r, h1, h2⟩ : TL (fun r => if b = 0 then g (nI j + 1) else if r = x then some (nI j) else g (nI j + 1)) (g_X4_countAskingAhead S 0 (nI j)) (f_X9_oldest_17 g S x (nI j) 0 0) := by
      unfold g_X4_countAskingAhead f_X4_countAskingAhead_0 f_X4_countAskingAhead_15 g_X2_beatsLeft f_X2_beatsLeft_0 f_X9_oldest_17
      rw [ck_in (by omega) (by decide), nI_clamp (by omega), H.c hj (by decide), H.c hj (by decide), bd1_s]
      refine TL.for n (by omega) ?_ ?_
      · intro x' f' g'
        unfold f_X4_countAskingAhead_15_b f_X9_oldest_17_b f_X9_oldest_118
        simp only [H.cn, H.cnt, Int32.le_refl, ↓reduceIte, hw2, bd1_s]
        exact ⟨x', rfl, rfl⟩
      · intro w x' f' g' hw K'
        obtain ⟨b', hb', hv1, hv2⟩ := wait_r H hw
        unfold f_X4_countAskingAhead_15_b f_X9_oldest_17_b f_X4_countAskingAhead_67 f_X4_countAskingAhead_90 g_X2_beatsLeft f_X2_beatsLeft_0 g_X9_waitsYet f_X9_waitsYet_0 f_X9_oldest_62 f_X9_oldest_66 f_X9_oldest_67 f_X9_oldest_94 f_X9_oldest_95
        simp (decide := true) only [H.cn, H.cnt, ile (show n < 2 ^ 31 by omega) (show w < 2 ^ 31 by omega), Nat.not_le.mpr hw, ↓reduceIte, of_2 S (show w < 5 by omega), of_3 S (show w < 5 by omega), of_2 S (show j < 5 by omega), of_3 S (show j < 5 by omega), nI_clamp (show w < 2 ^ 31 by omega), H.fld w hw, hv1, hv2, bd1_s, ck_in (show w < 5 by omega) (show 5 < 2 ^ 31 by decide), i_add0, ieq (show w < 2 ^ 31 by omega) (show j < 2 ^ 31 by omega), ile (show j < 2 ^ 31 by omega) (show w < 2 ^ 31 by omega)]
        by_cases c : w = j
        · subst c
          simp (decide := true) only [↓reduceIte, Nat.le_refl, ite_self, Int32.lt_irrefl]
          exact K' _
        · simp only [c, ↓reduceIte]
          generalize S 20 (33 + 34 * w + 2) - S 20 (33 + 34 * w + 3) = p
          generalize S 20 (33 + 34 * j + 2) - S 20 (33 + 34 * j + 3) = q
          by_cases c1 : p = q
          · subst c1
            simp (decide := true) only [↓reduceIte, Int32.lt_irrefl]
            by_cases c2 : j ≤ w
            · simp (decide := true) only [c2, ↓reduceIte, ite_self]
              exact K' _
            · rcases hb' with rfl | rfl
              · simp (decide := true) only [c2, ↓reduceIte]
                exact K' _
              · simp (decide := true) only [c2, ↓reduceIte]
                exact K' _
          · by_cases c2 : q ≤ p
            · simp (decide := true) only [c1, c2, ↓reduceIte, ite_self, Int32.not_lt.mpr c2]
              exact K' _
            · rcases hb' with rfl | rfl
              · simp (decide := true) only [c1, c2, ↓reduceIte, Int32.not_le.mp c2]
                exact K' _
              · simp (decide := true) only [c1, c2, ↓reduceIte, Int32.not_le.mp c2]
                exact K' _
    unfold f_X8_oldest_2_b f_X9_oldest_2_b f_X8_oldest_42
    simp (decide := true) only [H.cn, H.cnt, ile (show n < 2 ^ 31 by omega) (show j < 2 ^ 31 by omega), Nat.not_le.mpr hj, ↓reduceIte, nI_clamp (show j < 2 ^ 31 by omega), ck_in (show j < 5 by omega) (show 5 < 2 ^ 31 by decide), hw1, bd1_s, h1, h2]
    rcases hb with rfl | rfl
    · simp (decide := true) only [↓reduceIte]
      exact K
    · simp (decide := true) only [↓reduceIte]
      by_cases c : r = x
      · simp only [c, ↓reduceIte]
        exact RR.rf _
      · simp only [c, ↓reduceIte]
        exact K
end READ7
