/-! ===== the pure part: the questions, 0 ===== -/
section READ3
variable {a n k i j m m' x y : Nat} {S T : Mem}
theorem RR.eq {α : Type} {x y : Option α} (h : RR Eq x y) : ∃ r, x = some r ∧ y = some r := by
  obtain ⟨a, b, h1, h2, rfl⟩ := h
  exact ⟨a, h1, h2⟩
theorem RR.rf {α : Type} (x : α) : RR Eq (some x) (some x) := RR.ret rfl
theorem ck_in {α : Type} {N : Nat} {x : Option α} (h : i < N) (hN : N < 2 ^ 31) : ck (inb (nI i) N) x = x := ck_t _ (inb_t h hN)
theorem nI_m {w : Nat} (h : w < 2 ^ 31) {c : Int32} (hc : c < 0) : ¬ nI w = c := fun z => nI_pos h (z ▸ hc)
theorem nI_m4 {w : Nat} (h : w < 2 ^ 31) : (nI w = -4) ↔ False := ⟨nI_m h (by decide), False.elim⟩
theorem nI_mm1 {w : Nat} (h : w < 2 ^ 31) : (nI w = -1) ↔ False := ⟨nI_m h (by decide), False.elim⟩
theorem ck_0 {α : Type} {x : Option α} : ck (isb 0) x = x := rfl
theorem ck_1 {α : Type} {x : Option α} : ck (isb 1) x = x := rfl
theorem RW.c0 (H : RW a n (S k) (T 20)) {i : Nat} (hi : i < n) : S k (33 + 34 * i) = T 20 (33 + 34 * i) := H.fld i hi 0 (by decide)
/-- a loop over the drivers with one number kept -/
theorem RR.for {ρ π : Type} {b : ((Int32 × Int32) → Option ρ) → Int32 × Int32 → Option ρ} {c : ((Int32 × Int32) → Option π) → Int32 × Int32 → Option π} {P : ρ → π → Prop} (J : Nat → Int32 → Prop) (n : Nat) (hn : n < 1900) {x0 : Int32} (h0 : J 0 x0) (fin : ∀ x f g, J n x → RR P (b f (x, nI n)) (c g (x, nI n))) (step : ∀ i x f g, i < n → J i x → (∀ x', J (i + 1) x' → RR P (f (x', nI i + 1)) (g (x', nI i + 1))) → RR P (b f (x, nI i)) (c g (x, nI i))) : RR P (lp b 2000 (x0, 0)) (lp c 2000 (x0, 0)) := by
  refine RR_lp (fun d s t => ∃ i x, i + d = n ∧ J i x ∧ s = (x, nI i) ∧ t = (x, nI i)) ?_ n 2000 2000 _ _ (by omega) (by omega) ⟨0, x0, by omega, h0, rfl, rfl⟩
  rintro d s t f g ⟨i, x, hd, hJ, rfl, rfl⟩ hr
  rcases Nat.lt_or_ge i n with h | h
  · refine step i x f g h hJ (fun x' hJ' => ?_)
    refine hr (d - 1) _ _ (by omega) ⟨i + 1, x', by omega, hJ', ?_, ?_⟩ <;> rw [nI_p1]
  · have : i = n := by omega
    subst this
    exact fin x f g hJ
/-- a loop over the drivers with nothing kept -/
theorem RR.for1 {ρ π : Type} {b : (Int32 → Option ρ) → Int32 → Option ρ} {c : (Int32 → Option π) → Int32 → Option π} {P : ρ → π → Prop} (n : Nat) (hn : n < 1900) (fin : ∀ f g, RR P (b f (nI n)) (c g (nI n))) (step : ∀ i f g, i < n → (RR P (f (nI i + 1)) (g (nI i + 1))) → RR P (b f (nI i)) (c g (nI i))) : RR P (lp b 2000 0) (lp c 2000 0) := by
  refine RR_lp (fun d s t => ∃ i, i + d = n ∧ s = nI i ∧ t = nI i) ?_ n 2000 2000 _ _ (by omega) (by omega) ⟨0, by omega, rfl, rfl⟩
  rintro d s t f g ⟨i, hd, rfl, rfl⟩ hr
  rcases Nat.lt_or_ge i n with h | h
  · refine step i f g h ?_
    refine hr (d - 1) _ _ (by omega) ⟨i + 1, by omega, ?_, ?_⟩ <;> rw [nI_p1]
  · have : i = n := by omega
    subst this
    exact fin f g
theorem lead_r (H : RW a n (S k) (T 20)) (hi : i < n) : g_X2_isLeading S k i = some (if T 20 (33 + 34 * i + 7) = 0 then 0 else if T 20 (33 + 34 * i) = 2 then 1 else 0) := by
  unfold g_X2_isLeading f_X2_isLeading_0 f_X2_isLeading_19 f_X2_isLeading_20
  rw [H.c hi (by decide), H.c0 hi]
  by_cases c1 : T 20 (33 + 34 * i + 7) = 0
  · rw [if_pos c1, if_pos c1]; rfl
  · by_cases c2 : T 20 (33 + 34 * i) = 2
    · rw [if_neg c1, if_pos c2, if_neg c1, if_pos c2]; rfl
    · rw [if_neg c1, if_neg c2, if_neg c1, if_neg c2]; rfl
theorem wait_r (H : RW a n (S k) (T 20)) (hi : i < n) : ∃ b : Int32, (b = 0 ∨ b = 1) ∧ g_X2_isWaiting S k i = some b ∧ g_X9_doesWait T (nI i) = some b := by
  have h5 := H.le5
  unfold g_X2_isWaiting f_X2_isWaiting_0 f_X2_isWaiting_19 f_X2_isWaiting_20 g_X9_doesWait f_X9_doesWait_0 f_X9_doesWait_22 f_X9_doesWait_23
  rw [H.c hi (by decide), H.c0 hi, H.ab9 hi, bd1_s, of_0 T (by omega), bd1_s]
  rcases H.ab hi with hA | hA
  · rw [hA]; exact ⟨0, Or.inl rfl, rfl, rfl⟩
  · by_cases c : T 20 (33 + 34 * i) = 2
    · simp (decide := true) only [hA, c, ↓reduceIte]; exact ⟨0, Or.inl rfl, rfl, rfl⟩
    · simp (decide := true) only [hA, c, ↓reduceIte]; exact ⟨1, Or.inr rfl, rfl, rfl⟩
theorem p_leader (H : RW a n (S 0) (S 20)) : ∃ r, g_X8_leader S = some r ∧ g_X9_leader S = some r := by
  have h5 := H.le5
  refine RR.eq ?_
  unfold g_X8_leader f_X8_leader_0 f_X8_leader_7 g_X9_leader f_X9_leader_0 f_X9_leader_5
  refine RR_lp (fun d s t => ∃ i best bt, i + d = n ∧ s = (best, bt, nI i) ∧ t = (best, nI i) ∧ (best = -4 ∨ ∃ w, w < n ∧ best = nI w ∧ bt = S 20 (33 + 34 * w + 1))) ?_ n 2000 2000 _ _ (by omega) (by omega) ⟨0, -4, 0, by omega, rfl, rfl, Or.inl rfl⟩
  rintro d s t f g ⟨i, best, bt, hd, rfl, rfl, hb⟩ hr
  have K : ∀ best' bt', (best' = -4 ∨ ∃ w, w < n ∧ best' = nI w ∧ bt' = S 20 (33 + 34 * w + 1)) → i < n → RR Eq (f (best', bt', nI i + 1)) (g (best', nI i + 1)) := by
    intro best' bt' h hi
    refine hr (d - 1) _ _ (by omega) ⟨i + 1, best', bt', by omega, ?_, ?_, h⟩ <;> rw [nI_p1]
  unfold f_X8_leader_7_b f_X8_leader_52 f_X8_leader_60 f_X9_leader_5_b f_X9_leader_37 f_X9_leader_38 f_X9_leader_64 f_X9_leader_68 f_X9_leader_69
  rw [H.cn, H.cnt]
  by_cases hi : n ≤ i
  · rw [if_pos ((nI_leI (by omega) (by omega)).mpr hi), if_pos ((nI_leI (by omega) (by omega)).mpr hi)]
    exact RR.rf _
  · rw [if_neg (fun z => hi ((nI_leI (by omega) (by omega)).mp z)), if_neg (fun z => hi ((nI_leI (by omega) (by omega)).mp z)), ck_in (by omega) (by decide), nI_clamp (by omega), lead_r H (by omega), bd1_s, of_0 S (by omega), bd1_s, H.ab9 (by omega), H.c (by omega) (by decide)]
    replace hi : i < n := by omega
    rcases H.ab hi with hA | hA
    · simp (decide := true) only [hA, ↓reduceIte, bd1_s, ite_self]
      exact K _ _ hb hi
    · by_cases c : S 20 (33 + 34 * i) = 2
      · simp (decide := true) only [hA, c, ↓reduceIte, bd1_s]
        rcases hb with rfl | ⟨w, hw, rfl, rfl⟩
        · simp (decide := true) only [↓reduceIte]
          exact K _ _ (Or.inr ⟨i, hi, rfl, rfl⟩) hi
        · simp only [nI_m4 (show w < 2 ^ 31 by omega), ↓reduceIte, of_1 S (show i < 5 by omega), of_1 S (show w < 5 by omega), bd1_s]
          by_cases c2 : S 20 (33 + 34 * i + 1) ≤ S 20 (33 + 34 * w + 1)
          · rw [if_pos c2, if_pos c2]
            exact K _ _ (Or.inr ⟨w, hw, rfl, rfl⟩) hi
          · rw [if_neg c2, if_neg c2]
            exact K _ _ (Or.inr ⟨i, hi, rfl, rfl⟩) hi
      · simp (decide := true) only [hA, c, ↓reduceIte, bd1_s]
        exact K _ _ hb hi
end READ3
