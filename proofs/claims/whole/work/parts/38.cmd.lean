/-! ===== the pure part: commands ===== -/
section CMD
variable {a a' n n' k k' i j m m' x y g q M N : Nat} {S T S' T' : Mem} {r : Int32}
/-- the reasons agree -/
def RS (S T : Mem) : Prop := S 11 4 = T 28 6 ∧ S 11 5 = T 28 7 ∧ S 11 6 = T 28 8 ∧ (T 28 8 ≠ 0 → S 11 7 = T 28 9)
def FC (S S' : Mem) : Prop := (∀ b, b ≠ 0 → b ≠ 11 → S' b = S b) ∧ ∀ j, (j < 4 ∨ 8 ≤ j) → S' 11 j = S 11 j
def FT (T T' : Mem) : Prop := (∀ b, b ≠ 20 → b ≠ 28 → T' b = T b) ∧ ∀ j, (j < 6 ∨ 10 ≤ j) → T' 28 j = T 28 j
theorem FC.tr {S1 S2 : Mem} (h : FC S S1) (h' : FC S1 S2) : FC S S2 := ⟨fun b h1 h2 => (h'.1 b h1 h2).trans (h.1 b h1 h2), fun j hj => (h'.2 j hj).trans (h.2 j hj)⟩
theorem FT.tr {S1 S2 : Mem} (h : FT S S1) (h' : FT S1 S2) : FT S S2 := ⟨fun b h1 h2 => (h'.1 b h1 h2).trans (h.1 b h1 h2), fun j hj => (h'.2 j hj).trans (h.2 j hj)⟩
/-- a command done by both -/
def CM (a : Nat) (S T : Mem) (x y : Option (Int32 × Mem)) : Prop := ∃ r S' T' a' n', x = some (r, S') ∧ y = some (r, T') ∧ a ≤ a' ∧ a' ≤ a + 100 ∧ RW a' n' (S' 0) (T' 20) ∧ RS S' T' ∧ FC S S' ∧ FT T T'
theorem CM.of (P : PO 0 a' n S T S' T') (R : RS S T) (h1 : a ≤ a') (h2 : a' ≤ a + 100) : CM a S T (some (r, S')) (some (r, T')) := by
  refine ⟨r, S', T', a', n, rfl, rfl, h1, h2, P.1, ?_, ⟨fun b h _ => P.2.1 b h, fun j _ => by rw [P.2.1 11 (by decide)]⟩, ⟨fun b h _ => P.2.2.1 b h, fun j _ => by rw [P.2.2.1 28 (by decide)]⟩⟩
  unfold RS
  rw [P.2.1 11 (by decide), P.2.2.1 28 (by decide)]
  exact R
theorem CM.same (H : RW a n (S 0) (T 20)) (R : RS S T) : CM a S T (some (r, S)) (some (r, T)) := CM.of (PO.rf H) R (Nat.le_refl _) (by omega)
/-- what a refusal leaves -/
def rfC (S : Mem) (q d : Int32) : Mem := up (up (up (up S 11 4 q) 11 5 d) 11 6 0) 11 7 0
def rfT (T : Mem) (q d : Int32) : Mem := up (up (up T 28 6 q) 28 7 d) 28 8 0
theorem CM.ref (H : RW a n (S 0) (T 20)) (q d : Int32) : CM a S T (some (-3, rfC S q d)) (some (-3, rfT T q d)) := by
  unfold rfC rfT
  refine ⟨-3, _, _, a, n, rfl, rfl, Nat.le_refl _, by omega, ?_, ?_, ⟨?_, ?_⟩, ⟨?_, ?_⟩⟩
  · simp only [up_oth _ _ _ (show 0 ≠ 11 by decide), up_oth _ _ _ (show 20 ≠ 28 by decide)]
    exact H
  · refine ⟨?_, ?_, ?_, ?_⟩
    · simp (disch := omega) only [up_ne, up_same]
    · simp (disch := omega) only [up_ne, up_same]
    · simp (disch := omega) only [up_ne, up_same]
    · simp (disch := omega) only [up_ne, up_same]
      exact fun z => absurd rfl z
  · intro b h1 h2
    simp only [up_oth _ _ _ h2]
  · intro j hj
    simp (disch := omega) only [up_ne, up_same]
  · intro b h1 h2
    simp only [up_oth _ _ _ h2]
  · intro j hj
    simp (disch := omega) only [up_ne, up_same]
theorem ref8 (q d : Int32) : g_X8_refuse S q d = some (-3, rfC S q d) := rfl
theorem ref9_1 (q d : Int32) : g_X9_isRefused T 1 q d = some (1, rfT T q d) := rfl
theorem ref9_0 (q d : Int32) : g_X9_isRefused T 0 q d = some (0, T) := rfl
theorem wash9_0 (H : RW a n (S k) (T 20)) (hi : i < n) (hA : T 20 (33 + 34 * i + 7) = 0) : g_X9_isWashed T (nI i) = some (1, rfT T 2 (nI i)) := by
  unfold g_X9_isWashed f_X9_isWashed_0 f_X9_isWashed_14
  rw [H.ab9 hi, hA]
  rfl
theorem wash9_1 (H : RW a n (S k) (T 20)) (hi : i < n) (hA : T 20 (33 + 34 * i + 7) = 1) : g_X9_isWashed T (nI i) = some (0, T) := by
  unfold g_X9_isWashed f_X9_isWashed_0 f_X9_isWashed_14
  rw [H.ab9 hi, hA]
  rfl
theorem c_ask (H : RW a n (S 0) (T 20)) (R : RS S T) (hB : a + 100 < 9000000) (x : Int32) : CM a S T (g_X8_letAsk S x) (g_X9_asks T x) := by
  have h5 := H.le5
  unfold g_X8_letAsk f_X8_letAsk_0 g_X9_asks f_X9_asks_0
  rcases has_r H x with ⟨i, hi, rfl, h1, h2⟩ | ⟨h1, h2⟩
  · simp (decide := true) only [h1, h2, bd1_s, ↓reduceIte, ck_in (show i < 5 by omega) (show 5 < 2 ^ 31 by decide), nI_clamp (show i < 2 ^ 31 by omega), H.fld i hi, H.c0 hi]
    rcases H.ab hi with hA | hA
    · rw [wash9_0 H hi hA]
      simp (decide := true) only [hA, ↓reduceIte, bd2_s, ref8]
      exact CM.ref H _ _
    · rw [wash9_1 H hi hA]
      unfold f_X9_asks_34
      simp (decide := true) only [hA, ↓reduceIte, bd2_s, of_0 T (show i < 5 by omega), of_1 T (show i < 5 by omega), bd1_s]
      by_cases c : T 20 (33 + 34 * i) = 2
      · simp (decide := true) only [c, ↓reduceIte, ref8, ref9_1, bd2_s]
        exact CM.ref H _ _
      · obtain ⟨g, S', T', -, g1, g2, P⟩ := gather_r H hi hA (by omega)
        simp (decide := true) only [c, ↓reduceIte, ref9_0, bd2_s, g1, g2]
        exact CM.of P R (by omega) (by omega)
  · simp (decide := true) only [h1, h2, bd1_s, ↓reduceIte]
    exact CM.same H R
theorem nol9 (H : RW a n (S k) (T 20)) (hi : i < n) : g_X9_isNoLeader T (nI i) = if T 20 (33 + 34 * i + 7) = 0 then some (1, rfT T 2 (nI i)) else if T 20 (33 + 34 * i) = 2 then some (0, T) else some (1, rfT T 4 (T 20 (33 + 34 * i + 1))) := by
  have h5 := H.le5
  unfold g_X9_isNoLeader f_X9_isNoLeader_0 f_X9_isNoLeader_24 f_X9_isNoLeader_37 f_X9_isNoLeader_42
  rcases H.ab hi with hA | hA
  · rw [wash9_0 H hi hA, hA]
    rfl
  · rw [wash9_1 H hi hA, hA]
    by_cases c : T 20 (33 + 34 * i) = 2
    · simp (decide := true) only [c, ↓reduceIte, bd2_s, of_0 T (show i < 5 by omega), of_1 T (show i < 5 by omega), bd1_s, ref9_0, ck_0]
    · simp (decide := true) only [c, ↓reduceIte, bd2_s, of_0 T (show i < 5 by omega), of_1 T (show i < 5 by omega), bd1_s, ref9_1, ck_1]
theorem c_send (H : RW a n (S 0) (T 20)) (R : RS S T) (x : Int32) : CM a S T (g_X8_letSend S x) (g_X9_sends T x) := by
  have h5 := H.le5
  unfold g_X8_letSend f_X8_letSend_0 g_X9_sends f_X9_sends_0 f_X9_sends_28
  rcases has_r H x with ⟨i, hi, rfl, h1, h2⟩ | ⟨h1, h2⟩
  · rw [nol9 H hi]
    simp (decide := true) only [h1, h2, bd1_s, ↓reduceIte, ck_in (show i < 5 by omega) (show 5 < 2 ^ 31 by decide), nI_clamp (show i < 2 ^ 31 by omega), H.fld i hi, H.c0 hi]
    rcases H.ab hi with hA | hA
    · simp (decide := true) only [hA, ↓reduceIte, bd2_s, ref8]
      exact CM.ref H _ _
    · by_cases c : T 20 (33 + 34 * i) = 2
      · obtain ⟨g, S', T', -, g1, g2, P⟩ := send_r H hi
        simp (decide := true) only [hA, c, ↓reduceIte, bd2_s, g1, g2]
        exact CM.of P R (Nat.le_refl _) (by omega)
      · simp (decide := true) only [hA, c, ↓reduceIte, ref8, bd2_s]
        exact CM.ref H _ _
  · simp (decide := true) only [h1, h2, bd1_s, ↓reduceIte]
    exact CM.same H R
/-- PO without the same aboard -/
theorem CM.of' (H : RW a' n (S' 0) (T' 20)) (F : Fr 0 S S') (F' : Fr 20 T T') (R : RS S T) (h1 : a ≤ a') (h2 : a' ≤ a + 100) : CM a S T (some (r, S')) (some (r, T')) := by
  refine ⟨r, S', T', a', n, rfl, rfl, h1, h2, H, ?_, ⟨fun b h _ => F b h, fun j _ => by rw [F 11 (by decide)]⟩, ⟨fun b h _ => F' b h, fun j _ => by rw [F' 28 (by decide)]⟩⟩
  unfold RS
  rw [F 11 (by decide), F' 28 (by decide)]
  exact R
theorem c_wash (H : RW a n (S 0) (T 20)) (R : RS S T) (x : Int32) : CM a S T (g_X8_washAway S x) (g_X9_washes T x) := by
  have h5 := H.le5
  unfold g_X8_washAway f_X8_washAway_0 g_X9_washes f_X9_washes_0
  rcases has_r H x with ⟨i, hi, rfl, h1, h2⟩ | ⟨h1, h2⟩
  · simp (decide := true) only [h1, h2, bd1_s, ↓reduceIte, ck_in (show i < 5 by omega) (show 5 < 2 ^ 31 by decide), nI_clamp (show i < 2 ^ 31 by omega), H.fld i hi, H.c0 hi]
    rcases H.ab hi with hA | hA
    · rw [wash9_0 H hi hA]
      simp (decide := true) only [hA, ↓reduceIte, bd2_s, ref8]
      exact CM.ref H _ _
    · rw [wash9_1 H hi hA, bd2_s, if_pos rfl, sets_7 _ _ (by omega), bd1_s, sets_0 _ _ (by omega), bd1_s, if_neg (by rw [hA]; decide)]
      have H2 : RW a n ((up (up S 0 (33 + 34 * i + 7) 0) 0 (33 + 34 * i) 0) 0) ((up (up T 20 (33 + 34 * i + 7) 0) 20 (33 + 34 * i) 0) 20) := by
        refine H.put' hi (Nat.le_refl _) H.aB ?_ ?_ ?_ ?_ ?_ ?_ ?_ ?_ ?_ ?_ ?_
        · intro c _ _ _ _ _ _ _ _ _ _
          constructor <;> simp (disch := omega) only [up_ne, up_same]
        · simp (disch := omega) only [up_ne, up_same]; exact H.cnt
        · simp (disch := omega) only [up_ne, up_same]; exact H.ask
        · intro f hf; simp only [up_at, true_and, H.hd f hf]
        · intro f hf _; simp only [up_at, true_and, H.c hi hf]
        · simp (disch := omega) only [up_ne, up_same]; exact Or.inl trivial
        · simp (disch := omega) only [up_ne, up_same]; exact H.term i hi
        · simp (disch := omega) only [up_ne, up_same]; exact H.vote i hi
        · simp (disch := omega) only [up_ne, up_same]; exact Int32.le_refl _
        · simp (disch := omega) only [up_ne, up_same]; exact H.agr i hi
        · simp (disch := omega) only [up_ne, up_same]; exact Or.inl ⟨trivial, trivial⟩
      obtain ⟨r, -, r1, r2⟩ := cab_r H2
      rw [r1, r2, bd1_s, bd1_s]
      exact CM.of' H2 ((Fr.rf.up _ _).up _ _) ((Fr.rf.up _ _).up _ _) R (Nat.le_refl _) (by omega)
  · simp (decide := true) only [h1, h2, bd1_s, ↓reduceIte]
    exact CM.same H R
theorem c_back (H : RW a n (S 0) (T 20)) (R : RS S T) (x : Int32) : CM a S T (g_X8_bringBack S x) (g_X9_comesBack T x) := by
  have h5 := H.le5
  unfold g_X8_bringBack f_X8_bringBack_0 g_X9_comesBack f_X9_comesBack_0
  rcases has_r H x with ⟨i, hi, rfl, h1, h2⟩ | ⟨h1, h2⟩
  · simp (decide := true) only [h1, h2, bd1_s, ↓reduceIte, ck_in (show i < 5 by omega) (show 5 < 2 ^ 31 by decide), nI_clamp (show i < 2 ^ 31 by omega), H.fld i hi, H.c0 hi, H.ab9 hi]
    rcases H.ab hi with hA | hA
    · have hr : T 20 (33 + 34 * i) = 0 := by
        rcases H.abd i hi with h | h
        · exact h.2
        · rw [hA] at h; exact absurd h (by decide)
      rw [hA, ref9_0, bd2_s, if_pos rfl, if_pos rfl, sets_7 _ _ (by omega), bd1_s, sets_0 _ _ (by omega), bd1_s, sets_3 _ _ (by omega), bd1_s]
      have H2 : RW a n ((up (up S 0 (33 + 34 * i + 7) 1) 0 (33 + 34 * i + 3) 0) 0) ((up (up (up T 20 (33 + 34 * i + 7) 1) 20 (33 + 34 * i) 0) 20 (33 + 34 * i + 3) 0) 20) := by
        rw [up_id (up T 20 (33 + 34 * i + 7) 1) (b := 20) (c := 33 + 34 * i) (u := 0) (by simp (disch := omega) only [up_ne, up_same]; exact hr)]
        refine H.put' hi (Nat.le_refl _) H.aB ?_ ?_ ?_ ?_ ?_ ?_ ?_ ?_ ?_ ?_ ?_
        · intro c _ _ _ _ _ _ _ _ _ _
          constructor <;> simp (disch := omega) only [up_ne, up_same]
        · simp (disch := omega) only [up_ne, up_same]; exact H.cnt
        · simp (disch := omega) only [up_ne, up_same]; exact H.ask
        · intro f hf; simp only [up_at, true_and, H.hd f hf]
        · intro f hf _; simp only [up_at, true_and, H.c hi hf]
        · simp (disch := omega) only [up_ne, up_same]; exact H.role i hi
        · simp (disch := omega) only [up_ne, up_same]; exact H.term i hi
        · simp (disch := omega) only [up_ne, up_same]; exact H.vote i hi
        · simp (disch := omega) only [up_ne, up_same]; exact Int32.le_refl _
        · simp (disch := omega) only [up_ne, up_same]; exact H.agr i hi
        · simp (disch := omega) only [up_ne, up_same]; exact Or.inr trivial
      obtain ⟨r, -, r1, r2⟩ := cab_r H2
      rw [r1, r2, bd1_s, bd1_s]
      exact CM.of' H2 ((Fr.rf.up _ _).up _ _) (((Fr.rf.up _ _).up _ _).up _ _) R (Nat.le_refl _) (by omega)
    · simp (decide := true) only [hA, ↓reduceIte, bd2_s, ref8, ref9_1]
      exact CM.ref H _ _
  · simp (decide := true) only [h1, h2, bd1_s, ↓reduceIte]
    exact CM.same H R
end CMD
