/-! ===== the pure part: counting over the drivers ===== -/
section P29
variable {a a' n i j x k M : Nat} {V V' : Nat → Int32} {S S' : Mem}
def fg (op : Int32 → Int32 → Int32) (g : Nat → Int32) (x0 : Int32) : Nat → Int32
  | 0 => x0
  | j + 1 => op (fg op g x0 j) (g j)
theorem fg_e {op : Int32 → Int32 → Int32} {g g' : Nat → Int32} {x0 : Int32} : ∀ {n : Nat}, (∀ j, j < n → g' j = g j) → fg op g' x0 n = fg op g x0 n
  | 0, _ => rfl
  | n + 1, h => by
    show op _ _ = op _ _
    rw [fg_e (fun j hj => h j (Nat.lt_succ_of_lt hj)), h n (Nat.lt_succ_self n)]
theorem fold_lp {b : (Int32 × Int32 → Option Int32) → Int32 × Int32 → Option Int32} (op : Int32 → Int32 → Int32) (g : Nat → Int32) (x0 : Int32) (hn : n < 1000) (fin : ∀ x f, b f (x, nI n) = some x) (step : ∀ i x f, i < n → b f (x, nI i) = f (op x (g i), nI i + 1)) : lp b 2000 (x0, 0) = some (fg op g x0 n) := by
  have R : Gv (fun y => y = fg op g x0 n) (lp b 2000 (x0, 0)) := by
    refine Gv_lp (fun d s => ∃ i, i + d = n ∧ s = (fg op g x0 i, nI i)) ?_ n 2000 _ (by omega) ⟨0, by omega, rfl⟩
    rintro d s f ⟨i, hd, rfl⟩ K
    by_cases c : i = n
    · subst c
      rw [fin]
      exact Gv.ret rfl
    · rw [step i _ f (by omega), nI_p1]
      exact K (d - 1) _ (by omega) ⟨i + 1, by omega, rfl⟩
  obtain ⟨y, h, rfl⟩ := R
  exact h
theorem smf_fg (V : Nat → Int32) (f : Nat) : ∀ n, smf V f n = fg (· + ·) (fun j => V (33 + 34 * j + f)) 0 n
  | 0 => rfl
  | n + 1 => by
    show smf V f n + _ = _ + _
    rw [smf_fg V f n]
def abV (V : Nat → Int32) (j : Nat) : Int32 := if V (33 + 34 * j + 7) = 0 then 0 else 1
theorem aboard_o (h1 : S k 1 = nI n) (h5 : n ≤ 5) : g_X4_countAboard S k = some (fg (· + ·) (abV (S k)) 0 n) := by
  unfold g_X4_countAboard f_X4_countAboard_0 f_X4_countAboard_4
  refine fold_lp _ _ _ (by omega) (fun x f => ?_) (fun i x f hi => ?_)
  · unfold f_X4_countAboard_4_b
    simp only [h1]
    rw [ile (by omega) (by omega), if_pos (Nat.le_refl _)]
  · unfold f_X4_countAboard_4_b f_X4_countAboard_27 abV
    simp only [h1]
    rw [ile (by omega) (by omega), if_neg (by omega), ck_in (by omega) (by decide), nI_clamp (by omega)]
    by_cases c : S k (33 + 34 * i + 7) = 0
    · rw [if_pos c, if_pos c, i_add0]
    · rw [if_neg c, if_neg c]
theorem fg_01 {g : Nat → Int32} (h : ∀ j, g j = 0 ∨ g j = 1) : ∀ n, ∃ r : Nat, r ≤ n ∧ fg (· + ·) g 0 n = nI r
  | 0 => ⟨0, Nat.le_refl _, rfl⟩
  | n + 1 => by
    obtain ⟨r, hr, e⟩ := fg_01 h n
    show ∃ r, r ≤ n + 1 ∧ fg (· + ·) g 0 n + g n = nI r
    rw [e]
    rcases h n with h | h
    · exact ⟨r, by omega, by rw [h, i_add0]⟩
    · exact ⟨r + 1, by omega, by rw [h, nI_p1]⟩
theorem abV_b (V : Nat → Int32) (j : Nat) : abV V j = 0 ∨ abV V j = 1 := by
  unfold abV
  split
  · exact Or.inl rfl
  · exact Or.inr rfl
theorem creach_o (H : RO a n (S k)) (hi : i < n) : g_X4_countReached S k (nI i) = some (fg (· + ·) (rch (S k) i) 0 n) := by
  have h5 := H.le5
  unfold g_X4_countReached f_X4_countReached_0 f_X4_countReached_4
  refine fold_lp _ _ _ (by omega) (fun x f => ?_) (fun j x f hj => ?_)
  · unfold f_X4_countReached_4_b
    simp only [H.cnt]
    rw [ile (by omega) (by omega), if_pos (Nat.le_refl _)]
  · unfold f_X4_countReached_4_b f_X4_countReached_24
    simp only [H.cnt]
    rw [ile (by omega) (by omega), if_neg (by omega), reach_o H hi hj, bd1_s]
    rcases rch_b (S k) i j with c | c
    · rw [if_pos c, c, i_add0]
    · rw [if_neg (by rw [c]; decide), c]
theorem gterm_o (h1 : S k 1 = nI n) (h5 : n ≤ 5) : g_X4_greatestTerm S k = some (fg mx (fun j => S k (33 + 34 * j + 1)) 0 n) := by
  unfold g_X4_greatestTerm f_X4_greatestTerm_0 f_X4_greatestTerm_4
  refine fold_lp _ _ _ (by omega) (fun x f => ?_) (fun j x f hj => ?_)
  · unfold f_X4_greatestTerm_4_b
    simp only [h1]
    rw [ile (by omega) (by omega), if_pos (Nat.le_refl _)]
  · unfold f_X4_greatestTerm_4_b
    simp only [h1]
    rw [ile (by omega) (by omega), if_neg (by omega), ck_in (by omega) (by decide), nI_clamp (by omega)]
theorem mx_l (x y : Int32) : x ≤ mx x y := by
  unfold mx
  by_cases c : x < y
  · rw [if_pos c]; exact Int32.le_of_lt c
  · rw [if_neg c]; exact Int32.le_refl _
theorem mx_r (x y : Int32) : y ≤ mx x y := by
  unfold mx
  by_cases c : x < y
  · rw [if_pos c]; exact Int32.le_refl _
  · rw [if_neg c]; exact Int32.not_lt.mp c
theorem fg_mx {g : Nat → Int32} {x0 : Int32} : ∀ {n i : Nat}, i < n → g i ≤ fg mx g x0 n
  | 0, _, h => absurd h (Nat.not_lt_zero _)
  | n + 1, i, h => by
    show g i ≤ mx (fg mx g x0 n) (g n)
    by_cases c : i = n
    · subst c; exact mx_r _ _
    · exact Int32.le_trans (fg_mx (n := n) (by omega)) (mx_l _ _)
theorem agreed_o (h1 : S 0 1 = nI n) (h5 : n ≤ 5) : g_X8_agreed S = some (fg mx (fun j => S 0 (33 + 34 * j + 6)) 0 n) := by
  unfold g_X8_agreed f_X8_agreed_0 f_X8_agreed_4
  refine fold_lp _ _ _ (by omega) (fun x f => ?_) (fun j x f hj => ?_)
  · unfold f_X8_agreed_4_b
    simp only [h1]
    rw [ile (by omega) (by omega), if_pos (Nat.le_refl _)]
  · unfold f_X8_agreed_4_b
    simp only [h1]
    rw [ile (by omega) (by omega), if_neg (by omega), ck_in (by omega) (by decide), nI_clamp (by omega)]
theorem agreed2_o (H : RO a n (S 0)) : g_X8_agreedAgain S = some (fg mx (fun j => S 0 (33 + 34 * j + 6)) 0 n) := by
  have h5 := H.le5
  have R : Gv (fun y => y = fg mx (fun j => S 0 (33 + 34 * j + 6)) 0 n) (g_X8_agreedAgain S) := by
    unfold g_X8_agreedAgain f_X8_agreedAgain_0 f_X8_agreedAgain_4
    refine Gv_lp (fun d s => ∃ i x, i + d = n ∧ s = (x, nI i) ∧ ((i = 0 ∧ x = -1) ∨ (0 < i ∧ ∃ w, w < i ∧ x = nI w ∧ S 0 (33 + 34 * w + 6) = fg mx (fun j => S 0 (33 + 34 * j + 6)) 0 i))) ?_ n 2000 _ (by omega) ⟨0, -1, by omega, rfl, Or.inl ⟨rfl, rfl⟩⟩
    rintro d s f ⟨i, x, hd, rfl, hx⟩ K
    unfold f_X8_agreedAgain_4_b f_X8_agreedAgain_76 f_X8_agreedAgain_47 f_X8_agreedAgain_49
    simp only [H.cnt]
    rw [ile (by omega) (by omega)]
    by_cases c : n ≤ i
    · have : i = n := by omega
      subst this
      rw [if_pos c]
      rcases hx with ⟨rfl, rfl⟩ | ⟨h0, w, hw, rfl, e⟩
      · rw [if_pos rfl]; exact Gv.ret rfl
      · rw [if_neg (nI_m (by omega) (by decide)), ck_in (by omega) (by decide), nI_clamp (by omega)]
        exact Gv.ret e
    · rw [if_neg c]
      have KK : ∀ w, w < i + 1 → S 0 (33 + 34 * w + 6) = fg mx (fun j => S 0 (33 + 34 * j + 6)) 0 (i + 1) → Gv (fun y => y = fg mx (fun j => S 0 (33 + 34 * j + 6)) 0 n) (f (nI w, nI i + 1)) := fun w hw e => K (d - 1) _ (by omega) ⟨i + 1, nI w, by omega, by rw [nI_p1], Or.inr ⟨by omega, w, hw, rfl, e⟩⟩
      rcases hx with ⟨rfl, rfl⟩ | ⟨h0, w, hw, rfl, e⟩
      · rw [if_pos rfl]
        refine KK 0 (by omega) ?_
        show _ = mx 0 (S 0 (33 + 34 * 0 + 6))
        rw [H.agr 0 (by omega), show (0 : Int32) = nI 0 from rfl, mxI (by decide) (by have := H.cle (i := 0) (by omega); have := H.l12 0 (by omega); omega), Nat.zero_max]
      · rw [if_neg (nI_m (by omega) (by decide)), ck_in (by omega) (by decide), ck_in (by omega) (by decide), nI_clamp (by omega), nI_clamp (by omega)]
        by_cases c2 : S 0 (33 + 34 * i + 6) ≤ S 0 (33 + 34 * w + 6)
        · rw [if_pos c2]
          refine KK w (by omega) ?_
          show _ = mx (fg mx (fun j => S 0 (33 + 34 * j + 6)) 0 i) (S 0 (33 + 34 * i + 6))
          rw [← e]
          unfold mx
          rw [if_neg (Int32.not_lt.mpr c2)]
        · rw [if_neg c2]
          refine KK i (by omega) ?_
          show _ = mx (fg mx (fun j => S 0 (33 + 34 * j + 6)) 0 i) (S 0 (33 + 34 * i + 6))
          rw [← e]
          unfold mx
          rw [if_pos (Int32.not_le.mp c2)]
  obtain ⟨y, h, rfl⟩ := R
  exact h
/-- who leads in the highest term -/
def ldr (V : Nat → Int32) : Nat → Option Nat
  | 0 => none
  | j + 1 => if V (33 + 34 * j) = 2 then (match ldr V j with
    | none => some j
    | some w => if V (33 + 34 * j + 1) ≤ V (33 + 34 * w + 1) then some w else some j) else ldr V j
def ldI : Option Nat → Int32
  | none => -4
  | some w => nI w
theorem ldr_lt {V : Nat → Int32} : ∀ {n w : Nat}, ldr V n = some w → w < n
  | 0, w, h => by simp [ldr] at h
  | n + 1, w, h => by
    unfold ldr at h
    split at h
    · split at h
      · have := Option.some.inj h; omega
      · rename_i w' e
        have := ldr_lt e
        split at h
        · have := Option.some.inj h; omega
        · have := Option.some.inj h; omega
    · have := ldr_lt h; omega
theorem leader_o (H : RO a n (S 0)) : g_X8_leader S = some (ldI (ldr (S 0) n)) := by
  have h5 := H.le5
  have R : Gv (fun y => y = ldI (ldr (S 0) n)) (g_X8_leader S) := by
    unfold g_X8_leader f_X8_leader_0 f_X8_leader_7
    refine Gv_lp (fun d s => ∃ i x2, i + d = n ∧ s = (ldI (ldr (S 0) i), x2, nI i) ∧ (∀ w, ldr (S 0) i = some w → x2 = S 0 (33 + 34 * w + 1))) ?_ n 2000 _ (by omega) ⟨0, 0, by omega, rfl, fun w h => by simp [ldr] at h⟩
    rintro d s f ⟨i, x2, hd, rfl, hx⟩ K
    unfold f_X8_leader_7_b f_X8_leader_60 f_X8_leader_52 f_X8_leader_60
    simp only [H.cnt]
    rw [ile (by omega) (by omega)]
    by_cases c : n ≤ i
    · have : i = n := by omega
      subst this
      rw [if_pos c]
      exact Gv.ret rfl
    · rw [if_neg c, ck_in (by omega) (by decide), nI_clamp (by omega), lead_o H (by omega), bd1_s]
      by_cases c1 : S 0 (33 + 34 * i) = 2
      · rw [if_pos c1, if_neg (by decide)]
        cases e : ldr (S 0) i with
        | none =>
          have e2 : ldr (S 0) (i + 1) = some i := by
            show (if S 0 (33 + 34 * i) = 2 then _ else _) = _
            rw [if_pos c1, e]
          rw [show ldI none = -4 from rfl, if_pos rfl]
          exact K (d - 1) _ (by omega) ⟨i + 1, _, by omega, by rw [e2, nI_p1]; rfl, fun w h => by rw [e2] at h; rw [Option.some.inj h]⟩
        | some w =>
          have hw := ldr_lt e
          rw [show ldI (some w) = nI w from rfl, if_neg (nI_m (by omega) (by decide)), hx w e]
          by_cases c2 : S 0 (33 + 34 * i + 1) ≤ S 0 (33 + 34 * w + 1)
          · have e2 : ldr (S 0) (i + 1) = some w := by
              show (if S 0 (33 + 34 * i) = 2 then _ else _) = _
              rw [if_pos c1, e]
              exact if_pos c2
            rw [if_pos c2]
            exact K (d - 1) _ (by omega) ⟨i + 1, _, by omega, by rw [e2, nI_p1]; rfl, fun w' h => by rw [e2] at h; rw [Option.some.inj h]⟩
          · have e2 : ldr (S 0) (i + 1) = some i := by
              show (if S 0 (33 + 34 * i) = 2 then _ else _) = _
              rw [if_pos c1, e]
              exact if_neg c2
            rw [if_neg c2]
            exact K (d - 1) _ (by omega) ⟨i + 1, _, by omega, by rw [e2, nI_p1]; rfl, fun w' h => by rw [e2] at h; rw [Option.some.inj h]⟩
      · have e2 : ldr (S 0) (i + 1) = ldr (S 0) i := by
          show (if S 0 (33 + 34 * i) = 2 then _ else _) = _
          rw [if_neg c1]
        rw [if_neg c1, if_pos rfl]
        exact K (d - 1) _ (by omega) ⟨i + 1, x2, by omega, by rw [e2, nI_p1], fun w h => hx w (by rw [← e2]; exact h)⟩
  obtain ⟨y, h, rfl⟩ := R
  exact h
theorem isSafe_o (H : RO a n (S 0)) : g_X8_isSafe S = some 1 := by
  have h5 := H.le5
  have R : Gv (fun y => y = (1 : Int32)) (g_X8_isSafe S) := by
    unfold g_X8_isSafe f_X8_isSafe_0 f_X8_isSafe_2
    refine Gv_lp (fun d s => ∃ i, i + d = n ∧ s = nI i) ?_ n 2000 _ (by omega) ⟨0, by omega, rfl⟩
    rintro d s f ⟨i, hd, rfl⟩ K
    unfold f_X8_isSafe_2_b f_X8_isSafe_15
    simp only [H.cnt]
    rw [ile (by omega) (by omega)]
    by_cases c : n ≤ i
    · rw [if_pos c]; exact Gv.ret rfl
    · rw [if_neg c]
      refine Gv_lp (fun d s => ∃ j, j + d = i ∧ s = nI j) ?_ i 2000 _ (by omega) ⟨0, by omega, rfl⟩
      rintro d' s g ⟨j, hd', rfl⟩ K2
      unfold f_X8_isSafe_15_b
      rw [ile (by omega) (by omega)]
      by_cases c2 : i ≤ j
      · rw [if_pos c2, nI_p1]
        exact K (d - 1) _ (by omega) ⟨i + 1, by omega, rfl⟩
      · have hi : i < n := by omega
        have hj : j < n := by omega
        obtain ⟨q, q1, q2, q3, q4, q5⟩ := same_o (S := S) (k := 0) (i := i) (j := j) (H.many i hi) (H.many j hj)
        have l1 := H.l12 i hi
        have l2 := H.l12 j hj
        have l3 := H.cle hi
        have l4 := H.cle hj
        rw [if_neg c2, ck_in (by omega) (by decide), ck_in (by omega) (by decide), nI_clamp (by omega), nI_clamp (by omega), q5, bd1_s, H.agr i hi, H.agr j hj, mnI (by omega) (by omega), ile (by omega) (by omega), nI_p1]
        have : min (rC (S 0) i) (rC (S 0) j) ≤ q := by
          refine Nat.le_of_not_lt fun z => q4 (by omega) (by omega) ?_
          exact st_safe H.iv hi hj (by omega) (by omega)
        rw [if_pos this]
        exact K2 (d' - 1) _ (by omega) ⟨j + 1, by omega, rfl⟩
  obtain ⟨y, h, rfl⟩ := R
  exact h
end P29
