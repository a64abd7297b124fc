/-! ===== the pure part: rows, relations, loops ===== -/
/-- both sides give, and what they give is related -/
def RR {α β : Type} (P : α → β → Prop) (x : Option α) (y : Option β) : Prop := ∃ a b, x = some a ∧ y = some b ∧ P a b
theorem RR.ret {α β : Type} {P : α → β → Prop} {a : α} {b : β} (h : P a b) : RR P (some a) (some b) := ⟨a, b, rfl, rfl, h⟩
theorem RR.bd {α β γ δ : Type} {Q : α → β → Prop} {P : γ → δ → Prop} {x : Option α} {y : Option β} {f : α → Option γ} {g : β → Option δ} (h : RR Q x y) (k : ∀ a b, Q a b → RR P (f a) (g b)) : RR P (bd1 x f) (bd1 y g) := by
  obtain ⟨a, b, rfl, rfl, q⟩ := h
  exact k a b q
theorem RR.bdd {α β α' β' γ δ : Type} {Q : α × α' → β × β' → Prop} {P : γ → δ → Prop} {x : Option (α × α')} {y : Option (β × β')} {f : α → α' → Option γ} {g : β → β' → Option δ} (h : RR Q x y) (k : ∀ a a' b b', Q (a, a') (b, b') → RR P (f a a') (g b b')) : RR P (bd2 x f) (bd2 y g) := by
  obtain ⟨⟨a, a'⟩, ⟨b, b'⟩, rfl, rfl, q⟩ := h
  exact k a a' b b' q
theorem RR.mono {α β : Type} {P Q : α → β → Prop} {x : Option α} {y : Option β} (h : RR P x y) (k : ∀ a b, P a b → Q a b) : RR Q x y := by
  obtain ⟨a, b, h1, h2, h3⟩ := h
  exact ⟨a, b, h1, h2, k a b h3⟩
theorem RR_lp {σ τ ρ π : Type} {b : (σ → Option ρ) → σ → Option ρ} {c : (τ → Option π) → τ → Option π} {P : ρ → π → Prop} (J : Nat → σ → τ → Prop) (step : ∀ n s t f g, J n s t → (∀ m s' t', m < n → J m s' t' → RR P (f s') (g t')) → RR P (b f s) (c g t)) : ∀ n F G s t, n < F → n < G → J n s t → RR P (lp b F s) (lp c G t) := by
  intro n
  induction n using Nat.strongRecOn with
  | _ n ih =>
    intro F G s t hF hG hJ
    cases F with
    | zero => omega
    | succ F =>
      cases G with
      | zero => omega
      | succ G =>
        exact step n s t _ _ hJ (fun m s' t' hm hJ' => ih m hm F G s' t' (by omega) (by omega) hJ')
/-- one loop alone -/
def Gv {α : Type} (P : α → Prop) (x : Option α) : Prop := ∃ a, x = some a ∧ P a
theorem Gv.ret {α : Type} {P : α → Prop} {a : α} (h : P a) : Gv P (some a) := ⟨a, rfl, h⟩
theorem Gv.bd {α β : Type} {Q : α → Prop} {P : β → Prop} {x : Option α} {f : α → Option β} (h : Gv Q x) (k : ∀ a, Q a → Gv P (f a)) : Gv P (bd1 x f) := by
  obtain ⟨a, rfl, q⟩ := h
  exact k a q
theorem Gv.bdd {α α' β : Type} {Q : α × α' → Prop} {P : β → Prop} {x : Option (α × α')} {f : α → α' → Option β} (h : Gv Q x) (k : ∀ a a', Q (a, a') → Gv P (f a a')) : Gv P (bd2 x f) := by
  obtain ⟨⟨a, a'⟩, rfl, q⟩ := h
  exact k a a' q
theorem Gv_lp {σ ρ : Type} {b : (σ → Option ρ) → σ → Option ρ} {P : ρ → Prop} (J : Nat → σ → Prop) (step : ∀ n s f, J n s → (∀ m s', m < n → J m s' → Gv P (f s')) → Gv P (b f s)) : ∀ n F s, n < F → J n s → Gv P (lp b F s) := by
  intro n
  induction n using Nat.strongRecOn with
  | _ n ih =>
    intro F s hF hJ
    cases F with
    | zero => omega
    | succ F => exact step n s _ hJ (fun m s' hm hJ' => ih m hm F s' (by omega) hJ')
theorem bd1_s {α β : Type} (a : α) (f : α → Option β) : bd1 (some a) f = f a := rfl
theorem bd2_s {α γ β : Type} (a : α) (c : γ) (f : α → γ → Option β) : bd2 (some (a, c)) f = f a c := rfl
theorem up_row (S : Mem) (b j : Nat) (x : Int32) : up S b j x b = fun j' => if j' = j then x else S b j' := by
  funext j'
  by_cases h : j' = j
  · simp [up, h]
  · simp [up, h]
theorem up_oth (S : Mem) {b b' : Nat} (j : Nat) (x : Int32) (h : b' ≠ b) : up S b j x b' = S b' := by
  funext j'
  simp [up, h]
theorem up_at (S : Mem) (b j b' j' : Nat) (x : Int32) : up S b j x b' j' = if b' = b ∧ j' = j then x else S b' j' := rfl
theorem inb_nI {m N : Nat} (h : m < 2 ^ 31) : inb (nI m) N = decide (m < N) := by
  have h1 : (nI m).toNatClampNeg = m := nI_clamp h
  have h2 : 0 ≤ nI m := nI_pos' h
  unfold inb
  rw [h1]
  simp [h2]
theorem inb_t {m N : Nat} (h : m < N) (hN : N < 2 ^ 31) : inb (nI m) N = true := by
  rw [inb_nI (by omega)]
  simpa using h
theorem isb_0 : isb 0 = true := by decide
theorem isb_1 : isb 1 = true := by decide
theorem at_nI {i w : Nat} : ((33 : Int32) + (34 : Int32) * nI i) + nI w = nI (33 + 34 * i + w) := by
  rw [show (33 : Int32) = nI 33 from rfl, show (34 : Int32) = nI 34 from rfl, pk_mul, nI_add, nI_add]
theorem of_n (T : Mem) {i w : Nat} (hi : i < 5) (hw : w < 34) : g_X9_of T (nI i) (nI w) = some (T 20 (33 + 34 * i + w)) := by
  unfold g_X9_of f_X9_of_0 g_X9_at f_X9_at_0
  rw [bd1_s, at_nI, ck_t _ (inb_t (by omega) (by decide)), nI_clamp (by omega)]
theorem sets_n (T : Mem) {i w : Nat} (x : Int32) (hi : i < 5) (hw : w < 34) : g_X9_sets T (nI i) (nI w) x = some (up T 20 (33 + 34 * i + w) x) := by
  unfold g_X9_sets f_X9_sets_0 g_X9_at f_X9_at_0
  rw [bd1_s, at_nI, ck_t _ (inb_t (by omega) (by decide)), nI_clamp (by omega)]
theorem of_0 (T : Mem) {i : Nat} (hi : i < 5) : g_X9_of T (nI i) (0 : Int32) = some (T 20 (33 + 34 * i)) := of_n (w := 0) T hi (by decide)
theorem sets_0 (T : Mem) {i : Nat} (x : Int32) (hi : i < 5) : g_X9_sets T (nI i) (0 : Int32) x = some (up T 20 (33 + 34 * i) x) := sets_n (w := 0) T x hi (by decide)
theorem of_1 (T : Mem) {i : Nat} (hi : i < 5) : g_X9_of T (nI i) (1 : Int32) = some (T 20 (33 + 34 * i + 1)) := of_n (w := 1) T hi (by decide)
theorem sets_1 (T : Mem) {i : Nat} (x : Int32) (hi : i < 5) : g_X9_sets T (nI i) (1 : Int32) x = some (up T 20 (33 + 34 * i + 1) x) := sets_n (w := 1) T x hi (by decide)
theorem of_2 (T : Mem) {i : Nat} (hi : i < 5) : g_X9_of T (nI i) (2 : Int32) = some (T 20 (33 + 34 * i + 2)) := of_n (w := 2) T hi (by decide)
theorem sets_2 (T : Mem) {i : Nat} (x : Int32) (hi : i < 5) : g_X9_sets T (nI i) (2 : Int32) x = some (up T 20 (33 + 34 * i + 2) x) := sets_n (w := 2) T x hi (by decide)
theorem of_3 (T : Mem) {i : Nat} (hi : i < 5) : g_X9_of T (nI i) (3 : Int32) = some (T 20 (33 + 34 * i + 3)) := of_n (w := 3) T hi (by decide)
theorem sets_3 (T : Mem) {i : Nat} (x : Int32) (hi : i < 5) : g_X9_sets T (nI i) (3 : Int32) x = some (up T 20 (33 + 34 * i + 3) x) := sets_n (w := 3) T x hi (by decide)
theorem of_4 (T : Mem) {i : Nat} (hi : i < 5) : g_X9_of T (nI i) (4 : Int32) = some (T 20 (33 + 34 * i + 4)) := of_n (w := 4) T hi (by decide)
theorem sets_4 (T : Mem) {i : Nat} (x : Int32) (hi : i < 5) : g_X9_sets T (nI i) (4 : Int32) x = some (up T 20 (33 + 34 * i + 4) x) := sets_n (w := 4) T x hi (by decide)
theorem of_5 (T : Mem) {i : Nat} (hi : i < 5) : g_X9_of T (nI i) (5 : Int32) = some (T 20 (33 + 34 * i + 5)) := of_n (w := 5) T hi (by decide)
theorem sets_5 (T : Mem) {i : Nat} (x : Int32) (hi : i < 5) : g_X9_sets T (nI i) (5 : Int32) x = some (up T 20 (33 + 34 * i + 5) x) := sets_n (w := 5) T x hi (by decide)
theorem of_6 (T : Mem) {i : Nat} (hi : i < 5) : g_X9_of T (nI i) (6 : Int32) = some (T 20 (33 + 34 * i + 6)) := of_n (w := 6) T hi (by decide)
theorem sets_6 (T : Mem) {i : Nat} (x : Int32) (hi : i < 5) : g_X9_sets T (nI i) (6 : Int32) x = some (up T 20 (33 + 34 * i + 6) x) := sets_n (w := 6) T x hi (by decide)
theorem of_7 (T : Mem) {i : Nat} (hi : i < 5) : g_X9_of T (nI i) (7 : Int32) = some (T 20 (33 + 34 * i + 7)) := of_n (w := 7) T hi (by decide)
theorem sets_7 (T : Mem) {i : Nat} (x : Int32) (hi : i < 5) : g_X9_sets T (nI i) (7 : Int32) x = some (up T 20 (33 + 34 * i + 7) x) := sets_n (w := 7) T x hi (by decide)
theorem of_8 (T : Mem) {i : Nat} (hi : i < 5) : g_X9_of T (nI i) (8 : Int32) = some (T 20 (33 + 34 * i + 8)) := of_n (w := 8) T hi (by decide)
theorem sets_8 (T : Mem) {i : Nat} (x : Int32) (hi : i < 5) : g_X9_sets T (nI i) (8 : Int32) x = some (up T 20 (33 + 34 * i + 8) x) := sets_n (w := 8) T x hi (by decide)
theorem of_9 (T : Mem) {i : Nat} (hi : i < 5) : g_X9_of T (nI i) (9 : Int32) = some (T 20 (33 + 34 * i + 9)) := of_n (w := 9) T hi (by decide)
theorem sets_9 (T : Mem) {i : Nat} (x : Int32) (hi : i < 5) : g_X9_sets T (nI i) (9 : Int32) x = some (up T 20 (33 + 34 * i + 9) x) := sets_n (w := 9) T x hi (by decide)
theorem of_t (T : Mem) {i l : Nat} (hi : i < 5) (hl : l < 12) : g_X9_of T (nI i) ((10 : Int32) + nI l) = some (T 20 (33 + 34 * i + 10 + l)) := by
  rw [show (10 : Int32) = nI 10 from rfl, nI_add, of_n T hi (by omega), show 33 + 34 * i + (10 + l) = 33 + 34 * i + 10 + l by omega]
theorem sets_t (T : Mem) {i l : Nat} (x : Int32) (hi : i < 5) (hl : l < 12) : g_X9_sets T (nI i) ((10 : Int32) + nI l) x = some (up T 20 (33 + 34 * i + 10 + l) x) := by
  rw [show (10 : Int32) = nI 10 from rfl, nI_add, sets_n T x hi (by omega), show 33 + 34 * i + (10 + l) = 33 + 34 * i + 10 + l by omega]
theorem of_tp (T : Mem) {i l : Nat} (hi : i < 5) (h0 : 0 < l) (hl : l < 13) : g_X9_of T (nI i) (((10 : Int32) + nI l) - 1) = some (T 20 (33 + 34 * i + 10 + (l - 1))) := by
  rw [show (10 : Int32) = nI 10 from rfl, nI_add, show (1 : Int32) = nI 1 from rfl, pk_sub (by omega), of_n T hi (by omega), show 33 + 34 * i + (10 + l - 1) = 33 + 34 * i + 10 + (l - 1) by omega]
theorem of_l (T : Mem) {i l : Nat} (hi : i < 5) (hl : l < 12) : g_X9_of T (nI i) ((22 : Int32) + nI l) = some (T 20 (33 + 34 * i + 22 + l)) := by
  rw [show (22 : Int32) = nI 22 from rfl, nI_add, of_n T hi (by omega), show 33 + 34 * i + (22 + l) = 33 + 34 * i + 22 + l by omega]
theorem sets_l (T : Mem) {i l : Nat} (x : Int32) (hi : i < 5) (hl : l < 12) : g_X9_sets T (nI i) ((22 : Int32) + nI l) x = some (up T 20 (33 + 34 * i + 22 + l) x) := by
  rw [show (22 : Int32) = nI 22 from rfl, nI_add, sets_n T x hi (by omega), show 33 + 34 * i + (22 + l) = 33 + 34 * i + 22 + l by omega]
theorem of_lp (T : Mem) {i l : Nat} (hi : i < 5) (h0 : 0 < l) (hl : l < 13) : g_X9_of T (nI i) (((22 : Int32) + nI l) - 1) = some (T 20 (33 + 34 * i + 22 + (l - 1))) := by
  rw [show (22 : Int32) = nI 22 from rfl, nI_add, show (1 : Int32) = nI 1 from rfl, pk_sub (by omega), of_n T hi (by omega), show 33 + 34 * i + (22 + l - 1) = 33 + 34 * i + 22 + (l - 1) by omega]
theorem nI_p1 (a : Nat) : nI a + (1 : Int32) = nI (a + 1) := nI_add a 1
theorem nI_m1 {a : Nat} (h : 0 < a) : nI a - (1 : Int32) = nI (a - 1) := pk_sub (b := 1) h
theorem le0I {a : Nat} (h : a < 2 ^ 31) : (nI a ≤ (0 : Int32)) ↔ a = 0 := (nI_leI (b := 0) h (by decide)).trans Nat.le_zero
theorem z_eqI {a : Nat} (h : a < 2 ^ 31) : (nI a = (0 : Int32)) ↔ a = 0 := nI_eq (b := 0) h (by decide)
theorem z_leI {a : Nat} (h : a < 2 ^ 31) : ((0 : Int32) ≤ nI a) ↔ True := ⟨fun _ => trivial, fun _ => nI_pos' h⟩
theorem lt0I {a : Nat} (h : a < 2 ^ 31) : (nI a < (0 : Int32)) ↔ False := ⟨fun z => nI_pos h z, False.elim⟩
theorem mnI {a b : Nat} (ha : a < 2 ^ 31) (hb : b < 2 ^ 31) : mn (nI a) (nI b) = nI (min a b) := by
  unfold mn
  by_cases h : b < a
  · rw [if_pos ((nI_ltI hb ha).mpr h), Nat.min_eq_right (by omega)]
  · rw [if_neg (fun z => h ((nI_ltI hb ha).mp z)), Nat.min_eq_left (by omega)]
theorem mxI {a b : Nat} (ha : a < 2 ^ 31) (hb : b < 2 ^ 31) : mx (nI a) (nI b) = nI (max a b) := by
  unfold mx
  by_cases h : a < b
  · rw [if_pos ((nI_ltI ha hb).mpr h), Nat.max_eq_right (by omega)]
  · rw [if_neg (fun z => h ((nI_ltI ha hb).mp z)), Nat.max_eq_left (by omega)]
theorem lessI {a b : Nat} (ha : a < 2 ^ 31) (hb : b < 2 ^ 31) : g_X9_lesser (nI a) (nI b) = some (nI (min a b)) := by
  unfold g_X9_lesser f_X9_lesser_0 f_X9_lesser_10
  by_cases h : b ≤ a
  · rw [if_pos ((nI_leI hb ha).mpr h), Nat.min_eq_right h]
  · rw [if_neg (fun z => h ((nI_leI hb ha).mp z)), Nat.min_eq_left (by omega)]
theorem greatI {a b : Nat} (ha : a < 2 ^ 31) (hb : b < 2 ^ 31) : g_X9_greater (nI a) (nI b) = some (nI (max a b)) := by
  unfold g_X9_greater f_X9_greater_0 f_X9_greater_10
  by_cases h : a ≤ b
  · rw [if_pos ((nI_leI ha hb).mpr h), Nat.max_eq_right h]
  · rw [if_neg (fun z => h ((nI_leI ha hb).mp z)), Nat.max_eq_left (by omega)]
/-- a number from 0 to B -/
def bnd (x : Int32) (B : Nat) : Prop := ∃ t : Nat, t ≤ B ∧ x = nI t
/-- the class's row C and the reference's row V tell one raft of n drivers with a asks -/
abbrev RW (a n : Nat) (C V : Nat → Int32) : Prop :=
  (n ≤ 5)
  ∧ (a < 9000000)
  ∧ (V 1 = nI n)
  ∧ (V 2 = nI a)
  ∧ (∀ f, f < 8 → C f = V f)
  ∧ (∀ i, i < n → ∀ f, f < 10 → C (33 + 34 * i + f) = V (33 + 34 * i + f))
  ∧ (∀ i, i < n → V (33 + 34 * i) = 0 ∨ V (33 + 34 * i) = 1 ∨ V (33 + 34 * i) = 2)
  ∧ (∀ i, i < n → bnd (V (33 + 34 * i + 1)) a)
  ∧ (∀ i, i < n → V (33 + 34 * i + 4) = -1 ∨ ∃ w, w < n ∧ V (33 + 34 * i + 4) = nI w ∧ (w ≠ i → V (33 + 34 * i + 1) ≤ V (33 + 34 * w + 1)))
  ∧ (∀ i, i < n → bnd (V (33 + 34 * i + 5)) 12)
  ∧ (∀ i, i < n → bnd (V (33 + 34 * i + 6)) 12)
  ∧ (∀ i, i < n → (V (33 + 34 * i + 7) = 0 ∧ V (33 + 34 * i) = 0) ∨ V (33 + 34 * i + 7) = 1)
  ∧ (∀ i, i < n → ∀ m, m ≤ 12 → V (33 + 34 * i + 5) = nI m → ∀ l, l < m → C (33 + 34 * i + 10 + l) = V (33 + 34 * i + 10 + l) ∧ C (33 + 34 * i + 22 + l) = V (33 + 34 * i + 22 + l) ∧ bnd (V (33 + 34 * i + 10 + l)) a ∧ ∃ c : Nat, 97 ≤ c ∧ c ≤ 122 ∧ V (33 + 34 * i + 22 + l) = nI c)
  ∧ (∀ i j, i < j → j < 5 → C (8 + 5 * i + j) = V (8 + 5 * i + j) ∧ C (8 + 5 * j + i) = V (8 + 5 * i + j) ∧ (V (8 + 5 * i + j) = 0 ∨ V (8 + 5 * i + j) = 1))
  ∧ (∀ i, i < 5 → C (8 + 5 * i + i) = 0)
  ∧ (∀ i j, j ≤ i → i < 5 → V (8 + 5 * i + j) = 0)
  ∧ (∀ i, n ≤ i → i < 5 → ∀ f, f < 10 → V (33 + 34 * i + f) = 0)
theorem RW.le5 {a n : Nat} {C V : Nat → Int32} (h : RW a n C V) : n ≤ 5 := h.1
theorem RW.aB {a n : Nat} {C V : Nat → Int32} (h : RW a n C V) : a < 9000000 := h.2.1
theorem RW.cnt {a n : Nat} {C V : Nat → Int32} (h : RW a n C V) : V 1 = nI n := h.2.2.1
theorem RW.ask {a n : Nat} {C V : Nat → Int32} (h : RW a n C V) : V 2 = nI a := h.2.2.2.1
theorem RW.hd {a n : Nat} {C V : Nat → Int32} (h : RW a n C V) : ∀ f, f < 8 → C f = V f := h.2.2.2.2.1
theorem RW.fld {a n : Nat} {C V : Nat → Int32} (h : RW a n C V) : ∀ i, i < n → ∀ f, f < 10 → C (33 + 34 * i + f) = V (33 + 34 * i + f) := h.2.2.2.2.2.1
theorem RW.role {a n : Nat} {C V : Nat → Int32} (h : RW a n C V) : ∀ i, i < n → V (33 + 34 * i) = 0 ∨ V (33 + 34 * i) = 1 ∨ V (33 + 34 * i) = 2 := h.2.2.2.2.2.2.1
theorem RW.term {a n : Nat} {C V : Nat → Int32} (h : RW a n C V) : ∀ i, i < n → bnd (V (33 + 34 * i + 1)) a := h.2.2.2.2.2.2.2.1
theorem RW.vote {a n : Nat} {C V : Nat → Int32} (h : RW a n C V) : ∀ i, i < n → V (33 + 34 * i + 4) = -1 ∨ ∃ w, w < n ∧ V (33 + 34 * i + 4) = nI w ∧ (w ≠ i → V (33 + 34 * i + 1) ≤ V (33 + 34 * w + 1)) := h.2.2.2.2.2.2.2.2.1
theorem RW.many {a n : Nat} {C V : Nat → Int32} (h : RW a n C V) : ∀ i, i < n → bnd (V (33 + 34 * i + 5)) 12 := h.2.2.2.2.2.2.2.2.2.1
theorem RW.agr {a n : Nat} {C V : Nat → Int32} (h : RW a n C V) : ∀ i, i < n → bnd (V (33 + 34 * i + 6)) 12 := h.2.2.2.2.2.2.2.2.2.2.1
theorem RW.abd {a n : Nat} {C V : Nat → Int32} (h : RW a n C V) : ∀ i, i < n → (V (33 + 34 * i + 7) = 0 ∧ V (33 + 34 * i) = 0) ∨ V (33 + 34 * i + 7) = 1 := h.2.2.2.2.2.2.2.2.2.2.2.1
theorem RW.lin {a n : Nat} {C V : Nat → Int32} (h : RW a n C V) : ∀ i, i < n → ∀ m, m ≤ 12 → V (33 + 34 * i + 5) = nI m → ∀ l, l < m → C (33 + 34 * i + 10 + l) = V (33 + 34 * i + 10 + l) ∧ C (33 + 34 * i + 22 + l) = V (33 + 34 * i + 22 + l) ∧ bnd (V (33 + 34 * i + 10 + l)) a ∧ ∃ c : Nat, 97 ≤ c ∧ c ≤ 122 ∧ V (33 + 34 * i + 22 + l) = nI c := h.2.2.2.2.2.2.2.2.2.2.2.2.1
theorem RW.ropC {a n : Nat} {C V : Nat → Int32} (h : RW a n C V) : ∀ i j, i < j → j < 5 → C (8 + 5 * i + j) = V (8 + 5 * i + j) ∧ C (8 + 5 * j + i) = V (8 + 5 * i + j) ∧ (V (8 + 5 * i + j) = 0 ∨ V (8 + 5 * i + j) = 1) := h.2.2.2.2.2.2.2.2.2.2.2.2.2.1
theorem RW.ropD {a n : Nat} {C V : Nat → Int32} (h : RW a n C V) : ∀ i, i < 5 → C (8 + 5 * i + i) = 0 := h.2.2.2.2.2.2.2.2.2.2.2.2.2.2.1
theorem RW.ropV {a n : Nat} {C V : Nat → Int32} (h : RW a n C V) : ∀ i j, j ≤ i → i < 5 → V (8 + 5 * i + j) = 0 := h.2.2.2.2.2.2.2.2.2.2.2.2.2.2.2.1
theorem RW.dead {a n : Nat} {C V : Nat → Int32} (h : RW a n C V) : ∀ i, n ≤ i → i < 5 → ∀ f, f < 10 → V (33 + 34 * i + f) = 0 := h.2.2.2.2.2.2.2.2.2.2.2.2.2.2.2.2
