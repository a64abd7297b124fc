/-! ===== the pure part of the law: rows, loops ===== -/
/-- one loop alone -/
def Gv {α : Type} (P : α → Prop) (x : Option α) : Prop := ∃ a, x = some a ∧ P a
theorem Gv.ret {α : Type} {P : α → Prop} {a : α} (h : P a) : Gv P (some a) := ⟨a, rfl, h⟩
theorem Gv.bd {α β : Type} {Q : α → Prop} {P : β → Prop} {x : Option α} {f : α → Option β} (h : Gv Q x) (k : ∀ a, Q a → Gv P (f a)) : Gv P (bd1 x f) := by
  obtain ⟨a, rfl, q⟩ := h
  exact k a q
theorem Gv.bdd {α α' β : Type} {Q : α × α' → Prop} {P : β → Prop} {x : Option (α × α')} {f : α → α' → Option β} (h : Gv Q x) (k : ∀ a a', Q (a, a') → Gv P (f a a')) : Gv P (bd2 x f) := by
  obtain ⟨⟨a, a'⟩, rfl, q⟩ := h
  exact k a a' q
theorem Gv_lp {σ ρ : Type} {b : (σ → Option ρ) → σ → Option ρ} {P : ρ → Prop} (J : Nat → σ → Prop) (step : ∀ n s f, J n s → (∀ m s', m < n → J m s' → Gv P (f s')) → Gv P (b f s)) : ∀ n F s, n < F → J n s → Gv P (lp b F s) := by
  intro n
  induction n using Nat.strongRecOn with
  | _ n ih =>
    intro F s hF hJ
    cases F with
    | zero => omega
    | succ F => exact step n s _ hJ (fun m s' hm hJ' => ih m hm F s' (by omega) hJ')
theorem bd1_s {α β : Type} (a : α) (f : α → Option β) : bd1 (some a) f = f a := rfl
theorem bd2_s {α γ β : Type} (a : α) (c : γ) (f : α → γ → Option β) : bd2 (some (a, c)) f = f a c := rfl
theorem up_row (S : Mem) (b j : Nat) (x : Int32) : up S b j x b = fun j' => if j' = j then x else S b j' := by
  funext j'
  by_cases h : j' = j
  · simp [up, h]
  · simp [up, h]
theorem up_oth (S : Mem) {b b' : Nat} (j : Nat) (x : Int32) (h : b' ≠ b) : up S b j x b' = S b' := by
  funext j'
  simp [up, h]
theorem up_at (S : Mem) (b j b' j' : Nat) (x : Int32) : up S b j x b' j' = if b' = b ∧ j' = j then x else S b' j' := rfl
theorem inb_nI {m N : Nat} (h : m < 2 ^ 31) : inb (nI m) N = decide (m < N) := by
  have h1 : (nI m).toNatClampNeg = m := nI_clamp h
  have h2 : 0 ≤ nI m := nI_pos' h
  unfold inb
  rw [h1]
  simp [h2]
theorem inb_t {m N : Nat} (h : m < N) (hN : N < 2 ^ 31) : inb (nI m) N = true := by
  rw [inb_nI (by omega)]
  simpa using h
theorem isb_0 : isb 0 = true := by decide
theorem isb_1 : isb 1 = true := by decide
theorem nI_p1 (a : Nat) : nI a + (1 : Int32) = nI (a + 1) := nI_add a 1
theorem nI_m1 {a : Nat} (h : 0 < a) : nI a - (1 : Int32) = nI (a - 1) := pk_sub (b := 1) h
theorem le0I {a : Nat} (h : a < 2 ^ 31) : (nI a ≤ (0 : Int32)) ↔ a = 0 := (nI_leI (b := 0) h (by decide)).trans Nat.le_zero
theorem z_eqI {a : Nat} (h : a < 2 ^ 31) : (nI a = (0 : Int32)) ↔ a = 0 := nI_eq (b := 0) h (by decide)
theorem z_leI {a : Nat} (h : a < 2 ^ 31) : ((0 : Int32) ≤ nI a) ↔ True := ⟨fun _ => trivial, fun _ => nI_pos' h⟩
theorem lt0I {a : Nat} (h : a < 2 ^ 31) : (nI a < (0 : Int32)) ↔ False := ⟨fun z => nI_pos h z, False.elim⟩
theorem mnI {a b : Nat} (ha : a < 2 ^ 31) (hb : b < 2 ^ 31) : mn (nI a) (nI b) = nI (min a b) := by
  unfold mn
  by_cases h : b < a
  · rw [if_pos ((nI_ltI hb ha).mpr h), Nat.min_eq_right (by omega)]
  · rw [if_neg (fun z => h ((nI_ltI hb ha).mp z)), Nat.min_eq_left (by omega)]
theorem mxI {a b : Nat} (ha : a < 2 ^ 31) (hb : b < 2 ^ 31) : mx (nI a) (nI b) = nI (max a b) := by
  unfold mx
  by_cases h : a < b
  · rw [if_pos ((nI_ltI ha hb).mpr h), Nat.max_eq_right (by omega)]
  · rw [if_neg (fun z => h ((nI_ltI ha hb).mp z)), Nat.max_eq_left (by omega)]
/-- a number from 0 to B -/
def bnd (x : Int32) (B : Nat) : Prop := ∃ t : Nat, t ≤ B ∧ x = nI t
theorem isb_of {x : Int32} (h : x = 0 ∨ x = 1) : isb x = true := by
  rcases h with rfl | rfl <;> rfl
theorem rix {i j : Nat} (hi : i < 5) (hj : j < 5) : (nI i * (5 : Int32)) + nI j = nI (5 * i + j) := by
  rw [show (5 : Int32) = nI 5 from rfl, pk_mul, nI_add, Nat.mul_comm]
section P20
variable {a n k i j m m' x y g q : Nat} {S T : Mem}
theorem sub0I {x y : Nat} (hx : x < 2 ^ 30) (hy : y < 2 ^ 30) : (nI x - nI y = 0) ↔ x = y := by
  rw [← Int32.toInt_inj, pk_sub_toInt hx hy, Int32.toInt_zero]
  omega
theorem subLeI {x y : Nat} (hx : x < 2 ^ 30) (hy : y < 2 ^ 30) : (nI x - nI y ≤ 0) ↔ x ≤ y := by
  rw [Int32.le_iff_toInt_le, pk_sub_toInt hx hy, Int32.toInt_zero]
  omega
theorem subGeI {x y : Nat} (hx : x < 2 ^ 30) (hy : y < 2 ^ 30) : (0 ≤ nI x - nI y) ↔ y ≤ x := by
  rw [Int32.le_iff_toInt_le, pk_sub_toInt hx hy, Int32.toInt_zero]
  omega
theorem hasL (hm : m ≤ 12) (hm' : m' ≤ 12) (hx : x < 2 ^ 30) (hy : y < 2 ^ 30) (h5 : S k (33 + 34 * i + 5) = nI m) (h0 : m = 0 → x = 0) (h1 : 0 < m → S k (33 + 34 * i + 10 + (m - 1)) = nI x) (h5' : S k (33 + 34 * j + 5) = nI m') (h0' : m' = 0 → y = 0) (h1' : 0 < m' → S k (33 + 34 * j + 10 + (m' - 1)) = nI y) : g_X2_hasLongerTaleThan S k i k j = some (if x = y then (if m ≤ m' then 0 else 1) else (if x ≤ y then 0 else 1)) := by
  have K : f_X2_hasLongerTaleThan_22 S k i k j (nI x) = some (if x = y then (if m ≤ m' then 0 else 1) else (if x ≤ y then 0 else 1)) := by
    have K1 : f_X2_hasLongerTaleThan_45 S k i k j (nI x) (nI y) = some (if x = y then (if m ≤ m' then 0 else 1) else (if x ≤ y then 0 else 1)) := by
      unfold f_X2_hasLongerTaleThan_45 f_X2_hasLongerTaleThan_80
      rw [h5, h5']
      by_cases c1 : x = y
      · rw [if_pos ((nI_eq (by omega) (by omega)).mpr c1), if_pos c1]
        by_cases c2 : m ≤ m'
        · rw [if_pos ((nI_leI (by omega) (by omega)).mpr c2), if_pos c2]; rfl
        · rw [if_neg (fun z => c2 ((nI_leI (by omega) (by omega)).mp z)), if_neg c2]; rfl
      · rw [if_neg (fun z => c1 ((nI_eq (by omega) (by omega)).mp z)), if_neg c1]
        by_cases c2 : x ≤ y
        · rw [if_pos ((nI_leI (by omega) (by omega)).mpr c2), if_pos c2]; rfl
        · rw [if_neg (fun z => c2 ((nI_leI (by omega) (by omega)).mp z)), if_neg c2]; rfl
    unfold f_X2_hasLongerTaleThan_22
    rw [h5']
    by_cases c : m' = 0
    · rw [if_pos ((le0I (by omega)).mpr c)]
      exact (congrArg (f_X2_hasLongerTaleThan_45 S k i k j (nI x)) (show (0 : Int32) = nI y by rw [h0' c]; rfl)).trans K1
    · rw [if_neg (fun z => c ((le0I (by omega)).mp z)), nI_m1 (by omega), ck_t _ (inb_t (by omega) (by decide)), nI_clamp (by omega), h1' (by omega)]
      exact K1
  unfold g_X2_hasLongerTaleThan f_X2_hasLongerTaleThan_0
  rw [h5]
  by_cases c : m = 0
  · rw [if_pos ((le0I (by omega)).mpr c)]
    exact (congrArg (f_X2_hasLongerTaleThan_22 S k i k j) (show (0 : Int32) = nI x by rw [h0 c]; rfl)).trans K
  · rw [if_neg (fun z => c ((le0I (by omega)).mp z)), nI_m1 (by omega), ck_t _ (inb_t (by omega) (by decide)), nI_clamp (by omega), h1 (by omega)]
    exact K
theorem ck_in {α : Type} {N : Nat} {x : Option α} (h : i < N) (hN : N < 2 ^ 31) : ck (inb (nI i) N) x = x := ck_t _ (inb_t h hN)
theorem nI_m {w : Nat} (h : w < 2 ^ 31) {c : Int32} (hc : c < 0) : ¬ nI w = c := fun z => nI_pos h (z ▸ hc)
theorem nI_m4 {w : Nat} (h : w < 2 ^ 31) : (nI w = -4) ↔ False := ⟨nI_m h (by decide), False.elim⟩
theorem nI_mm1 {w : Nat} (h : w < 2 ^ 31) : (nI w = -1) ↔ False := ⟨nI_m h (by decide), False.elim⟩
theorem ck_0 {α : Type} {x : Option α} : ck (isb 0) x = x := rfl
theorem ck_1 {α : Type} {x : Option α} : ck (isb 1) x = x := rfl
theorem nlt_le {A : Type} {p q : Nat} (hp : p < 2 ^ 31) (hq : q < 2 ^ 31) {u v : A} : (if nI p < nI q then u else v) = (if q ≤ p then v else u) := by
  by_cases c : p < q
  · rw [if_pos ((nI_ltI hp hq).mpr c), if_neg (by omega)]
  · rw [if_neg (fun z => c ((nI_ltI hp hq).mp z)), if_pos (by omega)]
theorem ile {A : Type} {p q : Nat} (hp : p < 2 ^ 31) (hq : q < 2 ^ 31) {u v : A} : (if nI p ≤ nI q then u else v) = (if p ≤ q then u else v) := by
  by_cases c : p ≤ q
  · rw [if_pos ((nI_leI hp hq).mpr c), if_pos c]
  · rw [if_neg (fun z => c ((nI_leI hp hq).mp z)), if_neg c]
theorem ieq {A : Type} {p q : Nat} (hp : p < 2 ^ 31) (hq : q < 2 ^ 31) {u v : A} : (if nI p = nI q then u else v) = (if p = q then u else v) := by
  by_cases c : p = q
  · rw [if_pos ((nI_eq hp hq).mpr c), if_pos c]
  · rw [if_neg (fun z => c ((nI_eq hp hq).mp z)), if_neg c]
theorem i_add0 (x : Int32) : x + 0 = x := by simp
theorem bnd.mono {z : Int32} {B B' : Nat} (h : bnd z B) (hB : B ≤ B') : bnd z B' := by
  obtain ⟨t, ht, he⟩ := h
  exact ⟨t, by omega, he⟩
/-- only bank k has changed -/
def Fr (k : Nat) (S S' : Mem) : Prop := ∀ b, b ≠ k → S' b = S b
theorem Fr.rf : Fr k S S := fun _ _ => rfl
theorem Fr.tr {S1 S2 : Mem} (h : Fr k S S1) (h' : Fr k S1 S2) : Fr k S S2 := fun b hb => (h' b hb).trans (h b hb)
theorem Fr.up {S1 : Mem} (h : Fr k S S1) (c : Nat) (x : Int32) : Fr k S (up S1 k c x) := fun b hb => (up_oth S1 c x hb).trans (h b hb)
theorem nar_c {c : Nat} (h : c < 128) : vp_nar .char (nI c) = nI c := by
  have : ∀ c, c < 128 → vp_nar .char (nI c) = nI c := by decide +kernel
  exact this c h
/-- the class's lines copied -/
theorem copyL {c' : Nat} (hm : m ≤ 12) (hqm : q ≤ m) (e : S c' (33 + 34 * x + 5) = nI m) (hix : ¬ (k = c' ∧ i = x)) (hx : x < 5) (hi : i < 5) (hl : ∀ l, q ≤ l → l < m → ∃ c : Nat, 97 ≤ c ∧ c ≤ 122 ∧ S c' (33 + 34 * x + 22 + l) = nI c) : ∃ S', g_X2_copyLines S k i c' x (nI q) = some S' ∧ Fr k S S' ∧ S' k (33 + 34 * i + 5) = nI m ∧ (∀ c, c ≠ 33 + 34 * i + 5 → (c < 33 + 34 * i + 10 ∨ 33 + 34 * i + 34 ≤ c) → S' k c = S k c) ∧ (∀ l, l < q → S' k (33 + 34 * i + 10 + l) = S k (33 + 34 * i + 10 + l) ∧ S' k (33 + 34 * i + 22 + l) = S k (33 + 34 * i + 22 + l)) ∧ (∀ l, q ≤ l → l < m → S' k (33 + 34 * i + 10 + l) = S c' (33 + 34 * x + 10 + l) ∧ S' k (33 + 34 * i + 22 + l) = S c' (33 + 34 * x + 22 + l)) := by
  unfold g_X2_copyLines f_X2_copyLines_0 f_X2_copyLines_2
  refine Gv_lp (P := fun S' => Fr k S S' ∧ S' k (33 + 34 * i + 5) = nI m ∧ (∀ c, c ≠ 33 + 34 * i + 5 → (c < 33 + 34 * i + 10 ∨ 33 + 34 * i + 34 ≤ c) → S' k c = S k c) ∧ (∀ l, l < q → S' k (33 + 34 * i + 10 + l) = S k (33 + 34 * i + 10 + l) ∧ S' k (33 + 34 * i + 22 + l) = S k (33 + 34 * i + 22 + l)) ∧ (∀ l, q ≤ l → l < m → S' k (33 + 34 * i + 10 + l) = S c' (33 + 34 * x + 10 + l) ∧ S' k (33 + 34 * i + 22 + l) = S c' (33 + 34 * x + 22 + l))) (fun d s => ∃ p S', p + d = m ∧ q ≤ p ∧ s = (S', nI p) ∧ Fr k S S' ∧ (∀ c, (c < 33 + 34 * i + 10 ∨ 33 + 34 * i + 34 ≤ c) → S' k c = S k c) ∧ (∀ l, l < 12 → (l < q ∨ p ≤ l) → S' k (33 + 34 * i + 10 + l) = S k (33 + 34 * i + 10 + l) ∧ S' k (33 + 34 * i + 22 + l) = S k (33 + 34 * i + 22 + l)) ∧ (∀ l, q ≤ l → l < p → S' k (33 + 34 * i + 10 + l) = S c' (33 + 34 * x + 10 + l) ∧ S' k (33 + 34 * i + 22 + l) = S c' (33 + 34 * x + 22 + l))) ?_ (m - q) 2000 _ (by omega) ⟨q, S, by omega, Nat.le_refl _, rfl, Fr.rf, fun _ _ => rfl, fun _ _ _ => ⟨rfl, rfl⟩, fun l h1 h2 => absurd h1 (by omega)⟩
  rintro d s f ⟨p, S', hd, hqp, rfl, hF, hA, hB, hC⟩ K
  unfold f_X2_copyLines_2_b
  have same : ∀ c, (c < 33 + 34 * x + 34 ∧ 33 + 34 * x ≤ c) → S' c' c = S c' c := by
    intro c hc
    by_cases hk : c' = k
    · subst hk
      have : i ≠ x := fun z => hix ⟨rfl, z⟩
      exact hA c (by omega)
    · rw [hF c' hk]
  simp only [same (33 + 34 * x + 5) (by omega), e, ile (show m < 2 ^ 31 by omega) (show p < 2 ^ 31 by omega)]
  by_cases c : m ≤ p
  · simp only [c, ↓reduceIte]
    have : p = m := by omega
    subst this
    refine ⟨_, rfl, hF.up _ _, ?_, ?_, ?_, ?_⟩
    · simp (disch := omega) only [up_ne, up_same]
    · intro c hc h8
      simp (disch := omega) only [up_ne, up_same]
      exact hA c h8
    · intro l hl'
      simp (disch := omega) only [up_ne, up_same]
      exact hB l (by omega) (Or.inl hl')
    · intro l hl1 hl2
      simp (disch := omega) only [up_ne, up_same]
      exact hC l hl1 hl2
  · have i12 : inb (nI p) 12 = true := inb_t (by omega) (by decide)
    simp only [c, ↓reduceIte, i12, ck_t, nI_clamp (show p < 2 ^ 31 by omega), nI_p1]
    obtain ⟨ch, hc1, hc2, hc3⟩ := hl p hqp (by omega)
    have r2 : up S' k (33 + 34 * i + 10 + p) (S' c' (33 + 34 * x + 10 + p)) c' (33 + 34 * x + 22 + p) = nI ch := by
      have : ¬ (c' = k ∧ 33 + 34 * x + 22 + p = 33 + 34 * i + 10 + p) := by
        rintro ⟨z1, z2⟩
        exact hix ⟨z1.symm, by omega⟩
      rw [up_ne _ _ this, same _ (by omega), hc3]
    rw [r2, nar_c (by omega), same _ (by omega)]
    refine K (d - 1) _ (by omega) ⟨p + 1, _, by omega, by omega, rfl, (hF.up _ _).up _ _, ?_, ?_, ?_⟩
    · intro c hc
      simp (disch := omega) only [up_ne, up_same]
      exact hA c hc
    · intro l hl1 hl2
      simp (disch := omega) only [up_ne, up_same]
      exact hB l hl1 (by omega)
    · intro l hl1 hl2
      by_cases hlp : l = p
      · subst hlp
        simp (disch := omega) only [up_ne, up_same]
        exact ⟨trivial, hc3.symm⟩
      · simp (disch := omega) only [up_ne, up_same]
        exact hC l hl1 (by omega)
theorem up_id (S : Mem) {b c : Nat} {u : Int32} (h : S b c = u) : up S b c u = S := by
  funext b' j'
  simp only [up_at]
  by_cases h1 : b' = b ∧ j' = c
  · rw [if_pos h1, h1.1, h1.2, h]
  · rw [if_neg h1]
theorem bnd_mx {u v : Int32} {B : Nat} (h : bnd u B) (h' : bnd v B) : bnd (mx u v) B := by
  unfold mx
  split
  · exact h'
  · exact h
theorem bnd_mn {u v : Int32} {B : Nat} (h : bnd u B) (h' : bnd v B) : bnd (mn u v) B := by
  unfold mn
  split
  · exact h'
  · exact h
theorem Gv.mono {α : Type} {P Q : α → Prop} {x : Option α} (h : Gv P x) (k : ∀ a, P a → Q a) : Gv Q x := by
  obtain ⟨a, h1, h2⟩ := h
  exact ⟨a, h1, k a h2⟩
end P20
