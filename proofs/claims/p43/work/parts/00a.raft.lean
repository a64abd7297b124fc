/-! ===== the safety of a raft, over plain functions: majorities, the invariant, each step ===== -/
def mj_ct (p : Nat → Bool) : Nat → Nat
  | 0 => 0
  | n + 1 => mj_ct p n + (if p n = true then 1 else 0)
theorem mj_meet {p q : Nat → Bool} : ∀ {n : Nat}, n < mj_ct p n + mj_ct q n → ∃ i, i < n ∧ p i = true ∧ q i = true
  | 0, h => absurd h (Nat.lt_irrefl 0)
  | n + 1, h => by
    by_cases hn : p n = true ∧ q n = true
    · exact ⟨n, Nat.lt_succ_self n, hn⟩
    · have h2 : n < mj_ct p n + mj_ct q n := by
        unfold mj_ct at h
        by_cases hp : p n = true
        · have hq : ¬ q n = true := fun z => hn ⟨hp, z⟩
          rw [if_pos hp, if_neg hq] at h
          omega
        · rw [if_neg hp] at h
          split at h <;> omega
      obtain ⟨i, hi, h3⟩ := mj_meet h2
      exact ⟨i, Nat.lt_succ_of_lt hi, h3⟩
def Mo (n : Nat) (P : Nat → Prop) : Prop := ∃ p : Nat → Bool, n < 2 * mj_ct p n ∧ ∀ i, i < n → p i = true → P i
theorem Mo.meet {n : Nat} {P Q : Nat → Prop} (h : Mo n P) (k : Mo n Q) : ∃ i, i < n ∧ P i ∧ Q i := by
  obtain ⟨p, h1, h2⟩ := h
  obtain ⟨q, k1, k2⟩ := k
  obtain ⟨i, hi, a, b⟩ := mj_meet (p := p) (q := q) (n := n) (by omega)
  exact ⟨i, hi, h2 i hi a, k2 i hi b⟩
theorem Mo.sub {n : Nat} {P Q : Nat → Prop} (h : Mo n P) (k : ∀ i, i < n → P i → Q i) : Mo n Q := by
  obtain ⟨p, h1, h2⟩ := h
  exact ⟨p, h1, fun i hi hp => k i hi (h2 i hi hp)⟩
abbrev En : Type := Int × Int
def rf_Wo (t v : Nat → Int) (T : Int) (j i : Nat) : Prop := T < t i ∨ (t i = T ∧ v i = (j : Int))
def rf_Hp (len : Nat → Nat) (e : Nat → Nat → En) (P : Nat → En) (m i : Nat) : Prop := m ≤ len i ∧ ∀ x, x < m → e i x = P x
def rf_Com (n : Nat) (r t : Nat → Int) (len : Nat → Nat) (e : Nat → Nat → En) (P : Nat → En) (m : Nat) : Prop :=
  0 < m ∧ Mo n (rf_Hp len e P m) ∧ (∀ i, i < n → ∀ x, x < len i → (P (m - 1)).1 < (e i x).1 → rf_Hp len e P m i) ∧ (∀ k, k < n → r k = 2 → (P (m - 1)).1 ≤ t k → rf_Hp len e P m k)
def rf_I1 (n : Nat) (r v : Nat → Int) : Prop := ∀ i, i < n → (r i = 1 ∨ r i = 2) → v i = (i : Int)
def rf_I2 (n : Nat) (t v : Nat → Int) : Prop := ∀ i, i < n → ∀ k : Nat, k < n → v i = (k : Int) → t i ≤ t k
def rf_I3 (n : Nat) (t : Nat → Int) (len : Nat → Nat) (e : Nat → Nat → En) : Prop := ∀ i, i < n → 0 ≤ t i ∧ (∀ x, x < len i → 0 ≤ (e i x).1 ∧ (e i x).1 ≤ t i) ∧ ∀ x y, x ≤ y → y < len i → (e i x).1 ≤ (e i y).1
def rf_I4 (n : Nat) (r t v : Nat → Int) : Prop := ∀ j, j < n → r j = 2 → Mo n (rf_Wo t v (t j) j)
def rf_I5 (n : Nat) (r t v : Nat → Int) (len : Nat → Nat) (e : Nat → Nat → En) : Prop := ∀ i, i < n → ∀ x, x < len i → ∃ j, j < n ∧ Mo n (rf_Wo t v (e i x).1 j) ∧ (e i x).1 ≤ t j ∧ ¬ (t j = (e i x).1 ∧ r j = 1)
def rf_I6 (n : Nat) (r t : Nat → Int) : Prop := ∀ j, j < n → ∀ k, k < n → r j = 2 → r k = 2 → t j = t k → j = k
def rf_I7 (n : Nat) (len : Nat → Nat) (e : Nat → Nat → En) : Prop := ∀ i, i < n → ∀ j, j < n → ∀ x, x < len i → ∀ y, y < len j → (e i x).1 = (e j y).1 → x ≤ y → ∀ z, z ≤ x → e i z = e j z
def rf_I8 (n : Nat) (r t : Nat → Int) (len : Nat → Nat) (e : Nat → Nat → En) : Prop := ∀ j, j < n → r j = 2 → ∀ i, i < n → ∀ x, x < len i → (e i x).1 = t j → x < len j ∧ (e j x).1 = t j
def rf_I9 (n : Nat) (r t : Nat → Int) (len : Nat → Nat) (e : Nat → Nat → En) (c : Nat → Nat) : Prop := ∀ i, i < n → c i ≤ len i ∧ (0 < c i → ∃ (P : Nat → En) (m : Nat), c i ≤ m ∧ (∀ x, x < c i → e i x = P x) ∧ (P (m - 1)).1 ≤ t i ∧ rf_Com n r t len e P m)
def IR (n : Nat) (r t v : Nat → Int) (len : Nat → Nat) (e : Nat → Nat → En) (c : Nat → Nat) : Prop :=
  rf_I1 n r v ∧ rf_I2 n t v ∧ rf_I3 n t len e ∧ rf_I4 n r t v ∧ rf_I5 n r t v len e ∧ rf_I6 n r t ∧ rf_I7 n len e ∧ rf_I8 n r t len e ∧ rf_I9 n r t len e c
theorem Wo_up {t v t' v' : Nat → Int} {T : Int} {j i : Nat} (h1 : t i ≤ t' i) (h2 : t' i = t i → v' i = v i ∨ v i = -1) (h : rf_Wo t v T j i) : rf_Wo t' v' T j i := by
  rcases h with h | ⟨h, k⟩
  · exact Or.inl (by omega)
  · by_cases h3 : t' i = t i
    · rcases h2 h3 with h4 | h4
      · exact Or.inr ⟨by omega, by omega⟩
      · exact absurd h4 (by omega)
    · exact Or.inl (by omega)
/-- roles, terms and votes go on; nobody begins to lead -/
theorem st_soft {n : Nat} {r t v r' t' v' : Nat → Int} {len : Nat → Nat} {e : Nat → Nat → En} {c : Nat → Nat} (h : IR n r t v len e c)
    (k1 : rf_I1 n r' v') (k2 : rf_I2 n t' v') (kt : ∀ i, i < n → t i ≤ t' i) (kv : ∀ i, i < n → t' i = t i → v' i = v i ∨ v i = -1)
    (kl : ∀ j, j < n → r' j = 2 → r j = 2 ∧ t' j = t j) (kc : ∀ j, j < n → r' j = 1 → t' j = t j → r j = 1) : IR n r' t' v' len e c := by
  obtain ⟨h1, h2, h3, h4, h5, h6, h7, h8, h9⟩ := h
  refine ⟨k1, k2, fun i hi => ?_, fun j hj hr => ?_, fun i hi x hx => ?_, fun j hj k hk hr hr2 ht => ?_, h7, fun j hj hr i hi x hx ht => ?_, fun i hi => ?_⟩
  · obtain ⟨a, b, d⟩ := h3 i hi
    have := kt i hi
    exact ⟨by omega, fun x hx => ⟨(b x hx).1, Int.le_trans (b x hx).2 this⟩, d⟩
  · obtain ⟨a, b⟩ := kl j hj hr
    rw [b]
    exact (h4 j hj a).sub fun i hi hw => Wo_up (kt i hi) (kv i hi) hw
  · obtain ⟨j, hj, a, b, d⟩ := h5 i hi x hx
    have := kt j hj
    refine ⟨j, hj, a.sub fun i hi hw => Wo_up (kt i hi) (kv i hi) hw, by omega, fun z => ?_⟩
    exact d ⟨by omega, kc j hj z.2 (by omega)⟩
  · obtain ⟨a, b⟩ := kl j hj hr
    obtain ⟨a2, b2⟩ := kl k hk hr2
    exact h6 j hj k hk a a2 (by omega)
  · obtain ⟨a, b⟩ := kl j hj hr
    rw [b] at ht ⊢
    exact h8 j hj a i hi x hx ht
  · obtain ⟨a, b⟩ := h9 i hi
    refine ⟨a, fun hc => ?_⟩
    obtain ⟨P, m, m1, m2, m3, m4, m5, m6, m7⟩ := b hc
    have := kt i hi
    refine ⟨P, m, m1, m2, by omega, m4, m5, m6, fun k hk hr hp => ?_⟩
    obtain ⟨a, b⟩ := kl k hk hr
    exact m7 k hk a (by omega)
def rf_lt (len : Nat → Nat) (e : Nat → Nat → En) (i : Nat) : Int := if 0 < len i then (e i (len i - 1)).1 else 0
/-- i's tale isn't longer than k's -/
def rf_nl (len : Nat → Nat) (e : Nat → Nat → En) (i k : Nat) : Prop := rf_lt len e i < rf_lt len e k ∨ (rf_lt len e i = rf_lt len e k ∧ len i ≤ len k)
/-- one who asked, and got votes of most, leads -/
theorem st_win {n : Nat} {r t v r' : Nat → Int} {len : Nat → Nat} {e : Nat → Nat → En} {c : Nat → Nat} (h : IR n r t v len e c) {k : Nat} (hk : k < n) (hr : r k = 1)
    (hw : Mo n (fun i => t i = t k ∧ v i = (k : Int) ∧ rf_nl len e i k)) (hk' : r' k = 2) (ho : ∀ i, i < n → i ≠ k → r' i = r i) : IR n r' t v len e c := by
  obtain ⟨h1, h2, h3, h4, h5, h6, h7, h8, h9⟩ := h
  have none : ∀ i, i < n → ∀ x, x < len i → (e i x).1 ≠ t k := by
    intro i hi x hx ht
    obtain ⟨j, hj, a, b, d⟩ := h5 i hi x hx
    obtain ⟨w, hwn, ⟨w1, w2, w3⟩, w4⟩ := hw.meet a
    rcases w4 with w4 | ⟨w4, w5⟩
    · omega
    · have : j = k := by omega
      subst this
      exact d ⟨by omega, hr⟩
  have led : ∀ j, j < n → r' j = 2 → j = k ∨ (r j = 2 ∧ t j ≠ t k) := by
    intro j hj hj2
    by_cases e1 : j = k
    · exact Or.inl e1
    · rw [ho j hj e1] at hj2
      refine Or.inr ⟨hj2, fun ht => ?_⟩
      obtain ⟨w, hwn, ⟨w1, w2, w3⟩, w4⟩ := hw.meet (h4 j hj hj2)
      rcases w4 with w4 | ⟨w4, w5⟩
      · omega
      · exact e1 (by omega)
  refine ⟨fun i hi hri => ?_, h2, h3, fun j hj hj2 => ?_, fun i hi x hx => ?_, fun j hj q hq hr1 hr2 ht => ?_, h7, fun j hj hj2 i hi x hx ht => ?_, fun i hi => ?_⟩
  · by_cases e1 : i = k
    · subst e1
      exact h1 i hi (Or.inl hr)
    · rw [ho i hi e1] at hri
      exact h1 i hi hri
  · rcases led j hj hj2 with rfl | ⟨a, b⟩
    · exact hw.sub fun i hi ⟨a, b, _⟩ => Or.inr ⟨a, b⟩
    · exact h4 j hj a
  · obtain ⟨j, hj, a, b, d⟩ := h5 i hi x hx
    refine ⟨j, hj, a, b, fun z => d ⟨z.1, ?_⟩⟩
    by_cases e1 : j = k
    · subst e1
      exact hr
    · rw [← ho j hj e1]; exact z.2
  · rcases led j hj hr1 with rfl | ⟨a, b⟩
    · rcases led q hq hr2 with rfl | ⟨a2, b2⟩
      · rfl
      · exact absurd ht.symm b2
    · rcases led q hq hr2 with rfl | ⟨a2, b2⟩
      · exact absurd ht b
      · exact h6 j hj q hq a a2 ht
  · rcases led j hj hj2 with rfl | ⟨a, b⟩
    · exact absurd ht (none i hi x hx)
    · exact h8 j hj a i hi x hx ht
  · obtain ⟨a, b⟩ := h9 i hi
    refine ⟨a, fun hc => ?_⟩
    obtain ⟨P, m, m1, m2, m3, m4, m5, m6, m7⟩ := b hc
    refine ⟨P, m, m1, m2, m3, m4, m5, m6, fun q hq hrq hp => ?_⟩
    rcases led q hq hrq with rfl | ⟨a2, b2⟩
    · obtain ⟨w, hwn, ⟨w1, w2, w3⟩, w4, w5⟩ := hw.meet m5
      obtain ⟨-, g1, g2⟩ := h3 w hwn
      obtain ⟨-, g3, g4⟩ := h3 q hq
      have hlw : 0 < len w := by omega
      have hlt : rf_lt len e w = (e w (len w - 1)).1 := if_pos hlw
      have hP : (P (m - 1)).1 = (e w (m - 1)).1 := by rw [w5 (m - 1) (by omega)]
      have hle : (P (m - 1)).1 ≤ rf_lt len e w := by rw [hlt, hP]; exact g2 (m - 1) (len w - 1) (by omega) (by omega)
      have hp0 : 0 ≤ rf_lt len e w := by rw [hlt]; exact (g1 (len w - 1) (by omega)).1
      have big : (P (m - 1)).1 < rf_lt len e q → rf_Hp len e P m q := by
        intro hb
        have hlq : 0 < len q := by
          refine Nat.pos_of_ne_zero fun z => ?_
          have : rf_lt len e q = 0 := if_neg (by omega)
          have := (g1 (m - 1) (by omega)).1
          omega
        have hlt2 : rf_lt len e q = (e q (len q - 1)).1 := if_pos hlq
        exact m6 q hq (len q - 1) (by omega) (by rw [← hlt2]; exact hb)
      rcases w3 with w3 | ⟨w3, w6⟩
      · exact big (by omega)
      · by_cases hb : (P (m - 1)).1 < rf_lt len e q
        · exact big hb
        · have hlt2 : rf_lt len e q = (e q (len q - 1)).1 := if_pos (by omega)
          have hz := h7 w hwn q hq (len w - 1) (by omega) (len q - 1) (by omega) (by rw [← hlt, ← hlt2]; exact w3) (by omega)
          exact ⟨by omega, fun x hx => by rw [← hz x (by omega)]; exact w5 x hx⟩
    · exact m7 q hq a2 hp
