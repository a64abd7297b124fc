/-- a leader writes a line -/
theorem st_app {n : Nat} {r t v : Nat → Int} {len len' : Nat → Nat} {e e' : Nat → Nat → En} {c : Nat → Nat} (h : IR n r t v len e c) {k : Nat} (hk : k < n) (hr : r k = 2)
    (hl : len' k = len k + 1) (hlo : ∀ i, i < n → i ≠ k → len' i = len i) (hn : (e' k (len k)).1 = t k) (he : ∀ x, x < len k → e' k x = e k x) (heo : ∀ i, i < n → i ≠ k → ∀ x, x < len i → e' i x = e i x) : IR n r t v len' e' c := by
  obtain ⟨h1, h2, h3, h4, h5, h6, h7, h8, h9⟩ := h
  have cs : ∀ i, i < n → ∀ x, x < len' i → (x < len i ∧ e' i x = e i x) ∨ (i = k ∧ x = len k ∧ (e' i x).1 = t k) := by
    intro i hi x hx
    by_cases e1 : i = k
    · subst e1
      by_cases e2 : x < len i
      · exact Or.inl ⟨e2, he x e2⟩
      · obtain rfl : x = len i := by omega
        exact Or.inr ⟨rfl, rfl, hn⟩
    · rw [hlo i hi e1] at hx
      exact Or.inl ⟨hx, heo i hi e1 x hx⟩
  have keep : ∀ i, i < n → len i ≤ len' i ∧ ∀ x, x < len i → e' i x = e i x := by
    intro i hi
    by_cases e1 : i = k
    · subst e1
      exact ⟨by omega, he⟩
    · exact ⟨by rw [hlo i hi e1]; omega, heo i hi e1⟩
  have hp : ∀ P m i, i < n → rf_Hp len e P m i → rf_Hp len' e' P m i := by
    intro P m i hi ⟨a, b⟩
    obtain ⟨q1, q2⟩ := keep i hi
    exact ⟨by omega, fun x hx => by rw [q2 x (by omega)]; exact b x hx⟩
  refine ⟨h1, h2, fun i hi => ?_, h4, fun i hi x hx => ?_, h6, fun i hi j hj x hx y hy ht hxy z hz => ?_, fun j hj hrj i hi x hx ht => ?_, fun i hi => ?_⟩
  · obtain ⟨a, b, d⟩ := h3 i hi
    refine ⟨a, fun x hx => ?_, fun x y hxy hy => ?_⟩
    · rcases cs i hi x hx with ⟨q1, q2⟩ | ⟨rfl, q2, q3⟩
      · rw [q2]; exact b x q1
      · rw [q3]; exact ⟨a, Int.le_refl _⟩
    · rcases cs i hi y hy with ⟨q1, q2⟩ | ⟨rfl, q2, q3⟩
      · rcases cs i hi x (by omega) with ⟨p1, p2⟩ | ⟨rfl, p2, p3⟩
        · rw [q2, p2]; exact d x y hxy q1
        · omega
      · rw [q3]
        rcases cs i hi x (by omega) with ⟨p1, p2⟩ | ⟨p0, p2, p3⟩
        · rw [p2]; exact (b x p1).2
        · rw [p3]; exact Int.le_refl _
  · rcases cs i hi x hx with ⟨q1, q2⟩ | ⟨rfl, q2, q3⟩
    · rw [q2]; exact h5 i hi x q1
    · rw [q3]
      exact ⟨i, hi, h4 i hi hr, Int.le_refl _, fun z => by omega⟩
  · rcases cs i hi x hx with ⟨q1, q2⟩ | ⟨rfl, q2, q3⟩
    · obtain ⟨ki, ki2⟩ := keep i hi
      rcases cs j hj y hy with ⟨p1, p2⟩ | ⟨rfl, p2, p3⟩
      · rw [q2, p2] at ht
        obtain ⟨kj, kj2⟩ := keep j hj
        rw [ki2 z (by omega), kj2 z (by omega)]
        exact h7 i hi j hj x q1 y p1 ht hxy z hz
      · rw [q2, p3] at ht
        obtain ⟨a, b⟩ := h8 j hj hr i hi x q1 ht
        rw [ki2 z (by omega), he z (by omega)]
        exact h7 i hi j hj x q1 x a (by rw [ht, b]) (Nat.le_refl x) z hz
    · rcases cs j hj y hy with ⟨p1, p2⟩ | ⟨p0, p2, p3⟩
      · rw [q3, p2] at ht
        obtain ⟨a, b⟩ := h8 i hi hr j hj y p1 ht.symm
        omega
      · subst p0
        rfl
  · rcases cs i hi x hx with ⟨q1, q2⟩ | ⟨rfl, q2, q3⟩
    · rw [q2] at ht
      obtain ⟨a, b⟩ := h8 j hj hrj i hi x q1 ht
      obtain ⟨kj, kj2⟩ := keep j hj
      exact ⟨by omega, by rw [kj2 x a]; exact b⟩
    · rw [q3] at ht
      obtain rfl := h6 i hi j hj hr hrj ht
      exact ⟨hx, q3⟩
  · obtain ⟨a, b⟩ := h9 i hi
    obtain ⟨ki, ki2⟩ := keep i hi
    refine ⟨by omega, fun hc => ?_⟩
    obtain ⟨P, m, m1, m2, m3, m4, m5, m6, m7⟩ := b hc
    refine ⟨P, m, m1, fun x hx => by rw [ki2 x (by omega)]; exact m2 x hx, m3, m4, m5.sub (hp P m), fun j hj x hx hlt => ?_, fun j hj hrj hle => hp P m j hj (m7 j hj hrj hle)⟩
    rcases cs j hj x hx with ⟨q1, q2⟩ | ⟨rfl, q2, q3⟩
    · rw [q2] at hlt
      exact hp P m j hj (m6 j hj x q1 hlt)
    · rw [q3] at hlt
      exact hp P m j hj (m7 j hj hr (by omega))
/-- one who follows takes the leader's tale -/
theorem st_copy {n : Nat} {r t v : Nat → Int} {len len' : Nat → Nat} {e e' : Nat → Nat → En} {c : Nat → Nat} (h : IR n r t v len e c) {i k : Nat} (hi : i < n) (hk : k < n) (hrk : r k = 2) (hri : r i ≠ 2) (ht : t i = t k)
    (hl : len' i = len k) (he : ∀ x, x < len k → e' i x = e k x) (hlo : ∀ j, j < n → j ≠ i → len' j = len j) (heo : ∀ j, j < n → j ≠ i → ∀ x, x < len j → e' j x = e j x) : IR n r t v len' e' c ∧ c i ≤ len k ∧ ∀ x, x < c i → e k x = e i x := by
  obtain ⟨h1, h2, h3, h4, h5, h6, h7, h8, h9⟩ := h
  have src : ∀ j, j < n → ∃ q, q < n ∧ len' j = len q ∧ (∀ x, x < len q → e' j x = e q x) ∧ t q = t j ∧ (j ≠ i → q = j) ∧ (j = i → q = k) := by
    intro j hj
    by_cases e1 : j = i
    · subst e1
      exact ⟨k, hk, hl, he, ht.symm, fun z => absurd rfl z, fun _ => rfl⟩
    · exact ⟨j, hj, hlo j hj e1, heo j hj e1, rfl, fun _ => rfl, fun z => absurd z e1⟩
  have pre : c i ≤ len k ∧ ∀ x, x < c i → e k x = e i x := by
    obtain ⟨a, b⟩ := h9 i hi
    by_cases hc : 0 < c i
    · obtain ⟨P, m, m1, m2, m3, m4, m5, m6, m7⟩ := b hc
      obtain ⟨g1, g2⟩ := m7 k hk hrk (by omega)
      exact ⟨by omega, fun x hx => by rw [g2 x (by omega), m2 x hx]⟩
    · exact ⟨by omega, fun x hx => by omega⟩
  have comk : ∀ P m, (P (m - 1)).1 ≤ t i → rf_Com n r t len e P m → rf_Hp len' e' P m i := by
    intro P m hle ⟨m4, m5, m6, m7⟩
    obtain ⟨g1, g2⟩ := m7 k hk hrk (by omega)
    exact ⟨by omega, fun x hx => by rw [he x (by omega)]; exact g2 x hx⟩
  have hp : ∀ P m, rf_Com n r t len e P m → ∀ j, j < n → rf_Hp len e P m j → rf_Hp len' e' P m j := by
    intro P m hC j hj hh
    by_cases e1 : j = i
    · subst e1
      refine comk P m ?_ hC
      obtain ⟨a, b⟩ := hh
      have m4 := hC.1
      rw [← b (m - 1) (by omega)]
      exact ((h3 j hj).2.1 (m - 1) (by omega)).2
    · exact ⟨by rw [hlo j hj e1]; exact hh.1, fun x hx => by rw [heo j hj e1 x (by have := hh.1; omega)]; exact hh.2 x hx⟩
  refine ⟨⟨h1, h2, fun j hj => ?_, h4, fun j hj x hx => ?_, h6, fun j hj q hq x hx y hy hte hxy z hz => ?_, fun j hj hrj q hq x hx hte => ?_, fun j hj => ?_⟩, pre⟩
  · obtain ⟨q, hq, q1, q2, q3, -⟩ := src j hj
    obtain ⟨a, b, d⟩ := h3 q hq
    refine ⟨by omega, fun x hx => ?_, fun x y hxy hy => ?_⟩
    · rw [q2 x (by omega), ← q3]; exact b x (by omega)
    · rw [q2 x (by omega), q2 y (by omega)]; exact d x y hxy (by omega)
  · obtain ⟨q, hq, q1, q2, q3, -⟩ := src j hj
    rw [q2 x (by omega)]
    exact h5 q hq x (by omega)
  · obtain ⟨a, ha, a1, a2, -⟩ := src j hj
    obtain ⟨b, hb, b1, b2, -⟩ := src q hq
    rw [a2 x (by omega), b2 y (by omega)] at hte
    rw [a2 z (by omega), b2 z (by omega)]
    exact h7 a ha b hb x (by omega) y (by omega) hte hxy z hz
  · obtain ⟨b, hb, b1, b2, -⟩ := src q hq
    rw [b2 x (by omega)] at hte
    have e1 : j ≠ i := fun z => hri (by rw [← z]; exact hrj)
    obtain ⟨g1, g2⟩ := h8 j hj hrj b hb x (by omega) hte
    exact ⟨by rw [hlo j hj e1]; exact g1, by rw [heo j hj e1 x g1]; exact g2⟩
  · obtain ⟨a, b⟩ := h9 j hj
    have first : c j ≤ len' j ∧ ∀ x, x < c j → e' j x = e j x := by
      by_cases e1 : j = i
      · subst e1
        exact ⟨by rw [hl]; exact pre.1, fun x hx => by rw [he x (by omega)]; exact pre.2 x hx⟩
      · exact ⟨by rw [hlo j hj e1]; exact a, fun x hx => heo j hj e1 x (by omega)⟩
    refine ⟨first.1, fun hc => ?_⟩
    obtain ⟨P, m, m1, m2, m3, m4⟩ := b hc
    have hC := m4
    obtain ⟨m4, m5, m6, m7⟩ := m4
    refine ⟨P, m, m1, fun x hx => by rw [first.2 x hx]; exact m2 x hx, m3, m4, m5.sub (hp P m hC), fun q hq x hx hlt => ?_, fun q hq hrq hle => hp P m hC q hq (m7 q hq hrq hle)⟩
    obtain ⟨w, hw, w1, w2, w3, w4, w5⟩ := src q hq
    rw [w2 x (by omega)] at hlt
    have hh := m6 w hw x (by omega) hlt
    by_cases e1 : q = i
    · obtain rfl := w5 e1
      subst e1
      exact ⟨by rw [hl]; exact hh.1, fun x hx => by rw [he x (by have := hh.1; omega)]; exact hh.2 x hx⟩
    · obtain rfl := w4 e1
      exact hp P m hC w hq hh
/-- one who follows learns what the leader knows agreed -/
theorem st_known {n : Nat} {r t v : Nat → Int} {len : Nat → Nat} {e : Nat → Nat → En} {c c' : Nat → Nat} (h : IR n r t v len e c) {i k : Nat} (hi : i < n) (hk : k < n) (ht : t k ≤ t i) (hp : rf_Hp len e (e k) (len k) i)
    (hc : c' i = c i ∨ (c' i = c k)) (ho : ∀ j, j < n → j ≠ i → c' j = c j) : IR n r t v len e c' := by
  obtain ⟨h1, h2, h3, h4, h5, h6, h7, h8, h9⟩ := h
  refine ⟨h1, h2, h3, h4, h5, h6, h7, h8, fun j hj => ?_⟩
  by_cases e1 : j = i
  · subst e1
    rcases hc with hc | hc
    · rw [hc]; exact h9 j hj
    · rw [hc]
      obtain ⟨a, b⟩ := h9 k hk
      have := hp.1
      refine ⟨by omega, fun h0 => ?_⟩
      obtain ⟨P, m, m1, m2, m3, m4⟩ := b h0
      exact ⟨P, m, m1, fun x hx => by rw [hp.2 x (by omega)]; exact m2 x hx, by omega, m4⟩
  · rw [ho j hj e1]; exact h9 j hj
/-- a leader whom most follow knows its own term's lines agreed -/
theorem st_com {n : Nat} {r t v : Nat → Int} {len : Nat → Nat} {e : Nat → Nat → En} {c c' : Nat → Nat} (h : IR n r t v len e c) {k m : Nat} (hk : k < n) (hr : r k = 2) (hm : 0 < m ∧ m ≤ len k) (ht : (e k (m - 1)).1 = t k)
    (hw : Mo n (fun i => t i = t k ∧ rf_Hp len e (e k) (len k) i)) (hc : c' k = m) (ho : ∀ j, j < n → j ≠ k → c' j = c j) : IR n r t v len e c' := by
  obtain ⟨h1, h2, h3, h4, h5, h6, h7, h8, h9⟩ := h
  refine ⟨h1, h2, h3, h4, h5, h6, h7, h8, fun j hj => ?_⟩
  by_cases e1 : j = k
  · subst e1
    rw [hc]
    refine ⟨hm.2, fun _ => ⟨e j, m, Nat.le_refl m, fun x _ => rfl, by omega, hm.1, hw.sub fun i hi q => ⟨by have := q.2.1; omega, fun x hx => q.2.2 x (by omega)⟩, fun i hi x hx hlt => ?_, fun q hq hrq hle => ?_⟩⟩
    · obtain ⟨a, ha, b, d, -⟩ := h5 i hi x hx
      obtain ⟨w, hwn, ⟨w1, w2⟩, w3⟩ := hw.meet b
      rcases w3 with w3 | ⟨w3, -⟩ <;> omega
    · obtain ⟨w, hwn, ⟨w1, w2⟩, w3⟩ := hw.meet (h4 q hq hrq)
      have : t j = t q := by rcases w3 with w3 | ⟨w3, -⟩ <;> omega
      obtain rfl := h6 j hj q hq hr hrq this
      exact ⟨hm.2, fun x _ => rfl⟩
  · rw [ho j hj e1]; exact h9 j hj
/-- what two know agreed is alike -/
theorem st_safe {n : Nat} {r t v : Nat → Int} {len : Nat → Nat} {e : Nat → Nat → En} {c : Nat → Nat} (h : IR n r t v len e c) {i j : Nat} (hi : i < n) (hj : j < n) {x : Nat} (hx : x < c i) (hy : x < c j) : e i x = e j x := by
  obtain ⟨-, -, -, -, -, -, -, -, h9⟩ := h
  obtain ⟨P, m, m1, m2, m3, m4, m5, -⟩ := (h9 i hi).2 (by omega)
  obtain ⟨Q, q, q1, q2, q3, q4, q5, -⟩ := (h9 j hj).2 (by omega)
  obtain ⟨w, hw, a, b⟩ := m5.meet q5
  rw [m2 x hx, q2 x hy, ← a.2 x (by omega), b.2 x (by omega)]
/-- only what stands below n counts -/
theorem st_ext {n : Nat} {r t v r' t' v' : Nat → Int} {len len' : Nat → Nat} {e e' : Nat → Nat → En} {c c' : Nat → Nat} (h : IR n r t v len e c) (hr : ∀ i, i < n → r' i = r i) (ht : ∀ i, i < n → t' i = t i) (hv : ∀ i, i < n → v' i = v i) (hl : ∀ i, i < n → len' i = len i) (he : ∀ i, i < n → ∀ x, x < len i → e' i x = e i x) (hc : ∀ i, i < n → c' i = c i) : IR n r' t' v' len' e' c' := by
  have h0 := st_soft (r' := r') (t' := t') (v' := v') h (fun i hi z => by rw [hv i hi]; rw [hr i hi] at z; exact h.1 i hi z) (fun i hi k hk z => by rw [ht i hi, ht k hk]; rw [hv i hi] at z; exact h.2.1 i hi k hk z) (fun i hi => by rw [ht i hi]; exact Int.le_refl _) (fun i hi _ => Or.inl (hv i hi)) (fun j hj z => by rw [hr j hj] at z; exact ⟨z, ht j hj⟩) (fun j hj z _ => by rw [hr j hj] at z; exact z)
  obtain ⟨h1, h2, h3, h4, h5, h6, h7, h8, h9⟩ := h0
  have hp : ∀ P m i, i < n → rf_Hp len e P m i → rf_Hp len' e' P m i := fun P m i hi z => ⟨by rw [hl i hi]; exact z.1, fun x hx => by rw [he i hi x (by have := z.1; omega)]; exact z.2 x hx⟩
  refine ⟨h1, h2, fun i hi => ?_, h4, fun i hi x hx => ?_, h6, fun i hi j hj x hx y hy hte hxy z hz => ?_, fun j hj hrj i hi x hx hte => ?_, fun i hi => ?_⟩
  · obtain ⟨a, b, d⟩ := h3 i hi
    rw [hl i hi]
    exact ⟨a, fun x hx => by rw [he i hi x hx]; exact b x hx, fun x y hxy hy => by rw [he i hi x (by omega), he i hi y hy]; exact d x y hxy hy⟩
  · rw [hl i hi] at hx
    rw [he i hi x hx]
    exact h5 i hi x hx
  · rw [hl i hi] at hx
    rw [hl j hj] at hy
    rw [he i hi x hx, he j hj y hy] at hte
    rw [he i hi z (by omega), he j hj z (by omega)]
    exact h7 i hi j hj x hx y hy hte hxy z hz
  · rw [hl i hi] at hx
    rw [he i hi x hx] at hte
    obtain ⟨a, b⟩ := h8 j hj hrj i hi x hx hte
    exact ⟨by rw [hl j hj]; exact a, by rw [he j hj x a]; exact b⟩
  · obtain ⟨a, b⟩ := h9 i hi
    rw [hl i hi, hc i hi]
    refine ⟨a, fun h0 => ?_⟩
    obtain ⟨P, m, m1, m2, m3, m4, m5, m6, m7⟩ := b h0
    refine ⟨P, m, m1, fun x hx => by rw [he i hi x (by omega)]; exact m2 x hx, m3, m4, m5.sub (hp P m), fun j hj x hx hlt => ?_, fun j hj hrj hle => hp P m j hj (m7 j hj hrj hle)⟩
    rw [hl j hj] at hx
    rw [he j hj x hx] at hlt
    exact hp P m j hj (m6 j hj x hx hlt)
/-- all begin -/
theorem st_0 {n : Nat} {r t v : Nat → Int} {len : Nat → Nat} {e : Nat → Nat → En} {c : Nat → Nat} (hr : ∀ i, i < n → r i = 0) (ht : ∀ i, i < n → t i = 0) (hv : ∀ i, i < n → v i = -1) (hl : ∀ i, i < n → len i = 0) (hc : ∀ i, i < n → c i = 0) : IR n r t v len e c := by
  refine ⟨fun i hi z => ?_, fun i hi k hk z => ?_, fun i hi => ?_, fun j hj z => ?_, fun i hi x hx => ?_, fun j hj k hk z => ?_, fun i hi j hj x hx => ?_, fun j hj z => ?_, fun i hi => ?_⟩
  · have := hr i hi; omega
  · rw [ht i hi, ht k hk]; exact Int.le_refl _
  · rw [ht i hi, hl i hi]; exact ⟨Int.le_refl _, fun x hx => absurd hx (Nat.not_lt_zero x), fun x y _ hx => absurd hx (Nat.not_lt_zero y)⟩
  · have := hr j hj; omega
  · rw [hl i hi] at hx; exact absurd hx (Nat.not_lt_zero x)
  · have := hr j hj; omega
  · rw [hl i hi] at hx; exact absurd hx (Nat.not_lt_zero x)
  · have := hr j hj; omega
  · rw [hl i hi, hc i hi]; exact ⟨Nat.le_refl 0, fun z => absurd z (Nat.lt_irrefl 0)⟩
