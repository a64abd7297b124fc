/-! ===== the pure part: numbers written on both sides ===== -/
section NUM2
variable {b c d i j k n m len w Mx N : Nat} {S T S' T' : Mem}
theorem dig_lt (w j : Nat) : 48 + w / 10 ^ j % 10 < 128 := by
  have := Nat.mod_lt (w / 10 ^ j) (show 0 < 10 by decide)
  omega
theorem appI_r (hb : b < 2) (H : BO S b len) (hw : w < 1000000000) (hq : len + sb_dg w ≤ 142) : sbapI S b (nI w) = true ∧ BO (appIn S b (nI w)) b (len + sb_dg w) ∧ FB b S (appIn S b (nI w)) ∧ (∀ j, j < len → appIn S b (nI w) (14 + 2 * b) j = S (14 + 2 * b) j) ∧ ∀ j, j < sb_dg w → appIn S b (nI w) (14 + 2 * b) (len + sb_dg w - 1 - j) = nI (48 + w / 10 ^ j % 10) := by
  have hd := sb_dg_in w
  obtain ⟨a1, a2⟩ := sbapp_r (w := sb_dg w) hb H hq (by omega)
  obtain ⟨⟨e1, e2, e3, e4⟩, e5, e6, e7⟩ := ens_r hb H (q := len + sb_dg w) hq (by omega)
  obtain ⟨g1, g2, g3⟩ := gcs_r (b := b) (w + 1) w (len + sb_dg w) (ens S b (len + sb_dg w)) (by omega) hw (by omega)
  unfold sbapI appIn appI
  rw [nI_clamp (by omega), a1, a2]
  have hcap : capN (up (gcs b (w + 1) w (len + sb_dg w) (ens S b (len + sb_dg w))) (13 + 2 * b) 0 (nI (len + sb_dg w))) (13 + 2 * b) = capN (ens S b (len + sb_dg w)) (13 + 2 * b) := by
    unfold capN
    rw [up_ne _ _ (by omega), g3 _ (by omega)]
  refine ⟨?_, ⟨?_, ?_, ?_, ?_⟩, ?_, ?_, ?_⟩
  · rw [decide_eq_true (nI_pos' (show w < 2 ^ 31 by omega))]
    rfl
  · rw [up_same]
  · rw [hcap]; exact e5
  · rw [hcap]; exact e3
  · intro j hj
    rw [hcap] at hj
    rw [up_ne _ _ (by omega)]
    by_cases c : len ≤ j ∧ j < len + sb_dg w
    · have := g1 (len + sb_dg w - 1 - j) (by omega)
      rw [show len + sb_dg w - 1 - (len + sb_dg w - 1 - j) = j by omega] at this
      rw [this]
      exact fit_z ⟨_, dig_lt _ _, rfl⟩
    · rw [g2 j (by omega)]
      exact e4 j hj
  · intro e h1 h2
    rw [up_oth _ _ _ h1, g3 e h2]
    exact e6 e h1 h2
  · intro j hj
    rw [up_ne _ _ (by omega), g2 j (by omega)]
    exact e7 j hj
  · intro j hj
    rw [up_ne _ _ (by omega)]
    exact g1 j hj
/-- only the line of the reference has changed -/
def FL9 (T T' : Mem) : Prop := (∀ e, e ≠ 27 → e ≠ 28 → T' e = T e) ∧ ∀ j, j ≠ 19 → T' 28 j = T 28 j
theorem FL9.rf : FL9 T T := ⟨fun _ _ _ => rfl, fun _ _ => rfl⟩
theorem FL9.tr {T1 T2 : Mem} (h : FL9 T T1) (h' : FL9 T1 T2) : FL9 T T2 := ⟨fun e h1 h2 => (h'.1 e h1 h2).trans (h.1 e h1 h2), fun j hj => (h'.2 j hj).trans (h.2 j hj)⟩
theorem puts_r (hT : T 28 19 = nI len) (hl : len < 120) (v : Int32) : g_X9_puts T v = some (up (up T 27 len v) 28 19 (nI (len + 1))) := by
  unfold g_X9_puts f_X9_puts_0
  rw [hT, ck_in hl (by decide), nI_clamp (by omega), up_ne _ _ (by omega), hT, nI_p1]
theorem puts_fl (v u : Int32) : FL9 T (up (up T 27 len v) 28 19 u) := ⟨fun e h1 h2 => by rw [up_oth _ _ _ h2, up_oth _ _ _ h1], fun j hj => by rw [up_ne _ _ (by omega), up_ne _ _ (by omega)]⟩
theorem num_r : ∀ (m w len : Nat) (T : Mem), w < 1000000000 → sb_dg w ≤ m → T 28 19 = nI len → len + sb_dg w ≤ 120 → ∃ T', f_num m T (nI w) = some T' ∧ T' 28 19 = nI (len + sb_dg w) ∧ FL9 T T' ∧ (∀ j, j < len → T' 27 j = T 27 j) ∧ ∀ j, j < sb_dg w → T' 27 (len + sb_dg w - 1 - j) = nI (48 + w / 10 ^ j % 10) := by
  intro m
  induction m with
  | zero => intro w len T hw hd; have := sb_dg_in w; omega
  | succ m ih =>
    intro w len T hw hd hT hl
    have e10 : (10 : Int32) = nI 10 := rfl
    have e48 : (48 : Int32) = nI 48 := rfl
    unfold f_num
    rw [e10, pk_rem (by omega) (by decide) (by decide), pk_div (by omega) (by decide) (by decide), e48, nI_add, nlt_le (by omega) (by omega)]
    by_cases c : 10 ≤ w
    · have h10 := dg_10 c hw
      rw [if_pos c]
      obtain ⟨T1, t1, t2, t3, t4, t5⟩ := ih (w / 10) len T (by omega) (by omega) hT (by omega)
      rw [t1, bd1_s, puts_r t2 (by omega)]
      refine ⟨_, rfl, ?_, t3.tr (puts_fl _ _), ?_, ?_⟩
      · rw [up_same, h10, ← Nat.add_assoc]
      · intro j hj
        rw [up_ne _ _ (by omega), up_ne _ _ (by omega), t4 j hj]
      · intro j hj
        by_cases j0 : j = 0
        · subst j0
          rw [up_ne _ _ (by omega), show len + sb_dg w - 1 - 0 = len + sb_dg (w / 10) by omega, up_same, Nat.pow_zero, Nat.div_one]
        · have := t5 (j - 1) (by omega)
          rw [show len + sb_dg (w / 10) - 1 - (j - 1) = len + sb_dg w - 1 - j by omega] at this
          rw [up_ne _ _ (by omega), up_ne _ _ (by omega), this, Nat.div_div_eq_div_mul]
          have e : 10 * 10 ^ (j - 1) = 10 ^ j := by
            rw [Nat.mul_comm, ← Nat.pow_succ]
            exact congrArg _ (by omega)
          rw [e]
    · have h1 := dg_1 (w := w) (by omega)
      rw [h1] at hl ⊢
      rw [if_neg c, puts_r hT (by omega)]
      refine ⟨_, rfl, ?_, puts_fl _ _, ?_, ?_⟩
      · rw [up_same]
      · intro j hj
        rw [up_ne _ _ (by omega), up_ne _ _ (by omega)]
      · intro j hj
        have : j = 0 := by omega
        subst this
        rw [up_ne _ _ (by omega), show len + 1 - 1 - 0 = len by omega, up_same, Nat.pow_zero, Nat.div_one]
/-- builder and line in step -/
def WL (len : Nat) (S T : Mem) : Prop := len ≤ 120 ∧ BO S 1 len ∧ T 28 19 = nI len ∧ ∀ i, i < len → ∃ t, t < 128 ∧ S 16 i = nI t ∧ T 27 i = nI t
theorem WL.bx (h : WL len S T) : BX 1 27 19 120 S T := by
  obtain ⟨h1, h2, h3, h4⟩ := h
  refine BX.of h1 h2 h3 (fun i hi => ?_)
  obtain ⟨t, ht, e1, e2⟩ := h4 i hi
  unfold sbch
  rw [nI_clamp (by omega), show S (14 + 2 * 1) i = S 16 i from rfl, e1, e2, char_c ht]
theorem WL.putc (h : WL len S T) {t : Nat} (ht : t < 128) (hl : len < 120) : ∃ T', sbapC S 1 (nI t) = true ∧ g_X9_puts T (nI t) = some T' ∧ WL (len + 1) (appCn S 1 (nI t)) T' ∧ FB 1 S (appCn S 1 (nI t)) ∧ FL9 T T' := by
  obtain ⟨h1, h2, h3, h4⟩ := h
  obtain ⟨a1, a2, a3, a4, a5⟩ := appC_r (b := 1) (by decide) h2 ht (by omega)
  refine ⟨_, a1, puts_r h3 hl _, ⟨by omega, a2, by rw [up_same], ?_⟩, a3, puts_fl _ _⟩
  intro i hi
  by_cases c : i = len
  · subst c
    exact ⟨t, ht, a5, by rw [up_ne _ _ (by omega), up_same]⟩
  · obtain ⟨u, hu, e1, e2⟩ := h4 i (by omega)
    exact ⟨u, hu, (a4 i (by omega)).trans e1, by rw [up_ne _ _ (by omega), up_ne _ _ (by omega)]; exact e2⟩
theorem WL.putn (h : WL len S T) (hw : w < 10000000) (hl : len + sb_dg w ≤ 120) : ∃ T', sbapI S 1 (nI w) = true ∧ g_X9_number T (nI w) = some T' ∧ WL (len + sb_dg w) (appIn S 1 (nI w)) T' ∧ FB 1 S (appIn S 1 (nI w)) ∧ FL9 T T' := by
  obtain ⟨h1, h2, h3, h4⟩ := h
  have hd := sb_dg_in w
  obtain ⟨a1, a2, a3, a4, a5⟩ := appI_r (b := 1) (w := w) (by decide) h2 (by omega) (by omega)
  obtain ⟨T', t1, t2, t3, t4, t5⟩ := num_r 10 w len T (by omega) (by omega) h3 hl
  refine ⟨T', a1, t1, ⟨hl, a2, t2, ?_⟩, a3, t3⟩
  intro i hi
  by_cases c : i < len
  · obtain ⟨u, hu, e1, e2⟩ := h4 i c
    exact ⟨u, hu, (a4 i c).trans e1, (t4 i c).trans e2⟩
  · have b1 := a5 (len + sb_dg w - 1 - i) (by omega)
    have b2 := t5 (len + sb_dg w - 1 - i) (by omega)
    rw [show len + sb_dg w - 1 - (len + sb_dg w - 1 - i) = i by omega] at b1 b2
    exact ⟨_, dig_lt _ _, b1, b2⟩
end NUM2
