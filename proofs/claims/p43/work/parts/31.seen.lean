/-! ===== the pure part: what the law sees ===== -/
section P31
variable {a a' n n' i j x k M : Nat} {V V' : Nat → Int32} {S S' : Mem} {f : Nat → Int32}
def ctV (V : Nat → Int32) (c : Nat) : Int32 := if V (8 + c) = 0 then 0 else 1
theorem ropes_o : g_X4_countCutRopes S k = some (fg (· + ·) (ctV (S k)) 0 25 / 2) := by
  have R : Gv (fun y => y = fg (· + ·) (ctV (S k)) 0 25 / 2) (g_X4_countCutRopes S k) := by
    unfold g_X4_countCutRopes f_X4_countCutRopes_0 f_X4_countCutRopes_4
    refine Gv_lp (fun d s => ∃ i, i + d = 25 ∧ s = (fg (· + ·) (ctV (S k)) 0 i, nI i)) ?_ 25 2000 _ (by omega) ⟨0, by omega, rfl⟩
    rintro d s f ⟨i, hd, rfl⟩ K
    unfold f_X4_countCutRopes_4_b f_X4_countCutRopes_25
    dsimp only
    rw [show (25 : Int32) = nI 25 from rfl, ile (by omega) (by omega)]
    by_cases c : 25 ≤ i
    · have : i = 25 := by omega
      subst this
      rw [if_pos c]
      exact Gv.ret rfl
    · rw [if_neg c, ck_in (by omega) (by decide), nI_clamp (by omega)]
      have e : (if S k (8 + i) = 0 then f (fg (· + ·) (ctV (S k)) 0 i, nI i + 1) else f (fg (· + ·) (ctV (S k)) 0 i + 1, nI i + 1)) = f (fg (· + ·) (ctV (S k)) 0 (i + 1), nI (i + 1)) := by
        rw [nI_p1]
        show _ = f (fg (· + ·) (ctV (S k)) 0 i + ctV (S k) i, nI (i + 1))
        unfold ctV
        by_cases c2 : S k (8 + i) = 0
        · rw [if_pos c2, if_pos c2, i_add0]
        · rw [if_neg c2, if_neg c2]
      rw [e]
      exact K (d - 1) _ (by omega) ⟨i + 1, by omega, rfl⟩
  obtain ⟨y, h, rfl⟩ := R
  exact h
theorem ctV_b (V : Nat → Int32) (j : Nat) : ctV V j = 0 ∨ ctV V j = 1 := by
  unfold ctV
  split
  · exact Or.inl rfl
  · exact Or.inr rfl
theorem ropes_p : ∃ r : Nat, r ≤ 25 ∧ g_X4_countCutRopes S k = some (nI r) := by
  obtain ⟨r, hr, e⟩ := fg_01 (ctV_b (S k)) 25
  rw [ropes_o, e, show (2 : Int32) = nI 2 from rfl, pk_div (by omega) (by decide) (by decide)]
  exact ⟨r / 2, by omega, rfl⟩
theorem acc_3 : g_X8_account S 3 = some (fg (· + ·) (ctV (S 0)) 0 25 / 2) := by
  unfold g_X8_account f_X8_account_0
  rw [if_neg (by decide), if_neg (by decide), if_neg (by decide), if_pos rfl, ropes_o, bd1_s]
theorem rch_e (h : SR n V V') (h5 : n ≤ 5) (hi : i < n) (hj : j < n) : rch V' i j = rch V i j := by
  unfold rch
  rw [h.2.1 i hi 7 (by decide), h.2.1 j hj 7 (by decide), show 8 + 5 * i + j = 8 + (5 * i + j) from Nat.add_assoc _ _ _, h.2.2.2 (5 * i + j) (by omega)]
theorem acc_e (H : RO a n (S 0)) (h : SR n (S 0) (S' 0)) : ∀ k, k < 11 → ∃ x, g_X8_account S (nI k) = some x ∧ g_X8_account S' (nI k) = some x := by
  have h5 := H.le5
  have H' := H.same h
  intro k hk
  have : k = 0 ∨ k = 1 ∨ k = 2 ∨ k = 3 ∨ k = 4 ∨ k = 5 ∨ k = 6 ∨ k = 7 ∨ k = 8 ∨ k = 9 ∨ k = 10 := by omega
  rcases this with rfl | rfl | rfl | rfl | rfl | rfl | rfl | rfl | rfl | rfl | rfl
  · exact ⟨_, acc_0, acc_0.trans (congrArg some (h.1 0 (by decide)))⟩
  · exact ⟨_, acc_1, acc_1.trans (congrArg some (h.1 1 (by decide)))⟩
  · refine ⟨_, acc_2 H.cnt h5, (acc_2 H'.cnt h5).trans (congrArg some (fg_e fun j hj => ?_))⟩
    unfold abV
    rw [h.2.1 j hj 7 (by decide)]
  · refine ⟨_, acc_3, acc_3.trans (congrArg (fun y => some (y / 2)) (fg_e fun j hj => ?_))⟩
    unfold ctV
    rw [h.2.2.2 j hj]
  · exact ⟨_, acc_4 H.cnt h5, (acc_4 H'.cnt h5).trans (congrArg some (fg_e fun j hj => h.2.1 j hj 1 (by decide)))⟩
  · exact ⟨_, acc_5, acc_5.trans (congrArg some (h.1 2 (by decide)))⟩
  · exact ⟨_, acc_6, acc_6.trans (congrArg some (h.1 3 (by decide)))⟩
  · exact ⟨_, acc_7, acc_7.trans (congrArg some (h.1 4 (by decide)))⟩
  · exact ⟨_, acc_8, acc_8.trans (congrArg some (h.1 5 (by decide)))⟩
  · exact ⟨_, acc_9, acc_9.trans (congrArg some (h.1 6 (by decide)))⟩
  · exact ⟨_, acc_10, acc_10.trans (congrArg some (h.1 7 (by decide)))⟩
theorem drv_e (H : RO a n (S 0)) (h : SR n (S 0) (S' 0)) (hi : i < n) : ∀ w, w < 11 → ∃ x, g_X8_driverOf S (nI i) (nI w) = some x ∧ g_X8_driverOf S' (nI i) (nI w) = some x := by
  have h5 := H.le5
  have H' := H.same h
  intro w hw
  have : w = 0 ∨ w = 1 ∨ w = 2 ∨ w = 3 ∨ w = 4 ∨ w = 5 ∨ w = 6 ∨ w = 7 ∨ w = 8 ∨ w = 9 ∨ w = 10 := by omega
  rcases this with rfl | rfl | rfl | rfl | rfl | rfl | rfl | rfl | rfl | rfl | rfl
  · exact ⟨_, drv_0 H hi, (drv_0 H' hi).trans (congrArg some (h.2.1 i hi 0 (by decide)))⟩
  · exact ⟨_, drv_1 H hi, (drv_1 H' hi).trans (congrArg some (h.2.1 i hi 1 (by decide)))⟩
  · exact ⟨_, drv_2 H hi, (drv_2 H' hi).trans (congrArg some (h.2.1 i hi 2 (by decide)))⟩
  · exact ⟨_, drv_3 H hi, (drv_3 H' hi).trans (congrArg some (h.2.1 i hi 3 (by decide)))⟩
  · exact ⟨_, drv_4 H hi, (drv_4 H' hi).trans (congrArg some (h.2.1 i hi 4 (by decide)))⟩
  · exact ⟨_, drv_5 H hi, (drv_5 H' hi).trans (congrArg some (h.2.1 i hi 5 (by decide)))⟩
  · exact ⟨_, drv_6 H hi, (drv_6 H' hi).trans (congrArg some (h.2.1 i hi 6 (by decide)))⟩
  · refine ⟨_, drv_7 H hi, (drv_7 H' hi).trans (congrArg some ?_)⟩
    unfold abV
    rw [h.2.1 i hi 7 (by decide)]
  · exact ⟨_, drv_8 H hi, (drv_8 H' hi).trans (congrArg some (fg_e fun j hj => rch_e h h5 hi hj))⟩
  · exact ⟨_, drv_9 H hi, (drv_9 H' hi).trans (congrArg some (h.2.1 i hi 8 (by decide)))⟩
  · exact ⟨_, drv_10 H hi, (drv_10 H' hi).trans (congrArg some (h.2.1 i hi 9 (by decide)))⟩
theorem seen_ex (H : RO a n (S 0)) : ∃ f, Seen S f := by
  refine ⟨_, n, fun k => (g_X8_account S (nI k)).getD 0, fun k w => (g_X8_driverOf S (nI k) (nI w)).getD 0, rL (S 0), fun k l b => if b = 0 then S 0 (33 + 34 * k + 10 + l) else S 0 (33 + 34 * k + 22 + l), ⟨H.le5, fun k hk => ?_, ?_, fun k hk => ⟨fun w hw => ?_, ?_, H.l12 k hk, fun l hl => ⟨?_, ?_⟩⟩⟩, rfl⟩
  · obtain ⟨x, e, -⟩ := acc_e (S' := S) H SR.rf k hk
    dsimp only
    rw [e]
    rfl
  · show (g_X8_account S 1).getD 0 = _
    rw [acc_1, H.cnt]
    rfl
  · obtain ⟨x, e, -⟩ := drv_e (S' := S) H SR.rf hk w hw
    dsimp only
    rw [e]
    rfl
  · show (g_X8_driverOf S (nI k) 5).getD 0 = _
    rw [drv_5 H hk]
    exact (H.many k hk).2
  · rw [line_0 H hk hl]
    rfl
  · rw [line_1 H hk hl]
    rfl
theorem seen_n {A : Nat → Int32} {D : Nat → Nat → Int32} {mm : Nat → Nat} {L : Nat → Nat → Nat → Int32} (H : RO a n (S 0)) (h : SeenH S n' A D mm L) : n' = n := by
  have h5 := H.le5
  have h6 := h.1
  have e : g_X8_account S (nI 1) = some (A 1) := h.2.1 1 (by decide)
  rw [h.2.2.1, show nI 1 = (1 : Int32) from rfl, acc_1, H.cnt] at e
  exact ((nI_eq (by omega) (by omega)).mp (Option.some.inj e)).symm
theorem seen_e (H : RO a n (S 0)) (h : SR n (S 0) (S' 0)) (hs : Seen S f) : Seen S' f := by
  obtain ⟨n', A, D, mm, L, hS, rfl⟩ := hs
  have hn := seen_n H hS
  subst hn
  have h5 := H.le5
  have H' := H.same h
  refine ⟨n', A, D, mm, L, ⟨hS.1, fun k hk => ?_, hS.2.2.1, fun k hk => ⟨fun w hw => ?_, (hS.2.2.2 k hk).2.1, (hS.2.2.2 k hk).2.2.1, fun l hl => ?_⟩⟩, rfl⟩
  · obtain ⟨x, e1, e2⟩ := acc_e H h k hk
    rw [e2, ← e1]
    exact hS.2.1 k hk
  · obtain ⟨x, e1, e2⟩ := drv_e H h hk w hw
    rw [e2, ← e1]
    exact (hS.2.2.2 k hk).1 w hw
  · have em : mm k = rL (S 0) k := by
      have e : g_X8_driverOf S (nI k) (nI 5) = some (D k 5) := (hS.2.2.2 k hk).1 5 (by decide)
      have m12 := (hS.2.2.2 k hk).2.2.1
      rw [(hS.2.2.2 k hk).2.1, show nI 5 = (5 : Int32) from rfl, drv_5 H hk, (H.many k hk).2] at e
      have := H.l12 k hk
      exact ((nI_eq (by omega) (by omega)).mp (Option.some.inj e)).symm
    obtain ⟨g1, g2⟩ := (hS.2.2.2 k hk).2.2.2 l hl
    rw [em] at hl
    have hl' : l < rL (S' 0) k := by rw [h.rL hk]; exact hl
    rw [line_0 H hk hl] at g1
    rw [line_1 H hk hl] at g2
    rw [line_0 H' hk hl', line_1 H' hk hl', (h.2.2.1 k hk l hl).1, (h.2.2.1 k hk l hl).2]
    exact ⟨g1, g2⟩
theorem upd_n {g : Nat → Int32} {p q : Nat} {y : Int32} (h : q ≠ p) : upd g p y q = g q := by simp [upd, h]
theorem upd_s {g : Nat → Int32} {p : Nat} {y : Int32} : upd g p y p = y := by simp [upd]
theorem sA_0 {A : Nat → Int32} : ∀ {m q : Nat}, m ≤ q → sA A m q = 0
  | 0, _, _ => rfl
  | m + 1, q, h => (upd_n (by omega)).trans (sA_0 (m := m) (by omega))
theorem sD_o {D : Nat → Int32} {g : Nat → Int32} {k q : Nat} : ∀ {m : Nat}, (q < 12 + 36 * k ∨ 12 + 36 * k + m ≤ q) → sD D k g m q = g q
  | 0, _ => rfl
  | m + 1, h => (upd_n (by omega)).trans (sD_o (m := m) (by omega))
theorem sD_i {D : Nat → Int32} {g : Nat → Int32} {k w : Nat} : ∀ {m : Nat}, w < m → sD D k g m (12 + 36 * k + w) = D w
  | 0, h => absurd h (Nat.not_lt_zero w)
  | m + 1, h => by
    by_cases c : w = m
    · subst c; exact upd_s
    · exact (upd_n (by omega)).trans (sD_i (m := m) (by omega))
theorem sL_o {L : Nat → Nat → Int32} {g : Nat → Int32} {k q : Nat} : ∀ {m : Nat}, (q < 24 + 36 * k ∨ 24 + 36 * k + 2 * m ≤ q) → sL L k g m q = g q
  | 0, _ => rfl
  | m + 1, h => ((upd_n (by omega)).trans (upd_n (by omega))).trans (sL_o (m := m) (by omega))
theorem sO_at {A : Nat → Int32} {D : Nat → Nat → Int32} {mm : Nat → Nat} {L : Nat → Nat → Nat → Int32} {i w : Nat} (hw : w < 11) : ∀ {n : Nat}, (∀ k, k < n → mm k ≤ 12) → sO A D mm L n (12 + 36 * i + w) = if i < n then D i w else 0
  | 0, _ => by
    rw [if_neg (Nat.not_lt_zero i)]
    exact sA_0 (by omega)
  | n + 1, h => by
    have := h n (Nat.lt_succ_self n)
    show sL (L n) n (sD (D n) n (sO A D mm L n) 11) (mm n) (12 + 36 * i + w) = _
    rw [sL_o (by omega)]
    by_cases c : i = n
    · subst c
      rw [sD_i hw, if_pos (Nat.lt_succ_self i)]
    · rw [sD_o (by omega), sO_at hw (fun k hk => h k (Nat.lt_succ_of_lt hk))]
      by_cases c2 : i < n
      · rw [if_pos c2, if_pos (by omega)]
      · rw [if_neg c2, if_neg (by omega)]
/-- no driver knows less, no term fell: as the law asks it -/
theorem seen_m (H : RO a n (S 0)) (H' : RO a' n' (S' 0)) (hm : ∀ j, j < n → rT (S 0) j ≤ rT (S' 0) j ∧ rC (S 0) j ≤ rC (S' 0) j) (hs : Seen S f) : ∀ i, i < n' → ∃ x y, g_X8_driverOf S' (nI i) 6 = some x ∧ f (12 + 36 * i + 6) ≤ x ∧ g_X8_driverOf S' (nI i) 1 = some y ∧ f (12 + 36 * i + 1) ≤ y := by
  obtain ⟨n2, A, D, mm, L, hS, rfl⟩ := hs
  have hn := seen_n H hS
  subst hn
  intro i hi
  refine ⟨_, _, drv_6 H' hi, ?_, drv_1 H' hi, ?_⟩
  · rw [sO_at (by decide) (fun k hk => (hS.2.2.2 k hk).2.2.1), H'.agr i hi]
    have c2 := H'.cle hi
    have l2 := H'.l12 i hi
    by_cases c : i < n2
    · rw [if_pos c]
      have e : g_X8_driverOf S (nI i) (nI 6) = some (D i 6) := (hS.2.2.2 i c).1 6 (by decide)
      rw [show nI 6 = (6 : Int32) from rfl, drv_6 H c, H.agr i c] at e
      rw [← Option.some.inj e]
      exact (nI_leI (by have := (hm i c).2; omega) (by omega)).mpr (hm i c).2
    · rw [if_neg c]
      exact nI_pos' (by omega)
  · rw [sO_at (by decide) (fun k hk => (hS.2.2.2 k hk).2.2.1)]
    obtain ⟨t, ht, e, eT⟩ := H'.tm hi
    by_cases c : i < n2
    · rw [if_pos c]
      have e : g_X8_driverOf S (nI i) (nI 1) = some (D i 1) := (hS.2.2.2 i c).1 1 (by decide)
      rw [show nI 1 = (1 : Int32) from rfl, drv_1 H c] at e
      rw [← Option.some.inj e]
      exact Int32.le_iff_toInt_le.mpr (hm i c).1
    · rw [if_neg c, e]
      exact nI_pos' (by have := H'.aB; omega)
end P31
