/-! ===== the pure part: builders ===== -/
section BLD
variable {b c d i j k n m len w Mx : Nat} {S T S' T' : Mem}
/-- a builder in order, with its number -/
def BO (S : Mem) (b len : Nat) : Prop := S (13 + 2 * b) 0 = nI len ∧ len ≤ capN S (13 + 2 * b) ∧ (capN S (13 + 2 * b) = 16 ∨ capN S (13 + 2 * b) = 34 ∨ capN S (13 + 2 * b) = 70 ∨ capN S (13 + 2 * b) = 142) ∧ fitB S b
/-- only the builder's banks have changed -/
def FB (b : Nat) (S S' : Mem) : Prop := ∀ e, e ≠ 13 + 2 * b → e ≠ 14 + 2 * b → S' e = S e
theorem FB.rf : FB b S S := fun _ _ _ => rfl
theorem FB.tr {S1 S2 : Mem} (h : FB b S S1) (h' : FB b S1 S2) : FB b S S2 := fun e h1 h2 => (h' e h1 h2).trans (h e h1 h2)
theorem fit_z {x : Int32} (h : ∃ t : Nat, t < 128 ∧ x = nI t) : fits .byte (.int x) = true := by
  obtain ⟨t, ht, rfl⟩ := h
  have : ∀ t, t < 128 → fits .byte (.int (nI t)) = true := by decide +kernel
  exact this t ht
theorem byte_c {t : Nat} (h : t < 128) : (nI t).toInt8.toInt32 = nI t := by
  have : ∀ t, t < 128 → (nI t).toInt8.toInt32 = nI t := by decide +kernel
  exact this t h
theorem char_c {t : Nat} (h : t < 128) : ((nI t &&& (255 : Int32)).toUInt32 % 65536).toInt32 = nI t := by
  have : ∀ t, t < 128 → ((nI t &&& (255 : Int32)).toUInt32 % 65536).toInt32 = nI t := by decide +kernel
  exact this t h
theorem cap_ok {q m : Nat} (hm : m = 16 ∨ m = 34 ∨ m = 70 ∨ m = 142) (hq : q ≤ 142) (hqm : q ≤ 2 * m + 2) : (sb_cap q m = 16 ∨ sb_cap q m = 34 ∨ sb_cap q m = 70 ∨ sb_cap q m = 142) ∧ q ≤ sb_cap q m ∧ m ≤ sb_cap q m := by
  unfold sb_cap
  split
  · exact ⟨hm, by omega, by omega⟩
  · rw [if_neg (by omega)]
    exact ⟨by omega, by omega, by omega⟩
theorem ens_r (hb : b < 2) (H : BO S b len) {q : Nat} (hq : q ≤ 142) (hl : q ≤ len + 14) : BO (ens S b q) b len ∧ q ≤ capN (ens S b q) (13 + 2 * b) ∧ FB b S (ens S b q) ∧ ∀ j, j < len → ens S b q (14 + 2 * b) j = S (14 + 2 * b) j := by
  obtain ⟨h1, h2, h3, h4⟩ := H
  have hc := cap_ok (q := q) h3 hq (by omega)
  unfold ens
  by_cases c : q ≤ capN S (13 + 2 * b)
  · rw [if_pos c]
    exact ⟨⟨h1, h2, h3, h4⟩, c, FB.rf, fun _ _ => rfl⟩
  · rw [if_neg c]
    have hcap : capN (grw S b (sb_cap q (capN S (13 + 2 * b))) (va_cpy (S (14 + 2 * b)) (fun _ => 0) 0 0 (capN S (13 + 2 * b)))) (13 + 2 * b) = sb_cap q (capN S (13 + 2 * b)) := grw_cap (by omega) hb
    refine ⟨⟨?_, ?_, ?_, ?_⟩, ?_, ?_, ?_⟩
    · unfold grw
      rw [if_neg (by omega), if_neg (by omega)]
      exact h1
    · rw [hcap]; omega
    · rw [hcap]; exact hc.1
    · intro j hj
      unfold grw
      rw [if_pos rfl]
      unfold va_cpy
      split
      · exact h4 _ (by omega)
      · exact fit_z ⟨0, by omega, rfl⟩
    · rw [hcap]; exact hc.2.1
    · intro e e1 e2
      funext j
      unfold grw
      rw [if_neg e2, if_neg (by omega)]
    · intro j hj
      unfold grw
      rw [if_pos rfl]
      unfold va_cpy
      rw [if_pos (by omega)]
      exact congrArg _ (by omega)
theorem sbapp_r (hb : b < 2) (H : BO S b len) (hq : len + w ≤ 142) (hw : w ≤ 14) : sbapp S b w = true ∧ cnN S b = len := by
  obtain ⟨h1, h2, h3, h4⟩ := H
  have hcn : cnN S b = len := by unfold cnN; rw [h1]; exact nI_clamp (by omega)
  have hc := cap_ok (q := len + w) h3 hq (by omega)
  refine ⟨?_, hcn⟩
  unfold sbapp
  rw [hcn, h1]
  have a1 : capN S (13 + 2 * b) ≤ 160 := by omega
  have a2 : sb_cap (len + w) (capN S (13 + 2 * b)) ≤ 160 := by omega
  have a3 : len ≤ 900 := by omega
  have a4 : ∀ j, j < capN S (13 + 2 * b) → fits .byte (.int (S (14 + 2 * b) j)) = true := h4
  rw [decide_eq_true (nI_pos' (show len < 2 ^ 31 by omega)), decide_eq_true a3, decide_eq_true a1, decide_eq_true a2, decide_eq_true a4]
  rfl
theorem appC_r (hb : b < 2) (H : BO S b len) {t : Nat} (ht : t < 128) (hq : len + 1 ≤ 142) : sbapC S b (nI t) = true ∧ BO (appCn S b (nI t)) b (len + 1) ∧ FB b S (appCn S b (nI t)) ∧ (∀ j, j < len → appCn S b (nI t) (14 + 2 * b) j = S (14 + 2 * b) j) ∧ appCn S b (nI t) (14 + 2 * b) len = nI t := by
  obtain ⟨a1, a2⟩ := sbapp_r (w := 1) hb H hq (by omega)
  obtain ⟨⟨e1, e2, e3, e4⟩, e5, e6, e7⟩ := ens_r hb H (q := len + 1) hq (by omega)
  unfold sbapC appCn appC
  rw [a1, a2, byte_c ht]
  have hcap : capN (up (up (ens S b (len + 1)) (13 + 2 * b) 0 (nI (len + 1))) (14 + 2 * b) len (nI t)) (13 + 2 * b) = capN (ens S b (len + 1)) (13 + 2 * b) := by
    unfold capN
    rw [up_ne _ _ (by omega), up_ne _ _ (by omega)]
  refine ⟨?_, ⟨?_, ?_, ?_, ?_⟩, ?_, ?_, ?_⟩
  · rw [decide_eq_true (show nI t ≤ 255 from nI_le (b := 255) (by omega) (by decide))]
    rfl
  · rw [up_ne _ _ (by omega), up_same]
  · rw [hcap]; exact e5
  · rw [hcap]; exact e3
  · intro j hj
    rw [hcap] at hj
    by_cases c : j = len
    · subst c; rw [up_same]; exact fit_z ⟨t, ht, rfl⟩
    · rw [up_ne _ _ (by omega), up_ne _ _ (by omega)]; exact e4 j hj
  · intro e h1 h2
    rw [up_oth _ _ _ h2, up_oth _ _ _ h1]
    exact e6 e h1 h2
  · intro j hj
    rw [up_ne _ _ (by omega), up_ne _ _ (by omega)]
    exact e7 j hj
  · rw [up_same]
theorem append_o (H : BO S 0 len) (hl : len < 60) {t : Nat} (ht : 32 ≤ t ∧ t ≤ 126) : ∃ S', g_X8_append S (nI t) = some (nI (len + 1), S') ∧ BO S' 0 (len + 1) ∧ FB 0 S S' := by
  obtain ⟨a1, a2, a3, a4, a5⟩ := appC_r (b := 0) (by decide) H (t := t) (by omega) (by omega)
  refine ⟨_, ?_, a2, a3⟩
  unfold g_X8_append f_X8_append_0 f_X8_append_23 g_X6_add f_X6_add_0 g_X6_size f_X6_size_0
  have e1 : ¬ nI t < 32 := fun z => by have := (nI_ltI (b := 32) (by omega) (by decide)).mp z; omega
  have e2 : ¬ (126 : Int32) < nI t := fun z => by have := (nI_ltI (a := 126) (by decide) (by omega)).mp z; omega
  have e3 : S (13 + 2 * 0) 0 < 60 := by
    rw [H.1]
    exact (nI_ltI (b := 60) (by omega) (by decide)).mpr hl
  rw [if_neg e1, if_neg e2, if_pos e3, a1, ck_t _ rfl, bd2_s, if_neg (by decide), bd1_s, a2.1]
theorem empty_o (H : BO S 0 len) (hl : len ≤ 142) : g_X6_empty S = some (setl S 0) ∧ BO (setl S 0) 0 0 ∧ FB 0 S (setl S 0) := by
  obtain ⟨h1, h2, h3, h4⟩ := H
  have hc : capN (setl S 0) (13 + 2 * 0) = capN S (13 + 2 * 0) := by
    unfold setl capN
    split
    · rw [up_ne _ _ (by decide)]
    · rw [up_ne _ _ (by decide), up_ne _ _ (by decide)]
  have h14 : setl S 0 (14 + 2 * 0) = S (14 + 2 * 0) := by
    unfold setl
    split
    · rw [up_oth _ _ _ (by decide)]
    · rw [up_oth _ _ _ (by decide), up_oth _ _ _ (by decide)]
  refine ⟨?_, ⟨?_, ?_, ?_, ?_⟩, ?_⟩
  · unfold g_X6_empty f_X6_empty_0
    refine ck_t _ ?_
    unfold sbset
    rw [h1, decide_eq_true (nI_pos' (show len < 2 ^ 31 by omega)), decide_eq_true (show capN S (13 + 2 * 0) ≤ 160 by omega)]
    rfl
  · unfold setl
    split <;> exact up_same _ _ _ _
  · rw [hc]; omega
  · rw [hc]; exact h3
  · intro j hj
    rw [hc] at hj
    rw [h14]
    exact h4 j hj
  · intro e e1 e2
    unfold setl
    split
    · rw [up_oth _ _ _ e1]
    · rw [up_oth _ _ _ e1, up_oth _ _ _ e1]
theorem BO.e (H : BO S 0 len) (h13 : S' 13 = S 13) (h14 : S' 14 = S 14) : BO S' 0 len := by
  obtain ⟨h1, h2, h3, h4⟩ := H
  have hc : capN S' (13 + 2 * 0) = capN S (13 + 2 * 0) := by
    show (S' 13 1).toNatClampNeg = (S 13 1).toNatClampNeg
    rw [h13]
  refine ⟨?_, ?_, ?_, ?_⟩
  · show S' 13 0 = _
    rw [h13]; exact h1
  · rw [hc]; exact h2
  · rw [hc]; exact h3
  · intro j hj
    rw [hc] at hj
    show fits .byte (.int (S' 14 j)) = true
    rw [h14]
    exact h4 j hj
end BLD
