/-! ===== the pure part: append ===== -/
section APP
variable {b c d i j k n m len w Mx N : Nat} {S T S' T' : Mem}
theorem BX.bo (h : BX b c d Mx S T) : ∃ len, len ≤ Mx ∧ BO S b len ∧ T 28 d = nI len ∧ ∀ i, i < len → sbch S b (nI i) = T c i := by
  obtain ⟨len, l1, l2, l3, l4, l5, l6, l7⟩ := h
  exact ⟨len, l1, ⟨l2, l4, l5, l6⟩, l3, l7⟩
theorem BX.of (l1 : len ≤ Mx) (h : BO S b len) (l3 : T 28 d = nI len) (l7 : ∀ i, i < len → sbch S b (nI i) = T c i) : BX b c d Mx S T := ⟨len, l1, h.1, l3, h.2.1, h.2.2.1, h.2.2.2, l7⟩
/-- one sign more on both sides -/
theorem putc_r (hb : b < 2) (H : BO S b len) (hT : T 28 d = nI len) (hq : ∀ i, i < len → sbch S b (nI i) = T c i) (hc : c ≠ 28) {t : Nat} (ht : t < 128) (hl : len + 1 ≤ 142) : sbapC S b (nI t) = true ∧ BO (appCn S b (nI t)) b (len + 1) ∧ FB b S (appCn S b (nI t)) ∧ (∀ i, i < len + 1 → sbch (appCn S b (nI t)) b (nI i) = (up (up T c len (nI t)) 28 d (nI (len + 1))) c i) := by
  obtain ⟨a1, a2, a3, a4, a5⟩ := appC_r hb H ht hl
  refine ⟨a1, a2, a3, ?_⟩
  intro i hi
  rw [up_ne _ _ (by omega)]
  unfold sbch
  rw [nI_clamp (by omega)]
  by_cases e : i = len
  · subst e
    rw [a5, up_same, char_c ht]
  · rw [a4 i (by omega), up_ne _ _ (by omega)]
    have := hq i (by omega)
    unfold sbch at this
    rw [nI_clamp (by omega)] at this
    exact this
theorem l_append (x : Int32) (H : RZ N S T) : LK N S T (g_X8_append S x) (g_X9_append T x) := by
  obtain ⟨len, l1, l2, l3, l7⟩ := H.tx.bo
  unfold g_X8_append f_X8_append_0 f_X8_append_23 g_X6_add f_X6_add_0 f_X6_add_24 g_X6_size f_X6_size_0 g_X9_append f_X9_append_0 f_X9_append_20 g_X9_isIn f_X9_isIn_0 f_X9_isIn_14 f_X9_isIn_15
  by_cases c1 : x < 32
  · simp (decide := true) only [c1, ↓reduceIte, ck_0, bd1_s, bd2_s]
    exact ⟨-2, S, T, rfl, rfl, H, Lo.rf, Hi.rf⟩
  · by_cases c2 : 126 < x
    · simp (decide := true) only [c1, c2, ↓reduceIte, ck_0, bd1_s, bd2_s]
      exact ⟨-2, S, T, rfl, rfl, H, Lo.rf, Hi.rf⟩
    · obtain ⟨t, ht, rfl⟩ := nI_of2 (M := 126) (n := 126) (by decide) (fun z => c1 (Int32.lt_trans z (by decide))) (Int32.not_lt.mp c2)
      simp (decide := true) only [c1, c2, ↓reduceIte, ck_1, bd1_s, l2.1, l3]
      rw [show (60 : Int32) = nI 60 from rfl, nlt_le (by omega) (by omega), ieq (by omega) (by omega)]
      by_cases c3 : len = 60
      · rw [if_pos (by omega), if_pos c3, bd2_s]
        exact ⟨-2, S, T, rfl, rfl, H, Lo.rf, Hi.rf⟩
      · obtain ⟨a1, a2, a3, a4⟩ := putc_r (b := 0) (c := 25) (d := 14) (by decide) l2 l3 l7 (by decide) (t := t) (by omega) (by omega)
        rw [if_neg (by omega), if_neg c3, a1, ck_t _ rfl, bd2_s, if_neg (by decide), a2.1, ck_in (by omega) (by decide), nI_clamp (by omega), up_same, show up T 25 len (nI t) 28 14 = nI len from (up_ne _ _ (by omega)).trans l3, nI_p1]
        refine ⟨nI (len + 1), _, _, rfl, rfl, ?_, ?_, ?_⟩
        · have z : ∀ e, e ≠ 13 → e ≠ 14 → appCn S 0 (nI t) e = S e := fun e h1 h2 => a3 e h1 h2
          refine ⟨?_, ⟨?_, ?_⟩, ?_, ?_, ?_, ?_, ?_⟩
          · rw [z 0 (by decide) (by decide), up_oth _ _ _ (by decide), up_oth _ _ _ (by decide)]; exact H.now
          · rw [z 11 (by decide) (by decide), up_ne _ _ (by omega), up_ne _ _ (by omega)]; exact H.sv.1
          · rw [z 11 (by decide) (by decide), z 2 (by decide) (by decide), up_oth _ _ _ (by decide), up_oth _ _ _ (by decide)]; exact H.sv.2
          · refine H.past.congr ?_ ?_ ?_ ?_ ?_
            · rw [z 11 (by decide) (by decide)]
            · rw [z 11 (by decide) (by decide)]
            · rw [up_ne _ _ (by omega), up_ne _ _ (by omega)]
            · intro b _ _; rw [z b (by omega) (by omega)]
            · rw [up_oth _ _ _ (by decide), up_oth _ _ _ (by decide)]
          · rw [z 11 (by decide) (by decide), up_ne _ _ (by omega), up_ne _ _ (by omega)]; exact H.flt
          · unfold RS
            rw [z 11 (by decide) (by decide)]
            simp (disch := omega) only [up_ne]
            exact H.rs
          · exact BX.of (len := len + 1) (by omega) a2 (by rw [up_same]) a4
          · refine H.wr.congr ?_ ?_ ?_ ?_
            · rw [z _ (by omega) (by omega)]
            · rw [z _ (by omega) (by omega)]
            · rw [up_ne _ _ (by omega), up_ne _ _ (by omega)]
            · rw [up_oth _ _ _ (by omega), up_oth _ _ _ (by omega)]
        · intro b hb
          exact a3 b (by omega) (by omega)
        · intro b hb
          rw [up_oth _ _ _ (by omega), up_oth _ _ _ (by omega)]
end APP
