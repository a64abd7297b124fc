/-! ===== the pure part: tell ===== -/
section TELL3
variable {a b c d i j k n m q len w x y Mx N : Nat} {S T S' T' : Mem}
theorem l_tell (x : Int32) (H : RZ N S T) : LK N S T (g_X8_tell S x) (g_X9_tell T x) := by
  obtain ⟨a, n, ha, hR⟩ := H.now
  have h5 := hR.le5
  have hB := hR.aB
  unfold g_X8_tell f_X8_tell_0 g_X9_tell f_X9_tell_0
  rcases has_r hR x with ⟨x, hx, rfl, h1, h2⟩ | ⟨h1, h2⟩
  · obtain ⟨z1, z2, z3, z4⟩ := WL.zero H
    obtain ⟨m, hm, e5⟩ := hR.many x hx
    obtain ⟨q, hq, e6⟩ := hR.agr x hx
    obtain ⟨t, ht, e1⟩ := hR.term x hx
    rw [h1, h2, bd1_s, bd1_s, if_neg (by decide), if_neg (by decide), z1, ck_t _ rfl, ck_in (by omega) (by decide), nI_clamp (by omega)]
    have d7 := dg_7 (w := t) (by omega)
    have s0 : ∀ f, setl S 1 0 f = S 0 f := fun f => by rw [z3 0 (by decide) (by decide)]
    have u0 : ∀ f, up T 28 19 0 20 f = T 20 f := fun f => by rw [z4.1 20 (by decide) (by decide)]
    have L : ∀ ch, ch < 128 → ∃ S2 T2 len2, f_X2_writeOn_28 (setl S 1) 0 x 1 (nI ch) 1 = some S2 ∧ f_X9_tell_44 (up T 28 19 0) (nI x) (nI ch) = some (nI len2, T2) ∧ WL len2 S2 T2 ∧ FB 1 S S2 ∧ FL9 T T2 := by
      intro ch hch
      obtain ⟨T1, a1, a2, a3, a4, a5⟩ := z2.putc (t := ch) hch (by omega)
      obtain ⟨T2, b1, b2, b3, b4, b5⟩ := a3.putn (w := t) (by omega) (by omega)
      obtain ⟨T3, c1, c2, c3, c4, c5⟩ := b3.putc (t := 58) (by decide) (by omega)
      have s1 : appCn (setl S 1) 1 (nI ch) 0 (33 + 34 * x + 1) = nI t := by rw [a4 0 (by decide) (by decide), s0, hR.c hx (by decide), e1]
      have u1 : T1 20 (33 + 34 * x + 1) = nI t := by rw [a5.1 20 (by decide) (by decide), u0, e1]
      unfold f_X2_writeOn_28 f_X9_tell_44
      rw [a1, ck_t _ rfl, s1, b1, ck_t _ rfl, show (58 : Int32) = nI 58 from rfl, c1, ck_t _ rfl, a2, bd1_s, of_1 _ (by omega), bd1_s, u1, b2, bd1_s, c2, bd1_s]
      unfold f_X2_writeOn_50 f_X9_tell_65
      exact tell_loop hR hx hm e5 hq e6 m 0 13 2000 _ _ _ (by omega) (by omega) (by omega) (by omega) c3 (((z3.tr a4).tr b4).tr c4) (((z4.tr a5).tr b5).tr c5)
    have Fin : ∀ ch, ch < 128 → LK N S T (bd1 (f_X2_writeOn_28 (setl S 1) 0 x 1 (nI ch) 1) (fun S5 => some (S5 (13 + 2 * 1) 0, S5))) (f_X9_tell_44 (up T 28 19 0) (nI x) (nI ch)) := by
      intro ch hch
      obtain ⟨S2, T2, len2, r1, r2, W, F, G⟩ := L ch hch
      obtain ⟨y1, y2, y3⟩ := H.ofW W F G
      rw [r1, r2, bd1_s, W.2.1.1]
      exact ⟨_, _, _, rfl, rfl, y1, y2, y3⟩
    unfold g_X2_writeOn f_X2_writeOn_0
    rw [of_0 _ (by omega), bd1_s, s0, u0, hR.c0 hx]
    by_cases c0 : T 20 (33 + 34 * x) = 0
    · rw [if_pos c0, if_pos c0]
      exact Fin 102 (by decide)
    · by_cases c1 : T 20 (33 + 34 * x) = 1
      · rw [if_neg c0, if_neg c0, if_pos c1, if_pos c1]
        exact Fin 99 (by decide)
      · rw [if_neg c0, if_neg c0, if_neg c1, if_neg c1]
        exact Fin 108 (by decide)
  · rw [h1, h2, bd1_s, bd1_s]
    exact ⟨-1, S, T, rfl, rfl, H, Lo.rf, Hi.rf⟩
end TELL3
