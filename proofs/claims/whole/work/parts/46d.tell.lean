/-! ===== the pure part: tales told ===== -/
section TELL2
variable {a b c d i j k n m q len w x y Mx N : Nat} {S T S' T' : Mem}
theorem dg_7 (h : w < 10000000) : sb_dg w ≤ 7 := by
  unfold sb_dg
  repeat' split
  all_goals omega
theorem tell_loop {S0 T0 : Mem} (H : RW a n (S0 0) (T0 20)) (hx : x < n) (hm : m ≤ 12) (e5 : T0 20 (33 + 34 * x + 5) = nI m) (hq : q ≤ 12) (e6 : T0 20 (33 + 34 * x + 6) = nI q) : ∀ d i F G len S T, i + d = m → d < F → d + 1 < G → len + 9 * d + 1 ≤ 120 → WL len S T → FB 1 S0 S → FL9 T0 T → ∃ S2 T2 len2, lp (fun ih50 s9 => f_X2_writeOn_50_b ih50 s9.1 0 x 1 s9.2) F (S, nI i) = some S2 ∧ lp (fun ih65 s9 => f_X9_tell_65_b ih65 s9.1 (nI x) s9.2) G (T, nI i) = some (nI len2, T2) ∧ WL len2 S2 T2 ∧ FB 1 S0 S2 ∧ FL9 T0 T2 := by
  have h5 := H.le5
  have hB := H.aB
  have e124 : (124 : Int32) = nI 124 := rfl
  intro d
  induction d with
  | zero =>
    intro i F G len S T hid hF hG hl W Fb Fl
    have : i = m := by omega
    subst this
    obtain ⟨F, rfl⟩ : ∃ F', F = F' + 1 := ⟨F - 1, by omega⟩
    obtain ⟨G, rfl⟩ : ∃ G', G = G' + 1 + 1 := ⟨G - 2, by omega⟩
    have R1 : RW a n (S 0) (T 20) := by rw [Fb 0 (by decide) (by decide), Fl.1 20 (by decide) (by decide)]; exact H
    have t5 : T 20 (33 + 34 * x + 5) = nI i := by rw [Fl.1 20 (by decide) (by decide)]; exact e5
    have t6 : T 20 (33 + 34 * x + 6) = nI q := by rw [Fl.1 20 (by decide) (by decide)]; exact e6
    have fin : ∀ T2 len2, T2 28 19 = nI len2 → T2 20 (33 + 34 * x + 5) = nI i → f_X9_tell_92 (lp (fun ih65 s9 => f_X9_tell_65_b ih65 s9.1 (nI x) s9.2) (G + 1)) T2 (nI x) (nI i) = some (nI len2, T2) := by
      intro T2 len2 u1 u2
      unfold f_X9_tell_92 f_X9_tell_128
      rw [of_5 _ (by omega), bd1_s, u2, if_pos (Int32.le_refl _), nI_p1]
      show f_X9_tell_65_b _ T2 (nI x) (nI (i + 1)) = _
      unfold f_X9_tell_65_b
      rw [of_5 _ (by omega), bd1_s, u2, if_pos (nI_lt (by omega) (by omega)), u1]
    show ∃ S2 T2 len2, f_X2_writeOn_50_b (lp (fun ih50 s9 => f_X2_writeOn_50_b ih50 s9.1 0 x 1 s9.2) F) S 0 x 1 (nI i) = some S2 ∧ f_X9_tell_65_b (lp (fun ih65 s9 => f_X9_tell_65_b ih65 s9.1 (nI x) s9.2) (G + 1)) T (nI x) (nI i) = some (nI len2, T2) ∧ WL len2 S2 T2 ∧ FB 1 S0 S2 ∧ FL9 T0 T2
    revert fin
    generalize lp (fun ih50 s9 => f_X2_writeOn_50_b ih50 s9.1 0 x 1 s9.2) F = LF
    generalize lp (fun ih65 s9 => f_X9_tell_65_b ih65 s9.1 (nI x) s9.2) (G + 1) = LG
    intro fin
    unfold f_X2_writeOn_50_b f_X2_writeOn_119 f_X9_tell_65_b
    rw [R1.c hx (by decide), R1.c hx (by decide), t5, t6, if_pos (Int32.le_refl _), of_5 _ (by omega), bd1_s, of_6 _ (by omega), bd1_s, t5, t6, nlt_le (by omega) (by omega), if_pos (Nat.le_refl _), ieq (by omega) (by omega), ieq (by omega) (by omega)]
    by_cases cq : i = q
    · obtain ⟨T2, p1, p2, p3, p4, p5⟩ := W.putc (t := 124) (by decide) (by omega)
      rw [if_pos cq, if_pos cq, e124, p1, ck_t _ rfl, p2, bd1_s, fin T2 (len + 1) p3.2.2.1 (by rw [p5.1 20 (by decide) (by decide)]; exact t5)]
      exact ⟨_, _, _, rfl, rfl, p3, Fb.tr p4, Fl.tr p5⟩
    · rw [if_neg cq, if_neg cq, fin T len W.2.2.1 t5]
      exact ⟨_, _, _, rfl, rfl, W, Fb, Fl⟩
  | succ d ih =>
    intro i F G len S T hid hF hG hl W Fb Fl
    obtain ⟨F, rfl⟩ : ∃ F', F = F' + 1 := ⟨F - 1, by omega⟩
    obtain ⟨G, rfl⟩ : ∃ G', G = G' + 1 := ⟨G - 1, by omega⟩
    have R1 : RW a n (S 0) (T 20) := by rw [Fb 0 (by decide) (by decide), Fl.1 20 (by decide) (by decide)]; exact H
    have t5 : T 20 (33 + 34 * x + 5) = nI m := by rw [Fl.1 20 (by decide) (by decide)]; exact e5
    have t6 : T 20 (33 + 34 * x + 6) = nI q := by rw [Fl.1 20 (by decide) (by decide)]; exact e6
    obtain ⟨g1, g2, ⟨tm, htm, g3⟩, ch, g4, g6, g7⟩ := H.lin x hx m hm e5 i (by omega)
    have line : ∀ S1 T1 len1, len1 + 9 * d + 8 + 1 ≤ 120 → WL len1 S1 T1 → FB 1 S0 S1 → FL9 T0 T1 → ∃ S2 T2 len2, f_X2_writeOn_73 (lp (fun ih50 s9 => f_X2_writeOn_50_b ih50 s9.1 0 x 1 s9.2) F) S1 0 x 1 (nI i) = some S2 ∧ f_X9_tell_92 (lp (fun ih65 s9 => f_X9_tell_65_b ih65 s9.1 (nI x) s9.2) G) T1 (nI x) (nI i) = some (nI len2, T2) ∧ WL len2 S2 T2 ∧ FB 1 S0 S2 ∧ FL9 T0 T2 := by
      intro S1 T1 len1 hl1 W1 F1 G1
      have s7 : S1 0 (33 + 34 * x + 22 + i) = nI ch := by rw [F1 0 (by decide) (by decide), g2, g7]
      have u5 : T1 20 (33 + 34 * x + 5) = nI m := by rw [G1.1 20 (by decide) (by decide)]; exact e5
      have u7 : T1 20 (33 + 34 * x + 22 + i) = nI ch := by rw [G1.1 20 (by decide) (by decide)]; exact g7
      obtain ⟨T2, p1, p2, p3, p4, p5⟩ := W1.putc (t := ch) (by omega) (by omega)
      have d7 := dg_7 (w := tm) (by omega)
      obtain ⟨T3, q1, q2, q3, q4, q5⟩ := p3.putn (w := tm) (by omega) (by omega)
      have s3 : appCn S1 1 (nI ch) 0 (33 + 34 * x + 10 + i) = nI tm := by rw [p4 0 (by decide) (by decide), F1 0 (by decide) (by decide), g1, g3]
      have u3 : T2 20 (33 + 34 * x + 10 + i) = nI tm := by rw [p5.1 20 (by decide) (by decide), G1.1 20 (by decide) (by decide)]; exact g3
      unfold f_X2_writeOn_73 f_X9_tell_92 f_X9_tell_128
      rw [ck_in (by omega) (by decide), nI_clamp (by omega), s7, p1, ck_t _ rfl, ck_in (by omega) (by decide), s3, q1, ck_t _ rfl, of_5 _ (by omega), bd1_s, u5, ile (by omega) (by omega), if_neg (by omega), of_l _ (by omega) (by omega), bd1_s, u7, p2, bd1_s, of_t _ (by omega) (by omega), bd1_s, u3, q2, bd1_s, nI_p1]
      exact ih (i + 1) F G _ _ _ (by omega) (by omega) (by omega) (by omega) q3 ((F1.tr p4).tr q4) ((G1.tr p5).tr q5)
    show ∃ S2 T2 len2, f_X2_writeOn_50_b (lp (fun ih50 s9 => f_X2_writeOn_50_b ih50 s9.1 0 x 1 s9.2) F) S 0 x 1 (nI i) = some S2 ∧ f_X9_tell_65_b (lp (fun ih65 s9 => f_X9_tell_65_b ih65 s9.1 (nI x) s9.2) G) T (nI x) (nI i) = some (nI len2, T2) ∧ WL len2 S2 T2 ∧ FB 1 S0 S2 ∧ FL9 T0 T2
    revert line
    generalize lp (fun ih50 s9 => f_X2_writeOn_50_b ih50 s9.1 0 x 1 s9.2) F = LF
    generalize lp (fun ih65 s9 => f_X9_tell_65_b ih65 s9.1 (nI x) s9.2) G = LG
    intro line
    unfold f_X2_writeOn_50_b f_X9_tell_65_b
    rw [R1.c hx (by decide), R1.c hx (by decide), t5, t6, ile (by omega) (by omega), if_neg (show ¬ m ≤ i by omega), of_5 _ (by omega), bd1_s, of_6 _ (by omega), bd1_s, t5, t6, nlt_le (by omega) (by omega), if_pos (show i ≤ m by omega), ieq (by omega) (by omega), ieq (by omega) (by omega)]
    by_cases cq : i = q
    · obtain ⟨T2, p1, p2, p3, p4, p5⟩ := W.putc (t := 124) (by decide) (by omega)
      rw [if_pos cq, if_pos cq, e124, p1, ck_t _ rfl, p2, bd1_s]
      exact line _ _ _ (by omega) p3 (Fb.tr p4) (Fl.tr p5)
    · rw [if_neg cq, if_neg cq]
      exact line _ _ _ (by omega) W Fb Fl
end TELL2
