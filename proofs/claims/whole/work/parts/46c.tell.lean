/-! ===== the pure part: lines told ===== -/
section TELL
variable {a b c d i j k n m len w x y Mx N : Nat} {S T S' T' : Mem}
theorem setl_r (hb : b < 2) (H : BO S b len) : sbset S b = true ∧ BO (setl S b) b 0 ∧ FB b S (setl S b) := by
  obtain ⟨h1, h2, h3, h4⟩ := H
  have hcap : capN (setl S b) (13 + 2 * b) = capN S (13 + 2 * b) := by
    unfold setl capN
    split
    · rw [up_ne _ _ (by omega)]
    · rw [up_ne _ _ (by omega), up_ne _ _ (by omega)]
  refine ⟨?_, ⟨?_, ?_, ?_, ?_⟩, ?_⟩
  · unfold sbset
    rw [h1, decide_eq_true (nI_pos' (show len < 2 ^ 31 by omega)), decide_eq_true (show capN S (13 + 2 * b) ≤ 160 by omega)]
    rfl
  · unfold setl
    split
    · rw [up_same]; rfl
    · rw [up_same]; rfl
  · rw [hcap]; omega
  · rw [hcap]; exact h3
  · intro j hj
    rw [hcap] at hj
    have : setl S b (14 + 2 * b) = S (14 + 2 * b) := by
      unfold setl
      split
      · rw [up_oth _ _ _ (by omega)]
      · rw [up_oth _ _ _ (by omega), up_oth _ _ _ (by omega)]
    rw [this]
    exact h4 j hj
  · intro e h1 h2
    unfold setl
    split
    · rw [up_oth _ _ _ h1]
    · rw [up_oth _ _ _ h1, up_oth _ _ _ h1]
theorem WL.zero (H : RZ N S T) : sbset S 1 = true ∧ WL 0 (setl S 1) (up T 28 19 0) ∧ FB 1 S (setl S 1) ∧ FL9 T (up T 28 19 0) := by
  obtain ⟨len, l1, l2, l3, l7⟩ := H.wr.bo
  obtain ⟨a1, a2, a3⟩ := setl_r (b := 1) (by decide) l2
  exact ⟨a1, ⟨by omega, a2, by rw [up_same]; rfl, fun i h => absurd h (Nat.not_lt_zero i)⟩, a3, ⟨fun e h1 h2 => by rw [up_oth _ _ _ h2], fun j hj => by rw [up_ne _ _ (by omega)]⟩⟩
theorem RZ.ofW (H : RZ N S T) (W : WL len S' T') (F : FB 1 S S') (G : FL9 T T') : RZ N S' T' ∧ Lo S S' ∧ Hi T T' := by
  have z : ∀ e, e ≠ 15 → e ≠ 16 → S' e = S e := fun e h1 h2 => F e h1 h2
  refine ⟨⟨?_, ⟨?_, ?_⟩, ?_, ?_, ?_, ?_, W.bx⟩, fun b hb => z b (by omega) (by omega), fun b hb => G.1 b (by omega) (by omega)⟩
  · rw [z 0 (by decide) (by decide), G.1 20 (by decide) (by decide)]; exact H.now
  · rw [z 11 (by decide) (by decide), G.2 11 (by decide)]; exact H.sv.1
  · rw [z 11 (by decide) (by decide), z 2 (by decide) (by decide), G.1 23 (by decide) (by decide)]; exact H.sv.2
  · refine H.past.congr ?_ ?_ ?_ ?_ ?_
    · rw [z 11 (by decide) (by decide)]
    · rw [z 11 (by decide) (by decide)]
    · rw [G.2 5 (by decide)]
    · intro b _ _; rw [z b (by omega) (by omega)]
    · rw [G.1 24 (by decide) (by decide)]
  · rw [z 11 (by decide) (by decide), G.2 10 (by decide)]; exact H.flt
  · unfold RS
    rw [z 11 (by decide) (by decide), G.2 6 (by decide), G.2 7 (by decide), G.2 8 (by decide), G.2 9 (by decide)]
    exact H.rs
  · refine H.tx.congr ?_ ?_ ?_ ?_
    · rw [z _ (by omega) (by omega)]
    · rw [z _ (by omega) (by omega)]
    · rw [G.2 14 (by decide)]
    · rw [G.1 25 (by decide) (by decide)]
theorem numb1 (hi : i < 10) : g_X9_puts T ((48 : Int32) + nI i) = g_X9_number T (nI i) := by
  unfold g_X9_number f_num
  rw [show (10 : Int32) = nI 10 from rfl, pk_rem (by omega) (by decide) (by decide), nlt_le (by omega) (by omega), if_neg (by omega), Nat.mod_eq_of_lt hi]
theorem l_tellVotes (x : Int32) (H : RZ N S T) : LK N S T (g_X8_tellVotes S x) (g_X9_tellVotes T x) := by
  obtain ⟨a, n, ha, hR⟩ := H.now
  have h5 := hR.le5
  unfold g_X8_tellVotes f_X8_tellVotes_0 g_X9_tellVotes f_X9_tellVotes_0
  rcases has_r hR x with ⟨x, hx, rfl, h1, h2⟩ | ⟨h1, h2⟩
  · obtain ⟨z1, z2, z3, z4⟩ := WL.zero H
    rw [h1, h2, bd1_s, bd1_s, if_neg (by decide), if_neg (by decide), z1, ck_t _ rfl]
    have R : RR (fun p q => ∃ len, p.1 = nI len ∧ q.1 = nI len ∧ WL len p.2 q.2 ∧ FB 1 S p.2 ∧ FL9 T q.2) (f_X8_tellVotes_23 (setl S 1) (nI x) 0) (f_X9_tellVotes_17 (up T 28 19 0) (nI x) 0) := by
      unfold f_X8_tellVotes_23 f_X9_tellVotes_17
      refine RR_lp (fun d s t => ∃ i len S' T', i + d = n ∧ len ≤ 2 * i ∧ s = (S', nI i) ∧ t = (T', nI i) ∧ WL len S' T' ∧ FB 1 S S' ∧ FL9 T T') ?_ n 6 2000 _ _ (by omega) (by omega) ⟨0, 0, _, _, by omega, by omega, rfl, rfl, z2, z3, z4⟩
      rintro d s t f f' ⟨i, len, S1, T1, hd, hl, rfl, rfl, W, F, G⟩ K
      have R1 : RW a n (S1 0) (T1 20) := by rw [F 0 (by decide) (by decide), G.1 20 (by decide) (by decide)]; exact hR
      have e1 : S1 (13 + 2 * 1) 0 = nI len := W.2.1.1
      have e2 : T1 28 19 = nI len := W.2.2.1
      unfold f_X8_tellVotes_23_b f_X9_tellVotes_17_b f_X8_tellVotes_66 f_X8_tellVotes_75 f_X8_tellVotes_101 f_X9_tellVotes_65 f_X9_tellVotes_73 f_X9_tellVotes_92
      simp only [R1.cn, R1.cnt, ile (show n < 2 ^ 31 by omega) (show i < 2 ^ 31 by omega), e1, e2]
      by_cases c : n ≤ i
      · simp only [c, ↓reduceIte]
        by_cases c0 : len = 0
        · obtain ⟨T2, p1, p2, p3, p4, p5⟩ := W.putc (t := 45) (by decide) (by omega)
          have q1 : nI len = 0 := by rw [c0]; rfl
          rw [if_pos q1, if_pos q1, show (45 : Int32) = nI 45 from rfl, p1, ck_t _ rfl, p2, bd1_s, p3.2.1.1, p3.2.2.1]
          exact RR.ret ⟨_, rfl, rfl, p3, F.tr p4, G.tr p5⟩
        · have q1 : ¬ nI len = 0 := nI_ne0 (by omega) (by omega)
          rw [if_neg q1, if_neg q1]
          exact RR.ret ⟨len, rfl, rfl, W, F, G⟩
      · have hi : i < n := by omega
        simp only [c, ↓reduceIte]
        have KK : ∀ len' S2 T2, len' ≤ 2 * i + 2 → WL len' S2 T2 → FB 1 S1 S2 → FL9 T1 T2 → RR (fun p q => ∃ len, p.1 = nI len ∧ q.1 = nI len ∧ WL len p.2 q.2 ∧ FB 1 S p.2 ∧ FL9 T q.2) (f (S2, nI i + 1)) (f' (T2, nI i + 1)) := by
          intro len' S2 T2 hl' W2 F2 G2
          refine K (d - 1) _ _ (by omega) ⟨i + 1, len', S2, T2, by omega, by omega, ?_, ?_, W2, F.tr F2, G.tr G2⟩ <;> rw [nI_p1]
        unfold g_X4_hasVoteOf f_X4_hasVoteOf_0 f_X4_hasVoteOf_38 f_X4_hasVoteOf_39
        rw [of_4 _ (by omega), of_1 _ (by omega), of_1 _ (by omega), numb1 (by omega)]
        simp only [bd1_s, ck_in (show i < 5 by omega) (show 5 < 2 ^ 31 by decide), ck_in (show x < 5 by omega) (show 5 < 2 ^ 31 by decide), nI_clamp (show i < 2 ^ 31 by omega), nI_clamp (show x < 2 ^ 31 by omega), R1.c hi (show 1 < 10 by decide), R1.c hi (show 4 < 10 by decide), R1.c hx (show 1 < 10 by decide), le0I (show len < 2 ^ 31 by omega), ck_0, ck_1]
        have d1 : sb_dg i = 1 := dg_1 (by omega)
        by_cases v1 : T1 20 (33 + 34 * i + 4) = nI x
        · by_cases v2 : T1 20 (33 + 34 * i + 1) = T1 20 (33 + 34 * x + 1)
          · simp (decide := true) only [v1, v2, ↓reduceIte, bd1_s]
            by_cases c0 : len = 0
            · simp only [c0, ↓reduceIte]
              obtain ⟨T2, p1, p2, p3, p4, p5⟩ := W.putn (w := i) (by omega) (by omega)
              rw [p1, ck_t _ rfl, p2, bd1_s]
              exact KK _ _ _ (by omega) p3 p4 p5
            · simp only [c0, ↓reduceIte]
              obtain ⟨T2, p1, p2, p3, p4, p5⟩ := W.putc (t := 44) (by decide) (by omega)
              obtain ⟨T3, q1, q2, q3, q4, q5⟩ := p3.putn (w := i) (by omega) (by omega)
              rw [show (44 : Int32) = nI 44 from rfl, p1, ck_t _ rfl, p2, bd1_s, q1, ck_t _ rfl, numb1 (by omega), q2, bd1_s]
              exact KK _ _ _ (by omega) q3 (p4.tr q4) (p5.tr q5)
          · simp (decide := true) only [v1, v2, ↓reduceIte, bd1_s]
            exact KK len S1 T1 (by omega) W FB.rf FL9.rf
        · simp (decide := true) only [v1, ↓reduceIte, bd1_s, ite_self]
          exact KK len S1 T1 (by omega) W FB.rf FL9.rf
    obtain ⟨⟨p1, p2⟩, ⟨q1, q2⟩, r1, r2, len, r3, r4, W, F, G⟩ := R
    simp only at r3 r4 W F G
    subst r3 r4
    rw [r1, r2]
    obtain ⟨y1, y2, y3⟩ := H.ofW W F G
    exact ⟨_, _, _, rfl, rfl, y1, y2, y3⟩
  · rw [h1, h2, bd1_s, bd1_s]
    exact ⟨-1, S, T, rfl, rfl, H, Lo.rf, Hi.rf⟩
end TELL
