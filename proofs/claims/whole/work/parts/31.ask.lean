/-! ===== the pure part: asking for votes ===== -/
section ASK
variable {a n k i j m m' x y g : Nat} {S T : Mem}
theorem maj_r (H : RW a n (S k) (T 20)) (hg : g < 1000) : ∃ b : Int32, (b = 0 ∨ b = 1) ∧ g_X4_isMajority S k (nI g) = some b ∧ g_X9_isMajority T (nI g) = some b := by
  have h5 := H.le5
  unfold g_X4_isMajority f_X4_isMajority_0 f_X4_isMajority_15 g_X9_isMajority f_X9_isMajority_0 f_X9_isMajority_17
  rw [H.cn, H.cnt, show (2 : Int32) = nI 2 from rfl, pk_mul, pk_div (by omega) (by decide) (by decide), ile (by omega) (by omega), ile (by omega) (by omega)]
  by_cases c : g ≤ n / 2
  · rw [if_pos c, if_pos (by omega)]
    exact ⟨0, Or.inl rfl, rfl, rfl⟩
  · rw [if_neg c, if_neg (by omega)]
    exact ⟨1, Or.inr rfl, rfl, rfl⟩
theorem gather_r (H : RW a n (S k) (T 20)) (hx : x < n) (hA : T 20 (33 + 34 * x + 7) = 1) (hB : a + 1 < 9000000) : ∃ g S' T', g ≤ 6 ∧ g_X4_gatherVotes S k (nI x) = some (nI g, S') ∧ g_X9_asksNow T (nI x) = some (nI g, T') ∧ PO k (a + 1) n S T S' T' := by
  have h5 := H.le5
  have R : RR (fun p q => ∃ g, g ≤ 6 ∧ p.1 = nI g ∧ q.1 = nI g ∧ PO k (a + 1) n S T p.2 q.2) (g_X4_gatherVotes S k (nI x)) (g_X9_asksNow T (nI x)) := by
    unfold g_X4_gatherVotes f_X4_gatherVotes_0 g_X4_beginAsking f_X4_beginAsking_0 g_X9_asksNow f_X9_asksNow_0
    obtain ⟨t, ht, e⟩ := H.term x hx
    rw [ck_in (by omega) (by decide), nI_clamp (by omega), bd1_s, of_1 _ (by omega), bd1_s, sets_1 _ _ (by omega), bd1_s, sets_0 _ _ (by omega), bd1_s, sets_4 _ _ (by omega), bd1_s, sets_3 _ _ (by omega), bd1_s, of_8 _ (by omega), bd1_s, sets_8 _ _ (by omega), bd1_s]
    simp (disch := omega) only [up_ne, up_same]
    rw [H.c hx (by decide), H.c hx (by decide), H.hd 2 (by decide), H.hd 7 (by decide), e, nI_p1]
    have P0 : PO k (a + 1) n S T (up (up (up (up (up (up (up S k (33 + 34 * x + 1) (nI (t + 1))) k (33 + 34 * x) 1) k (33 + 34 * x + 4) (nI x)) k (33 + 34 * x + 3) 0) k (33 + 34 * x + 8) (T 20 (33 + 34 * x + 8) + 1)) k 2 (T 20 2 + 1)) k 7 (T 20 7 + 1)) (up (up (up (up (up (up (up T 20 (33 + 34 * x + 1) (nI (t + 1))) 20 (33 + 34 * x) 1) 20 (33 + 34 * x + 4) (nI x)) 20 (33 + 34 * x + 3) 0) 20 (33 + 34 * x + 8) (T 20 (33 + 34 * x + 8) + 1)) 20 2 (T 20 2 + 1)) 20 7 (T 20 7 + 1)) := by
      refine ⟨?_, ((((((Fr.rf.up _ _).up _ _).up _ _).up _ _).up _ _).up _ _).up _ _, ((((((Fr.rf.up _ _).up _ _).up _ _).up _ _).up _ _).up _ _).up _ _, ?_⟩
      · refine H.put' hx (Nat.le_succ _) hB ?_ ?_ ?_ ?_ ?_ ?_ ?_ ?_ ?_ ?_ ?_
        · intro c _ _ _ _ _ _ _ _ _ _
          constructor <;> simp (disch := omega) only [up_ne, up_same]
        · simp (disch := omega) only [up_ne, up_same]; exact H.cnt
        · simp (disch := omega) only [up_ne, up_same]; rw [H.ask, nI_p1]
        · intro f hf; simp only [up_at, true_and, H.hd f hf]
        · intro f hf _; simp only [up_at, true_and, H.c hx hf]
        · simp (disch := omega) only [up_ne, up_same]; exact Or.inr (Or.inl trivial)
        · simp (disch := omega) only [up_ne, up_same]; exact ⟨t + 1, by omega, rfl⟩
        · simp (disch := omega) only [up_ne, up_same]
          exact Or.inr ⟨x, hx, rfl, fun z => absurd rfl z⟩
        · simp (disch := omega) only [up_ne, up_same]
          rw [e, nI_leI (by have := H.aB; omega) (by have := H.aB; omega)]
          omega
        · simp (disch := omega) only [up_ne, up_same]; exact H.agr x hx
        · simp (disch := omega) only [up_ne, up_same]; exact Or.inr hA
      · intro w
        simp (disch := omega) only [up_ne, up_same]
    revert P0
    generalize (up (up (up (up (up (up (up S k (33 + 34 * x + 1) (nI (t + 1))) k (33 + 34 * x) 1) k (33 + 34 * x + 4) (nI x)) k (33 + 34 * x + 3) 0) k (33 + 34 * x + 8) (T 20 (33 + 34 * x + 8) + 1)) k 2 (T 20 2 + 1)) k 7 (T 20 7 + 1)) = S0
    generalize (up (up (up (up (up (up (up T 20 (33 + 34 * x + 1) (nI (t + 1))) 20 (33 + 34 * x) 1) 20 (33 + 34 * x + 4) (nI x)) 20 (33 + 34 * x + 3) 0) 20 (33 + 34 * x + 8) (T 20 (33 + 34 * x + 8) + 1)) 20 2 (T 20 2 + 1)) 20 7 (T 20 7 + 1)) = T0
    intro P0
    unfold f_X4_gatherVotes_18 f_X9_asksNow_76
    refine RR_lp (fun d s t => ∃ i g S' T', i + d = n ∧ g ≤ i + 1 ∧ s = (S', nI g, nI i) ∧ t = (T', nI g, nI i) ∧ PO k (a + 1) n S T S' T') ?_ n 2000 2000 _ _ (by omega) (by omega) ⟨0, 1, S0, T0, by omega, by omega, rfl, rfl, P0⟩
    rintro d s t f f' ⟨i, g, S1, T1, hd, hg, rfl, rfl, P⟩ K
    have H1 := P.1
    unfold f_X4_gatherVotes_18_b f_X9_asksNow_76_b
    simp only [H1.cn, H1.cnt, ile (show n < 2 ^ 31 by omega) (show i < 2 ^ 31 by omega)]
    by_cases c : n ≤ i
    · simp only [c, ↓reduceIte]
      obtain ⟨b, hb, m1, m2⟩ := maj_r H1 (g := g) (by omega)
      simp only [m1, m2, bd1_s]
      unfold f_X4_gatherVotes_118 f_X9_asksNow_216
      rcases hb with rfl | rfl
      · simp only [↓reduceIte]
        exact RR.ret ⟨g, by omega, rfl, rfl, P⟩
      · simp (decide := true) only [↓reduceIte]
        rw [sets_0 _ _ (by omega), bd1_s, of_9 _ (by omega), bd1_s, sets_9 _ _ (by omega), bd1_s]
        simp (disch := omega) only [up_ne, up_same]
        rw [H1.c hx (by decide), H1.hd 3 (by decide)]
        refine RR.ret ⟨g, by omega, rfl, rfl, PO.tr P ?_⟩
        refine ⟨?_, ((Fr.rf.up _ _).up _ _).up _ _, ((Fr.rf.up _ _).up _ _).up _ _, ?_⟩
        · refine H1.put' hx (Nat.le_refl _) hB ?_ ?_ ?_ ?_ ?_ ?_ ?_ ?_ ?_ ?_ ?_
          · intro c _ _ _ _ _ _ _ _ _ _
            constructor <;> simp (disch := omega) only [up_ne, up_same]
          · simp (disch := omega) only [up_ne, up_same]; exact H1.cnt
          · simp (disch := omega) only [up_ne, up_same]; exact H1.ask
          · intro f hf; simp only [up_at, true_and, H1.hd f hf]
          · intro f hf _; simp only [up_at, true_and, H1.c hx hf]
          · simp (disch := omega) only [up_ne, up_same]; exact Or.inr (Or.inr trivial)
          · simp (disch := omega) only [up_ne, up_same]; exact H1.term x hx
          · simp (disch := omega) only [up_ne, up_same]; exact H1.vote x hx
          · simp (disch := omega) only [up_ne, up_same]; exact Int32.le_refl _
          · simp (disch := omega) only [up_ne, up_same]; exact H1.agr x hx
          · simp (disch := omega) only [up_ne, up_same]; exact Or.inr ((P.2.2.2 x).trans hA)
        · intro w
          simp (disch := omega) only [up_ne, up_same]
    · have hi : i < n := by omega
      have KK : ∀ g' S2 T2, g' ≤ i + 2 → PO k (a + 1) n S1 T1 S2 T2 → RR (fun p q => ∃ g, g ≤ 6 ∧ p.1 = nI g ∧ q.1 = nI g ∧ PO k (a + 1) n S T p.2 q.2) (f (S2, nI g', nI i + 1)) (f' (T2, nI g', nI i + 1)) := by
        intro g' S2 T2 hg' P2
        refine K (d - 1) _ _ (by omega) ⟨i + 1, g', S2, T2, by omega, by omega, ?_, ?_, P.tr P2⟩ <;> rw [nI_p1]
      obtain ⟨b, hb, r1, r2, r3⟩ := reach_r H1 hx hi
      simp only [c, ↓reduceIte, r1, r2, bd1_s]
      unfold f_X4_gatherVotes_79 f_X9_asksNow_152 f_X9_asksNow_167 f_X9_asksNow_169
      rcases hb with rfl | rfl
      · simp only [↓reduceIte]
        exact KK g S1 T1 (by omega) ⟨H1, Fr.rf, Fr.rf, fun _ => rfl⟩
      · simp (decide := true) only [↓reduceIte]
        have hxi := (r3 rfl).1
        rw [ck_in (by omega) (by decide), nI_clamp (by omega), of_1 _ (by omega), bd1_s, of_1 _ (by omega), bd1_s, H1.c hi (by decide), H1.c hx (by decide)]
        by_cases c1 : T1 20 (33 + 34 * i + 1) ≤ T1 20 (33 + 34 * x + 1)
        · rw [if_pos c1, if_pos c1]
          unfold g_X4_letVote f_X4_letVote_0
          rw [ck_in (by omega) (by decide), nI_clamp (by omega), H1.c hi (by decide), H1.c hx (by decide)]
          simp only [bd1_s]
          have V : ∀ S2 T2, RW (a + 1) n (S2 k) (T2 20) → PO k (a + 1) n S1 T1 S2 T2 → T2 20 (33 + 34 * i + 1) = T2 20 (33 + 34 * x + 1) → RR (fun p q => ∃ g, g ≤ 6 ∧ p.1 = nI g ∧ q.1 = nI g ∧ PO k (a + 1) n S T p.2 q.2) (bd2 (f_X4_letVote_26 S2 k k i (nI x) k x) fun r10 S10 => f (S10, nI g + r10, nI i + 1)) (bd2 (g_X9_votes T2 (nI i) (nI x)) fun r22 S22 => if r22 = 0 then f' (S22, nI g + 0, nI i + 1) else f' (S22, nI g + 1, nI i + 1)) := by
            intro S2 T2 H2 P2 ht
            obtain ⟨b, S3, T3, hb, v1, v2, P3⟩ := vote_r H2 hi hx (fun z => hxi z.symm) ht
            rw [v1, v2, bd2_s, bd2_s]
            rcases hb with rfl | rfl
            · rw [if_pos rfl, i_add0]
              exact KK g S3 T3 (by omega) (P2.tr P3)
            · rw [if_neg (by decide), nI_p1]
              exact KK (g + 1) S3 T3 (by omega) (P2.tr P3)
          by_cases c2 : T1 20 (33 + 34 * x + 1) ≤ T1 20 (33 + 34 * i + 1)
          · rw [if_pos c2, if_pos c2]
            exact V S1 T1 H1 ⟨H1, Fr.rf, Fr.rf, fun _ => rfl⟩ (Int32.le_antisymm c1 c2)
          · obtain ⟨S2, T2, t1, t2, P2, t3, t4, -⟩ := take_r H1 hi hx c1
            rw [if_neg c2, if_neg c2, t2, ← H1.c hx (by decide), t1, bd1_s, bd1_s]
            exact V S2 T2 P2.1 P2 (t3.trans (t4 x hxi).symm)
        · rw [if_neg c1, if_neg c1]
          simp only [bd1_s]
          obtain ⟨S2, T2, t1, t2, P2, t3⟩ := take_r H1 hx hi (Int32.le_of_lt (Int32.not_le.mp c1))
          rw [t2, ← H1.c hi (by decide), t1, bd1_s, bd1_s]
          exact RR.ret ⟨0, by omega, rfl, rfl, P.tr P2⟩
  obtain ⟨p, q, h1, h2, g, hg, h3, h4, h6⟩ := R
  obtain ⟨p1, p2⟩ := p
  obtain ⟨q1, q2⟩ := q
  simp only at h3 h4 h6
  subst h3 h4
  exact ⟨g, p2, q2, hg, h1, h2, h6⟩
end ASK
