/-! ===== the pure part: sending ===== -/
section SEND3
variable {a n k i j m m' x y g q : Nat} {S T : Mem}
theorem nI_dec {p : Nat} (h : 0 < p) : nI p + (-1 : Int32) = nI (p - 1) := by
  rw [← nI_m1 h]
  exact (Int32.sub_eq_add_neg (nI p) 1).symm
theorem agree_r (H : RW a n (S k) (T 20)) (hx : x < n) : ∃ S' L, g_X2_agreeOwnLines S k x = some S' ∧ g_X9_lastOwn T (nI x) = some L ∧ PO k a n S T S' (up T 20 (33 + 34 * x + 6) (mx (T 20 (33 + 34 * x + 6)) L)) := by
  have h5 := H.le5
  obtain ⟨m, hm, e⟩ := H.many x hx
  obtain ⟨p, hp, e'⟩ := H.agr x hx
  have A : Gv (fun L => ∃ l, l ≤ m ∧ L = nI l ∧ (∀ j, l < j → j ≤ m → T 20 (33 + 34 * x + 10 + (j - 1)) ≠ T 20 (33 + 34 * x + 1)) ∧ (l = 0 ∨ T 20 (33 + 34 * x + 10 + (l - 1)) = T 20 (33 + 34 * x + 1))) (g_X9_lastOwn T (nI x)) := by
    unfold g_X9_lastOwn f_X9_lastOwn_0 f_X9_lastOwn_7
    rw [of_5 _ (by omega), bd1_s, e]
    refine Gv_lp (fun d s => s = nI d ∧ d ≤ m ∧ (∀ j, d < j → j ≤ m → T 20 (33 + 34 * x + 10 + (j - 1)) ≠ T 20 (33 + 34 * x + 1))) ?_ m 2000 _ (by omega) ⟨rfl, Nat.le_refl _, fun j h1 h2 => by omega⟩
    rintro d s f ⟨rfl, hd, hj⟩ K
    unfold f_X9_lastOwn_7_b f_X9_lastOwn_37
    by_cases c : d = 0
    · subst c
      rw [if_pos (by decide)]
      exact ⟨_, rfl, 0, Nat.zero_le _, rfl, hj, Or.inl rfl⟩
    · rw [if_neg (fun z => c ((le0I (by omega)).mp z)), of_tp _ (by omega) (by omega) (by omega), bd1_s, of_1 _ (by omega), bd1_s, nI_dec (by omega)]
      by_cases c2 : T 20 (33 + 34 * x + 10 + (d - 1)) = T 20 (33 + 34 * x + 1)
      · rw [if_pos c2]
        exact ⟨_, rfl, d, hd, rfl, hj, Or.inr c2⟩
      · rw [if_neg c2]
        refine K (d - 1) _ (by omega) ⟨rfl, by omega, fun j h1 h2 => ?_⟩
        rcases Nat.lt_or_ge d j with h | h
        · exact hj j h h2
        · have : j = d := by omega
          rw [this]; exact c2
  obtain ⟨L, hL, l, l1, rfl, l2, l3⟩ := A
  have B : Gv (fun S' => S' = if l ≤ p then S else up S k (33 + 34 * x + 6) (nI l)) (g_X2_agreeOwnLines S k x) := by
    unfold g_X2_agreeOwnLines f_X2_agreeOwnLines_0 f_X2_agreeOwnLines_5
    rw [H.c hx (by decide), e]
    refine Gv_lp (fun d s => s = nI d ∧ d ≤ m ∧ l ≤ d) ?_ m 2000 _ (by omega) ⟨rfl, Nat.le_refl _, l1⟩
    rintro d s f ⟨rfl, hd, hld⟩ K
    unfold f_X2_agreeOwnLines_5_b
    rw [H.c hx (by decide), e', ile (by omega) (by omega)]
    by_cases c : d ≤ p
    · rw [if_pos c, if_pos (by omega)]
      exact ⟨_, rfl, rfl⟩
    · rw [if_neg c, nI_m1 (by omega), ck_in (by omega) (by decide), nI_clamp (by omega), nI_dec (by omega), H.c hx (by decide), (H.lin x hx m hm e (d - 1) (by omega)).1]
      by_cases c2 : T 20 (33 + 34 * x + 10 + (d - 1)) = T 20 (33 + 34 * x + 1)
      · have : l = d := by
          rcases Nat.lt_or_ge l d with h | h
          · exact absurd c2 (l2 d h hd)
          · omega
        subst this
        rw [if_pos c2, if_neg c]
        exact ⟨_, rfl, rfl⟩
      · rw [if_neg c2]
        refine K (d - 1) _ (by omega) ⟨rfl, by omega, ?_⟩
        rcases l3 with h | h
        · omega
        · rcases Nat.lt_or_ge l d with h1 | h1
          · omega
          · have : l = d := by omega
            subst this
            exact absurd h c2
  obtain ⟨S', hS, rfl⟩ := B
  refine ⟨_, _, hS, hL, ?_⟩
  rw [e', mxI (by omega) (by omega)]
  by_cases c : l ≤ p
  · rw [if_pos c, Nat.max_eq_left c, up_id _ e']
    exact PO.rf H
  · rw [if_neg c, Nat.max_eq_right (by omega)]
    exact knowP H hx ⟨l, by omega, rfl⟩
theorem head_r (H : RW a n (S k) (T 20)) {f : Nat} (hf : f < 8) (h1 : f ≠ 1) (h2 : f ≠ 2) (v : Int32) : PO k a n S T (up S k f v) (up T 20 f v) := by
  have h5 := H.le5
  refine ⟨?_, Fr.rf.up _ _, Fr.rf.up _ _, ?_⟩
  · refine H.head rfl ?_ ?_ ?_ ?_ ?_
    · intro c hc
      simp (disch := omega) only [up_ne, up_same]
    · intro c hc
      simp (disch := omega) only [up_ne, up_same]
    · simp (disch := omega) only [up_ne, up_same]; exact H.cnt
    · simp (disch := omega) only [up_ne, up_same]; exact H.ask
    · intro f' hf'; simp only [up_at, true_and, H.hd f' hf']
  · intro w
    simp (disch := omega) only [up_ne, up_same]
theorem send_r (H : RW a n (S k) (T 20)) (hx : x < n) : ∃ g S' T', g ≤ 6 ∧ g_X4_sendFrom S k (nI x) = some (nI g, S') ∧ g_X9_sendsNow T (nI x) = some (nI g, T') ∧ PO k a n S T S' T' := by
  have h5 := H.le5
  have R : RR (fun p q => ∃ g, g ≤ 6 ∧ p.1 = nI g ∧ q.1 = nI g ∧ PO k a n S T p.2 q.2) (g_X4_sendFrom S k (nI x)) (g_X9_sendsNow T (nI x)) := by
    unfold g_X4_sendFrom f_X4_sendFrom_0 g_X9_sendsNow f_X9_sendsNow_0
    have P0 := head_r H (f := 6) (by decide) (by decide) (by decide) (T 20 6 + 1)
    rw [ck_in (by omega) (by decide), nI_clamp (by omega), H.hd 6 (by decide)]
    revert P0
    generalize up S k 6 (T 20 6 + 1) = S0
    generalize up T 20 6 (T 20 6 + 1) = T0
    intro P0
    unfold f_X4_sendFrom_22 f_X9_sendsNow_15
    refine RR_lp (fun d s t => ∃ i g S' T', i + d = n ∧ g ≤ i + 1 ∧ s = (S', nI g, nI i) ∧ t = (T', nI g, nI i) ∧ PO k a n S T S' T') ?_ n 2000 2000 _ _ (by omega) (by omega) ⟨0, 1, S0, T0, by omega, by omega, rfl, rfl, P0⟩
    rintro d s t f f' ⟨i, g, S1, T1, hd, hg, rfl, rfl, P⟩ K
    have H1 := P.1
    unfold f_X4_sendFrom_22_b f_X9_sendsNow_15_b
    simp only [H1.cn, H1.cnt, ile (show n < 2 ^ 31 by omega) (show i < 2 ^ 31 by omega)]
    by_cases c : n ≤ i
    · simp only [c, ↓reduceIte]
      obtain ⟨b, hb, m1, m2⟩ := maj_r H1 (g := g) (by omega)
      simp only [m1, m2, bd1_s]
      unfold f_X4_sendFrom_109 f_X9_sendsNow_110
      rcases hb with rfl | rfl
      · simp only [↓reduceIte]
        exact RR.ret ⟨g, by omega, rfl, rfl, P⟩
      · simp (decide := true) only [↓reduceIte]
        obtain ⟨S2, L, a1, a2, P2⟩ := agree_r H1 hx
        rw [a1, bd1_s, of_6 _ (by omega), bd1_s, a2, bd1_s, greatX, bd1_s, sets_6 _ _ (by omega), bd1_s]
        exact RR.ret ⟨g, by omega, rfl, rfl, P.tr P2⟩
    · have hi : i < n := by omega
      have KK : ∀ g' S2 T2, g' ≤ i + 2 → PO k a n S1 T1 S2 T2 → RR (fun p q => ∃ g, g ≤ 6 ∧ p.1 = nI g ∧ q.1 = nI g ∧ PO k a n S T p.2 q.2) (f (S2, nI g', nI i + 1)) (f' (T2, nI g', nI i + 1)) := by
        intro g' S2 T2 hg' P2
        refine K (d - 1) _ _ (by omega) ⟨i + 1, g', S2, T2, by omega, by omega, ?_, ?_, P.tr P2⟩ <;> rw [nI_p1]
      obtain ⟨b, hb, r1, r2, r3⟩ := reach_r H1 hx hi
      simp only [c, ↓reduceIte, r1, r2, bd1_s]
      unfold f_X4_sendFrom_91 f_X9_sendsNow_74
      rcases hb with rfl | rfl
      · simp only [↓reduceIte]
        exact KK g S1 T1 (by omega) (PO.rf H1)
      · simp (decide := true) only [↓reduceIte]
        have hxi := (r3 rfl).1
        rw [ck_in (by omega) (by decide), nI_clamp (by omega), of_1 _ (by omega), bd1_s, of_1 _ (by omega), bd1_s, H1.c hi (by decide), H1.c hx (by decide)]
        by_cases c1 : T1 20 (33 + 34 * i + 1) ≤ T1 20 (33 + 34 * x + 1)
        · rw [if_pos c1, if_pos c1]
          obtain ⟨r, S2, T2, f1, f2, P2⟩ := follow_r H1 hi hx (fun z => hxi z.symm) c1
          rw [f1, f2, bd2_s, bd1_s, nI_p1]
          exact KK (g + 1) _ _ (by omega) P2
        · rw [if_neg c1, if_neg c1]
          simp only [bd1_s]
          obtain ⟨S2, T2, t1, t2, P2, t3⟩ := take_r H1 hx hi (Int32.le_of_lt (Int32.not_le.mp c1))
          rw [t2, ← H1.c hi (by decide), t1, bd1_s, bd1_s]
          exact RR.ret ⟨0, by omega, rfl, rfl, P.tr P2⟩
  obtain ⟨p, q, h1, h2, g, hg, h3, h4, h6⟩ := R
  obtain ⟨p1, p2⟩ := p
  obtain ⟨q1, q2⟩ := q
  simp only at h3 h4 h6
  subst h3 h4
  exact ⟨g, p2, q2, hg, h1, h2, h6⟩
end SEND3
