/-! ===== the pure part: following a leader, sending ===== -/
section SEND2
variable {a n k i j m m' x y g q : Nat} {S T : Mem}
theorem bnd_mx {u v : Int32} {B : Nat} (h : bnd u B) (h' : bnd v B) : bnd (mx u v) B := by
  unfold mx
  split
  · exact h'
  · exact h
theorem bnd_mn {u v : Int32} {B : Nat} (h : bnd u B) (h' : bnd v B) : bnd (mn u v) B := by
  unfold mn
  split
  · exact h'
  · exact h
theorem up_id (S : Mem) {b c : Nat} {u : Int32} (h : S b c = u) : up S b c u = S := by
  funext b' j'
  simp only [up_at]
  by_cases h1 : b' = b ∧ j' = c
  · rw [if_pos h1, h1.1, h1.2, h]
  · rw [if_neg h1]
theorem PO.rf (H : RW a n (S k) (T 20)) : PO k a n S T S T := ⟨H, Fr.rf, Fr.rf, fun _ => rfl⟩
theorem knowP (H : RW a n (S k) (T 20)) (hi : i < n) {v : Int32} (hv : bnd v 12) : PO k a n S T (up S k (33 + 34 * i + 6) v) (up T 20 (33 + 34 * i + 6) v) := by
  have h5 := H.le5
  refine ⟨?_, Fr.rf.up _ _, Fr.rf.up _ _, ?_⟩
  · refine H.put' hi (Nat.le_refl _) H.aB ?_ ?_ ?_ ?_ ?_ ?_ ?_ ?_ ?_ ?_ ?_
    · intro c _ _ _ _ _ _ _ _ _ _
      constructor <;> simp (disch := omega) only [up_ne, up_same]
    · simp (disch := omega) only [up_ne, up_same]; exact H.cnt
    · simp (disch := omega) only [up_ne, up_same]; exact H.ask
    · intro f hf; simp only [up_at, true_and, H.hd f hf]
    · intro f hf _; simp only [up_at, true_and, H.c hi hf]
    · simp (disch := omega) only [up_ne, up_same]; exact H.role i hi
    · simp (disch := omega) only [up_ne, up_same]; exact H.term i hi
    · simp (disch := omega) only [up_ne, up_same]; exact H.vote i hi
    · simp (disch := omega) only [up_ne, up_same]; exact Int32.le_refl _
    · simp (disch := omega) only [up_ne, up_same]; exact hv
    · simp (disch := omega) only [up_ne, up_same]; exact H.abd i hi
  · intro w
    simp (disch := omega) only [up_ne, up_same]
theorem follow19 (H1 : RW a n (S k) (T 20)) (hi : i < n) (hx : x < n) (hix : i ≠ x) : ∃ r S' T', f_X2_followLeader_19 S k i k x = some (r, S') ∧ f_X9_gets_26 T (nI i) (nI x) = some T' ∧ PO k a n S T (up S' k 5 (S k 5 + r)) T' := by
  have h5 := H1.le5
  unfold f_X2_followLeader_19 f_X9_gets_26 f_X2_followLeader_58
  rw [sets_0 _ _ (by omega), bd1_s, sets_3 _ _ (by omega), bd1_s]
  have P2 : PO k a n S T (up (up S k (33 + 34 * i) 0) k (33 + 34 * i + 3) 0) (up (up T 20 (33 + 34 * i) 0) 20 (33 + 34 * i + 3) 0) := by
    refine ⟨?_, (Fr.rf.up _ _).up _ _, (Fr.rf.up _ _).up _ _, ?_⟩
    · refine H1.put' hi (Nat.le_refl _) H1.aB ?_ ?_ ?_ ?_ ?_ ?_ ?_ ?_ ?_ ?_ ?_
      · intro c _ _ _ _ _ _ _ _ _ _
        constructor <;> simp (disch := omega) only [up_ne, up_same]
      · simp (disch := omega) only [up_ne, up_same]; exact H1.cnt
      · simp (disch := omega) only [up_ne, up_same]; exact H1.ask
      · intro f hf; simp only [up_at, true_and, H1.hd f hf]
      · intro f hf _; simp only [up_at, true_and, H1.c hi hf]
      · simp (disch := omega) only [up_ne, up_same]; exact Or.inl trivial
      · simp (disch := omega) only [up_ne, up_same]; exact H1.term i hi
      · simp (disch := omega) only [up_ne, up_same]; exact H1.vote i hi
      · simp (disch := omega) only [up_ne, up_same]; exact Int32.le_refl _
      · simp (disch := omega) only [up_ne, up_same]; exact H1.agr i hi
      · simp (disch := omega) only [up_ne, up_same]; exact (H1.abd i hi).imp (fun h => ⟨h.1, trivial⟩) id
    · intro w
      simp (disch := omega) only [up_ne, up_same]
  have hS5 : (up (up S k (33 + 34 * i) 0) k (33 + 34 * i + 3) 0) k 5 = S k 5 := by
    simp (disch := omega) only [up_ne, up_same]
  revert P2 hS5
  generalize (up (up S k (33 + 34 * i) 0) k (33 + 34 * i + 3) 0) = S2
  generalize (up (up T 20 (33 + 34 * i) 0) 20 (33 + 34 * i + 3) 0) = T2
  intro P2 hS5
  have H := P2.1
  obtain ⟨p, hp, e⟩ := H.many i hi
  obtain ⟨m, hm, e'⟩ := H.many x hx
  obtain ⟨q, q1, q2, q3, q4, q5⟩ := same_rq H hi hx hp hm e e'
  rw [q4, q5, bd1_s, bd1_s, of_5 _ (by omega), bd1_s, H.c hx (by decide), e', ile (by omega) (by omega), ile (by omega) (by omega)]
  by_cases c : m ≤ q
  · rw [if_pos c, if_pos c, gets178 _ (by omega) (by omega)]
    refine ⟨_, _, _, rfl, rfl, P2.tr ?_⟩
    rw [i_add0, up_id _ (by simp (disch := omega) only [up_ne, up_same]; exact hS5), H.c hi (by decide), H.c hx (by decide), H.c hi (by decide)]
    exact knowP H hi (bnd_mx (H.agr i hi) (bnd_mn (H.agr x hx) (H.many i hi)))
  · rw [if_neg c, if_neg c]
    have hlet : ∀ l, q ≤ l → l < m → ∃ c : Nat, 97 ≤ c ∧ c ≤ 122 ∧ S2 k (33 + 34 * x + 22 + l) = nI c := by
      intro l _ hl
      obtain ⟨-, g2, -, ch, g4, g5, g6⟩ := H.lin x hx m hm e' l hl
      exact ⟨ch, g4, g5, g2.trans g6⟩
    obtain ⟨S4, s1, sF, s5, sA, sB, sC⟩ := copyL (S := S2) (k := k) (c' := k) (i := i) (x := x) (q := q) hm q2 ((H.c hx (by decide)).trans e') (fun z => hix z.2) (by omega) (by omega) hlet
    have e3 : (up T2 20 5 (T2 20 5 + (T2 20 (33 + 34 * i + 5) - nI q))) 20 (33 + 34 * x + 5) = nI m := by
      simp (disch := omega) only [up_ne, up_same]; exact e'
    obtain ⟨T4, t1, tF, t5, tA, tC⟩ := copyR hm e3 hix (by omega) (by omega)
    rw [s1, bd1_s, of_5 _ (by omega), bd1_s, t1, gets178 _ (by omega) (by omega)]
    refine ⟨_, _, _, rfl, rfl, P2.tr ?_⟩
    rw [up_comm _ _ _ (by omega)]
    have P5 : PO k a n S2 T2 (up S4 k 5 (S k 5 + (S2 k (33 + 34 * i + 5) - nI q))) T4 := by
      refine ⟨?_, sF.up _ _, ?_, ?_⟩
      · refine H.lines hi (m' := m) ?_ ?_ ?_ ?_ hm t5 ?_ ?_
        · intro c h8 h1 h2
          rw [tA c h1 h2]
          simp (disch := omega) only [up_ne, up_same]
          exact ⟨trivial, sA c h1 h2⟩
        · rw [tA 1 (by omega) (by omega)]
          simp (disch := omega) only [up_ne, up_same]
          exact H.cnt
        · rw [tA 2 (by omega) (by omega)]
          simp (disch := omega) only [up_ne, up_same]
          exact H.ask
        · intro f hf
          rw [tA f (by omega) (by omega)]
          simp only [up_at, true_and, sA f (by omega) (by omega), H.hd f hf, H.c hi (show 5 < 10 by decide), ← hS5, H.hd 5 (by decide)]
        · simp (disch := omega) only [up_ne, up_same]
          exact s5
        · intro l hl
          obtain ⟨g1, g2, g3, g4⟩ := H.lin x hx m hm e' l hl
          obtain ⟨u1, u2⟩ := tC l hl
          rw [u1, u2]
          simp (disch := omega) only [up_ne, up_same]
          refine ⟨?_, ?_, g3, g4⟩
          · rcases Nat.lt_or_ge l q with h | h
            · rw [(sB l h).1, (H.lin i hi p hp e l (by omega)).1]
              exact (q3 l h).1
            · rw [(sC l h hl).1, g1]
          · rcases Nat.lt_or_ge l q with h | h
            · rw [(sB l h).2, (H.lin i hi p hp e l (by omega)).2.1]
              exact (q3 l h).2
            · rw [(sC l h hl).2, g2]
      · exact (Fr.rf.up _ _).tr tF
      · intro w
        rw [tA _ (by omega) (by omega)]
        simp (disch := omega) only [up_ne, up_same]
    refine P5.tr ?_
    have H5 := P5.1
    have z1 : S4 k (33 + 34 * i + 6) = T4 20 (33 + 34 * i + 6) := by
      rw [← H5.c hi (by decide)]
      simp (disch := omega) only [up_ne, up_same]
    have z2 : S4 k (33 + 34 * x + 6) = T4 20 (33 + 34 * x + 6) := by
      rw [← H5.c hx (by decide)]
      simp (disch := omega) only [up_ne, up_same]
    have z3 : S4 k (33 + 34 * i + 5) = T4 20 (33 + 34 * i + 5) := by
      rw [← H5.c hi (by decide)]
      simp (disch := omega) only [up_ne, up_same]
    rw [z1, z2, z3]
    exact knowP H5 hi (bnd_mx (H5.agr i hi) (bnd_mn (H5.agr x hx) (H5.many i hi)))
theorem follow_r (H : RW a n (S k) (T 20)) (hi : i < n) (hx : x < n) (hix : i ≠ x) (hle : T 20 (33 + 34 * i + 1) ≤ T 20 (33 + 34 * x + 1)) : ∃ r S' T', g_X2_followLeader S k i k x = some (r, S') ∧ g_X9_gets T (nI i) (nI x) = some T' ∧ PO k a n S T (up S' k 5 (S k 5 + r)) T' := by
  have h5 := H.le5
  unfold g_X2_followLeader f_X2_followLeader_0 g_X9_gets f_X9_gets_0
  rw [of_1 _ (by omega), bd1_s, of_1 _ (by omega), bd1_s, H.c hx (by decide), H.c hi (by decide)]
  by_cases c : T 20 (33 + 34 * x + 1) ≤ T 20 (33 + 34 * i + 1)
  · rw [if_pos c, if_pos c]
    exact follow19 H hi hx hix
  · obtain ⟨S1, T1, t1, t2, P1, -, -, t5⟩ := take_r H hi hx hle
    rw [if_neg c, if_neg c, bd1_s, t2, ← H.c hx (by decide), t1, bd1_s, bd1_s]
    obtain ⟨r, S', T', f1, f2, P⟩ := follow19 P1.1 hi hx hix
    refine ⟨r, S', T', f1, f2, P1.tr ?_⟩
    rw [show S k 5 = S1 k 5 by rw [H.hd 5 (by decide), P1.1.hd 5 (by decide), t5]]
    exact P
end SEND2
