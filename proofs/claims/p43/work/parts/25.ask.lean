/-! ===== the pure part: asking for votes ===== -/
section P25
variable {a a' n i j x k : Nat} {V V' : Nat → Int32} {S S' : Mem}
/-- the votes gathered so far -/
def GA (k n x i g : Nat) (S : Mem) : Prop := rR (S k) x = 1 ∧ S k 2 ≠ 0 ∧ ∃ p : Nat → Bool, mj_ct p n = g ∧ (∀ j, i ≤ j → j ≠ x → p j = false) ∧ ∀ j, j < n → p j = true → rT (S k) j = rT (S k) x ∧ rV (S k) j = (x : Int) ∧ rf_nl (rL (S k)) (rE (S k)) j x
theorem begin_o (H : RO a n (S k)) (hx : x < n) (hA : S k (33 + 34 * x + 7) = 1) (hB : a + 1 < 9000000) : ∃ S0, g_X4_beginAsking S k k x (nI x) = some S0 ∧ PM k (a + 1) n S S0 ∧ GA k n x 0 1 S0 := by
  have h5 := H.le5
  have hA1 := H.aB
  obtain ⟨t, ht, e, eT0⟩ := H.tm hx
  obtain ⟨b, hb, e2, -⟩ := H.ask
  unfold g_X4_beginAsking f_X4_beginAsking_0
  simp (disch := omega) only [up_ne, up_same]
  rw [e, e2, nI_p1, nI_p1]
  refine ⟨_, rfl, ?_⟩
  generalize S k 7 + 1 = w7
  have eT : rT ((up (up (up (up (up (up (up S k (33 + 34 * x + 1) (nI (t + 1))) k (33 + 34 * x) 1) k (33 + 34 * x + 4) (nI x)) k (33 + 34 * x + 3) 0) k (33 + 34 * x + 8) (S k (33 + 34 * x + 8) + 1)) k 2 (nI (b + 1))) k 7 w7) k) x = ((t + 1 : Nat) : Int) := by
    unfold rT
    simp (disch := omega) only [up_ne, up_same]
    exact nI_toInt (by omega)
  have eR : rR ((up (up (up (up (up (up (up S k (33 + 34 * x + 1) (nI (t + 1))) k (33 + 34 * x) 1) k (33 + 34 * x + 4) (nI x)) k (33 + 34 * x + 3) 0) k (33 + 34 * x + 8) (S k (33 + 34 * x + 8) + 1)) k 2 (nI (b + 1))) k 7 w7) k) x = 1 := by
    unfold rR
    simp (disch := omega) only [up_ne, up_same]
    rfl
  have eV : rV ((up (up (up (up (up (up (up S k (33 + 34 * x + 1) (nI (t + 1))) k (33 + 34 * x) 1) k (33 + 34 * x + 4) (nI x)) k (33 + 34 * x + 3) 0) k (33 + 34 * x + 8) (S k (33 + 34 * x + 8) + 1)) k 2 (nI (b + 1))) k 7 w7) k) x = (x : Int) := by
    unfold rV
    simp (disch := omega) only [up_ne, up_same]
    exact nI_toInt (by omega)
  refine ⟨?_, eR, ?_, ?_⟩
  · refine PM.put H hx (Nat.le_succ _) hB (((((((Fr.rf.up _ _).up _ _).up _ _).up _ _).up _ _).up _ _).up _ _) (fun c h8 c0 c1 c2 c3 c4 c8 c9 => by simp (disch := omega) only [up_ne]) ?_ ⟨b + 1, by omega, ?_, fun z => by omega, ?_⟩ ?_ ?_ ?_ ?_ ?_ ?_ ?_ ?_ ?_ ?_ ?_
    · simp (disch := omega) only [up_ne]; exact H.cnt
    · simp (disch := omega) only [up_ne, up_same]
    · rw [e2, nI_toInt (by omega)]; omega
    · simp (disch := omega) only [up_ne, up_same]; exact Or.inr (Or.inl trivial)
    · simp (disch := omega) only [up_ne, up_same]; exact ⟨t + 1, by omega, rfl⟩
    · intro z; rw [hA] at z; exact absurd z (by decide)
    · rw [smf_i (V := S k) (i := x) hx (fun j _ hj => by simp (disch := omega) only [up_ne]) (by simp (disch := omega) only [up_ne, up_same])]
      simp (disch := omega) only [up_ne, up_same]
      rw [H.s8, e2, nI_p1]
    · rw [smf_e (V := S k) (fun j _ => by simp (disch := omega) only [up_ne])]
      simp (disch := omega) only [up_ne]; exact H.s9
    · rw [eT, eT0]; omega
    · rw [eT, eT0]; intro z; omega
    · exact fun _ => eV
    · rw [eV]; intro w _ hw z; omega
    · rw [eR]; intro z; omega
    · rw [eT, eT0]; intro _ z; omega
  · simp (disch := omega) only [up_ne, up_same]
    intro z
    have := (z_eqI (a := b + 1) (by omega)).mp z
    omega
  · refine ⟨fun j => j == x, mj_one hx, fun j _ hj => by simp [hj], fun j hj hp => ?_⟩
    have : j = x := by simpa using hp
    subst this
    exact ⟨rfl, eV, Or.inr ⟨rfl, Nat.le_refl _⟩⟩
theorem win_o (H : RO a n (S k)) (hx : x < n) (hA : S k (33 + 34 * x + 7) = 1) {g : Nat} (G : GA k n x n g S) (hg : n < 2 * g) : PM k a n S (up (up (up S k (33 + 34 * x) 2) k (33 + 34 * x + 9) (S k (33 + 34 * x + 9) + 1)) k 3 (S k 3 + 1)) := by
  obtain ⟨g1, g2, p, g3, g4, g5⟩ := G
  have hB := H.aB
  obtain ⟨b, hb0, hb, e⟩ := H.b2 g2
  have e6 : up (up (up S k (33 + 34 * x) 2) k (33 + 34 * x + 9) (S k (33 + 34 * x + 9) + 1)) k 3 (S k 3 + 1) k (33 + 34 * x + 6) = S k (33 + 34 * x + 6) := by simp (disch := omega) only [up_ne]
  refine ⟨?_, ((Fr.rf.up _ _).up _ _).up _ _, fun j => by simp (disch := omega) only [up_ne], fun j hj => ?_, ?_⟩
  · refine H.put hx (Nat.le_refl _) hB (fun c h8 c0 c1 c2 c3 c4 c6 c7 c8 c9 => by simp (disch := omega) only [up_ne]) ?_ ⟨b, hb, ?_, fun z => by omega⟩ ?_ ?_ (agr_k H hx e6) ?_ ?_ ?_ ?_
    · simp (disch := omega) only [up_ne]; exact H.cnt
    · simp (disch := omega) only [up_ne]; exact e
    · simp (disch := omega) only [up_ne, up_same]; exact Or.inr (Or.inr trivial)
    · simp (disch := omega) only [up_ne]; exact H.term x hx
    · simp (disch := omega) only [up_ne]; exact Or.inr hA
    · rw [smf_e (V := S k) (fun j _ => by simp (disch := omega) only [up_ne])]
      simp (disch := omega) only [up_ne]; exact H.s8
    · rw [smf_i (V := S k) (i := x) hx (fun j _ hj => by simp (disch := omega) only [up_ne]) (by simp (disch := omega) only [up_ne, up_same])]
      simp (disch := omega) only [up_ne, up_same]
      rw [H.s9]
    · refine H.iv.win H.l12 hx g1 ⟨p, by omega, g5⟩ (fun c h c0 c9 => by simp (disch := omega) only [up_ne]) (role2 ?_)
      simp (disch := omega) only [up_ne, up_same]
  · exact ⟨Int.le_of_eq (rT_e (by simp (disch := omega) only [up_ne])).symm, Nat.le_of_eq (rC_e (by simp (disch := omega) only [up_ne])).symm⟩
  · simp (disch := omega) only [up_ne]
    exact Int.le_refl _
theorem gather_o (H : RO a n (S k)) (hx : x < n) (hA : S k (33 + 34 * x + 7) = 1) (hB : a + 1 < 9000000) : ∃ g S', g ≤ 5 ∧ g_X4_gatherVotes S k (nI x) = some (nI g, S') ∧ PM k (a + 1) n S S' := by
  have h5 := H.le5
  have R : Gv (fun r => ∃ g, g ≤ 5 ∧ r.1 = nI g ∧ PM k (a + 1) n S r.2) (g_X4_gatherVotes S k (nI x)) := by
    obtain ⟨S0, b1, P0, G0⟩ := begin_o H hx hA hB
    unfold g_X4_gatherVotes f_X4_gatherVotes_0
    rw [ck_in (by omega) (by decide), nI_clamp (by omega), b1, bd1_s]
    unfold f_X4_gatherVotes_18
    refine Gv_lp (fun d s => ∃ i g S1, i + d = n ∧ s = (S1, nI g, nI i) ∧ PM k (a + 1) n S S1 ∧ GA k n x i g S1) ?_ n 2000 _ (by omega) ⟨0, 1, S0, by omega, rfl, P0, G0⟩
    rintro d s f ⟨i, g, S1, hd, rfl, P, G⟩ K
    have H1 := P.1
    have hA1 : S1 k (33 + 34 * x + 7) = 1 := (P.2.2.1 x).trans hA
    have hg : g ≤ n := by
      obtain ⟨-, -, p, g3, -⟩ := G
      rw [← g3]
      exact mj_le p n
    unfold f_X4_gatherVotes_18_b
    simp only [H1.cnt, ile (show n < 2 ^ 31 by omega) (show i < 2 ^ 31 by omega)]
    by_cases c : n ≤ i
    · have hin : i = n := by omega
      subst hin
      rw [if_pos c, maj_o H1.cnt h5 (by omega), bd1_s]
      unfold f_X4_gatherVotes_118
      by_cases c2 : g ≤ i / 2
      · rw [if_pos c2, if_pos rfl]
        exact Gv.ret ⟨g, by omega, rfl, P⟩
      · rw [if_neg c2, if_neg (by decide)]
        simp (disch := omega) only [up_ne, up_same]
        exact Gv.ret ⟨g, by omega, rfl, P.tr (win_o H1 hx hA1 G (by omega))⟩
    · have hi : i < n := by omega
      rw [if_neg c, reach_o H1 hx hi, bd1_s]
      unfold f_X4_gatherVotes_79
      obtain ⟨g1, g2, p, g3, g4, g5⟩ := G
      by_cases c0 : rch (S1 k) x i = 0
      · rw [if_pos c0, nI_p1]
        exact K (d - 1) _ (by omega) ⟨i + 1, g, S1, by omega, rfl, P, g1, g2, p, g3, fun j hj => g4 j (by omega), g5⟩
      · rw [if_neg c0]
        obtain ⟨hxi, -, -⟩ := rch_1 H1 hx hi ((rch_b (S1 k) x i).resolve_left c0)
        have hpi : p i = false := g4 i (Nat.le_refl _) (fun z => hxi z.symm)
        rw [ck_in (by omega) (by decide), nI_clamp (by omega)]
        obtain ⟨ti, hti, ei, eTi⟩ := H1.tm hi
        obtain ⟨tx, htx, ex, eTx⟩ := H1.tm hx
        by_cases c1 : S1 k (33 + 34 * i + 1) ≤ S1 k (33 + 34 * x + 1)
        · rw [if_pos c1]
          unfold g_X4_letVote f_X4_letVote_0
          rw [ck_in (by omega) (by decide), nI_clamp (by omega)]
          have Vt : ∀ S2, PM k (a + 1) n S1 S2 → S2 k (33 + 34 * i + 1) = S2 k (33 + 34 * x + 1) → (∀ c, c ≠ 33 + 34 * i → c ≠ 33 + 34 * i + 1 → c ≠ 33 + 34 * i + 4 → S2 k c = S1 k c) → Gv (fun r => ∃ g, g ≤ 5 ∧ r.1 = nI g ∧ PM k (a + 1) n S r.2) (bd2 (f_X4_letVote_26 S2 k k i (nI x) k x) fun r10 S10 => f (S10, nI g + r10, nI i + 1)) := by
            intro S2 P2 ht fr
            obtain ⟨b, S3, v1, P3, fr3, hc⟩ := vote_o P2.1 hi hx (fun z => hxi z.symm) ht (by rw [fr 2 (by omega) (by omega) (by omega)]; exact g2)
            have F : ∀ c, c ≠ 33 + 34 * i → c ≠ 33 + 34 * i + 1 → c ≠ 33 + 34 * i + 3 → c ≠ 33 + 34 * i + 4 → c ≠ 7 → S3 k c = S1 k c := fun c c0 c1 c3 c4 c7 => (fr3 c c3 c4 c7).trans (fr c c0 c1 c4)
            have kl : KL n (S1 k) (S3 k) := KL.of H1.l12 (fun j f hj hf hf' => F _ (by omega) (by omega) (by omega) (by omega) (by omega))
            have T : ∀ j, j ≠ i → rT (S3 k) j = rT (S1 k) j ∧ rV (S3 k) j = rV (S1 k) j ∧ rR (S3 k) j = rR (S1 k) j := fun j hj => ⟨rT_e (F _ (by omega) (by omega) (by omega) (by omega) (by omega)), rV_e (F _ (by omega) (by omega) (by omega) (by omega) (by omega)), rR_e (F _ (by omega) (by omega) (by omega) (by omega) (by omega))⟩
            have old : ∀ j, j < n → p j = true → rT (S3 k) j = rT (S3 k) x ∧ rV (S3 k) j = (x : Int) ∧ rf_nl (rL (S3 k)) (rE (S3 k)) j x := by
              intro j hj hp
              have hji : j ≠ i := fun z => by rw [z, hpi] at hp; exact absurd hp (by decide)
              obtain ⟨u1, u2, u3⟩ := g5 j hj hp
              rw [(T j hji).1, (T x hxi).1, (T j hji).2.1]
              exact ⟨u1, u2, kl.nl hj hx u3⟩
            have r1 : rR (S3 k) x = 1 := by rw [(T x hxi).2.2]; exact g1
            have n2 : S3 k 2 ≠ 0 := by rw [F 2 (by omega) (by omega) (by omega) (by omega) (by omega)]; exact g2
            rw [v1, bd2_s, nI_p1]
            rcases hc with ⟨rfl, -⟩ | ⟨rfl, w1, w2⟩
            · rw [i_add0]
              exact K (d - 1) _ (by omega) ⟨i + 1, g, S3, by omega, rfl, (P.tr P2).tr P3, r1, n2, p, g3, fun j hj => g4 j (by omega), old⟩
            · rw [nI_p1]
              refine K (d - 1) _ (by omega) ⟨i + 1, g + 1, S3, by omega, rfl, (P.tr P2).tr P3, r1, n2, fun j => j == i || p j, ?_, ?_, ?_⟩
              · rw [mj_add hpi hi, g3]
              · intro j hj hjx
                have : j ≠ i := by omega
                simp [this, g4 j (by omega) hjx]
              · intro j hj hp
                by_cases cj : j = i
                · subst cj
                  refine ⟨?_, w1, ?_⟩
                  · have e1 : rT (S3 k) j = rT (S2 k) j := rT_e (fr3 _ (by omega) (by omega) (by omega))
                    have e2 : rT (S3 k) x = rT (S2 k) x := rT_e (fr3 _ (by omega) (by omega) (by omega))
                    rw [e1, e2]
                    exact congrArg Int32.toInt ht
                  · have k2 : KL n (S2 k) (S3 k) := KL.of P2.1.l12 (fun j f hj hf hf' => fr3 _ (by omega) (by omega) (by omega))
                    exact k2.nl hj hx w2
                · refine old j hj ?_
                  simpa [cj] using hp
          rw [ei, ex] at c1
          have c1' : ti ≤ tx := (nI_leI (by have := H1.aB; omega) (by have := H1.aB; omega)).mp c1
          by_cases c2 : S1 k (33 + 34 * x + 1) ≤ S1 k (33 + 34 * i + 1)
          · rw [if_pos c2]
            rw [← ei, ← ex] at c1
            exact Vt S1 (PM.rf H1) (Int32.le_antisymm c1 c2) (fun _ _ _ _ => rfl)
          · rw [if_neg c2]
            rw [ei, ex] at c2
            have c2' : ¬ tx ≤ ti := fun z => c2 ((nI_leI (by have := H1.aB; omega) (by have := H1.aB; omega)).mpr z)
            unfold g_X2_takeOver f_X2_takeOver_0
            rw [bd1_s, ex]
            refine Vt _ (take_P H1 hi htx (by omega) g2) ?_ (fun c c0 c1 c4 => by simp (disch := omega) only [up_ne])
            simp (disch := omega) only [up_ne, up_same]
            exact ex.symm
        · rw [if_neg c1]
          rw [ei, ex] at c1
          have c1' : ¬ ti ≤ tx := fun z => c1 ((nI_leI (by have := H1.aB; omega) (by have := H1.aB; omega)).mpr z)
          unfold g_X2_takeOver f_X2_takeOver_0
          rw [bd1_s, ei]
          exact Gv.ret ⟨0, by omega, rfl, P.tr (take_P H1 hx hti (by omega) g2)⟩
  obtain ⟨⟨p1, p2⟩, h1, g, hg, h3, h4⟩ := R
  simp only at h3 h4
  subst h3
  exact ⟨g, p2, hg, h1, h4⟩
end P25
