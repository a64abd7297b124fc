/-! ===== the pure part: beats ===== -/
section BEAT
variable {a n k i j m m' x y g q M : Nat} {S T : Mem}
theorem waited_r (H : RW a n (S k) (T 20)) (hi : i < n) (v : Int32) : PO k a n S T (up S k (33 + 34 * i + 3) v) (up T 20 (33 + 34 * i + 3) v) := by
  have h5 := H.le5
  refine ⟨?_, Fr.rf.up _ _, Fr.rf.up _ _, ?_⟩
  · refine H.put' hi (Nat.le_refl _) H.aB ?_ ?_ ?_ ?_ ?_ ?_ ?_ ?_ ?_ ?_ ?_
    · intro c _ _ _ _ _ _ _ _ _ _
      constructor <;> simp (disch := omega) only [up_ne, up_same]
    · simp (disch := omega) only [up_ne, up_same]; exact H.cnt
    · simp (disch := omega) only [up_ne, up_same]; exact H.ask
    · intro f hf; simp only [up_at, true_and, H.hd f hf]
    · intro f hf _; simp only [up_at, true_and, H.c hi hf]
    · simp (disch := omega) only [up_ne, up_same]; exact H.role i hi
    · simp (disch := omega) only [up_ne, up_same]; exact H.term i hi
    · simp (disch := omega) only [up_ne, up_same]; exact H.vote i hi
    · simp (disch := omega) only [up_ne, up_same]; exact Int32.le_refl _
    · simp (disch := omega) only [up_ne, up_same]; exact H.agr i hi
    · simp (disch := omega) only [up_ne, up_same]; exact H.abd i hi
  · intro w
    simp (disch := omega) only [up_ne, up_same]
theorem beat_r (H : RW a n (S k) (T 20)) (hB : a + 5 < 9000000) (F : (Mem × Int32) → Option (Int32 × Mem)) (x1 x2 x3 : Int32) : ∃ a' S' T', a ≤ a' ∧ a' ≤ a + 5 ∧ f_X4_passBeats_15 F S k x1 x2 x3 0 = F (S', x3 + 1) ∧ g_X9_beatGoes T = some T' ∧ PO k a' n S T S' T' := by
  have h5 := H.le5
  unfold f_X4_passBeats_15 g_X9_beatGoes f_X9_beatGoes_0 f_X9_beatGoes_2
  have R := QQ_lp (b := fun ih15 s9 => f_X4_passBeats_15_b F ih15 s9.1 k x1 x2 x3 s9.2) (c := fun ih2 s9 => f_X9_beatGoes_2_b ih2 s9.1 s9.2) (fun u v => ∃ a' S' T', a ≤ a' ∧ a' ≤ a + 5 ∧ u = F (S', x3 + 1) ∧ v = some T' ∧ PO k a' n S T S' T') (fun d s t => ∃ i a' S' T', i + d = n ∧ a ≤ a' ∧ a' ≤ a + i ∧ s = (S', nI i) ∧ t = (T', nI i) ∧ PO k a' n S T S' T') ?_ n 2000 2000 (S, 0) (T, 0) (by omega) (by omega) ⟨0, a, S, T, by omega, Nat.le_refl _, by omega, rfl, rfl, PO.rf H⟩
  · exact R
  rintro d s t f f' ⟨i, a1, S1, T1, hd, ha1, ha2, rfl, rfl, P⟩ K
  have H1 := P.1
  unfold f_X4_passBeats_15_b f_X9_beatGoes_2_b
  simp only [H1.cn, H1.cnt, ile (show n < 2 ^ 31 by omega) (show i < 2 ^ 31 by omega)]
  by_cases c : n ≤ i
  · simp only [c, ↓reduceIte]
    rw [H1.hd 0 (by decide)]
    exact ⟨a1, _, _, ha1, by omega, rfl, rfl, P.tr (head_r H1 (by decide) (by decide) (by decide) _)⟩
  · have hi : i < n := by omega
    simp only [c, ↓reduceIte, ck_in (show i < 5 by omega) (show 5 < 2 ^ 31 by decide), nI_clamp (show i < 2 ^ 31 by omega), lead_r H1 hi, H1.ab9 hi, bd1_s]
    unfold f_X4_passBeats_67 f_X9_beatGoes_65 f_X9_beatGoes_55
    have KK : ∀ a2 S2 T2, a1 ≤ a2 → a2 ≤ a1 + 1 → PO k a2 n S1 T1 S2 T2 → ∃ a' S' T', a ≤ a' ∧ a' ≤ a + 5 ∧ f (S2, nI i + 1) = F (S', x3 + 1) ∧ f' (T2, nI i + 1) = some T' ∧ PO k a' n S T S' T' := by
      intro a2 S2 T2 h1 h2 P2
      refine K (d - 1) _ _ (by omega) ⟨i + 1, a2, S2, T2, by omega, by omega, by omega, ?_, ?_, P.tr P2⟩ <;> rw [nI_p1]
    rcases H1.ab hi with hA | hA
    · unfold g_X2_waitBeat f_X2_waitBeat_0 f_X2_waitBeat_17 f_X2_waitBeat_39 f_X2_waitBeat_40
      simp (decide := true) only [hA, ↓reduceIte, H1.fld i hi, ck_0, bd2_s]
      exact KK a1 S1 T1 (Nat.le_refl _) (by omega) (PO.rf H1)
    · simp (decide := true) only [hA, ↓reduceIte, of_0 T1 (show i < 5 by omega), bd1_s]
      by_cases c1 : T1 20 (33 + 34 * i) = 2
      · simp (decide := true) only [c1, ↓reduceIte]
        obtain ⟨g, S2, T2, hg, s1, s2, P2⟩ := send_r H1 hi
        simp only [s1, s2, bd2_s, z_leI (show g < 2 ^ 31 by omega), ↓reduceIte, i_add0]
        rw [show inb 0 203 = true from rfl, ck_t _ rfl, show (0 : Int32).toNatClampNeg = 0 from rfl, up_id _ rfl]
        exact KK a1 S2 T2 (Nat.le_refl _) (by omega) P2
      · simp (decide := true) only [c1, ↓reduceIte]
        unfold g_X2_waitBeat f_X2_waitBeat_0 f_X2_waitBeat_17 f_X2_waitBeat_39 f_X2_waitBeat_40 g_X9_waits f_X9_waits_0 f_X9_waits_53 f_X9_waits_51
        have PW := waited_r H1 hi (T1 20 (33 + 34 * i + 3) + 1)
        rw [of_3 _ (by omega), bd1_s, sets_3 _ _ (by omega), bd1_s, of_3 _ (by omega), bd1_s, of_2 _ (by omega), bd1_s]
        simp (decide := true) only [H1.fld i hi, hA, ↓reduceIte]
        simp (disch := omega) only [up_ne, up_same]
        simp (decide := true) only [H1.fld i hi, hA, ↓reduceIte]
        revert PW
        generalize up S1 k (33 + 34 * i + 3) (T1 20 (33 + 34 * i + 3) + 1) = S2
        generalize up T1 20 (33 + 34 * i + 3) (T1 20 (33 + 34 * i + 3) + 1) = T2
        intro PW
        by_cases c2 : T1 20 (33 + 34 * i + 3) + 1 < T1 20 (33 + 34 * i + 2)
        · simp (decide := true) only [c2, ↓reduceIte, ck_0, bd2_s, bd1_s]
          exact KK a1 S2 T2 (Nat.le_refl _) (by omega) PW
        · simp (decide := true) only [c2, ↓reduceIte, ck_1, bd2_s]
          obtain ⟨g, S3, T3, hg, s1, s2, P3⟩ := gather_r PW.1 hi ((PW.2.2.2 i).trans hA) (by omega)
          simp only [s1, s2, bd2_s, z_leI (show g < 2 ^ 31 by omega), ↓reduceIte, i_add0]
          rw [show inb 0 203 = true from rfl, ck_t _ rfl, show (0 : Int32).toNatClampNeg = 0 from rfl, up_id _ rfl]
          simp only [f_X9_waits_53, bd1_s]
          exact KK (a1 + 1) S3 T3 (by omega) (by omega) (PW.tr P3)
theorem beats_r (H : RW a n (S k) (T 20)) (hM : M ≤ 20) (hB : a + 100 < 9000000) : ∃ a' S' T', a ≤ a' ∧ a' ≤ a + 5 * M ∧ g_X4_passBeats S k (nI M) = some (nI (a' - a), S') ∧ f_X9_beatsGo_22 T (nI M) (T 20 2) 0 = some (nI (a' - a), T') ∧ PO k a' n S T S' T' := by
  have h5 := H.le5
  have R : RR (fun p q => ∃ a', a ≤ a' ∧ a' ≤ a + 5 * M ∧ p.1 = nI (a' - a) ∧ q.1 = nI (a' - a) ∧ PO k a' n S T p.2 q.2) (g_X4_passBeats S k (nI M)) (f_X9_beatsGo_22 T (nI M) (T 20 2) 0) := by
    unfold g_X4_passBeats f_X4_passBeats_0 f_X4_passBeats_7 f_X9_beatsGo_22
    rw [H.hd 2 (by decide), H.ask]
    refine RR_lp (fun d s t => ∃ p a' S' T', p + d = M ∧ a ≤ a' ∧ a' ≤ a + 5 * p ∧ s = (S', nI p) ∧ t = (T', nI p) ∧ PO k a' n S T S' T') ?_ M 2000 2000 _ _ (by omega) (by omega) ⟨0, a, S, T, by omega, Nat.le_refl _, by omega, rfl, rfl, PO.rf H⟩
    rintro d s t f f' ⟨p, a1, S1, T1, hd, ha1, ha2, rfl, rfl, P⟩ K
    have H1 := P.1
    unfold f_X4_passBeats_7_b f_X9_beatsGo_22_b
    simp only [ile (show M < 2 ^ 31 by omega) (show p < 2 ^ 31 by omega)]
    by_cases c : M ≤ p
    · simp only [c, ↓reduceIte]
      rw [H1.hd 2 (by decide), H1.ask, pk_sub ha1]
      exact RR.ret ⟨a1, ha1, by omega, rfl, rfl, P⟩
    · simp only [c, ↓reduceIte]
      obtain ⟨a2, S2, T2, h1, h2, b1, b2, P2⟩ := beat_r H1 (by omega) f (nI M) (nI a) (nI p)
      rw [b1, b2, bd1_s]
      refine K (d - 1) _ _ (by omega) ⟨p + 1, a2, S2, T2, by omega, by omega, by omega, ?_, ?_, P.tr P2⟩ <;> rw [nI_p1]
  obtain ⟨p, q, h1, h2, a', ha, hb, h3, h4, h6⟩ := R
  obtain ⟨p1, p2⟩ := p
  obtain ⟨q1, q2⟩ := q
  simp only at h3 h4 h6
  subst h3 h4
  exact ⟨a', p2, q2, ha, hb, h1, h2, h6⟩
theorem one_r (H : RW a n (S k) (T 20)) (hB : a + 100 < 9000000) : ∃ a' S' T', a ≤ a' ∧ a' ≤ a + 5 ∧ g_X4_passBeats S k 1 = some (nI (a' - a), S') ∧ g_X9_beatGoes T = some T' ∧ PO k a' n S T S' T' := by
  unfold g_X4_passBeats f_X4_passBeats_0 f_X4_passBeats_7
  rw [H.hd 2 (by decide), H.ask]
  show ∃ a' S' T', a ≤ a' ∧ a' ≤ a + 5 ∧ f_X4_passBeats_7_b (lp (fun ih7 s9 => f_X4_passBeats_7_b ih7 s9.1 k 1 (nI a) s9.2) 1999) S k 1 (nI a) 0 = some (nI (a' - a), S') ∧ g_X9_beatGoes T = some T' ∧ PO k a' n S T S' T'
  unfold f_X4_passBeats_7_b
  rw [if_neg (by decide)]
  obtain ⟨a2, S2, T2, h1, h2, b1, b2, P2⟩ := beat_r H (by omega) (lp (fun ih7 s9 => f_X4_passBeats_7_b ih7 s9.1 k 1 (nI a) s9.2) 1999) 1 (nI a) 0
  refine ⟨a2, S2, T2, h1, h2, b1.trans ?_, b2, P2⟩
  show f_X4_passBeats_7_b (lp (fun ih7 s9 => f_X4_passBeats_7_b ih7 s9.1 k 1 (nI a) s9.2) 1998) S2 k 1 (nI a) (0 + 1) = _
  unfold f_X4_passBeats_7_b
  rw [if_pos (by decide), P2.1.hd 2 (by decide), P2.1.ask, pk_sub h1]
end BEAT
