/-! ===== the pure part: sending, beats ===== -/
section P27
variable {a a' n i j x k M : Nat} {V V' : Nat → Int32} {S S' : Mem}
theorem nI_dec {y : Nat} (h : 0 < y) : nI y + (-1 : Int32) = nI (y - 1) := by
  obtain ⟨z, rfl⟩ : ∃ z, y = z + 1 := ⟨y - 1, by omega⟩
  rw [← nI_p1, Int32.add_assoc, show (1 : Int32) + (-1) = 0 from by decide, i_add0, Nat.add_sub_cancel]
theorem own_o (H : RO a n (S k)) (hx : x < n) (hr : rR (S k) x = 2) (hw : Mo n (fun i => rT (S k) i = rT (S k) x ∧ rf_Hp (rL (S k)) (rE (S k)) (rE (S k) x) (rL (S k) x) i)) : ∃ S', g_X2_agreeOwnLines S k x = some S' ∧ PM k a n S S' := by
  have h5 := H.le5
  have lx := H.l12 x hx
  have cx := H.cle hx
  have hB := H.aB
  have hp2 : S k 2 ≠ 0 := H.ne0 hx (fun z => by have := role2' hr; rw [z] at this; exact absurd this (by decide))
  obtain ⟨b, hb0, hb, e⟩ := H.b2 hp2
  show Gv (fun S' => PM k a n S S') (g_X2_agreeOwnLines S k x)
  unfold g_X2_agreeOwnLines f_X2_agreeOwnLines_0 f_X2_agreeOwnLines_5
  rw [(H.many x hx).2]
  refine Gv_lp (fun d s => d ≤ rL (S k) x ∧ s = nI d) ?_ (rL (S k) x) 2000 _ (by omega) ⟨Nat.le_refl _, rfl⟩
  rintro d s f ⟨hd, rfl⟩ K
  unfold f_X2_agreeOwnLines_5_b
  rw [H.agr x hx, ile (by omega) (by omega)]
  by_cases c : d ≤ rC (S k) x
  · rw [if_pos c]
    exact Gv.ret (PM.rf H)
  · rw [if_neg c, nI_m1 (by omega), ck_in (by omega) (by decide), nI_clamp (by omega)]
    by_cases c2 : S k (33 + 34 * x + 10 + (d - 1)) = S k (33 + 34 * x + 1)
    · rw [if_pos c2]
      have eC : rC (up S k (33 + 34 * x + 6) (nI d) k) x = d := by
        show (up S k (33 + 34 * x + 6) (nI d) k (33 + 34 * x + 6)).toNatClampNeg = _
        rw [up_same]
        exact nI_clamp (by omega)
      refine Gv.ret ⟨?_, Fr.rf.up _ _, fun j => by simp (disch := omega) only [up_ne], fun j hj => ?_, ?_⟩
      · refine H.put hx (Nat.le_refl _) hB (fun c h8 c0 c1 c2 c3 c4 c6 c7 c8 c9 => by simp (disch := omega) only [up_ne]) ?_ ⟨b, hb, ?_, fun z => by omega⟩ ?_ ?_ ?_ ?_ ?_ ?_ ?_
        · simp (disch := omega) only [up_ne]; exact H.cnt
        · simp (disch := omega) only [up_ne]; exact e
        · simp (disch := omega) only [up_ne]; exact H.role x hx
        · simp (disch := omega) only [up_ne]; exact H.term x hx
        · rw [eC]; simp (disch := omega) only [up_same]
        · simp (disch := omega) only [up_ne]; exact H.abd x hx
        · rw [smf_e (V := S k) (fun j _ => by simp (disch := omega) only [up_ne])]
          simp (disch := omega) only [up_ne]; exact H.s8
        · rw [smf_e (V := S k) (fun j _ => by simp (disch := omega) only [up_ne])]
          simp (disch := omega) only [up_ne]; exact H.s9
        · exact H.iv.com (m := d) H.l12 hx hr ⟨by omega, hd⟩ (congrArg Int32.toInt c2) hw (fun c h c6 => by simp (disch := omega) only [up_ne]) eC
      · refine ⟨Int.le_of_eq (rT_e (by simp (disch := omega) only [up_ne])).symm, ?_⟩
        by_cases c : j = x
        · subst c
          rw [eC]
          omega
        · exact Nat.le_of_eq (rC_e (by simp (disch := omega) only [up_ne])).symm
      · simp (disch := omega) only [up_ne]
        exact Int.le_refl _
    · rw [if_neg c2, nI_dec (by omega)]
      exact K (d - 1) _ (by omega) ⟨by omega, rfl⟩
/-- those who have what the leader has -/
def GS (k n x i g : Nat) (S : Mem) : Prop := rR (S k) x = 2 ∧ ∃ p : Nat → Bool, mj_ct p n = g ∧ (∀ j, i ≤ j → j ≠ x → p j = false) ∧ ∀ j, j < n → p j = true → rT (S k) j = rT (S k) x ∧ rf_Hp (rL (S k)) (rE (S k)) (rE (S k) x) (rL (S k) x) j
theorem follow_o (H : RO a n (S k)) (hi : i < n) (hx : x < n) (hix : i ≠ x) (hrx : rR (S k) x = 2) (ht : rT (S k) i ≤ rT (S k) x) : ∃ r S', g_X2_followLeader S k i k x = some (r, S') ∧ PM k a n S S' ∧ (∀ c, (c < 33 + 34 * i ∨ 33 + 34 * i + 34 ≤ c) → S' k c = S k c) ∧ rT (S' k) i = rT (S k) x ∧ rf_Hp (rL (S' k)) (rE (S' k)) (rE (S' k) x) (rL (S' k) x) i := by
  have hB := H.aB
  obtain ⟨ti, hti, ei, eTi⟩ := H.tm hi
  obtain ⟨tx, htx, ex, eTx⟩ := H.tm hx
  have hp2 : S k 2 ≠ 0 := H.ne0 hx (fun z => by have := role2' hrx; rw [z] at this; exact absurd this (by decide))
  unfold g_X2_followLeader f_X2_followLeader_0
  rw [ei, ex, ile (by omega) (by omega)]
  by_cases c : tx ≤ ti
  · rw [if_pos c]
    obtain ⟨r, S', h1, h2, h3, h4, h6⟩ := follow19 H hi hx hix hrx (fun z => hix (H.iv.2.2.2.2.2.1 i hi x hx z hrx (by omega))) (by omega)
    exact ⟨r, S', h1, h2, h3, by omega, h6⟩
  · rw [if_neg c]
    unfold g_X2_takeOver f_X2_takeOver_0
    rw [bd1_s]
    have P := take_P H hi htx (by omega) hp2
    have eT : rT (up (up (up S k (33 + 34 * i + 1) (nI tx)) k (33 + 34 * i) 0) k (33 + 34 * i + 4) (-1) k) i = (tx : Int) := by
      unfold rT
      simp (disch := omega) only [up_ne, up_same]
      exact nI_toInt (by omega)
    have eR : rR (up (up (up S k (33 + 34 * i + 1) (nI tx)) k (33 + 34 * i) 0) k (33 + 34 * i + 4) (-1) k) i = 0 := by
      unfold rR
      simp (disch := omega) only [up_ne, up_same]
      rfl
    have F : ∀ c, (c < 33 + 34 * i ∨ 33 + 34 * i + 34 ≤ c) → up (up (up S k (33 + 34 * i + 1) (nI tx)) k (33 + 34 * i) 0) k (33 + 34 * i + 4) (-1) k c = S k c := fun c hc => by simp (disch := omega) only [up_ne]
    revert P eT eR F
    generalize up (up (up S k (33 + 34 * i + 1) (nI tx)) k (33 + 34 * i) 0) k (33 + 34 * i + 4) (-1) = S1
    intro P eT eR F
    have eTx1 : rT (S1 k) x = rT (S k) x := rT_e (F _ (by omega))
    have eRx1 : rR (S1 k) x = rR (S k) x := rR_e (F _ (by omega))
    obtain ⟨r, S', h1, h2, h3, h4, h6⟩ := follow19 P.1 hi hx hix (by omega) (by omega) (by omega)
    exact ⟨r, S', h1, P.tr h2, fun c hc => (h3 c hc).trans (F c hc), by omega, h6⟩
theorem send_o (H : RO a n (S k)) (hx : x < n) (hrx : rR (S k) x = 2) : ∃ g S', g ≤ 5 ∧ g_X4_sendFrom S k (nI x) = some (nI g, S') ∧ PM k a n S S' := by
  have h5 := H.le5
  have R : Gv (fun r => ∃ g, g ≤ 5 ∧ r.1 = nI g ∧ PM k a n S r.2) (g_X4_sendFrom S k (nI x)) := by
    unfold g_X4_sendFrom f_X4_sendFrom_0 f_X4_sendFrom_22
    rw [ck_in (by omega) (by decide), nI_clamp (by omega)]
    have P0 := PM.head H (c := 6) (Or.inr ⟨by decide, by decide⟩) (S k 6 + 1)
    have r0 : rR (up S k 6 (S k 6 + 1) k) x = 2 := (rR_e (by simp (disch := omega) only [up_ne])).trans hrx
    revert P0 r0
    generalize up S k 6 (S k 6 + 1) = S0
    intro P0 r0
    refine Gv_lp (fun d s => ∃ i g S1, i + d = n ∧ s = (S1, nI g, nI i) ∧ PM k a n S S1 ∧ GS k n x i g S1) ?_ n 2000 _ (by omega) ⟨0, 1, S0, by omega, rfl, P0, r0, fun j => j == x, mj_one hx, fun j _ hj => by simp [hj], fun j hj hp => by
      have : j = x := by simpa using hp
      subst this
      exact ⟨rfl, Nat.le_refl _, fun l _ => rfl⟩⟩
    rintro d s f ⟨i, g, S1, hd, rfl, P, r1, p, g3, g4, g5⟩ K
    have H1 := P.1
    have hg : g ≤ n := by
      rw [← g3]
      exact mj_le p n
    unfold f_X4_sendFrom_22_b
    simp only [H1.cnt, ile (show n < 2 ^ 31 by omega) (show i < 2 ^ 31 by omega)]
    by_cases c : n ≤ i
    · rw [if_pos c, maj_o H1.cnt h5 (by omega), bd1_s]
      unfold f_X4_sendFrom_109
      by_cases c2 : g ≤ n / 2
      · rw [if_pos c2, if_pos rfl]
        exact Gv.ret ⟨g, by omega, rfl, P⟩
      · rw [if_neg c2, if_neg (by decide)]
        obtain ⟨S2, o1, o2⟩ := own_o H1 hx r1 ⟨p, by omega, g5⟩
        rw [o1, bd1_s]
        exact Gv.ret ⟨g, by omega, rfl, P.tr o2⟩
    · have hi : i < n := by omega
      rw [if_neg c, reach_o H1 hx hi, bd1_s]
      unfold f_X4_sendFrom_91
      by_cases c0 : rch (S1 k) x i = 0
      · rw [if_pos c0, nI_p1]
        exact K (d - 1) _ (by omega) ⟨i + 1, g, S1, by omega, rfl, P, r1, p, g3, fun j hj => g4 j (by omega), g5⟩
      · rw [if_neg c0]
        obtain ⟨hxi, -, -⟩ := rch_1 H1 hx hi ((rch_b (S1 k) x i).resolve_left c0)
        have hpi : p i = false := g4 i (Nat.le_refl _) (fun z => hxi z.symm)
        rw [ck_in (by omega) (by decide), nI_clamp (by omega)]
        obtain ⟨ti, hti, ei, eTi⟩ := H1.tm hi
        obtain ⟨tx, htx, ex, eTx⟩ := H1.tm hx
        have hB := H1.aB
        rw [ei, ex, ile (by omega) (by omega)]
        by_cases c1 : ti ≤ tx
        · rw [if_pos c1]
          obtain ⟨r, S2, f1, f2, f3, f4, f5⟩ := follow_o H1 hi hx (fun z => hxi z.symm) r1 (by omega)
          rw [f1, bd2_s, nI_p1, nI_p1]
          have P3 := PM.head f2.1 (c := 5) (Or.inr ⟨by decide, by decide⟩) (S1 k 5 + r)
          have F3 : ∀ c, c ≠ 5 → up S2 k 5 (S1 k 5 + r) k c = S2 k c := fun c hc => up_ne _ _ (by omega)
          revert P3 F3
          generalize up S2 k 5 (S1 k 5 + r) = S3
          intro P3 F3
          have F : ∀ c, 8 ≤ c → (c < 33 + 34 * i ∨ 33 + 34 * i + 34 ≤ c) → S3 k c = S1 k c := fun c h8 hc => (F3 c (by omega)).trans (f3 c hc)
          have k3 : KL n (S2 k) (S3 k) := KL.of f2.1.l12 (fun j f hj hf hf' => F3 _ (by omega))
          refine K (d - 1) _ (by omega) ⟨i + 1, g + 1, S3, by omega, rfl, (P.tr f2).tr P3, (rR_e (F _ (by omega) (by omega))).trans r1, fun j => j == i || p j, ?_, ?_, ?_⟩
          · rw [mj_add hpi hi, g3]
          · intro j hj hjx
            have : j ≠ i := by omega
            simp [this, g4 j (by omega) hjx]
          · intro j hj hp
            have eTx3 : rT (S3 k) x = rT (S1 k) x := rT_e (F _ (by omega) (by omega))
            by_cases cj : j = i
            · subst cj
              refine ⟨?_, k3.hp hj hx f5⟩
              have : rT (S3 k) j = rT (S2 k) j := rT_e (F3 _ (by omega))
              omega
            · obtain ⟨u1, u2⟩ := g5 j hj (by simpa [cj] using hp)
              have eTj3 : rT (S3 k) j = rT (S1 k) j := rT_e (F _ (by omega) (by omega))
              refine ⟨by omega, ?_⟩
              have l12 := H1.l12
              have L : ∀ w, w < n → w ≠ i → rL (S3 k) w = rL (S1 k) w ∧ ∀ l, l < rL (S1 k) w → rE (S3 k) w l = rE (S1 k) w l := fun w hw hwi => ⟨rL_e (F _ (by omega) (by omega)), fun l hl => by have := l12 w hw; exact rE_e (F _ (by omega) (by omega)) (F _ (by omega) (by omega))⟩
              unfold rf_Hp at u2 ⊢
              rw [(L j hj cj).1, (L x hx hxi).1]
              refine ⟨u2.1, fun l hl => ?_⟩
              rw [(L x hx hxi).2 l hl, (L j hj cj).2 l (by have := u2.1; omega)]
              exact u2.2 l hl
        · rw [if_neg c1]
          unfold g_X2_takeOver f_X2_takeOver_0
          rw [bd1_s]
          exact Gv.ret ⟨0, by omega, rfl, P.tr (take_P H1 hx hti (by omega) (H1.ne0 hx (fun z => by have := role2' r1; rw [z] at this; exact absurd this (by decide))))⟩
  obtain ⟨⟨p1, p2⟩, h1, g, hg, h3, h4⟩ := R
  simp only at h3 h4
  subst h3
  exact ⟨g, p2, hg, h1, h4⟩
theorem lead_o (H : RO a n (S k)) (hi : i < n) : g_X2_isLeading S k i = some (if S k (33 + 34 * i) = 2 then 1 else 0) := by
  unfold g_X2_isLeading f_X2_isLeading_0 f_X2_isLeading_19 f_X2_isLeading_20
  rcases H.abd i hi with ⟨h1, h2⟩ | h1
  · rw [if_pos h1, h2, if_neg (by decide)]; rfl
  · rw [if_neg (by rw [h1]; decide)]
    by_cases c : S k (33 + 34 * i) = 2
    · rw [if_pos c, if_pos c]; rfl
    · rw [if_neg c, if_neg c]; rfl
theorem beat_o {P : Int32 × Mem → Prop} (H : RO a n (S k)) (hB : a + 5 < 9000000) (f : Mem × Int32 → Option (Int32 × Mem)) (x1 x2 x3 : Int32) (fin : ∀ S', PM k (a + 5) n S S' → Gv P (f (S', x3 + 1))) : Gv P (f_X4_passBeats_15 f S k x1 x2 x3 0) := by
  have h5 := H.le5
  unfold f_X4_passBeats_15
  refine Gv_lp (fun d s => ∃ i S1, i + d = n ∧ s = (S1, nI i) ∧ PM k (a + i) n S S1) ?_ n 2000 _ (by omega) ⟨0, S, by omega, rfl, PM.rf H⟩
  rintro d s g ⟨i, S1, hd, rfl, Q⟩ K
  have H1 := Q.1
  unfold f_X4_passBeats_15_b f_X4_passBeats_67
  simp only [H1.cnt, ile (show n < 2 ^ 31 by omega) (show i < 2 ^ 31 by omega)]
  by_cases c : n ≤ i
  · rw [if_pos c]
    exact fin _ ((Q.tr (PM.head H1 (Or.inl rfl) _)).inc (by omega) hB)
  · have hi : i < n := by omega
    have KK : ∀ S2, PM k (a + i + 1) n S1 S2 → Gv P (g (S2, nI i + 1)) := fun S2 Q2 => K (d - 1) _ (by omega) ⟨i + 1, S2, by omega, by rw [nI_p1], Q.tr Q2⟩
    rw [if_neg c, ck_in (by omega) (by decide), ck_in (by omega) (by decide), nI_clamp (by omega), lead_o H1 hi, bd1_s]
    by_cases c1 : S1 k (33 + 34 * i) = 2
    · rw [if_pos c1, if_neg (by decide)]
      obtain ⟨g', S2, -, s1, s2⟩ := send_o H1 hi (role2 c1)
      rw [s1, bd2_s]
      exact KK S2 (s2.inc (by omega) (by omega))
    · rw [if_neg c1, if_pos rfl]
      unfold g_X2_waitBeat f_X2_waitBeat_0 f_X2_waitBeat_17 f_X2_waitBeat_39 f_X2_waitBeat_40
      rcases H1.abd i hi with ⟨h1, h2⟩ | h1
      · rw [if_pos h1, if_pos h1, ck_0, bd2_s, if_pos rfl]
        exact KK S1 ((PM.rf H1).inc (by omega) (by omega))
      · have Q2 : PM k (a + i) n S1 (up S1 k (33 + 34 * i + 3) (S1 k (33 + 34 * i + 3) + 1)) := PM.soft H1 hi (Fr.rf.up _ _) (fun c h8 c0 c3 => up_ne _ _ (by omega)) (fun c hc => up_ne _ _ (by omega)) (Or.inr (up_ne _ _ (by omega)))
        rw [if_neg (by rw [h1]; decide)]
        revert Q2
        generalize up S1 k (33 + 34 * i + 3) (S1 k (33 + 34 * i + 3) + 1) = S2
        intro Q2
        have h7 : S2 k (33 + 34 * i + 7) = 1 := (Q2.2.2.1 i).trans h1
        rw [if_neg (by rw [h7]; decide)]
        by_cases c2 : S2 k (33 + 34 * i + 3) < S2 k (33 + 34 * i + 2)
        · rw [if_pos c2, ck_0, bd2_s, if_pos rfl]
          exact KK S2 (Q2.inc (by omega) (by omega))
        · rw [if_neg c2, ck_1, bd2_s, if_neg (by decide)]
          obtain ⟨g', S3, -, s1, s2⟩ := gather_o Q2.1 hi h7 (by omega)
          rw [s1, bd2_s]
          exact KK S3 (Q2.tr s2)
theorem beats_o (H : RO a n (S k)) (hM : M ≤ 20) (hB : a + 100 < 9000000) : ∃ r S', r < 9000000 ∧ g_X4_passBeats S k (nI M) = some (nI r, S') ∧ PM k (a + 5 * M) n S S' := by
  have h5 := H.le5
  obtain ⟨b, hb, e, -⟩ := H.ask
  have R : Gv (fun q => ∃ r, r < 9000000 ∧ q.1 = nI r ∧ PM k (a + 5 * M) n S q.2) (g_X4_passBeats S k (nI M)) := by
    unfold g_X4_passBeats f_X4_passBeats_0 f_X4_passBeats_7
    refine Gv_lp (fun d s => ∃ p S', p + d = M ∧ s = (S', nI p) ∧ PM k (a + 5 * p) n S S') ?_ M 2000 _ (by omega) ⟨0, S, by omega, rfl, PM.rf H⟩
    rintro d s f ⟨p, S1, hd, rfl, Q⟩ K
    have H1 := Q.1
    unfold f_X4_passBeats_7_b
    simp only [ile (show M < 2 ^ 31 by omega) (show p < 2 ^ 31 by omega)]
    by_cases c : M ≤ p
    · rw [if_pos c]
      have : p = M := by omega
      subst this
      obtain ⟨b', hb', e', -⟩ := H1.ask
      have hle := Q.2.2.2.2
      rw [e, e', nI_toInt (by omega), nI_toInt (by omega)] at hle
      rw [e, e', pk_sub (by omega)]
      exact Gv.ret ⟨b' - b, by omega, rfl, Q⟩
    · rw [if_neg c]
      refine beat_o H1 (by omega) f _ _ _ (fun S2 Q2 => ?_)
      exact K (d - 1) _ (by omega) ⟨p + 1, S2, by omega, by rw [nI_p1], Q.tr Q2⟩
  obtain ⟨⟨p1, p2⟩, h1, r, hr, h3, h4⟩ := R
  simp only at h3 h4
  subst h3
  exact ⟨r, p2, hr, h1, h4⟩
end P27
