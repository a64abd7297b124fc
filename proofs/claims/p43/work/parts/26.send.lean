/-! ===== the pure part: following a leader ===== -/
section P26
variable {a a' n i j x k : Nat} {V V' : Nat → Int32} {S S' : Mem}
theorem RO.ne0 (H : RO a n V) (hi : i < n) (h : V (33 + 34 * i) ≠ 0) : V 2 ≠ 0 := by
  obtain ⟨b, hb, e, f⟩ := H.ask
  intro z
  have hB := H.aB
  have : b = 0 := (z_eqI (by omega)).mp (e.symm.trans z)
  exact h (f this i hi).1
theorem PM.inc (h : PM k a n S S') (ha : a ≤ a') (hB : a' < 9000000) : PM k a' n S S' := ⟨h.1.up ha hB, h.2⟩
theorem PM.head (H : RO a n (S k)) {c : Nat} (hc : c = 0 ∨ 4 ≤ c ∧ c < 8) (v : Int32) : PM k a n S (up S k c v) := by
  refine ⟨H.head (fun c' h8 => by simp (disch := omega) only [up_ne]) (fun f hf hf' => by simp (disch := omega) only [up_ne]), Fr.rf.up _ _, fun j => by simp (disch := omega) only [up_ne], fun j hj => ⟨Int.le_of_eq (rT_e (by simp (disch := omega) only [up_ne])).symm, Nat.le_of_eq (rC_e (by simp (disch := omega) only [up_ne])).symm⟩, ?_⟩
  simp (disch := omega) only [up_ne]
  exact Int.le_refl _
/-- a field changed that the theory doesn't speak of, or the role taken away -/
theorem PM.soft (H : RO a n (S k)) (hi : i < n) (hF : Fr k S S') (hV : ∀ c, 8 ≤ c → c ≠ 33 + 34 * i → c ≠ 33 + 34 * i + 3 → S' k c = S k c) (hh : ∀ c, c < 8 → S' k c = S k c) (hr : S' k (33 + 34 * i) = 0 ∨ S' k (33 + 34 * i) = S k (33 + 34 * i)) : PM k a n S S' := by
  have hB := H.aB
  obtain ⟨b, hb, e, f⟩ := H.ask
  have e1 : S' k (33 + 34 * i + 1) = S k (33 + 34 * i + 1) := hV _ (by omega) (by omega) (by omega)
  have e4 : S' k (33 + 34 * i + 4) = S k (33 + 34 * i + 4) := hV _ (by omega) (by omega) (by omega)
  have eT := rT_e e1
  have eV := rV_e e4
  have eR : rR (S' k) i = 0 ∨ rR (S' k) i = rR (S k) i := by
    rcases hr with h | h
    · left; unfold rR; rw [h]; rfl
    · right; exact rR_e h
  refine PM.put H hi (Nat.le_refl _) hB hF (fun c h8 c0 c1 c2 c3 c4 c8 c9 => hV c h8 c0 c3) ((hh 1 (by decide)).trans H.cnt) ⟨b, hb, (hh 2 (by decide)).trans e, fun z => ?_, ?_⟩ ?_ ?_ ?_ ?_ ?_ ?_ ?_ ?_ ?_ ?_ ?_
  · obtain ⟨f0, f1, f4, f5, f6⟩ := f z i hi
    refine ⟨by rw [e, z]; rfl, ?_, e1.trans f1, e4.trans f4, (hV _ (by omega) (by omega) (by omega)).trans f5, (hV _ (by omega) (by omega) (by omega)).trans f6⟩
    rcases hr with h | h
    · exact h
    · exact h.trans f0
  · rw [e, nI_toInt (by omega)]; exact Int.le_refl _
  · rcases hr with h | h
    · exact Or.inl h
    · rw [h]; exact H.role i hi
  · rw [e1]; exact H.term i hi
  · intro z
    rcases hr with h | h
    · exact h
    · rw [h]
      exact ((H.abd i hi).resolve_right (fun z2 => by rw [z2] at z; exact absurd z (by decide))).2
  · rw [smf_e (V := S k) (fun j _ => hV _ (by omega) (by omega) (by omega)), hh 2 (by decide)]; exact H.s8
  · rw [smf_e (V := S k) (fun j _ => hV _ (by omega) (by omega) (by omega)), hh 3 (by decide)]; exact H.s9
  · rw [eT]; exact Int.le_refl _
  · exact fun _ => Or.inl eV
  · intro z
    rw [eV]
    rcases eR with h | h
    · omega
    · rw [h] at z; exact H.iv.1 i hi z
  · intro w hw hwi z
    rw [eT]
    rw [eV] at z
    exact H.iv.2.1 i hi w hw z
  · intro z
    rcases eR with h | h
    · omega
    · rw [h] at z; exact ⟨z, eT⟩
  · intro z _
    rcases eR with h | h
    · omega
    · rw [h] at z; exact z
theorem know_o (H : RO a n (S k)) (hi : i < n) (hx : x < n) (ht : rT (S k) x ≤ rT (S k) i) (hp : rf_Hp (rL (S k)) (rE (S k)) (rE (S k) x) (rL (S k) x) i) : PM k a n S (up S k (33 + 34 * i + 6) (mx (S k (33 + 34 * i + 6)) (mn (S k (33 + 34 * x + 6)) (S k (33 + 34 * i + 5))))) := by
  have hB := H.aB
  have c1 := H.cle hx
  have c2 := H.cle hi
  have l1 := H.l12 i hi
  have l2 := H.l12 x hx
  have h1 := hp.1
  rw [H.agr i hi, H.agr x hx, (H.many i hi).2, mnI (by omega) (by omega), mxI (by omega) (by omega), Nat.min_eq_left (by omega)]
  obtain ⟨b, hb, e, f⟩ := H.ask
  have eC : rC (up S k (33 + 34 * i + 6) (nI (max (rC (S k) i) (rC (S k) x))) k) i = max (rC (S k) i) (rC (S k) x) := by
    show (up S k (33 + 34 * i + 6) (nI (max (rC (S k) i) (rC (S k) x))) k (33 + 34 * i + 6)).toNatClampNeg = _
    rw [up_same]
    exact nI_clamp (by omega)
  refine ⟨?_, Fr.rf.up _ _, fun j => by simp (disch := omega) only [up_ne], fun j hj => ?_, ?_⟩
  · refine H.put hi (Nat.le_refl _) hB (fun c h8 c0 c1 c2 c3 c4 c6 c7 c8 c9 => by simp (disch := omega) only [up_ne]) ?_ ⟨b, hb, ?_, fun z => ?_⟩ ?_ ?_ ?_ ?_ ?_ ?_ ?_
    · simp (disch := omega) only [up_ne]; exact H.cnt
    · simp (disch := omega) only [up_ne]; exact e
    · obtain ⟨f0, f1, f4, f5, f6⟩ := f z i hi
      have z1 : rC (S k) i = 0 := by unfold rC; rw [f6]; rfl
      have z2 : rC (S k) x = 0 := by unfold rC; rw [(f z x hx).2.2.2.2]; rfl
      refine ⟨by rw [e, z]; rfl, ?_, ?_, ?_, ?_, ?_⟩
      · simp (disch := omega) only [up_ne]; exact f0
      · simp (disch := omega) only [up_ne]; exact f1
      · simp (disch := omega) only [up_ne]; exact f4
      · simp (disch := omega) only [up_ne]; exact f5
      · simp (disch := omega) only [up_same]; rw [z1, z2]; rfl
    · simp (disch := omega) only [up_ne]; exact H.role i hi
    · simp (disch := omega) only [up_ne]; exact H.term i hi
    · rw [eC]; simp (disch := omega) only [up_same]
    · simp (disch := omega) only [up_ne]; exact H.abd i hi
    · rw [smf_e (V := S k) (fun j _ => by simp (disch := omega) only [up_ne])]
      simp (disch := omega) only [up_ne]; exact H.s8
    · rw [smf_e (V := S k) (fun j _ => by simp (disch := omega) only [up_ne])]
      simp (disch := omega) only [up_ne]; exact H.s9
    · refine H.iv.known H.l12 hi hx ht hp (fun c h c6 => by simp (disch := omega) only [up_ne]) ?_
      rw [eC]
      omega
  · refine ⟨Int.le_of_eq (rT_e (by simp (disch := omega) only [up_ne])).symm, ?_⟩
    by_cases c : j = i
    · subst c
      rw [eC]
      omega
    · exact Nat.le_of_eq (rC_e (by simp (disch := omega) only [up_ne])).symm
  · simp (disch := omega) only [up_ne]
    exact Int.le_refl _
theorem follow19 (H : RO a n (S k)) (hi : i < n) (hx : x < n) (hix : i ≠ x) (hrx : rR (S k) x = 2) (hri : rR (S k) i ≠ 2) (ht : rT (S k) i = rT (S k) x) : ∃ r S', f_X2_followLeader_19 S k i k x = some (r, S') ∧ PM k a n S S' ∧ (∀ c, (c < 33 + 34 * i ∨ 33 + 34 * i + 34 ≤ c) → S' k c = S k c) ∧ rT (S' k) i = rT (S k) i ∧ rf_Hp (rL (S' k)) (rE (S' k)) (rE (S' k) x) (rL (S' k) x) i := by
  have h5 := H.le5
  unfold f_X2_followLeader_19
  have P1 : PM k a n S (up (up S k (33 + 34 * i) 0) k (33 + 34 * i + 3) 0) := PM.soft H hi ((Fr.rf.up _ _).up _ _) (fun c h8 c0 c3 => by simp (disch := omega) only [up_ne]) (fun c hc => by simp (disch := omega) only [up_ne]) (Or.inl (by simp (disch := omega) only [up_ne, up_same]))
  have eR0 : rR (up (up S k (33 + 34 * i) 0) k (33 + 34 * i + 3) 0 k) i = 0 := by
    unfold rR
    simp (disch := omega) only [up_ne, up_same]
    rfl
  have eRx : rR (up (up S k (33 + 34 * i) 0) k (33 + 34 * i + 3) 0 k) x = 2 := (rR_e (by simp (disch := omega) only [up_ne])).trans hrx
  have eTi : rT (up (up S k (33 + 34 * i) 0) k (33 + 34 * i + 3) 0 k) i = rT (S k) i := rT_e (by simp (disch := omega) only [up_ne])
  have eTx : rT (up (up S k (33 + 34 * i) 0) k (33 + 34 * i + 3) 0 k) x = rT (S k) x := rT_e (by simp (disch := omega) only [up_ne])
  have fr1 : ∀ c, (c < 33 + 34 * i ∨ 33 + 34 * i + 34 ≤ c) → up (up S k (33 + 34 * i) 0) k (33 + 34 * i + 3) 0 k c = S k c := fun c hc => by simp (disch := omega) only [up_ne]
  have hp2 : S k 2 ≠ 0 := H.ne0 hx (fun z => by have := role2' hrx; rw [z] at this; exact absurd this (by decide))
  have e2 : up (up S k (33 + 34 * i) 0) k (33 + 34 * i + 3) 0 k 2 = S k 2 := by simp (disch := omega) only [up_ne]
  revert P1 eR0 eRx eTi eTx fr1 e2
  generalize up (up S k (33 + 34 * i) 0) k (33 + 34 * i + 3) 0 = S1
  intro P1 eR0 eRx eTi eTx fr1 e2
  have H1 := P1.1
  obtain ⟨q, q1, q2, q3, q4, q5⟩ := same_o (S := S1) (k := k) (i := i) (j := x) (H1.many i hi) (H1.many x hx)
  have li := H1.l12 i hi
  have lx := H1.l12 x hx
  rw [q5, bd1_s, (H1.many x hx).2, ile (by omega) (by omega)]
  unfold f_X2_followLeader_58
  have fin : ∀ S4, PM k a n S1 S4 → (∀ c, (c < 33 + 34 * i ∨ 33 + 34 * i + 34 ≤ c) → S4 k c = S1 k c) → rT (S4 k) i = rT (S1 k) i → rf_Hp (rL (S4 k)) (rE (S4 k)) (rE (S4 k) x) (rL (S4 k) x) i → PM k a n S (up S4 k (33 + 34 * i + 6) (mx (S4 k (33 + 34 * i + 6)) (mn (S4 k (33 + 34 * x + 6)) (S4 k (33 + 34 * i + 5))))) ∧ (∀ c, (c < 33 + 34 * i ∨ 33 + 34 * i + 34 ≤ c) → up S4 k (33 + 34 * i + 6) (mx (S4 k (33 + 34 * i + 6)) (mn (S4 k (33 + 34 * x + 6)) (S4 k (33 + 34 * i + 5)))) k c = S k c) ∧ rT (up S4 k (33 + 34 * i + 6) (mx (S4 k (33 + 34 * i + 6)) (mn (S4 k (33 + 34 * x + 6)) (S4 k (33 + 34 * i + 5)))) k) i = rT (S k) i ∧ rf_Hp (rL (up S4 k (33 + 34 * i + 6) (mx (S4 k (33 + 34 * i + 6)) (mn (S4 k (33 + 34 * x + 6)) (S4 k (33 + 34 * i + 5)))) k)) (rE (up S4 k (33 + 34 * i + 6) (mx (S4 k (33 + 34 * i + 6)) (mn (S4 k (33 + 34 * x + 6)) (S4 k (33 + 34 * i + 5)))) k)) (rE (up S4 k (33 + 34 * i + 6) (mx (S4 k (33 + 34 * i + 6)) (mn (S4 k (33 + 34 * x + 6)) (S4 k (33 + 34 * i + 5)))) k) x) (rL (up S4 k (33 + 34 * i + 6) (mx (S4 k (33 + 34 * i + 6)) (mn (S4 k (33 + 34 * x + 6)) (S4 k (33 + 34 * i + 5)))) k) x) i := by
    intro S4 P4 fr4 eT4 hp4
    have eTx4 : rT (S4 k) x = rT (S1 k) x := rT_e (fr4 _ (by omega))
    refine ⟨(P1.tr P4).tr (know_o P4.1 hi hx (by omega) hp4), fun c hc => ?_, ?_, ?_⟩
    · rw [up_ne _ _ (by omega)]
      exact (fr4 c hc).trans (fr1 c hc)
    · rw [rT_e (V' := up S4 k (33 + 34 * i + 6) (mx (S4 k (33 + 34 * i + 6)) (mn (S4 k (33 + 34 * x + 6)) (S4 k (33 + 34 * i + 5)))) k) (V := S4 k) (j := i) (up_ne _ _ (by omega))]
      omega
    · exact (KL.of (V := S4 k) P4.1.l12 (fun j f hj hf hf' => up_ne _ _ (by omega))).hp hi hx hp4
  by_cases c : rL (S1 k) x ≤ q
  · rw [if_pos c]
    have hp1 : rf_Hp (rL (S1 k)) (rE (S1 k)) (rE (S1 k) x) (rL (S1 k) x) i := ⟨by omega, fun l hl => q3 l (by omega)⟩
    exact ⟨_, _, rfl, fin S1 (PM.rf H1) (fun _ _ => rfl) rfl hp1⟩
  · rw [if_neg c]
    obtain ⟨S4, s1, sF, s5, sA, sB, sC⟩ := copyL (S := S1) (k := k) (c' := k) (i := i) (x := x) (m := rL (S1 k) x) (q := q) lx (by omega) (H1.many x hx).2 (fun z => hix z.2) (by omega) (by omega) (fun l _ hl => (H1.lin x hx l hl).2)
    rw [s1, bd1_s]
    have he : ∀ l, l < rL (S1 k) x → S4 k (33 + 34 * i + 10 + l) = S1 k (33 + 34 * x + 10 + l) ∧ S4 k (33 + 34 * i + 22 + l) = S1 k (33 + 34 * x + 22 + l) := by
      intro l hl
      by_cases cl : l < q
      · obtain ⟨u1, u2⟩ := rE_q (q3 l cl)
        obtain ⟨w1, w2⟩ := sB l cl
        exact ⟨w1.trans u1, w2.trans u2⟩
      · exact sC l (by omega) hl
    obtain ⟨I4, c4, p4⟩ := H1.iv.copy (V' := S4 k) H1.l12 hi hx eRx (by omega) (by omega) (fun c hc c5 h => sA c c5 h) (s5.trans (H1.many x hx).2.symm) he
    have H4 : RO a n (S4 k) := H1.lines hi (fun c h8 c5 h => sA c c5 h) (fun f hf => sA f (by omega) (by omega)) lx s5 (fun l hl => by rw [(he l hl).1, (he l hl).2]; exact H1.lin x hx l hl) (fun z => hp2 (e2.symm.trans z)) I4
    have P4 : PM k a n S1 S4 := ⟨H4, sF, fun j => sA _ (by omega) (by omega), fun j hj => ⟨Int.le_of_eq (rT_e (sA _ (by omega) (by omega))).symm, Nat.le_of_eq (rC_e (sA _ (by omega) (by omega))).symm⟩, Int.le_of_eq (congrArg Int32.toInt (sA 2 (by omega) (by omega))).symm⟩
    have eLi : rL (S4 k) i = rL (S1 k) x := rL_e (V := S1 k) (s5.trans (H1.many x hx).2.symm)
    have eLx : rL (S4 k) x = rL (S1 k) x := rL_e (sA _ (by omega) (by omega))
    have hp4 : rf_Hp (rL (S4 k)) (rE (S4 k)) (rE (S4 k) x) (rL (S4 k) x) i := by
      refine ⟨by omega, fun l hl => ?_⟩
      rw [eLx] at hl
      rw [rE_e (V := S1 k) (j' := x) (he l hl).1 (he l hl).2]
      exact (rE_e (sA _ (by omega) (by omega)) (sA _ (by omega) (by omega))).symm
    exact ⟨_, _, rfl, fin S4 P4 (fun c hc => sA c (by omega) (by omega)) (rT_e (sA _ (by omega) (by omega))) hp4⟩
end P26
