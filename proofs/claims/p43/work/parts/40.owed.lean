/-! ===== the pure part: the law's end; what is owed ===== -/
section P40
variable {a n len i j d q w b L k : Nat} {S S' T : Mem} {xs : Nat → Int32} {r x y : Int32} {V : Nat → Int32}
theorem grant_o (H : RO a n (S k)) (hi : i < n) (hj : j < n) : ∃ b : Int32, (b = 0 ∨ b = 1) ∧ g_X4_wouldGrantVote S k (nI i) (nI j) = some b := by
  have h5 := H.le5
  obtain ⟨p, hp, p1, -⟩ := longer_o H hi hj
  unfold g_X4_wouldGrantVote f_X4_wouldGrantVote_0 f_X4_wouldGrantVote_42 f_X4_wouldGrantVote_69 f_X4_wouldGrantVote_74
  rw [ck_in (by omega) (by decide), ck_in (by omega) (by decide), nI_clamp (by omega), nI_clamp (by omega), p1, bd1_s]
  repeat' split
  all_goals first | exact ⟨0, Or.inl rfl, rfl⟩ | exact ⟨1, Or.inr rfl, rfl⟩
theorem toGet_o (H : RO a n (S 0)) (hx : j < n) : ∃ m : Nat, m ≤ 6 ∧ g_X4_votesToGet S 0 (nI j) = some (nI m) := by
  have h5 := H.le5
  have R : Gv (fun y => ∃ m : Nat, m ≤ 6 ∧ y = nI m) (g_X4_votesToGet S 0 (nI j)) := by
    unfold g_X4_votesToGet f_X4_votesToGet_0 f_X4_votesToGet_17
    rw [ck_in (by omega) (by decide)]
    generalize S 0 (33 + 34 * (nI j).toNatClampNeg + 1) + 1 = nt
    refine Gv_lp (fun d s => ∃ i m : Nat, i + d = n ∧ s = (nI m, nI i) ∧ m ≤ i + 1) ?_ n 2000 _ (by omega) ⟨0, 1, by omega, rfl, by omega⟩
    rintro d s f ⟨i, m, hd, rfl, hm⟩ K
    unfold f_X4_votesToGet_17_b f_X4_votesToGet_65
    simp only [H.cnt, ile (show n < 2 ^ 31 by omega) (show i < 2 ^ 31 by omega)]
    by_cases c : n ≤ i
    · rw [if_pos c]; exact Gv.ret ⟨m, by omega, rfl⟩
    · have hi : i < n := by omega
      have KK : ∀ m', m' ≤ i + 2 → Gv (fun y => ∃ m : Nat, m ≤ 6 ∧ y = nI m) (f (nI m', nI i + 1)) := fun m' hm' => K (d - 1) _ (by omega) ⟨i + 1, m', by omega, by rw [nI_p1], by omega⟩
      obtain ⟨g, hg, e⟩ := grant_o H hi hx
      rw [if_neg c, reach_o H hx hi, bd1_s, ck_in (by omega) (by decide), e, bd1_s, nI_p1 m]
      by_cases c1 : rch (S 0) j i = 0
      · rw [if_pos c1]; exact KK m (by omega)
      · rw [if_neg c1]
        split
        · split
          · exact KK m (by omega)
          · exact KK (m + 1) (by omega)
        · exact Gv.ret ⟨0, by omega, rfl⟩
  obtain ⟨y, h, m, hm, rfl⟩ := R
  exact ⟨m, hm, h⟩
theorem code_o (H : RO a n (S 0)) (x : Int32) : (∃ i, i < n ∧ x = nI i ∧ S 0 (33 + 34 * i + 7) = 1 ∧ g_X8_codeOfAsking S x = some 0) ∨ (g_X8_codeOfAsking S x = some (-1)) ∨ g_X8_codeOfAsking S x = some (-4) := by
  have h5 := H.le5
  unfold g_X8_codeOfAsking f_X8_codeOfAsking_0 f_X8_codeOfAsking_42 f_X8_codeOfAsking_44
  rcases has_o H.cnt h5 x with ⟨i, hi, rfl, h1⟩ | ⟨-, h1⟩
  · rw [h1, bd1_s, if_neg (by decide), ck_in (by omega) (by decide), nI_clamp (by omega)]
    rcases H.abd i hi with ⟨hA, -⟩ | hA
    · rw [if_pos hA]; exact Or.inr (Or.inr rfl)
    · rw [if_neg (by rw [hA]; decide)]
      by_cases c : S 0 (33 + 34 * i) = 2
      · rw [if_pos c]; exact Or.inr (Or.inr rfl)
      · rw [if_neg c]; exact Or.inl ⟨i, hi, rfl, hA, rfl⟩
  · rw [h1, bd1_s, if_pos rfl]; exact Or.inr (Or.inl rfl)
theorem could_o (H : RO a n (S 0)) (x : Int32) : ∃ c, g_X8_couldLead S x = some c ∧ Sm c := by
  unfold g_X8_couldLead f_X8_couldLead_0 f_X8_couldLead_22
  rcases code_o H x with ⟨i, hi, rfl, -, e⟩ | e | e
  · obtain ⟨m, hm, e2⟩ := toGet_o H hi
    rw [e, bd1_s, if_pos (by decide), e2, bd1_s]
    exact ⟨_, rfl, Sm.nat (by omega)⟩
  · rw [e, bd1_s, if_neg (by decide)]
    exact ⟨_, rfl, by unfold Sm; decide⟩
  · rw [e, bd1_s, if_neg (by decide)]
    exact ⟨_, rfl, by unfold Sm; decide⟩
theorem again_o (H : RO a n (S 0)) (hB : a + 1 < 9000000) (x : Int32) : ∃ c S', g_X8_couldLeadAgain S x = some (c, S') ∧ Sm c ∧ SR n (S 0) (S' 0) ∧ ∀ b, b ≠ 0 → b ≠ 1 → S' b = S b := by
  unfold g_X8_couldLeadAgain f_X8_couldLeadAgain_0
  rcases code_o H x with ⟨i, hi, rfl, hA, e⟩ | e | e
  · obtain ⟨S1, c1, c2, c3⟩ := copy_o (S := S) (k := 1) (k' := 0) H (by decide)
    have e0 : S1 0 = S 0 := c2 0 (by decide)
    have H1 : RO a n (S1 0) := by rw [e0]; exact H
    obtain ⟨g, S2, hg, g1, P⟩ := gather_o H1 hi (by rw [e0]; exact hA) hB
    have b1 : S2 1 = S1 1 := P.2.1 1 (by decide)
    have H2 : RO a n (S2 1) := by rw [b1]; exact H.same c3
    obtain ⟨S3, o1, o2, o3⟩ := copy_o (S := S2) (k := 0) (k' := 1) H2 (by decide)
    rw [b1] at o3
    rw [e, bd1_s, if_pos (by decide), c1, bd1_s, g1, bd2_s, o1, bd1_s]
    exact ⟨_, _, rfl, Sm.nat (by omega), SR.tr c3 o3, fun b h1 h2 => (o2 b h1).trans ((P.2.1 b h1).trans (c2 b h2))⟩
  · rw [e, bd1_s, if_neg (by decide)]
    exact ⟨_, _, rfl, by unfold Sm; decide, SR.rf, fun _ _ _ => rfl⟩
  · rw [e, bd1_s, if_neg (by decide)]
    exact ⟨_, _, rfl, by unfold Sm; decide, SR.rf, fun _ _ _ => rfl⟩
theorem quiet_o (H : RO a n (S 0)) (hB : a + 200 < 9000000) : ∃ c S', g_X8_quietBeats S = some (c, S') ∧ Sm c ∧ Fr 1 S S' := by
  obtain ⟨S1, c1, c2, c3⟩ := copy_o (S := S) (k := 1) (k' := 0) H (by decide)
  have R : Gv (fun p : Int32 × Mem => Sm p.1 ∧ Fr 1 S p.2) (g_X8_quietBeats S) := by
    unfold g_X8_quietBeats f_X8_quietBeats_0 f_X8_quietBeats_13
    rw [c1, bd1_s]
    refine Gv_lp (fun d s => ∃ i S2, i + d = 10 ∧ 1 ≤ i ∧ s = (S2, nI i) ∧ RO (a + 5 * i) n (S2 1) ∧ Fr 1 S S2) ?_ 9 2000 _ (by omega) ⟨1, S1, by omega, by omega, rfl, (H.same c3).up (by omega) (by omega), c2⟩
    rintro d s f ⟨i, S2, hd, hi, rfl, H2, F2⟩ K
    unfold f_X8_quietBeats_13_b
    dsimp only
    rw [show (9 : Int32) = nI 9 from rfl, nlt_le (by omega) (by omega)]
    by_cases c : i ≤ 9
    · obtain ⟨r, S3, hr, e, P⟩ := beats_o (S := S2) (k := 1) (M := 1) H2 (by omega) (by omega)
      have e' : g_X4_passBeats S2 1 1 = some (nI r, S3) := e
      rw [if_pos c, e', bd2_s]
      by_cases c2 : nI r ≤ 0
      · rw [if_pos c2, nI_p1]
        exact K (d - 1) _ (by omega) ⟨i + 1, S3, by omega, by omega, rfl, P.1.up (by omega) (by omega), F2.tr P.2.1⟩
      · rw [if_neg c2]
        exact Gv.ret ⟨Sm.nat (by omega), F2.tr P.2.1⟩
    · rw [if_neg c]
      exact Gv.ret ⟨(show Sm (-4) by unfold Sm; decide), F2⟩
  obtain ⟨⟨c, S'⟩, e, h1, h2⟩ := R
  exact ⟨c, S', e, h1, h2⟩
theorem confl_o (H : RO a n (S 0)) : ∃ c, g_X8_conflicts S = some c ∧ Sm c := by
  have h5 := H.le5
  have R : Gv (fun y => ∃ m : Nat, m ≤ 100 ∧ y = nI m) (g_X8_conflicts S) := by
    unfold g_X8_conflicts f_X8_conflicts_0 f_X8_conflicts_4
    refine Gv_lp (fun d s => ∃ i m : Nat, i + d = n ∧ s = (nI m, nI i) ∧ m ≤ 10 * i) ?_ n 2000 _ (by omega) ⟨0, 0, by omega, rfl, by omega⟩
    rintro d s f ⟨i, m, hd, rfl, hm⟩ K
    unfold f_X8_conflicts_4_b f_X8_conflicts_17
    simp only [H.cnt, ile (show n < 2 ^ 31 by omega) (show i < 2 ^ 31 by omega)]
    by_cases c : n ≤ i
    · rw [if_pos c]; exact Gv.ret ⟨m, by omega, rfl⟩
    · rw [if_neg c]
      refine Gv_lp (fun d s => ∃ j m' : Nat, j + d = i ∧ s = (nI m', nI j) ∧ m' ≤ m + j) ?_ i 2000 _ (by omega) ⟨0, m, by omega, rfl, by omega⟩
      rintro d' s g ⟨j, m', hd', rfl, hm'⟩ K2
      unfold f_X8_conflicts_17_b f_X8_conflicts_37
      dsimp only
      rw [ile (by omega) (by omega)]
      by_cases c2 : i ≤ j
      · rw [if_pos c2, nI_p1]
        exact K (d - 1) _ (by omega) ⟨i + 1, m', by omega, rfl, by omega⟩
      · have hi : i < n := by omega
        have hj : j < n := by omega
        obtain ⟨q, q1, q2, q3, q4, q5⟩ := same_o (S := S) (k := 0) (i := i) (j := j) (H.many i hi) (H.many j hj)
        have KK : ∀ w, w ≤ m + j + 1 → Gv (fun y => ∃ m : Nat, m ≤ 100 ∧ y = nI m) (g (nI w, nI j + 1)) := fun w hw => K2 (d' - 1) _ (by omega) ⟨j + 1, w, by omega, by rw [nI_p1], by omega⟩
        have E : ∃ b : Int32, g_X4_isConflict S 0 (nI i) (nI j) = some b := by
          unfold g_X4_isConflict f_X4_isConflict_0 f_X4_isConflict_46
          rw [ck_in (by omega) (by decide), ck_in (by omega) (by decide), ck_in (by omega) (by decide), ck_in (by omega) (by decide), nI_clamp (by omega), nI_clamp (by omega), q5, bd1_s]
          split
          · exact ⟨0, rfl⟩
          · exact ⟨1, rfl⟩
        obtain ⟨b, e⟩ := E
        rw [if_neg c2, e, bd1_s, nI_p1 m']
        split
        · exact KK m' (by omega)
        · exact KK (m' + 1) (by omega)
  obtain ⟨y, h, m, hm, rfl⟩ := R
  exact ⟨_, h, Sm.nat (by omega)⟩
theorem add_i {x y : Int32} (h1 : -100000000 ≤ x.toInt + y.toInt) (h2 : x.toInt + y.toInt ≤ 100000000) : (x + y).toInt = x.toInt + y.toInt := by
  rw [Int32.toInt_add]
  exact Int.bmod_eq_of_le (by omega) (by omega)
theorem sum_o {q c0 c1 cf b w a : Int32} (h1 : Sm q) (h2 : Sm c0) (h3 : Sm c1) (h4 : Sm cf) (h5 : Sm b) (h6 : Sm w) (h7 : Sm a) : ¬ (q + c0 + c1 + cf + (b + w + a)) ≤ -999 := by
  unfold Sm at *
  have e1 : (q + c0).toInt = q.toInt + c0.toInt := add_i (by omega) (by omega)
  have e2 : (q + c0 + c1).toInt = (q + c0).toInt + c1.toInt := add_i (by omega) (by omega)
  have e3 : (q + c0 + c1 + cf).toInt = (q + c0 + c1).toInt + cf.toInt := add_i (by omega) (by omega)
  have e4 : (b + w).toInt = b.toInt + w.toInt := add_i (by omega) (by omega)
  have e5 : (b + w + a).toInt = (b + w).toInt + a.toInt := add_i (by omega) (by omega)
  have e6 : (q + c0 + c1 + cf + (b + w + a)).toInt = (q + c0 + c1 + cf).toInt + (b + w + a).toInt := add_i (by omega) (by omega)
  rw [Int32.le_iff_toInt_le, show (-999 : Int32).toInt = -999 from by decide]
  omega
def LI (k : Nat) (S : Mem) : Prop := PT S ∧ ∃ n, 1 ≤ n ∧ RO (1300 * (k + 1)) n (S 0)
theorem fin_o {f : Nat → Int32} (H : RO a n (S 0)) (hB : a + 10000 < 9000000) (hP : PT S) (hs : Seen S f) : ∃ S1 t S2 q S3 c0 c1 cf S4 b S5 w S6 a S7, g_X8_save S = some (t, S1) ∧ g_X8_quietBeats S1 = some (q, S2) ∧ g_X8_couldLead S2 0 = some c0 ∧ g_X8_couldLeadAgain S2 1 = some (c1, S3) ∧ g_X8_conflicts S3 = some cf ∧ Seen S3 f ∧ g_X8_beats S3 5 = some (b, S4) ∧ g_X8_wash S4 0 = some (w, S5) ∧ g_X8_ask S5 1 = some (a, S6) ∧ g_X8_restore S6 = some (t, S7) ∧ Seen S7 f ∧ g_X8_account S7 12 = some 0 ∧ ¬ (q + c0 + c1 + cf + (b + w + a)) ≤ -999 := by
  obtain ⟨T, c1, c2, c3⟩ := copy_o (S := S) (k := 2) (k' := 0) H (by decide)
  have h1 : g_X8_save S = some (S 0 0, up T 11 0 1) := by
    unfold g_X8_save f_X8_save_0
    rw [c1, bd1_s, up_oth _ _ _ (by decide), c2 0 (by decide)]
  have s1 : up T 11 0 1 0 = S 0 := (up_oth _ _ _ (by decide)).trans (c2 0 (by decide))
  have s1b : up T 11 0 1 2 = T 2 := up_oth _ _ _ (by decide)
  have s1c : up T 11 0 1 11 0 = 1 := up_same _ _ _ _
  have s1d : ∀ c, c ≠ 0 → up T 11 0 1 11 c = S 11 c := fun c hc => by
    rw [up_ne _ _ (by omega), c2 11 (by decide)]
  have s1e : ∀ b, 12 ≤ b → up T 11 0 1 b = S b := fun b hb => by
    rw [up_oth _ _ _ (by omega), c2 b (by omega)]
  revert h1 s1 s1b s1c s1d s1e
  generalize up T 11 0 1 = S1
  intro h1 s1 s1b s1c s1d s1e
  have H1 : RO a n (S1 0) := by rw [s1]; exact H
  obtain ⟨q, S2, k1, k2, k3⟩ := quiet_o H1 (by omega)
  have s2 : S2 0 = S 0 := (k3 0 (by decide)).trans s1
  have H2 : RO a n (S2 0) := by rw [s2]; exact H
  obtain ⟨c0, l1, l2⟩ := could_o H2 0
  obtain ⟨cc, S3, m1, m2, m3, m4⟩ := again_o H2 (by omega) 1
  rw [s2] at m3
  have H3 : RO a n (S3 0) := H.same m3
  obtain ⟨cf, n1, n2⟩ := confl_o H3
  have o3 : ∀ b, b ≠ 0 → b ≠ 1 → S3 b = S1 b := fun b h0 h1 => (m4 b h0 h1).trans (k3 b h1)
  have P3 : PT S3 := hP.e ((congrFun (o3 11 (by decide) (by decide)) 2).trans (s1d 2 (by decide))) ((congrFun (o3 11 (by decide) (by decide)) 3).trans (s1d 3 (by decide))) ((o3 13 (by decide) (by decide)).trans (s1e 13 (by decide))) ((o3 14 (by decide) (by decide)).trans (s1e 14 (by decide)))
  obtain ⟨bb, S4, g1, A1, A2, A3, A4, ⟨n4, A5, A6⟩, -⟩ := d_beats (x := 5) H3 (by omega) P3
  obtain ⟨ww, S5, g2, B1, B2, B3, B4, ⟨n5, B5, B6⟩, -⟩ := d_wash (x := 0) A6 (by omega) A2
  obtain ⟨aa, S6, g3, C1, C2, C3, C4, ⟨n6, C5, C6⟩, -⟩ := d_ask (x := 1) B6 (by omega) B2
  have e2 : S6 2 = T 2 := (C3.trans (B3.trans A3)).trans ((o3 2 (by decide) (by decide)).trans s1b)
  have e110 : S6 11 0 = 1 := (C4.trans (B4.trans A4)).trans ((congrFun (o3 11 (by decide) (by decide)) 0).trans s1c)
  have H6 : RO a n (S6 2) := by rw [e2]; exact H.same c3
  obtain ⟨S7, r1, r2, r3⟩ := copy_o (S := S6) (k := 0) (k' := 2) H6 (by decide)
  rw [e2] at r3
  have R7 : SR n (S 0) (S7 0) := SR.tr c3 r3
  have u7 : up S7 11 3 0 0 = S7 0 := up_oth _ _ _ (by decide)
  have h7 : g_X8_restore S6 = some (S 0 0, up S7 11 3 0) := by
    unfold g_X8_restore f_X8_restore_0 g_X3_forget f_X3_forget_0
    rw [e110, if_neg (by decide), r1, bd1_s, bd1_s, u7, R7.1 0 (by decide)]
  exact ⟨S1, _, S2, q, S3, c0, cc, cf, S4, bb, S5, ww, S6, aa, _, h1, k1, l1, m1, n1, seen_e H m3 hs, g1, g2, g3, h7, seen_e H (by rw [u7]; exact R7) hs, acc_12.trans (congrArg some (up_same _ _ _ _)), sum_o k2 l2 m2 n2 A1 B1 C1⟩
theorem law_owed {b L : Nat} {xs : Nat → Int32} (hL : L ≤ 260) : ∃ LI, LawH (b, L, xs) LI := by
  refine ⟨LI, ?_, fun k S hk hI => ?_, fun k S f hk hI hs => ?_, fun S k hk => ?_, fun S f hI hs => ?_⟩
  · obtain ⟨r0, e, h0, hP, n, hn, H⟩ := begun_o (b := b) (xs := xs) hL
    exact ⟨r0, e, h0, well_o H, hP, n, hn, H.up (by omega) (by omega)⟩
  · obtain ⟨hP, n, hn, H⟩ := hI
    exact seen_ex H
  · obtain ⟨hP, n, hn, H⟩ := hI
    obtain ⟨r, S', e, D1, D2, -, -, ⟨n', D5, D6⟩, D7, D8, D9⟩ := does_o (b := b) (xs := xs) H hn (by omega) hP hL (k := 8 + 3 * k) (by omega)
    have H' : RO (1300 * (k + 1 + 1)) n' (S' 0) := D6.up (by omega) (by omega)
    refine ⟨(r, S'), n', e, ?_, well_o H', acc_11.trans (congrArg some D2.2.2.1), fun z => seen_e H (D8 z) hs, H'.le5, acc_1.trans (congrArg some H'.cnt), seen_m H H' D7 hs, ⟨D2, n', by omega, H'⟩, fun z => ?_⟩
    · intro z
      have z : r = -99 := z
      unfold Sm at D1
      rw [z] at D1
      exact absurd D1 (by decide)
    · obtain ⟨u, S3, u1, u2, u3, u4⟩ := undo_o H D2 (D9 z)
      exact ⟨u, S3, u1, u2, seen_e H u3 hs, u4, n, hn, (H.same u3).up (by omega) (by omega)⟩
  · obtain ⟨y, -, e⟩ := in_o (S := S) (b := b) (xs := xs) hL (k := 80 + k) (m := 5) (by omega) (by omega) (by omega)
    exact ⟨_, e⟩
  · obtain ⟨hP, n, hn, H⟩ := hI
    exact fin_o H (by omega) hP hs
end P40
