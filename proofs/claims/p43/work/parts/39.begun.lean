/-! ===== the pure part: how the law begins ===== -/
section P39
variable {a n len i j d q w b L : Nat} {S S' T : Mem} {xs : Nat → Int32} {r x y : Int32}
theorem come_s (H : RO a n (S 0)) (h2 : S 0 2 = 0) (c4 : n < 5) (c1 : ¬ x < 1) (c2 : x ≤ 9) : ∃ S', g_X8_letCome S x = some (nI n, S') ∧ RO a (n + 1) (S' 0) ∧ Fr 0 S S' ∧ S' 0 2 = 0 := by
  have h5 := H.le5
  obtain ⟨b, hb, e, f⟩ := H.ask
  have hB := H.aB
  have c3 : b = 0 := (z_eqI (by omega)).mp (e.symm.trans h2)
  have f0 := f c3
  unfold g_X8_letCome f_X8_letCome_0 f_X8_letCome_11
  rw [if_neg c1, if_pos c2, if_pos (by rw [h2]; exact Int32.le_refl _)]
  unfold g_X4_addDriver f_X4_addDriver_0
  have lt5 : S 0 1 < 5 := by rw [H.cnt]; exact (nI_ltI (b := 5) (by omega) (by decide)).mpr c4
  rw [if_pos lt5, if_pos lt5, H.cnt, ck_in c4 (by decide), nI_clamp (by omega)]
  unfold g_X2_begin f_X2_begin_0
  rw [bd1_s]
  simp (disch := omega) only [up_ne, up_same]
  rw [H.cnt, nI_p1, nI_m1 (by omega), bd2_s, Nat.add_sub_cancel]
  have F : ∀ j, j < n + 1 → FRd (up (up (up (up (up (up (up (up (up (up (up S 0 (33 + 34 * n) 0) 0 (33 + 34 * n + 1) 0) 0 (33 + 34 * n + 2) x) 0 (33 + 34 * n + 3) 0) 0 (33 + 34 * n + 4) (-1)) 0 (33 + 34 * n + 5) 0) 0 (33 + 34 * n + 6) 0) 0 (33 + 34 * n + 7) 1) 0 (33 + 34 * n + 8) 0) 0 (33 + 34 * n + 9) 0) 0 1 (nI (n + 1)) 0) j := by
    intro j hj
    unfold FRd
    by_cases cj : j = n
    · subst cj
      simp (disch := omega) only [up_ne, up_same]
      exact ⟨trivial, trivial, trivial, trivial, trivial⟩
    · simp (disch := omega) only [up_ne]
      exact f0 j (by omega)
  have A7 : ∀ j, j < n + 1 → (up (up (up (up (up (up (up (up (up (up (up S 0 (33 + 34 * n) 0) 0 (33 + 34 * n + 1) 0) 0 (33 + 34 * n + 2) x) 0 (33 + 34 * n + 3) 0) 0 (33 + 34 * n + 4) (-1)) 0 (33 + 34 * n + 5) 0) 0 (33 + 34 * n + 6) 0) 0 (33 + 34 * n + 7) 1) 0 (33 + 34 * n + 8) 0) 0 (33 + 34 * n + 9) 0) 0 1 (nI (n + 1)) 0 (33 + 34 * j + 7) = 0 ∨ up (up (up (up (up (up (up (up (up (up (up S 0 (33 + 34 * n) 0) 0 (33 + 34 * n + 1) 0) 0 (33 + 34 * n + 2) x) 0 (33 + 34 * n + 3) 0) 0 (33 + 34 * n + 4) (-1)) 0 (33 + 34 * n + 5) 0) 0 (33 + 34 * n + 6) 0) 0 (33 + 34 * n + 7) 1) 0 (33 + 34 * n + 8) 0) 0 (33 + 34 * n + 9) 0) 0 1 (nI (n + 1)) 0 (33 + 34 * j + 7) = 1) := by
    intro j hj
    by_cases cj : j = n
    · subst cj
      simp (disch := omega) only [up_ne, up_same]
      exact Or.inr trivial
    · simp (disch := omega) only [up_ne]
      exact (H.abd j (by omega)).imp And.left id
  have o : ∀ c, c ≠ 1 → (c < 33 + 34 * n ∨ 33 + 34 * n + 10 ≤ c) → up (up (up (up (up (up (up (up (up (up (up S 0 (33 + 34 * n) 0) 0 (33 + 34 * n + 1) 0) 0 (33 + 34 * n + 2) x) 0 (33 + 34 * n + 3) 0) 0 (33 + 34 * n + 4) (-1)) 0 (33 + 34 * n + 5) 0) 0 (33 + 34 * n + 6) 0) 0 (33 + 34 * n + 7) 1) 0 (33 + 34 * n + 8) 0) 0 (33 + 34 * n + 9) 0) 0 1 (nI (n + 1)) 0 c = S 0 c := fun c c1 hc => by simp (disch := omega) only [up_ne]
  have e1 : up (up (up (up (up (up (up (up (up (up (up S 0 (33 + 34 * n) 0) 0 (33 + 34 * n + 1) 0) 0 (33 + 34 * n + 2) x) 0 (33 + 34 * n + 3) 0) 0 (33 + 34 * n + 4) (-1)) 0 (33 + 34 * n + 5) 0) 0 (33 + 34 * n + 6) 0) 0 (33 + 34 * n + 7) 1) 0 (33 + 34 * n + 8) 0) 0 (33 + 34 * n + 9) 0) 0 1 (nI (n + 1)) 0 1 = nI (n + 1) := up_same _ _ _ _
  have e8 : up (up (up (up (up (up (up (up (up (up (up S 0 (33 + 34 * n) 0) 0 (33 + 34 * n + 1) 0) 0 (33 + 34 * n + 2) x) 0 (33 + 34 * n + 3) 0) 0 (33 + 34 * n + 4) (-1)) 0 (33 + 34 * n + 5) 0) 0 (33 + 34 * n + 6) 0) 0 (33 + 34 * n + 7) 1) 0 (33 + 34 * n + 8) 0) 0 (33 + 34 * n + 9) 0) 0 1 (nI (n + 1)) 0 (33 + 34 * n + 8) = 0 := by simp (disch := omega) only [up_ne, up_same]
  have e9 : up (up (up (up (up (up (up (up (up (up (up S 0 (33 + 34 * n) 0) 0 (33 + 34 * n + 1) 0) 0 (33 + 34 * n + 2) x) 0 (33 + 34 * n + 3) 0) 0 (33 + 34 * n + 4) (-1)) 0 (33 + 34 * n + 5) 0) 0 (33 + 34 * n + 6) 0) 0 (33 + 34 * n + 7) 1) 0 (33 + 34 * n + 8) 0) 0 (33 + 34 * n + 9) 0) 0 1 (nI (n + 1)) 0 (33 + 34 * n + 9) = 0 := by simp (disch := omega) only [up_ne, up_same]
  have hF : Fr 0 S (up (up (up (up (up (up (up (up (up (up (up S 0 (33 + 34 * n) 0) 0 (33 + 34 * n + 1) 0) 0 (33 + 34 * n + 2) x) 0 (33 + 34 * n + 3) 0) 0 (33 + 34 * n + 4) (-1)) 0 (33 + 34 * n + 5) 0) 0 (33 + 34 * n + 6) 0) 0 (33 + 34 * n + 7) 1) 0 (33 + 34 * n + 8) 0) 0 (33 + 34 * n + 9) 0) 0 1 (nI (n + 1))) := ((((((((((Fr.rf.up _ _).up _ _).up _ _).up _ _).up _ _).up _ _).up _ _).up _ _).up _ _).up _ _).up _ _
  revert F A7 o e1 e8 e9 hF
  generalize up (up (up (up (up (up (up (up (up (up (up S 0 (33 + 34 * n) 0) 0 (33 + 34 * n + 1) 0) 0 (33 + 34 * n + 2) x) 0 (33 + 34 * n + 3) 0) 0 (33 + 34 * n + 4) (-1)) 0 (33 + 34 * n + 5) 0) 0 (33 + 34 * n + 6) 0) 0 (33 + 34 * n + 7) 1) 0 (33 + 34 * n + 8) 0) 0 (33 + 34 * n + 9) 0) 0 1 (nI (n + 1)) = S'
  intro F A7 o e1 e8 e9 hF
  have zL : ∀ j, j < n + 1 → rL (S' 0) j = 0 := fun j hj => by unfold rL; rw [(F j hj).2.2.2.1]; rfl
  have zC : ∀ j, j < n + 1 → rC (S' 0) j = 0 := fun j hj => by unfold rC; rw [(F j hj).2.2.2.2]; rfl
  refine ⟨S', rfl, ?_, hF, (o 2 (by omega) (by omega)).trans h2⟩
  refine ⟨by omega, hB, e1, ⟨0, Nat.zero_le _, (o 2 (by omega) (by omega)).trans h2, fun _ => F⟩, fun j hj => Or.inl (F j hj).1, fun j hj => ⟨0, Nat.zero_le _, (F j hj).2.1⟩, fun j hj => ⟨by rw [zL j hj]; omega, by rw [zL j hj]; exact (F j hj).2.2.2.1⟩, fun j hj => by rw [zC j hj]; exact (F j hj).2.2.2.2, fun j hj => (A7 j hj).imp (fun h => ⟨h, (F j hj).1⟩) id, fun j hj l hl => by rw [zL j hj] at hl; omega, fun p q hp hq => ?_, ?_, ?_, ?_⟩
  · rw [o _ (by omega) (by omega), o _ (by omega) (by omega)]; exact H.rope p q hp hq
  · show smf (S' 0) 8 n + S' 0 (33 + 34 * n + 8) = _
    rw [e8, smf_e (V := S 0) (fun j hj => o _ (by omega) (by omega)), i_add0, o 2 (by omega) (by omega)]
    exact H.s8
  · show smf (S' 0) 9 n + S' 0 (33 + 34 * n + 9) = _
    rw [e9, smf_e (V := S 0) (fun j hj => o _ (by omega) (by omega)), i_add0, o 3 (by omega) (by omega)]
    exact H.s9
  · exact st_0 (fun j hj => by unfold rR; rw [(F j hj).1]; rfl) (fun j hj => by unfold rT; rw [(F j hj).2.1]; rfl) (fun j hj => by unfold rV; rw [(F j hj).2.2.1]; rfl) zL zC
/-- a change that is no refusal -/
theorem change_s {Q : Nat → (Nat → Int32) → Prop} (H : RO a n (S 0)) (hP : PT S) (hc : ∀ S1 : Mem, S1 0 = S 0 → ∃ m S2, m < 9000000 ∧ g_X8_carryOut S1 r x y = some (nI m, S2) ∧ FC S1 S2 ∧ Q m (S2 0)) : ∃ m S', m < 9000000 ∧ g_X8_change S r x y = some (nI m, S') ∧ Q m (S' 0) ∧ PT S' := by
  unfold g_X8_change f_X8_change_0 f_X8_change_36
  obtain ⟨S1, c1, c2, c3⟩ := copy_o (S := S) (k := 1) (k' := 0) H (by decide)
  have e0 : S1 0 = S 0 := c2 0 (by decide)
  have e11 : S1 11 = S 11 := c2 11 (by decide)
  have P1 : PT S1 := hP.e (by rw [e11]) (by rw [e11]) (c2 13 (by decide)) (c2 14 (by decide))
  obtain ⟨m, S2, hm, d1, d4, d5⟩ := hc S1 e0
  have P2 : PT S2 := P1.e (d4.2 2 (by omega)) (d4.2 3 (by omega)) (d4.1 13 (by decide) (by decide)) (d4.1 14 (by decide) (by decide))
  have b1 : S2 1 = S1 1 := d4.1 1 (by decide) (by decide)
  have H2 : RO a n (S2 1) := by rw [b1]; exact H.same c3
  obtain ⟨S3, m1, m2, m3, m4, m5⟩ := remem_o H2 P2
  rw [c1, bd1_s, d1, bd2_s, if_neg (nI_pos (by omega)), m1, bd1_s]
  exact ⟨m, S3, hm, rfl, by rw [m2 0 (by decide) (by omega)]; exact d5, m5⟩
theorem drv_s (H : RO a n (S 0)) (hP : PT S) (h2 : S 0 2 = 0) (c4 : n < 5) {p : Nat} (c1 : 1 ≤ p) (c2 : p ≤ 9) : ∃ S', g_X8_driver S (nI p) = some (nI n, S') ∧ RO a (n + 1) (S' 0) ∧ S' 0 2 = 0 ∧ PT S' := by
  unfold g_X8_driver f_X8_driver_0
  rw [bd2_i]
  obtain ⟨m, S', hm, e, ⟨rfl, q1, q2⟩, q3⟩ := change_s (Q := fun m V => m = n ∧ RO a (n + 1) V ∧ V 2 = 0) (r := 1) (x := nI p) (y := 0) H hP (fun S1 e0 => by
    obtain ⟨S2, k1, k2, k3, k4⟩ := come_s (S := S1) (x := nI p) (by rw [e0]; exact H) (by rw [e0]; exact h2) c4 (fun z => by have := (nI_ltI (b := 1) (by omega) (by decide)).mp z; omega) ((nI_leI (b := 9) (by omega) (by decide)).mpr c2)
    refine ⟨n, S2, by omega, ?_, FC.of k3, rfl, k2, k4⟩
    unfold g_X8_carryOut f_X8_carryOut_0
    rw [if_neg (by decide), ck_t _ (by decide), ck_t _ (by decide), if_pos (by decide), bd2_i]
    exact k1)
  exact ⟨S', e, q1, q2, q3⟩
theorem beats_s (H : RO a n (S 0)) (hP : PT S) (hB : a + 100 < 9000000) {M : Nat} (c1 : 1 ≤ M) (c2 : M ≤ 20) : ∃ r S', r < 9000000 ∧ g_X8_beats S (nI M) = some (nI r, S') ∧ RO (a + 100) n (S' 0) ∧ PT S' := by
  unfold g_X8_beats f_X8_beats_0
  rw [bd2_i]
  refine change_s (Q := fun _ V => RO (a + 100) n V) H hP (fun S1 e0 => ?_)
  obtain ⟨r, S2, hr, e, P⟩ := beats_o (S := S1) (k := 0) (a := a) (n := n) (by rw [e0]; exact H) c2 hB
  refine ⟨r, S2, hr, ?_, FC.of P.2.1, P.1.up (by omega) hB⟩
  unfold g_X8_carryOut f_X8_carryOut_0 f_X8_carryOut_135 f_X8_carryOut_137
  rw [if_neg (by decide), ck_t _ (by decide), ck_t _ (by decide), if_neg (by decide), if_neg (by decide), if_neg (by decide), if_neg (by decide), if_neg (by decide), if_neg (by decide), if_neg (by decide), if_neg (by decide), if_neg (show ¬ nI M < 1 from fun z => by have := (nI_ltI (b := 1) (by omega) (by decide)).mp z; omega), if_neg (show ¬ (20 : Int32) < nI M from fun z => by have := (nI_ltI (a := 20) (by decide) (by omega)).mp z; omega), bd2_i]
  exact e
theorem ro_0 : RO 0 0 (Z0 0) := by
  refine ⟨by omega, by omega, rfl, ⟨0, Nat.le_refl _, rfl, fun _ i hi => absurd hi (Nat.not_lt_zero i)⟩, fun i hi => absurd hi (Nat.not_lt_zero i), fun i hi => absurd hi (Nat.not_lt_zero i), fun i hi => absurd hi (Nat.not_lt_zero i), fun i hi => absurd hi (Nat.not_lt_zero i), fun i hi => absurd hi (Nat.not_lt_zero i), fun i hi => absurd hi (Nat.not_lt_zero i), fun i j _ _ => ⟨?_, Or.inl ?_⟩, rfl, rfl, st_0 (fun i hi => absurd hi (Nat.not_lt_zero i)) (fun i hi => absurd hi (Nat.not_lt_zero i)) (fun i hi => absurd hi (Nat.not_lt_zero i)) (fun i hi => absurd hi (Nat.not_lt_zero i)) (fun i hi => absurd hi (Nat.not_lt_zero i))⟩
  · simp [Z0]
  · simp [Z0]
theorem pt_0 : PT Z0 := by
  have hc : capN Z0 (13 + 2 * 0) = 16 := by decide +kernel
  refine ⟨⟨0, by decide, rfl⟩, ⟨0, by decide, rfl⟩, rfl, ?_, ?_, ?_⟩
  · rw [hc]; decide
  · rw [hc]; exact Or.inl rfl
  · intro j hj
    have : Z0 (14 + 2 * 0) j = nI 0 := by simp [Z0]; rfl
    rw [this]
    exact fit_z ⟨0, by decide, rfl⟩
theorem begun_o (hL : L ≤ 260) : ∃ r0 : Int32 × Mem, f_L_begun_10 Z0 (b, L, xs) 0 = some r0 ∧ 0 ≤ r0.1 ∧ PT r0.2 ∧ ∃ n, 1 ≤ n ∧ RO 100 n (r0.2 0) := by
  have R : Gv (fun r0 : Int32 × Mem => 0 ≤ r0.1 ∧ PT r0.2 ∧ ∃ n, 1 ≤ n ∧ RO 100 n (r0.2 0)) (f_L_begun_10 Z0 (b, L, xs) 0) := by
    unfold f_L_begun_10 f_L_begun_22
    obtain ⟨y0, hy0, e0⟩ := in_o (S := Z0) (b := b) (xs := xs) hL (k := 0) (m := 3) (by omega) (by omega) (by omega)
    have q0 : g_L_in Z0 (b, L, xs) 0 3 = some (nI y0) := e0
    rw [q0, bd1_s, show (3 : Int32) = nI 3 from rfl, nI_add]
    refine Gv_lp (fun d s => ∃ i m S, i + d = 3 + y0 ∧ s = (S, nI m, nI i) ∧ m ≤ 5 * i ∧ RO 0 i (S 0) ∧ S 0 2 = 0 ∧ PT S) ?_ (3 + y0) 2000 _ (by omega) ⟨0, 0, Z0, by omega, rfl, by omega, ro_0, rfl, pt_0⟩
    rintro d s f ⟨i, m, S, hd, rfl, hm, H, h2, hP⟩ K
    unfold f_L_begun_22_b
    dsimp only
    rw [ile (by omega) (by omega)]
    by_cases c : 3 + y0 ≤ i
    · obtain ⟨y6, hy6, e6⟩ := in_o (S := S) (b := b) (xs := xs) hL (k := 6) (m := 6) (by omega) (by omega) (by omega)
      have q6 : g_L_in S (b, L, xs) 6 6 = some (nI y6) := e6
      obtain ⟨r, S', hr, e, H', P'⟩ := beats_s H hP (by omega) (M := 1 + y6) (by omega) (by omega)
      rw [if_pos c, q6, bd1_s, show (1 : Int32) + nI y6 = nI (1 + y6) from nI_add 1 y6, e, bd2_s, nI_add]
      exact Gv.ret ⟨nI_pos' (by omega), P', i, by omega, H'⟩
    · obtain ⟨y, hy, e1⟩ := in_o (S := S) (b := b) (xs := xs) hL (k := 1 + i) (m := 9) (by omega) (by omega) (by omega)
      have q1 : g_L_in S (b, L, xs) (1 + nI i) 9 = some (nI y) := by rw [show (1 : Int32) + nI i = nI (1 + i) from nI_add 1 i]; exact e1
      obtain ⟨S', e, H', h2', P'⟩ := drv_s H hP h2 (by omega) (p := 1 + y) (by omega) (by omega)
      rw [if_neg c, q1, bd1_s, show (1 : Int32) + nI y = nI (1 + y) from nI_add 1 y, e, bd2_s, nI_add, nI_p1]
      exact K (d - 1) _ (by omega) ⟨i + 1, m + i, S', by omega, rfl, by omega, H', h2', P'⟩
  exact R
end P39
