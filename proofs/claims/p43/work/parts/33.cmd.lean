/-! ===== the pure part: commands, the rest ===== -/
section P33
variable {a a' n n' i j x k M w : Nat} {V V' : Nat → Int32} {S S' : Mem} {r : Int32}
theorem ch16 {c : Nat} (h : c < 128) : ((nI c).toUInt32 % 65536).toInt32 = nI c := by
  have : ∀ c, c < 128 → ((nI c).toUInt32 % 65536).toInt32 = nI c := by decide +kernel
  exact this c h
theorem write_o {c m : Nat} {t : Int32} (H : RO a n (S 0)) (hi : i < n) (hr : rR (S 0) i = 2) (ht : S 0 (33 + 34 * i + 1) = t) (hc : 97 ≤ c ∧ c ≤ 122) (em : rL (S 0) i = m) (hm : m < 12) : ∃ S', g_X2_write S 0 i t (nI c) = some S' ∧ RO a n (S' 0) ∧ Fr 0 S S' ∧ MoN n (S 0) (S' 0) ∧ S' 0 (33 + 34 * i + 5) = nI (m + 1) := by
  have h5 := H.le5
  have e5 := (H.many i hi).2
  rw [em] at e5
  unfold g_X2_write f_X2_write_0 f_X2_write_39
  rw [e5, if_neg (fun z => by have := (nI_leI (a := 12) (by omega) (by omega)).mp z; omega), ck_in (by omega) (by decide), nI_clamp (by omega)]
  have q5 : up S 0 (33 + 34 * i + 10 + m) t 0 (33 + 34 * i + 5) = nI m := by
    rw [up_ne _ _ (by omega)]; exact e5
  rw [q5, ck_in (by omega) (by decide), nI_clamp (by omega), nar_c (by omega)]
  have q6 : up (up S 0 (33 + 34 * i + 10 + m) t) 0 (33 + 34 * i + 22 + m) (nI c) 0 (33 + 34 * i + 5) = nI m := by
    rw [up_ne _ _ (by omega)]; exact q5
  rw [q6, nI_p1]
  have eL : rL (up (up (up S 0 (33 + 34 * i + 10 + m) t) 0 (33 + 34 * i + 22 + m) (nI c)) 0 (33 + 34 * i + 5) (nI (m + 1)) 0) i = m + 1 := by
    show (up (up (up S 0 (33 + 34 * i + 10 + m) t) 0 (33 + 34 * i + 22 + m) (nI c)) 0 (33 + 34 * i + 5) (nI (m + 1)) 0 (33 + 34 * i + 5)).toNatClampNeg = m + 1
    rw [up_same, nI_clamp (by omega)]
  refine ⟨_, rfl, ?_, ((Fr.rf.up _ _).up _ _).up _ _, MoN.of fun j hj => ⟨by simp (disch := omega) only [up_ne], by simp (disch := omega) only [up_ne]⟩, up_same _ _ _ _⟩
  refine H.lines (m := m + 1) hi (fun c h8 c5 h => by simp (disch := omega) only [up_ne]) (fun f hf => by simp (disch := omega) only [up_ne]) (by omega) (up_same _ _ _ _) (fun l hl => ?_) (H.ne0 hi (fun z => by have := role2' hr; rw [z] at this; exact absurd this (by decide))) ?_
  · by_cases cl : l = m
    · subst cl
      simp (disch := omega) only [up_ne, up_same]
      exact ⟨by rw [← ht]; exact H.term i hi, c, hc.1, hc.2, rfl⟩
    · simp (disch := omega) only [up_ne]
      exact H.lin i hi l (by omega)
  · refine H.iv.app H.l12 hi (by omega) hr (by rw [eL, em]) ?_ (fun c h c5 c10 c22 => ?_)
    · rw [em]
      show (up (up (up S 0 (33 + 34 * i + 10 + m) t) 0 (33 + 34 * i + 22 + m) (nI c)) 0 (33 + 34 * i + 5) (nI (m + 1)) 0 (33 + 34 * i + 10 + m)).toInt = _
      simp (disch := omega) only [up_ne, up_same]
      rw [← ht]
      rfl
    · rw [em] at c10 c22
      simp (disch := omega) only [up_ne]
theorem c_shout (H : RO a n (S 0)) (hB : a + 100 < 9000000) (x y : Int32) : CM a n S (g_X8_letShout S x y) := by
  have h5 := H.le5
  unfold g_X8_letShout f_X8_letShout_0 f_X8_letShout_25
  rcases has_o H.cnt h5 x with ⟨i, hi, rfl, h1⟩ | ⟨-, h1⟩
  · rw [h1, bd1_s, if_neg (by decide), ck_in (by omega) (by decide), nI_clamp (by omega)]
    by_cases c1 : y < 97
    · rw [if_pos c1]; exact CM.same H hB (by unfold Sm; decide)
    · rw [if_neg c1]
      by_cases c2 : y ≤ 122
      · rw [if_pos c2]
        obtain ⟨c, hc, rfl⟩ := nI_of (fun z => c1 (Int32.lt_trans z (by decide)))
        have hc1 : 97 ≤ c := Nat.le_of_not_lt fun z => c1 ((nI_ltI (b := 97) hc (by decide)).mpr z)
        have hc2 : c ≤ 122 := (nI_leI (b := 122) hc (by decide)).mp c2
        rcases H.abd i hi with ⟨hA, -⟩ | hA
        · rw [if_pos hA]; exact CM.ref H hB _ _
        · rw [if_neg (by rw [hA]; decide)]
          by_cases c3 : S 0 (33 + 34 * i) = 2
          · have l12 := H.l12 i hi
            rw [if_pos c3, (H.many i hi).2]
            by_cases c4 : rL (S 0) i < 12
            · have P1 := PM.head H (c := 4) (Or.inr ⟨by decide, by decide⟩) (S 0 4 + 1)
              have eL : rL (up S 0 4 (S 0 4 + 1) 0) i = rL (S 0) i := rL_e (by simp (disch := omega) only [up_ne])
              have eR : rR (up S 0 4 (S 0 4 + 1) 0) i = 2 := role2 (by simp (disch := omega) only [up_ne]; exact c3)
              obtain ⟨S', e, H2, F2, M2, e5⟩ := write_o (t := up S 0 4 (S 0 4 + 1) 0 (33 + 34 * i + 1)) (m := rL (S 0) i) (c := c) P1.1 hi eR rfl ⟨hc1, hc2⟩ eL c4
              rw [if_pos (show nI (rL (S 0) i) < 12 from (nI_ltI (b := 12) (by omega) (by decide)).mpr c4), ch16 (by omega), e, bd1_s, e5]
              exact CM.of H2 (P1.2.1.tr F2) (fun j hj => ⟨Int.le_trans (P1.2.2.2.1 j hj).1 (M2 j hj).1, Nat.le_trans (P1.2.2.2.1 j hj).2 (M2 j hj).2⟩) (by omega) hB (by omega)
            · rw [if_neg (show ¬ nI (rL (S 0) i) < 12 from fun z => c4 ((nI_ltI (b := 12) (by omega) (by decide)).mp z))]; exact CM.ref H hB _ _
          · rw [if_neg c3]; exact CM.ref H hB _ _
      · rw [if_neg c2]; exact CM.same H hB (by unfold Sm; decide)
  · rw [h1, bd1_s, if_pos rfl]
    exact CM.same H hB (by unfold Sm; decide)
theorem c_come (H : RO a n (S 0)) (hB : a + 100 < 9000000) (x : Int32) : CM a n S (g_X8_letCome S x) := by
  have h5 := H.le5
  obtain ⟨b, hb, e, f⟩ := H.ask
  unfold g_X8_letCome f_X8_letCome_0 f_X8_letCome_11
  by_cases c1 : x < 1
  · rw [if_pos c1]; exact CM.same H hB (by unfold Sm; decide)
  · rw [if_neg c1]
    by_cases c2 : x ≤ 9
    · rw [if_pos c2]
      by_cases c3 : b = 0
      · rw [if_pos (by rw [e]; exact (le0I (by omega)).mpr c3)]
        have f0 := f c3
        rw [c3] at e
        by_cases c4 : n < 5
        · unfold g_X4_addDriver f_X4_addDriver_0
          have lt5 : S 0 1 < 5 := by rw [H.cnt]; exact (nI_ltI (b := 5) (by omega) (by decide)).mpr c4
          rw [if_pos lt5, if_pos lt5, H.cnt, ck_in c4 (by decide), nI_clamp (by omega)]
          unfold g_X2_begin f_X2_begin_0
          rw [bd1_s]
          simp (disch := omega) only [up_ne, up_same]
          rw [H.cnt, nI_p1, nI_m1 (by omega), bd2_s, Nat.add_sub_cancel]
          have F : ∀ j, j < n + 1 → FRd (up (up (up (up (up (up (up (up (up (up (up S 0 (33 + 34 * n) 0) 0 (33 + 34 * n + 1) 0) 0 (33 + 34 * n + 2) x) 0 (33 + 34 * n + 3) 0) 0 (33 + 34 * n + 4) (-1)) 0 (33 + 34 * n + 5) 0) 0 (33 + 34 * n + 6) 0) 0 (33 + 34 * n + 7) 1) 0 (33 + 34 * n + 8) 0) 0 (33 + 34 * n + 9) 0) 0 1 (nI (n + 1)) 0) j := by
            intro j hj
            unfold FRd
            by_cases cj : j = n
            · subst cj
              simp (disch := omega) only [up_ne, up_same]
              exact ⟨trivial, trivial, trivial, trivial, trivial⟩
            · simp (disch := omega) only [up_ne]
              exact f0 j (by omega)
          have A7 : ∀ j, j < n + 1 → (up (up (up (up (up (up (up (up (up (up (up S 0 (33 + 34 * n) 0) 0 (33 + 34 * n + 1) 0) 0 (33 + 34 * n + 2) x) 0 (33 + 34 * n + 3) 0) 0 (33 + 34 * n + 4) (-1)) 0 (33 + 34 * n + 5) 0) 0 (33 + 34 * n + 6) 0) 0 (33 + 34 * n + 7) 1) 0 (33 + 34 * n + 8) 0) 0 (33 + 34 * n + 9) 0) 0 1 (nI (n + 1)) 0 (33 + 34 * j + 7) = 0 ∨ up (up (up (up (up (up (up (up (up (up (up S 0 (33 + 34 * n) 0) 0 (33 + 34 * n + 1) 0) 0 (33 + 34 * n + 2) x) 0 (33 + 34 * n + 3) 0) 0 (33 + 34 * n + 4) (-1)) 0 (33 + 34 * n + 5) 0) 0 (33 + 34 * n + 6) 0) 0 (33 + 34 * n + 7) 1) 0 (33 + 34 * n + 8) 0) 0 (33 + 34 * n + 9) 0) 0 1 (nI (n + 1)) 0 (33 + 34 * j + 7) = 1) := by
            intro j hj
            by_cases cj : j = n
            · subst cj
              simp (disch := omega) only [up_ne, up_same]
              exact Or.inr trivial
            · simp (disch := omega) only [up_ne]
              exact (H.abd j (by omega)).imp And.left id
          have o : ∀ c, c ≠ 1 → (c < 33 + 34 * n ∨ 33 + 34 * n + 10 ≤ c) → up (up (up (up (up (up (up (up (up (up (up S 0 (33 + 34 * n) 0) 0 (33 + 34 * n + 1) 0) 0 (33 + 34 * n + 2) x) 0 (33 + 34 * n + 3) 0) 0 (33 + 34 * n + 4) (-1)) 0 (33 + 34 * n + 5) 0) 0 (33 + 34 * n + 6) 0) 0 (33 + 34 * n + 7) 1) 0 (33 + 34 * n + 8) 0) 0 (33 + 34 * n + 9) 0) 0 1 (nI (n + 1)) 0 c = S 0 c := fun c c1 hc => by simp (disch := omega) only [up_ne]
          have e1 : up (up (up (up (up (up (up (up (up (up (up S 0 (33 + 34 * n) 0) 0 (33 + 34 * n + 1) 0) 0 (33 + 34 * n + 2) x) 0 (33 + 34 * n + 3) 0) 0 (33 + 34 * n + 4) (-1)) 0 (33 + 34 * n + 5) 0) 0 (33 + 34 * n + 6) 0) 0 (33 + 34 * n + 7) 1) 0 (33 + 34 * n + 8) 0) 0 (33 + 34 * n + 9) 0) 0 1 (nI (n + 1)) 0 1 = nI (n + 1) := up_same _ _ _ _
          have e8 : up (up (up (up (up (up (up (up (up (up (up S 0 (33 + 34 * n) 0) 0 (33 + 34 * n + 1) 0) 0 (33 + 34 * n + 2) x) 0 (33 + 34 * n + 3) 0) 0 (33 + 34 * n + 4) (-1)) 0 (33 + 34 * n + 5) 0) 0 (33 + 34 * n + 6) 0) 0 (33 + 34 * n + 7) 1) 0 (33 + 34 * n + 8) 0) 0 (33 + 34 * n + 9) 0) 0 1 (nI (n + 1)) 0 (33 + 34 * n + 8) = 0 := by simp (disch := omega) only [up_ne, up_same]
          have e9 : up (up (up (up (up (up (up (up (up (up (up S 0 (33 + 34 * n) 0) 0 (33 + 34 * n + 1) 0) 0 (33 + 34 * n + 2) x) 0 (33 + 34 * n + 3) 0) 0 (33 + 34 * n + 4) (-1)) 0 (33 + 34 * n + 5) 0) 0 (33 + 34 * n + 6) 0) 0 (33 + 34 * n + 7) 1) 0 (33 + 34 * n + 8) 0) 0 (33 + 34 * n + 9) 0) 0 1 (nI (n + 1)) 0 (33 + 34 * n + 9) = 0 := by simp (disch := omega) only [up_ne, up_same]
          have hF : Fr 0 S (up (up (up (up (up (up (up (up (up (up (up S 0 (33 + 34 * n) 0) 0 (33 + 34 * n + 1) 0) 0 (33 + 34 * n + 2) x) 0 (33 + 34 * n + 3) 0) 0 (33 + 34 * n + 4) (-1)) 0 (33 + 34 * n + 5) 0) 0 (33 + 34 * n + 6) 0) 0 (33 + 34 * n + 7) 1) 0 (33 + 34 * n + 8) 0) 0 (33 + 34 * n + 9) 0) 0 1 (nI (n + 1))) := ((((((((((Fr.rf.up _ _).up _ _).up _ _).up _ _).up _ _).up _ _).up _ _).up _ _).up _ _).up _ _).up _ _
          revert F A7 o e1 e8 e9 hF
          generalize up (up (up (up (up (up (up (up (up (up (up S 0 (33 + 34 * n) 0) 0 (33 + 34 * n + 1) 0) 0 (33 + 34 * n + 2) x) 0 (33 + 34 * n + 3) 0) 0 (33 + 34 * n + 4) (-1)) 0 (33 + 34 * n + 5) 0) 0 (33 + 34 * n + 6) 0) 0 (33 + 34 * n + 7) 1) 0 (33 + 34 * n + 8) 0) 0 (33 + 34 * n + 9) 0) 0 1 (nI (n + 1)) = S'
          intro F A7 o e1 e8 e9 hF
          have zL : ∀ j, j < n + 1 → rL (S' 0) j = 0 := fun j hj => by unfold rL; rw [(F j hj).2.2.2.1]; rfl
          have zC : ∀ j, j < n + 1 → rC (S' 0) j = 0 := fun j hj => by unfold rC; rw [(F j hj).2.2.2.2]; rfl
          refine ⟨nI n, S', n + 1, rfl, Nat.le_succ _, ?_, FC.of hF, MoN.of fun j hj => ⟨o _ (by omega) (by omega), o _ (by omega) (by omega)⟩, Sm.nat (by omega), fun z => absurd z (nI_pos (by omega))⟩
          refine ⟨by omega, hB, e1, ⟨0, Nat.zero_le _, (o 2 (by omega) (by omega)).trans e, fun _ => F⟩, fun j hj => Or.inl (F j hj).1, fun j hj => ⟨0, Nat.zero_le _, (F j hj).2.1⟩, fun j hj => ⟨by rw [zL j hj]; omega, by rw [zL j hj]; exact (F j hj).2.2.2.1⟩, fun j hj => by rw [zC j hj]; exact (F j hj).2.2.2.2, fun j hj => (A7 j hj).imp (fun h => ⟨h, (F j hj).1⟩) id, fun j hj l hl => by rw [zL j hj] at hl; omega, fun p q hp hq => ?_, ?_, ?_, ?_⟩
          · rw [o _ (by omega) (by omega), o _ (by omega) (by omega)]; exact H.rope p q hp hq
          · show smf (S' 0) 8 n + S' 0 (33 + 34 * n + 8) = _
            rw [e8, smf_e (V := S 0) (fun j hj => o _ (by omega) (by omega)), i_add0, o 2 (by omega) (by omega)]
            exact H.s8
          · show smf (S' 0) 9 n + S' 0 (33 + 34 * n + 9) = _
            rw [e9, smf_e (V := S 0) (fun j hj => o _ (by omega) (by omega)), i_add0, o 3 (by omega) (by omega)]
            exact H.s9
          · exact st_0 (fun j hj => by unfold rR; rw [(F j hj).1]; rfl) (fun j hj => by unfold rT; rw [(F j hj).2.1]; rfl) (fun j hj => by unfold rV; rw [(F j hj).2.2.1]; rfl) zL zC
        · rw [if_neg (by rw [H.cnt]; exact fun z => c4 ((nI_ltI (b := 5) (by omega) (by decide)).mp z))]
          exact CM.ref H hB _ _
      · rw [if_neg (by rw [e]; exact fun z => c3 ((le0I (by omega)).mp z))]
        exact CM.ref H hB _ _
    · rw [if_neg c2]; exact CM.same H hB (by unfold Sm; decide)
theorem carry_o (H : RO a n (S 0)) (hB : a + 100 < 9000000) {w : Nat} (hw : w ≤ 9) (x y : Int32) : CM a n S (g_X8_carryOut S (nI w) x y) := by
  unfold g_X8_carryOut f_X8_carryOut_0 f_X8_carryOut_135 f_X8_carryOut_137
  have : w = 0 ∨ w = 1 ∨ w = 2 ∨ w = 3 ∨ w = 4 ∨ w = 5 ∨ w = 6 ∨ w = 7 ∨ w = 8 ∨ w = 9 := by omega
  rcases this with rfl | rfl | rfl | rfl | rfl | rfl | rfl | rfl | rfl | rfl
  · rw [if_pos (by decide)]; exact CM.same H hB (by unfold Sm; decide)
  · rw [if_neg (by decide), ck_t _ (by decide), ck_t _ (by decide), if_pos (by decide), bd2_i]; exact c_come H hB x
  · rw [if_neg (by decide), ck_t _ (by decide), ck_t _ (by decide), if_neg (by decide), if_pos (by decide), bd2_i]; exact c_ask H hB x
  · rw [if_neg (by decide), ck_t _ (by decide), ck_t _ (by decide), if_neg (by decide), if_neg (by decide), if_pos (by decide), bd2_i]; exact c_send H hB x
  · rw [if_neg (by decide), ck_t _ (by decide), ck_t _ (by decide), if_neg (by decide), if_neg (by decide), if_neg (by decide), if_pos (by decide), bd2_i]; exact c_shout H hB x y
  · rw [if_neg (by decide), ck_t _ (by decide), ck_t _ (by decide), if_neg (by decide), if_neg (by decide), if_neg (by decide), if_neg (by decide), if_pos (by decide), bd2_i]; exact c_wash H hB x
  · rw [if_neg (by decide), ck_t _ (by decide), ck_t _ (by decide), if_neg (by decide), if_neg (by decide), if_neg (by decide), if_neg (by decide), if_neg (by decide), if_pos (by decide), bd2_i]; exact c_back H hB x
  · rw [if_neg (by decide), ck_t _ (by decide), ck_t _ (by decide), if_neg (by decide), if_neg (by decide), if_neg (by decide), if_neg (by decide), if_neg (by decide), if_neg (by decide), if_pos (by decide), bd2_i]; exact c_rope H hB x y 1 (Or.inr rfl)
  · rw [if_neg (by decide), ck_t _ (by decide), ck_t _ (by decide), if_neg (by decide), if_neg (by decide), if_neg (by decide), if_neg (by decide), if_neg (by decide), if_neg (by decide), if_neg (by decide), if_pos (by decide), bd2_i]; exact c_rope H hB x y 0 (Or.inl rfl)
  · rw [if_neg (by decide), ck_t _ (by decide), ck_t _ (by decide), if_neg (by decide), if_neg (by decide), if_neg (by decide), if_neg (by decide), if_neg (by decide), if_neg (by decide), if_neg (by decide), if_neg (by decide)]
    by_cases c1 : x < 1
    · rw [if_pos c1]; exact CM.same H hB (by unfold Sm; decide)
    · rw [if_neg c1]
      by_cases c2 : (20 : Int32) < x
      · rw [if_pos c2]; exact CM.same H hB (by unfold Sm; decide)
      · rw [if_neg c2, bd2_i]
        obtain ⟨m, hm, rfl⟩ := nI_of (fun z => c1 (Int32.lt_trans z (by decide)))
        have hm2 : m ≤ 20 := Nat.le_of_not_lt fun z => c2 ((nI_ltI (a := 20) (by decide) hm).mpr z)
        obtain ⟨r, S', hr, e, P⟩ := beats_o H hm2 hB
        rw [e]
        exact CM.of P.1 P.2.1 P.2.2.2.1 (by omega) hB (by omega)
end P33
