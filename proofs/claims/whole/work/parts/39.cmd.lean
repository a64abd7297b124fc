/-! ===== the pure part: commands, 2 ===== -/
section CMD2
variable {a a' n n' k k' i j m m' x y g q M N : Nat} {S T S' T' : Mem} {r : Int32}
theorem c_beats (H : RW a n (S 0) (T 20)) (R : RS S T) (hB : a + 100 < 9000000) (x : Int32) : CM a S T (if x < 1 then some (-2, S) else if 20 < x then some (-2, S) else g_X4_passBeats S 0 x) (g_X9_beatsGo T x) := by
  unfold g_X9_beatsGo f_X9_beatsGo_0 g_X9_isIn f_X9_isIn_0 f_X9_isIn_14 f_X9_isIn_15
  by_cases c1 : x < 1
  · simp (decide := true) only [c1, ↓reduceIte, ck_0, bd1_s]
    exact CM.same H R
  · by_cases c2 : 20 < x
    · simp (decide := true) only [c1, c2, ↓reduceIte, ck_0, bd1_s]
      exact CM.same H R
    · simp (decide := true) only [c1, c2, ↓reduceIte, ck_1, bd1_s]
      obtain ⟨M, hM, rfl⟩ := nI_of2 (M := 20) (n := 20) (by decide) (fun z => c1 (Int32.lt_trans z (by decide))) (Int32.not_lt.mp c2)
      obtain ⟨a', S', T', h1, h2, b1, b2, P⟩ := beats_r H hM hB
      rw [b1, b2]
      exact CM.of P R h1 (by omega)
theorem RW.rope_set {C V C' V' : Nat → Int32} {v : Int32} (H : RW a n C V) (hij : i < j) (hj : j < 5) (hv : v = 0 ∨ v = 1) (hV : ∀ c, V' c = if c = 8 + 5 * i + j then v else V c) (hC : ∀ c, C' c = if c = 8 + 5 * i + j ∨ c = 8 + 5 * j + i then v else C c) : RW a n C' V' := by
  have h5 := H.le5
  have vo : ∀ c, (c < 8 ∨ 33 ≤ c) → V' c = V c := fun c hc => by rw [hV, if_neg (by omega)]
  have co : ∀ c, (c < 8 ∨ 33 ≤ c) → C' c = C c := fun c hc => by rw [hC, if_neg (by omega)]
  refine ⟨h5, H.aB, by rw [vo 1 (by omega)]; exact H.cnt, by rw [vo 2 (by omega)]; exact H.ask, ?_, ?_, ?_, ?_, ?_, ?_, ?_, ?_, ?_, ?_, ?_, ?_, ?_⟩
  · intro f hf; rw [vo f (by omega), co f (by omega)]; exact H.hd f hf
  · intro w hw f hf; rw [vo _ (by omega), co _ (by omega)]; exact H.fld w hw f hf
  · intro w hw; rw [vo _ (by omega)]; exact H.role w hw
  · intro w hw; rw [vo _ (by omega)]; exact H.term w hw
  · intro w hw
    rw [vo _ (by omega), vo _ (by omega)]
    refine (H.vote w hw).imp id (fun ⟨u, hu, h3, h4⟩ => ⟨u, hu, h3, fun huw => ?_⟩)
    rw [vo _ (by omega)]
    exact h4 huw
  · intro w hw; rw [vo _ (by omega)]; exact H.many w hw
  · intro w hw; rw [vo _ (by omega)]; exact H.agr w hw
  · intro w hw; rw [vo _ (by omega), vo _ (by omega)]; exact H.abd w hw
  · intro w hw m hm e l hl
    rw [vo _ (by omega)] at e
    rw [vo _ (by omega), vo _ (by omega), co _ (by omega), co _ (by omega)]
    exact H.lin w hw m hm e l hl
  · intro p q hpq hq
    obtain ⟨g1, g2, g3⟩ := H.ropC p q hpq hq
    rw [hV, hC, hC]
    by_cases c : p = i ∧ q = j
    · obtain ⟨rfl, rfl⟩ := c
      rw [if_pos rfl, if_pos (Or.inl rfl), if_pos (Or.inr rfl)]
      exact ⟨rfl, rfl, hv⟩
    · rw [if_neg (by omega), if_neg (by omega), if_neg (by omega)]
      exact ⟨g1, g2, g3⟩
  · intro p hp
    rw [hC, if_neg (by omega)]
    exact H.ropD p hp
  · intro p q hpq hp
    rw [hV, if_neg (by omega)]
    exact H.ropV p q hpq hp
  · intro w hw hw5 f hf
    rw [vo _ (by omega)]
    exact H.dead w hw hw5 f hf
theorem c_rope (H : RW a n (S 0) (T 20)) (R : RS S T) (x y v : Int32) (hv : v = 0 ∨ v = 1) : CM a S T (g_X8_changeRope S x y v) (g_X9_ropes T x y v) := by
  have h5 := H.le5
  unfold g_X8_changeRope f_X8_changeRope_0 f_X8_changeRope_22 g_X9_ropes f_X9_ropes_0 f_X9_ropes_22 f_X9_ropes_51 f_X9_ropes_64
  rcases has_r H x with ⟨i, hi, rfl, h1, h2⟩ | ⟨h1, h2⟩
  · rcases has_r H y with ⟨j, hj, rfl, h3, h4⟩ | ⟨h3, h4⟩
    · rw [areDr T h2 h4 (Or.inr rfl) (Or.inr rfl)]
      simp (decide := true) only [h1, h3, bd1_s, ↓reduceIte, ieq (show i < 2 ^ 31 by omega) (show j < 2 ^ 31 by omega)]
      by_cases c : i = j
      · simp (decide := true) only [c, ↓reduceIte, ref8, ref9_1, bd2_s]
        exact CM.ref H _ _
      · simp (decide := true) only [c, ↓reduceIte, ref9_0, bd2_s, rope9 (show i < 5 by omega) (show j < 5 by omega), bd1_s, cutr H (show i < 5 by omega) (show j < 5 by omega) c, ck_in (show 8 + 5 * min i j + max i j < 203 by omega) (show 203 < 2 ^ 31 by decide), nI_clamp (show 8 + 5 * min i j + max i j < 2 ^ 31 by omega), greatX]
        by_cases c2 : T 20 (8 + 5 * min i j + max i j) = v
        · simp (decide := true) only [c2, ↓reduceIte, ref8, ref9_1, bd2_s]
          exact CM.ref H _ _
        · simp (decide := true) only [c2, ↓reduceIte, ref9_0, bd2_s]
          have hvn : vp_nar .boolean v = v := by
            rcases hv with rfl | rfl <;> decide +kernel
          have hset : g_X4_setRope S 0 (nI i) (nI j) v = some (up (up S 0 (8 + (5 * i + j)) v) 0 (8 + (5 * j + i)) v) := by
            unfold g_X4_setRope f_X4_setRope_0
            rw [rix (by omega) (by omega), rix (by omega) (by omega), ck_in (by omega) (by decide), ck_in (by omega) (by decide), nI_clamp (by omega), nI_clamp (by omega), hvn]
          have H2 : RW a n ((up (up S 0 (8 + (5 * i + j)) v) 0 (8 + (5 * j + i)) v) 0) ((up T 20 (8 + 5 * min i j + max i j) v) 20) := by
            rcases Nat.lt_or_ge i j with hij | hij
            · refine H.rope_set hij (by omega) hv ?_ ?_
              · intro c
                rw [Nat.min_eq_left (by omega), Nat.max_eq_right (by omega)]
                simp only [up_at, true_and]
              · intro c
                simp only [up_at, true_and]
                by_cases e1 : c = 8 + (5 * j + i)
                · rw [if_pos e1, if_pos (by omega)]
                · by_cases e2 : c = 8 + (5 * i + j)
                  · rw [if_neg e1, if_pos e2, if_pos (by omega)]
                  · rw [if_neg e1, if_neg e2, if_neg (by omega)]
            · refine H.rope_set (i := j) (j := i) (by omega) (by omega) hv ?_ ?_
              · intro c
                rw [Nat.min_eq_right (by omega), Nat.max_eq_left (by omega)]
                simp only [up_at, true_and]
              · intro c
                simp only [up_at, true_and]
                by_cases e1 : c = 8 + (5 * j + i)
                · rw [if_pos e1, if_pos (by omega)]
                · by_cases e2 : c = 8 + (5 * i + j)
                  · rw [if_neg e1, if_pos e2, if_pos (by omega)]
                  · rw [if_neg e1, if_neg e2, if_neg (by omega)]
          obtain ⟨r, -, r1, r2⟩ := ropes_r H2
          simp only [hset, bd1_s, r1, r2]
          exact CM.of' H2 ((Fr.rf.up _ _).up _ _) (Fr.rf.up _ _) R (Nat.le_refl _) (by omega)
    · rw [areDr T h2 h4 (Or.inr rfl) (Or.inl rfl)]
      simp (decide := true) only [h1, h3, bd1_s, ↓reduceIte]
      exact CM.same H R
  · rcases has_r H y with ⟨j, hj, rfl, h3, h4⟩ | ⟨h3, h4⟩
    · rw [areDr T h2 h4 (Or.inl rfl) (Or.inr rfl)]
      simp (decide := true) only [h1, bd1_s, ↓reduceIte]
      exact CM.same H R
    · rw [areDr T h2 h4 (Or.inl rfl) (Or.inl rfl)]
      simp (decide := true) only [h1, bd1_s, ↓reduceIte]
      exact CM.same H R
theorem c_shout (H : RW a n (S 0) (T 20)) (R : RS S T) (x y : Int32) : CM a S T (g_X8_letShout S x y) (g_X9_shouts T x y) := by
  have h5 := H.le5
  unfold g_X8_letShout f_X8_letShout_0 f_X8_letShout_25 g_X9_shouts f_X9_shouts_0 f_X9_shouts_60 f_X9_shouts_51
  rcases has_r H x with ⟨i, hi, rfl, h1, h2⟩ | ⟨h1, h2⟩
  · obtain ⟨m, hm, e⟩ := H.many i hi
    rw [nol9 H hi]
    unfold g_X9_isIn f_X9_isIn_0 f_X9_isIn_14 f_X9_isIn_15
    by_cases c1 : y < 97
    · simp (decide := true) only [h1, h2, bd1_s, ↓reduceIte, c1, ck_0]
      exact CM.same H R
    · by_cases c2 : y ≤ 122
      · obtain ⟨ch, hch, rfl⟩ := nI_of2 (M := 122) (n := 122) (by decide) (fun z => c1 (Int32.lt_trans z (by decide))) c2
        have hch2 : 97 ≤ ch := by
          rcases Nat.lt_or_ge ch 97 with h | h
          · exact absurd ((nI_ltI (a := ch) (b := 97) (by omega) (by decide)).mpr h) c1
          · exact h
        have hnar : ∀ c, c < 128 → vp_nar .char (((nI c).toUInt32 % 65536).toInt32) = nI c := by decide +kernel
        simp (decide := true) only [h1, h2, bd1_s, ↓reduceIte, c1, c2, Int32.not_lt.mpr c2, ck_1, ck_in (show i < 5 by omega) (show 5 < 2 ^ 31 by decide), nI_clamp (show i < 2 ^ 31 by omega), H.fld i hi, H.c0 hi, of_5 T (show i < 5 by omega), e]
        rcases H.ab hi with hA | hA
        · simp (decide := true) only [hA, ↓reduceIte, bd2_s, ref8]
          exact CM.ref H _ _
        · by_cases c : T 20 (33 + 34 * i) = 2
          · simp (decide := true) only [hA, c, ↓reduceIte, bd2_s]
            rw [show (12 : Int32) = nI 12 from rfl, nlt_le (by omega) (by omega), ieq (by omega) (by omega)]
            by_cases c3 : m = 12
            · rw [if_pos (by omega), if_pos c3, ref9_1, ref8]
              exact CM.ref H _ _
            · rw [if_neg (by omega), if_neg c3, ref9_0, bd2_s, if_pos rfl, of_1 _ (by omega), bd1_s, sets_t _ _ (by omega) (by omega), bd1_s, sets_l _ _ (by omega) (by omega), bd1_s, nI_p1, sets_5 _ _ (by omega), bd1_s]
              unfold g_X2_write f_X2_write_0 f_X2_write_39
              simp (disch := omega) only [up_ne, up_same]
              simp (decide := true) only [H.fld i hi, H.hd 4, e, show (12 : Int32) = nI 12 from rfl, ile (show 12 < 2 ^ 31 by decide) (show m < 2 ^ 31 by omega), show ¬ 12 ≤ m by omega, ↓reduceIte, ck_in (show m < 12 by omega) (show 12 < 2 ^ 31 by decide), nI_clamp (show m < 2 ^ 31 by omega), hnar ch (by omega), bd1_s, nI_p1]
              simp (disch := omega) only [up_ne, up_same]
              refine CM.of' (n := n) ?_ ((((Fr.rf.up _ _).up _ _).up _ _).up _ _) ((((Fr.rf.up _ _).up _ _).up _ _).up _ _) R (Nat.le_refl _) (by omega)
              refine H.lines hi (m' := m + 1) ?_ ?_ ?_ ?_ (by omega) ?_ ?_ ?_
              · intro c h8 hc1 hc2
                constructor <;> simp (disch := omega) only [up_ne, up_same]
              · simp (disch := omega) only [up_ne, up_same]; exact H.cnt
              · simp (disch := omega) only [up_ne, up_same]; exact H.ask
              · intro f hf
                simp (disch := omega) only [up_ne, up_same]
                by_cases h4 : f = 4
                · subst h4
                  simp (disch := omega) only [up_ne, up_same]
                · simp (disch := omega) only [up_ne, up_same]
                  exact H.hd f hf
              · simp (disch := omega) only [up_ne, up_same]
              · simp (disch := omega) only [up_ne, up_same]
              · intro l hl
                by_cases hlm : l = m
                · subst hlm
                  simp (disch := omega) only [up_ne, up_same]
                  exact ⟨trivial, trivial, H.term i hi, ch, hch2, hch, rfl⟩
                · simp (disch := omega) only [up_ne, up_same]
                  exact H.lin i hi m hm e l (by omega)
          · simp (decide := true) only [hA, c, ↓reduceIte, ref8, bd2_s]
            exact CM.ref H _ _
      · simp (decide := true) only [h1, h2, bd1_s, ↓reduceIte, c1, c2, Int32.not_le.mp c2, ck_0]
        exact CM.same H R
  · simp (decide := true) only [h1, h2, bd1_s, ↓reduceIte]
    exact CM.same H R
theorem RW.add {C V C' V' : Nat → Int32} {p : Int32} (H : RW a n C V) (hn : n < 5) (hV : ∀ c, V' c = if c = 1 then nI (n + 1) else if c = 33 + 34 * n + 7 then 1 else if c = 33 + 34 * n + 4 then -1 else if c = 33 + 34 * n + 2 then p else V c) (hC : ∀ c, c ≠ 1 → (c < 33 + 34 * n ∨ 33 + 34 * n + 10 ≤ c) → C' c = C c) (h1 : C' 1 = nI (n + 1)) (he : ∀ f, f < 10 → C' (33 + 34 * n + f) = V' (33 + 34 * n + f)) : RW a (n + 1) C' V' := by
  have vo : ∀ c, c ≠ 1 → (c < 33 + 34 * n ∨ 33 + 34 * n + 10 ≤ c) → V' c = V c := fun c hc1 hc => by rw [hV, if_neg hc1, if_neg (by omega), if_neg (by omega), if_neg (by omega)]
  have vn : ∀ f, f < 10 → f ≠ 2 → f ≠ 4 → f ≠ 7 → V' (33 + 34 * n + f) = 0 := fun f hf f2 f4 f7 => by
    rw [hV, if_neg (by omega), if_neg (by omega), if_neg (by omega), if_neg (by omega)]
    exact H.dead n (Nat.le_refl _) hn f hf
  have vn0 : V' (33 + 34 * n) = 0 := vn 0 (by decide) (by decide) (by decide) (by decide)
  have v1 : V' 1 = nI (n + 1) := by rw [hV, if_pos rfl]
  have vn4 : V' (33 + 34 * n + 4) = -1 := by rw [hV, if_neg (by omega), if_neg (by omega), if_pos rfl]
  have vn7 : V' (33 + 34 * n + 7) = 1 := by rw [hV, if_neg (by omega), if_pos rfl]
  refine ⟨hn, H.aB, v1, by rw [vo 2 (by decide) (by omega)]; exact H.ask, ?_, ?_, ?_, ?_, ?_, ?_, ?_, ?_, ?_, ?_, ?_, ?_, ?_⟩
  · intro f hf
    by_cases c : f = 1
    · subst c; rw [h1, v1]
    · rw [vo f c (by omega), hC f c (by omega)]; exact H.hd f hf
  · intro i hi f hf
    by_cases c : i = n
    · subst c; exact he f hf
    · rw [vo _ (by omega) (by omega), hC _ (by omega) (by omega)]; exact H.fld i (by omega) f hf
  · intro i hi
    by_cases c : i = n
    · subst c; exact Or.inl vn0
    · rw [vo _ (by omega) (by omega)]; exact H.role i (by omega)
  · intro i hi
    by_cases c : i = n
    · subst c; exact ⟨0, Nat.zero_le _, vn 1 (by decide) (by decide) (by decide) (by decide)⟩
    · rw [vo _ (by omega) (by omega)]; exact H.term i (by omega)
  · intro i hi
    by_cases c : i = n
    · subst c; exact Or.inl vn4
    · rw [vo _ (by omega) (by omega), vo _ (by omega) (by omega)]
      refine (H.vote i (by omega)).imp id (fun ⟨w, hw, h3, h4⟩ => ⟨w, by omega, h3, fun hwi => ?_⟩)
      rw [vo _ (by omega) (by omega)]
      exact h4 hwi
  · intro i hi
    by_cases c : i = n
    · subst c; exact ⟨0, Nat.zero_le _, vn 5 (by decide) (by decide) (by decide) (by decide)⟩
    · rw [vo _ (by omega) (by omega)]; exact H.many i (by omega)
  · intro i hi
    by_cases c : i = n
    · subst c; exact ⟨0, Nat.zero_le _, vn 6 (by decide) (by decide) (by decide) (by decide)⟩
    · rw [vo _ (by omega) (by omega)]; exact H.agr i (by omega)
  · intro i hi
    by_cases c : i = n
    · subst c; exact Or.inr vn7
    · rw [vo _ (by omega) (by omega), vo _ (by omega) (by omega)]; exact H.abd i (by omega)
  · intro i hi m hm e l hl
    by_cases c : i = n
    · subst c
      rw [vn 5 (by decide) (by decide) (by decide) (by decide)] at e
      have : 0 = m := (nI_eq (a := 0) (by decide) (by omega)).mp e
      omega
    · rw [vo _ (by omega) (by omega)] at e
      rw [vo _ (by omega) (by omega), vo _ (by omega) (by omega), hC _ (by omega) (by omega), hC _ (by omega) (by omega)]
      exact H.lin i (by omega) m hm e l hl
  · intro p q hpq hq
    rw [vo _ (by omega) (by omega), hC _ (by omega) (by omega), hC _ (by omega) (by omega)]
    exact H.ropC p q hpq hq
  · intro p hp
    rw [hC _ (by omega) (by omega)]
    exact H.ropD p hp
  · intro p q hpq hp
    rw [vo _ (by omega) (by omega)]
    exact H.ropV p q hpq hp
  · intro i hi hi5 f hf
    rw [vo _ (by omega) (by omega)]
    exact H.dead i (by omega) hi5 f hf
theorem c_come (H : RW a n (S 0) (T 20)) (R : RS S T) (x : Int32) : CM a S T (g_X8_letCome S x) (g_X9_comes T x) := by
  have h5 := H.le5
  have hB := H.aB
  unfold g_X8_letCome f_X8_letCome_0 f_X8_letCome_11 g_X9_comes f_X9_comes_0 f_X9_comes_28 f_X9_comes_58 f_X9_comes_66 g_X9_isIn f_X9_isIn_0 f_X9_isIn_14 f_X9_isIn_15
  by_cases c1 : x < 1
  · simp (decide := true) only [c1, ↓reduceIte, ck_0, bd1_s]
    exact CM.same H R
  · by_cases c2 : x ≤ 9
    · simp (decide := true) only [c1, c2, Int32.not_lt.mpr c2, ↓reduceIte, ck_1, bd1_s, H.hd 2, H.cn, H.ask, le0I (show a < 2 ^ 31 by omega)]
      by_cases c3 : a = 0
      · subst c3
        simp (decide := true) only [↓reduceIte, ref9_0, bd2_s, H.cnt]
        rw [show (5 : Int32) = nI 5 from rfl, nlt_le (by omega) (by omega), ieq (by omega) (by omega)]
        by_cases c4 : n = 5
        · rw [if_pos (by omega), if_pos c4, ref9_1, ref8]
          exact CM.ref H _ _
        · rw [if_neg (by omega), if_neg c4, sets_2 _ _ (by omega), bd1_s, sets_4 _ _ (by omega), bd1_s, sets_7 _ _ (by omega), bd1_s]
          unfold g_X4_addDriver f_X4_addDriver_0 g_X2_begin f_X2_begin_0
          rw [H.cn, show (5 : Int32) = nI 5 from rfl, nlt_le (by omega) (by omega), if_neg (by omega), ck_in (by omega) (by decide), nI_clamp (by omega), bd1_s]
          simp (disch := omega) only [up_ne, up_same]
          rw [H.cn, H.cnt, nI_p1, nI_m1 (by omega), Nat.add_sub_cancel, bd2_s]
          refine CM.of' (a' := 0) (n := n + 1) ?_ ((((((((((Fr.rf.up _ _).up _ _).up _ _).up _ _).up _ _).up _ _).up _ _).up _ _).up _ _).up _ _ |>.up _ _) ((((Fr.rf.up _ _).up _ _).up _ _).up _ _) R (by omega) (by omega)
          refine H.add (p := x) (by omega) ?_ ?_ ?_ ?_
          · intro c
            simp only [up_at, true_and]
          · intro c hc1 hc
            simp (disch := omega) only [up_ne, up_same]
          · simp (disch := omega) only [up_ne, up_same]
          · intro f hf
            have z := H.dead n (Nat.le_refl _) (by omega)
            have : f = 0 ∨ f = 1 ∨ f = 2 ∨ f = 3 ∨ f = 4 ∨ f = 5 ∨ f = 6 ∨ f = 7 ∨ f = 8 ∨ f = 9 := by omega
            have z0 := z 0 (by decide)
            have z1 := z 1 (by decide)
            have z3 := z 3 (by decide)
            have z5 := z 5 (by decide)
            have z6 := z 6 (by decide)
            have z8 := z 8 (by decide)
            have z9 := z 9 (by decide)
            rcases this with rfl | rfl | rfl | rfl | rfl | rfl | rfl | rfl | rfl | rfl <;> simp only [Nat.add_zero] at z0 <;> simp (disch := omega) only [up_ne, up_same, Nat.add_zero, z0, z1, z3, z5, z6, z8, z9]
      · simp (decide := true) only [c3, ↓reduceIte, ref9_1, bd2_s, ref8]
        exact CM.ref H _ _
    · simp (decide := true) only [c1, c2, Int32.not_le.mp c2, ↓reduceIte, ck_0, bd1_s]
      exact CM.same H R
end CMD2
