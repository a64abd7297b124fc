/-! ===== the pure part: arguments read ===== -/
section ARG
variable {len pos k m m' : Nat} {S T : Mem} {two two' : Prop} {x y : Option (Int32 × Mem)}
/-- arguments of the command k read by both -/
def AR (len pos k m : Nat) (two : Prop) (S T : Mem) (x y : Option (Int32 × Mem)) : Prop := ∃ b pos' S' T', (b = (0 : Int32) ∨ b = 1) ∧ pos ≤ pos' ∧ pos' ≤ pos + m ∧ (b = 1 → pos' ≤ len) ∧ x = some (b, S') ∧ y = some (b, T') ∧ TP len pos' S' T' ∧ FP8 S S' ∧ FP9 T T' ∧ S' 11 8 = S 11 8 ∧ T' 28 16 = T 28 16 ∧ (∀ j, j < 3 * k + 1 → S' 12 j = S 12 j ∧ T' 26 j = T 26 j) ∧ (b = 1 → S' 12 (3 * k + 1) = T' 26 (3 * k + 1)) ∧ (two → b = 1 → S' 12 (3 * k + 2) = T' 26 (3 * k + 2))
theorem AR.wk (h : AR len pos k m two S T x y) (hm : m ≤ m') (ht : two' → two) : AR len pos k m' two' S T x y := by
  obtain ⟨b, pos', S', T', h1, h2, h3, h4, h5, h6, h7, h8, h9, h10, h11, h12, h13, h14⟩ := h
  exact ⟨b, pos', S', T', h1, h2, by omega, h4, h5, h6, h7, h8, h9, h10, h11, h12, h13, fun z => h14 (ht z)⟩
theorem ar_one (H : TP len pos S T) (hp : pos < 800) (hk : k < 12) : AR len pos k 1 False S T (bd2 (g_X6_takeFirst S k) (fun r U => ck (isb r) (some (r, U)))) (bd2 (g_X9_isDigit T (nI (3 * k + 1))) (fun r U => ck (isb r) (some (r, U)))) := by
  obtain ⟨b, pos', S', T', hb, p1, p2, p3, p4, e1, e2, K, F, f1, f2, f8, G, g2, g3, g4⟩ := first_r H (by omega) hk
  refine ⟨b, pos', S', T', hb, p1, p2, fun z => by have := p4 z; omega, ?_, ?_, K, F, G, f8, g3, fun j hj => ⟨f2 j (by omega), g2 j (by omega)⟩, f1, fun z => z.elim⟩
  · rw [e1, bd2_s, ck_t _ (isb_of hb)]
  · rw [e2, bd2_s, ck_t _ (isb_of hb)]
theorem ar_two (H : TP len pos S T) (hp : pos < 800) (hk : k < 12) : AR len pos k 2 True S T (bd2 (g_X6_takeFirst S k) (fun r U => (if r = 0 then f_X6_takeArguments_99 U else bd2 (g_X6_takeSecond U k) (fun r2 U2 => (if r2 = 0 then f_X6_takeArguments_99 U2 else f_X6_takeArguments_100 U2 (1 : Int32)))))) (bd2 (g_X9_isDigit T (nI (3 * k + 1))) (fun r U => (if r = 0 then f_X9_readsCommand_139 U else bd2 (g_X9_isDigit U (nI (3 * k + 2))) (fun r2 U2 => (if r2 = 0 then f_X9_readsCommand_139 U2 else f_X9_readsCommand_140 U2 (1 : Int32)))))) := by
  obtain ⟨b, pos', S', T', hb, p1, p2, p3, p4, e1, e2, K, F, f1, f2, f8, G, g2, g3, g4⟩ := first_r H (by omega) hk
  rw [e1, e2, bd2_s, bd2_s]
  rcases hb with rfl | rfl
  · rw [if_pos rfl, if_pos rfl]
    exact ⟨0, pos', S', T', Or.inl rfl, p1, by omega, fun z => absurd z (by decide), rfl, rfl, K, F, G, f8, g3, fun j hj => ⟨f2 j (by omega), g2 j (by omega)⟩, fun z => absurd z (by decide), fun _ z => absurd z (by decide)⟩
  · rw [if_neg (by decide), if_neg (by decide)]
    obtain ⟨b2, pos2, S2, T2, hb2, q1, q2, q3, q4, d1, d2, K2, F2, u1, u2, u8, G2, v2, v3, v4⟩ := second_r K (by omega) hk
    rw [d1, d2, bd2_s, bd2_s]
    rcases hb2 with rfl | rfl
    · rw [if_pos rfl, if_pos rfl]
      exact ⟨0, pos2, S2, T2, Or.inl rfl, by omega, by omega, fun z => absurd z (by decide), rfl, rfl, K2, F.tr F2, G.tr G2, u8.trans f8, v3.trans g3, fun j hj => ⟨(u2 j (by omega)).trans (f2 j (by omega)), (v2 j (by omega)).trans (g2 j (by omega))⟩, fun z => absurd z (by decide), fun _ z => absurd z (by decide)⟩
    · rw [if_neg (by decide), if_neg (by decide)]
      exact ⟨1, pos2, S2, T2, Or.inr rfl, by omega, by omega, fun _ => by have := q4 rfl; omega, rfl, rfl, K2, F.tr F2, G.tr G2, u8.trans f8, v3.trans g3, fun j hj => ⟨(u2 j (by omega)).trans (f2 j (by omega)), (v2 j (by omega)).trans (g2 j (by omega))⟩, fun _ => by rw [u2 _ (by omega), v2 _ (by omega)]; exact f1 rfl, fun _ _ => u1 rfl⟩
theorem ar_shout (H : TP len pos S T) (hp : pos < 800) (hk : k < 12) : AR len pos k 3 True S T (bd2 (g_X6_takeFirst S k) (fun r U => (if r = 0 then f_X6_takeArguments_77 U else bd2 (g_X6_takeSign U (32 : Int32)) (fun r2 U2 => (if r2 = 0 then f_X6_takeArguments_77 U2 else bd2 (g_X6_takeLetter U2 k) (fun r3 U3 => (if r3 = 0 then f_X6_takeArguments_77 U3 else f_X6_takeArguments_78 U3 (1 : Int32)))))))) (bd2 (g_X9_isDigit T (nI (3 * k + 1))) (fun r U => (if r = 0 then f_X9_readsCommand_113 U else bd2 (g_X9_isSign U (32 : Int32)) (fun r2 U2 => (if r2 = 0 then f_X9_readsCommand_113 U2 else bd2 (g_X9_isLetter U2 (nI (3 * k + 2))) (fun r3 U3 => (if r3 = 0 then f_X9_readsCommand_113 U3 else f_X9_readsCommand_114 U3 (1 : Int32)))))))) := by
  obtain ⟨b, pos', S', T', hb, p1, p2, p3, p4, e1, e2, K, F, f1, f2, f8, G, g2, g3, g4⟩ := first_r H (by omega) hk
  rw [e1, e2, bd2_s, bd2_s]
  rcases hb with rfl | rfl
  · rw [if_pos rfl, if_pos rfl]
    exact ⟨0, pos', S', T', Or.inl rfl, p1, by omega, fun z => absurd z (by decide), rfl, rfl, K, F, G, f8, g3, fun j hj => ⟨f2 j (by omega), g2 j (by omega)⟩, fun z => absurd z (by decide), fun _ z => absurd z (by decide)⟩
  · rw [if_neg (by decide), if_neg (by decide)]
    obtain ⟨b1, pos1, S1, T1, hb1, r1, r2, r3, r4, c1, c2, K1, F1, w12, w8, G1, x26, x16, x17⟩ := sign_r K (by omega) (s := 32) (by decide)
    rw [c1, c2, bd2_s, bd2_s]
    rcases hb1 with rfl | rfl
    · rw [if_pos rfl, if_pos rfl]
      exact ⟨0, pos1, S1, T1, Or.inl rfl, by omega, by omega, fun z => absurd z (by decide), rfl, rfl, K1, F.tr F1, G.tr G1, w8.trans f8, x16.trans g3, fun j hj => ⟨by rw [w12]; exact f2 j (by omega), by rw [x26]; exact g2 j (by omega)⟩, fun z => absurd z (by decide), fun _ z => absurd z (by decide)⟩
    · rw [if_neg (by decide), if_neg (by decide)]
      obtain ⟨b2, pos2, S2, T2, hb2, q1, q2, q3, q4, d1, d2, K2, F2, u1, u2, u8, G2, v2, v3, v4⟩ := let_r K1 (by omega) hk
      rw [d1, d2, bd2_s, bd2_s]
      rcases hb2 with rfl | rfl
      · rw [if_pos rfl, if_pos rfl]
        exact ⟨0, pos2, S2, T2, Or.inl rfl, by omega, by omega, fun z => absurd z (by decide), rfl, rfl, K2, (F.tr F1).tr F2, (G.tr G1).tr G2, (u8.trans w8).trans f8, (v3.trans x16).trans g3, fun j hj => ⟨by rw [u2 j (by omega), w12]; exact f2 j (by omega), by rw [v2 j (by omega), x26]; exact g2 j (by omega)⟩, fun z => absurd z (by decide), fun _ z => absurd z (by decide)⟩
      · rw [if_neg (by decide), if_neg (by decide)]
        exact ⟨1, pos2, S2, T2, Or.inr rfl, by omega, by omega, fun _ => by have := q4 rfl; omega, rfl, rfl, K2, (F.tr F1).tr F2, (G.tr G1).tr G2, (u8.trans w8).trans f8, (v3.trans x16).trans g3, fun j hj => ⟨by rw [u2 j (by omega), w12]; exact f2 j (by omega), by rw [v2 j (by omega), x26]; exact g2 j (by omega)⟩, fun _ => by rw [u2 _ (by omega), v2 _ (by omega), w12, x26]; exact f1 rfl, fun _ _ => u1 rfl⟩
theorem ar_beat (H : TP len pos S T) (hp : pos < 800) (hl : pos ≤ len) (hk : k < 12) : AR len pos k 2 False S T (bd2 (g_X6_takeSign (up S 12 (3 * k + 1) (1 : Int32)) (32 : Int32)) (fun r U => (if r = 0 then f_X6_takeArguments_123 U else bd2 (g_X6_takeFirst U k) (fun r2 U2 => (if r2 = 0 then f_X6_takeArguments_128 U2 (0 : Int32) else f_X6_takeArguments_123 U2))))) (bd2 (g_X9_isSign (up T 26 (3 * k + 1) (1 : Int32)) (32 : Int32)) (fun r U => (if r = 0 then f_X9_readsCommand_169 U else bd2 (g_X9_isDigit U (nI (3 * k + 1))) (fun r2 U2 => (if r2 = 0 then f_X9_readsCommand_174 U2 (0 : Int32) else f_X9_readsCommand_169 U2))))) := by
  have F0 : FP8 S (up S 12 (3 * k + 1) 1) := ⟨fun e h1 h2 => by rw [up_oth _ _ _ h2], fun j h1 h2 => by rw [up_ne _ _ (by omega)]⟩
  have G0 : FP9 T (up T 26 (3 * k + 1) 1) := ⟨fun e h1 h2 => by rw [up_oth _ _ _ h1], fun j hj => by rw [up_ne _ _ (by omega)]⟩
  have H0 : TP len pos (up S 12 (3 * k + 1) 1) (up T 26 (3 * k + 1) 1) := H.step (by omega) F0 G0 (by rw [up_ne _ _ (by omega)]; exact H.2.2.2.2.2.1) (by rw [up_ne _ _ (by omega)]; exact H.2.2.2.2.2.2)
  obtain ⟨b1, pos1, S1, T1, hb1, r1, r2, r3, r4, c1, c2, K1, F1, w12, w8, G1, x26, x16, x17⟩ := sign_r H0 (by omega) (s := 32) (by decide)
  rw [c1, c2, bd2_s, bd2_s]
  have j12 : ∀ j, j < 3 * k + 1 → S1 12 j = S 12 j ∧ T1 26 j = T 26 j := fun j hj => ⟨by rw [w12, up_ne _ _ (by omega)], by rw [x26, up_ne _ _ (by omega)]⟩
  have k8 : S1 11 8 = S 11 8 := by rw [w8, up_ne _ _ (by omega)]
  have k16 : T1 28 16 = T 28 16 := by rw [x16, up_ne _ _ (by omega)]
  rcases hb1 with rfl | rfl
  · rw [if_pos rfl, if_pos rfl]
    have := r3 rfl
    exact ⟨1, pos1, S1, T1, Or.inr rfl, by omega, by omega, fun _ => by omega, rfl, rfl, K1, F0.tr F1, G0.tr G1, k8, k16, j12, fun _ => by rw [w12, x26, up_same, up_same], fun z => z.elim⟩
  · rw [if_neg (by decide), if_neg (by decide)]
    obtain ⟨b, pos', S', T', hb, p1, p2, p3, p4, e1, e2, K, F, f1, f2, f8, G, g2, g3, g4⟩ := first_r K1 (by omega) hk
    rw [e1, e2, bd2_s, bd2_s]
    have j12' : ∀ j, j < 3 * k + 1 → S' 12 j = S 12 j ∧ T' 26 j = T 26 j := fun j hj => ⟨(f2 j (by omega)).trans (j12 j hj).1, (g2 j (by omega)).trans (j12 j hj).2⟩
    rcases hb with rfl | rfl
    · rw [if_pos rfl, if_pos rfl]
      exact ⟨0, pos', S', T', Or.inl rfl, by omega, by omega, fun z => absurd z (by decide), rfl, rfl, K, (F0.tr F1).tr F, (G0.tr G1).tr G, f8.trans k8, g3.trans k16, j12', fun z => absurd z (by decide), fun z => z.elim⟩
    · rw [if_neg (by decide), if_neg (by decide)]
      exact ⟨1, pos', S', T', Or.inr rfl, by omega, by omega, fun _ => by have := p4 rfl; omega, rfl, rfl, K, (F0.tr F1).tr F, (G0.tr G1).tr G, f8.trans k8, g3.trans k16, j12', f1, fun z => z.elim⟩
end ARG
