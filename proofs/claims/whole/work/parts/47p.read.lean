/-! ===== the pure part: the whole text read ===== -/
section PRS
variable {len pos k : Nat} {S T : Mem}
theorem pz {F i : Nat} : lp (fun ih17 s9 => f_X6_parse_17_b ih17 s9.1 s9.2.1 s9.2.2) (F + 1) (S, 0, nI i) = some ((0 : Int32), S) := by
  show f_X6_parse_17_b _ S 0 (nI i) = _
  unfold f_X6_parse_17_b f_X6_parse_69
  rw [if_pos (show (0 : Int32) = 0 from rfl), ite_self]
  rfl
theorem rz {G : Nat} : lp (fun ih15 s9 => f_X9_isText_15_b ih15 s9.1 s9.2) (G + 1) (T, 0) = some ((0 : Int32), T) := by
  show f_X9_isText_15_b _ T 0 = _
  unfold f_X9_isText_15_b f_X9_isText_36 f_X9_isText_55 f_X9_isText_56
  rw [if_pos rfl, if_pos rfl]
  rfl
theorem body8 (L : (Mem × Int32 × Int32) → Option (Int32 × Mem)) (S : Mem) (x : Int32) : f_X6_parse_17_b L S 1 x = (if (12 : Int32) ≤ x then some (1, S) else if S (13 + 2 * 0) 0 ≤ S 11 9 then some (1, S) else bd2 (g_X6_takeSign S 59) (fun r6 S6 => (if r6 = 0 then L (S6, 0, x + 1) else bd2 (g_X6_takeCommand S6) (fun r8 S8 => (if r8 = 0 then L (S8, 0, x + 1) else L (S8, 1, x + 1)))))) := by
  unfold f_X6_parse_17_b
  rw [if_neg (show ¬ (1 : Int32) = 0 by decide)]
  rfl
theorem body9 (L : (Mem × Int32) → Option (Int32 × Mem)) (T : Mem) : f_X9_isText_15_b L T 1 = bd2 (g_X9_isSign T 59) (fun r6 S6 => (if r6 = 0 then f_X9_isText_36 S6 1 else bd2 (g_X9_readsCommand S6) (fun r8 S8 => L (S8, r8)))) := by
  unfold f_X9_isText_15_b
  rw [if_neg (show ¬ (1 : Int32) = 0 by decide)]
theorem parse_loop : ∀ d i F G S T pos, i + d = 12 → d + 1 < F → d + 1 < G → TP len pos S T → pos ≤ len → 5 * (i + 1) ≤ pos + 1 → S 11 8 = nI (i + 1) → T 28 16 = nI (i + 1) → (∀ j, j < i + 1 → CK j S T) → ∃ b pos' S' T', (b = (0 : Int32) ∨ b = 1) ∧ lp (fun ih17 s9 => f_X6_parse_17_b ih17 s9.1 s9.2.1 s9.2.2) F (S, 1, nI i) = some (b, S') ∧ lp (fun ih15 s9 => f_X9_isText_15_b ih15 s9.1 s9.2) G (T, 1) = some (b, T') ∧ TP len pos' S' T' ∧ FP8 S S' ∧ FP9 T T' ∧ (b = 1 → ∃ k, k ≤ 12 ∧ S' 11 8 = nI k ∧ T' 28 16 = nI k ∧ ∀ j, j < k → CK j S' T') := by
  intro d
  induction d with
  | zero =>
    intro i F G S T pos hi hF hG H hl h5
    have := H.1
    omega
  | succ d ih =>
    intro i F G S T pos hi hF hG H hl h5 h8 h16 hC
    have h60 := H.1
    obtain ⟨F, rfl⟩ : ∃ F', F = F' + 1 + 1 := ⟨F - 2, by omega⟩
    obtain ⟨G, rfl⟩ : ∃ G', G = G' + 1 + 1 := ⟨G - 2, by omega⟩
    have hc : lp (fun ih17 s9 => f_X6_parse_17_b ih17 s9.1 s9.2.1 s9.2.2) (F + 1 + 1) (S, 1, nI i) = f_X6_parse_17_b (lp (fun ih17 s9 => f_X6_parse_17_b ih17 s9.1 s9.2.1 s9.2.2) (F + 1)) S 1 (nI i) := rfl
    have hr : lp (fun ih15 s9 => f_X9_isText_15_b ih15 s9.1 s9.2) (G + 1 + 1) (T, 1) = f_X9_isText_15_b (lp (fun ih15 s9 => f_X9_isText_15_b ih15 s9.1 s9.2) (G + 1)) T 1 := rfl
    rw [hc, hr, body8, body9, show (12 : Int32) = nI 12 from rfl, ile (by omega) (by omega), if_neg (by omega), H.2.1.1, H.2.2.2.2.2.1, ile (by omega) (by omega), nI_p1]
    obtain ⟨b1, pos1, S1, T1, hb1, r1, r2, r3, r4, c1, c2, K1, F1, w12, w8, G1, x26, x16, x17⟩ := sign_r H (by omega) (s := 59) (by decide)
    rw [c2, bd2_s]
    by_cases cl : len ≤ pos
    · rw [if_pos cl]
      rcases hb1 with rfl | rfl
      · have e15 : T1 28 15 = nI pos := by rw [K1.2.2.2.2.2.2, r3 rfl]
        have F0 : FP8 S S := ⟨fun _ _ _ => rfl, fun _ _ _ => rfl⟩
        rw [if_pos rfl]
        unfold f_X9_isText_36 f_X9_isText_56
        rw [if_neg (by decide), e15, K1.2.2.1, if_pos (show nI pos = nI len by rw [show pos = len by omega])]
        exact ⟨1, pos, S, T1, Or.inr rfl, rfl, rfl, H.step H.2.2.2.2.1 F0 G1 H.2.2.2.2.2.1 e15, F0, G1, fun _ => ⟨i + 1, by omega, h8, x16.trans h16, fun j hj => (hC j hj).congr (fun l _ => ⟨rfl, by rw [x26]⟩)⟩⟩
      · have := r4 rfl
        omega
    · rw [if_neg cl, c1, bd2_s]
      rcases hb1 with rfl | rfl
      · have e15 : T1 28 15 = nI pos := by rw [K1.2.2.2.2.2.2, r3 rfl]
        rw [if_pos rfl, if_pos rfl, pz]
        unfold f_X9_isText_36 f_X9_isText_55 f_X9_isText_56
        rw [if_neg (by decide), e15, K1.2.2.1, if_neg (fun z => by have := (nI_eq (by omega) (by omega)).mp z; omega)]
        exact ⟨0, pos1, S1, T1, Or.inl rfl, rfl, rfl, K1, F1, G1, fun z => absurd z (by decide)⟩
      · have p1 := r4 rfl
        rw [if_neg (by decide), if_neg (by decide)]
        obtain ⟨b, pos2, S2, T2, hb, q1, q2, d1, d2, K2, F2, G2, hd, j12⟩ := command_r (k := i + 1) K1 (by omega) (by omega) (w8.trans h8) (x16.trans h16)
        rw [d1, d2, bd2_s, bd2_s]
        rcases hb with rfl | rfl
        · rw [if_pos rfl, pz, rz]
          exact ⟨0, pos2, S2, T2, Or.inl rfl, rfl, rfl, K2, F1.tr F2, G1.tr G2, fun z => absurd z (by decide)⟩
        · obtain ⟨u1, u2, u3, u4, u5⟩ := hd rfl
          rw [if_neg (by decide)]
          obtain ⟨b, pos3, S3, T3, hb, v1, v2, K3, F3, G3, v3⟩ := ih (i + 1) (F + 1) (G + 1) S2 T2 pos2 (by omega) (by omega) (by omega) K2 u4 (by omega) u1 u2 (fun j hj => by
            rcases Nat.lt_or_ge j (i + 1) with h | h
            · exact (hC j h).congr (fun l hl => ⟨by rw [(j12 l (by omega)).1, w12], by rw [(j12 l (by omega)).2, x26]⟩)
            · rw [show j = i + 1 by omega]; exact u5)
          exact ⟨b, pos3, S3, T3, hb, v1, v2, K3, (F1.tr F2).tr F3, (G1.tr G2).tr G3, v3⟩
theorem parse_r (H : BX 0 25 14 60 S T) : ∃ len b pos' S' T', (b = (0 : Int32) ∨ b = 1) ∧ g_X6_parse S = some (b, S') ∧ g_X9_isText T = some (b, T') ∧ TP len pos' S' T' ∧ FP8 S S' ∧ FP9 T T' ∧ (b = 1 → ∃ k, k ≤ 12 ∧ S' 11 8 = nI k ∧ T' 28 16 = nI k ∧ ∀ j, j < k → CK j S' T') := by
  obtain ⟨len, l1, l2, l3, l7⟩ := H.bo
  have F0 : FP8 S (up (up S 11 8 0) 11 9 0) := ⟨fun e h1 h2 => by rw [up_oth _ _ _ h1, up_oth _ _ _ h1], fun j h1 h2 => by rw [up_ne _ _ (by omega), up_ne _ _ (by omega)]⟩
  have G0 : FP9 T (up (up T 28 15 0) 28 16 0) := ⟨fun e h1 h2 => by rw [up_oth _ _ _ h2, up_oth _ _ _ h2], fun j hj => by rw [up_ne _ _ (by omega), up_ne _ _ (by omega)]⟩
  have e13 : up (up S 11 8 0) 11 9 0 (13 + 2 * 0) = S (13 + 2 * 0) := F0.1 13 (by decide) (by decide)
  have e14 : up (up S 11 8 0) 11 9 0 (14 + 2 * 0) = S (14 + 2 * 0) := F0.1 14 (by decide) (by decide)
  have K0 : TP len 0 (up (up S 11 8 0) 11 9 0) (up (up T 28 15 0) 28 16 0) := by
    have hc : capN (up (up S 11 8 0) 11 9 0) (13 + 2 * 0) = capN S (13 + 2 * 0) := by unfold capN; rw [e13]
    obtain ⟨a1, a2, a3, a4⟩ := l2
    refine ⟨l1, ⟨by rw [e13]; exact a1, by rw [hc]; exact a2, by rw [hc]; exact a3, ?_⟩, by rw [G0.2 14 (by decide)]; exact l3, ?_, by omega, by rw [up_same]; rfl, by rw [up_ne _ _ (by omega), up_same]; rfl⟩
    · unfold fitB
      rw [hc, e14]
      exact a4
    · intro i hi
      unfold sbch
      rw [e14, G0.1 25 (by decide) (by decide)]
      exact l7 i hi
  obtain ⟨b, pos2, S2, T2, hb, q1, q2, d1, d2, K2, F2, G2, hd, j12⟩ := command_r (k := 0) K0 (by omega) (by omega) (by rw [up_ne _ _ (by omega), up_same]; rfl) (by rw [up_same]; rfl)
  unfold g_X6_parse f_X6_parse_0 f_X6_parse_17 g_X9_isText f_X9_isText_0 f_X9_isText_15
  rw [d1, d2, bd2_s, bd2_s]
  rcases hb with rfl | rfl
  · exact ⟨len, 0, pos2, S2, T2, Or.inl rfl, pz (F := 1999) (i := 0), rz (G := 1999), K2, F0.tr F2, G0.tr G2, fun z => absurd z (by decide)⟩
  · obtain ⟨u1, u2, u3, u4, u5⟩ := hd rfl
    obtain ⟨b, pos3, S3, T3, hb, v1, v2, K3, F3, G3, v3⟩ := parse_loop 12 0 2000 2000 S2 T2 pos2 (by omega) (by omega) (by omega) K2 u4 (by omega) u1 u2 (fun j hj => by rw [show j = 0 by omega]; exact u5)
    exact ⟨len, b, pos3, S3, T3, hb, v1, v2, K3, (F0.tr F2).tr F3, (G0.tr G2).tr G3, v3⟩
end PRS
