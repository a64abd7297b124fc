/-! ===== the pure part: a command read, whole ===== -/
section RCM2
variable {len pos k j : Nat} {S T S' T' : Mem}
/-- the command k is the same on both sides -/
def CK (k : Nat) (S T : Mem) : Prop := ∃ t, t < 9 ∧ S 12 (3 * k) = nI (t + 1) ∧ T 26 (3 * k) = nI t ∧ S 12 (3 * k + 1) = T 26 (3 * k + 1) ∧ ((t = 3 ∨ t = 6 ∨ t = 7) → S 12 (3 * k + 2) = T 26 (3 * k + 2))
theorem CK.congr (h : CK k S T) (h1 : ∀ j, j < 3 * k + 3 → S' 12 j = S 12 j ∧ T' 26 j = T 26 j) : CK k S' T' := by
  obtain ⟨t, h2, h3, h4, h5, h6⟩ := h
  refine ⟨t, h2, ?_, ?_, ?_, fun z => ?_⟩
  · rw [(h1 _ (by omega)).1]; exact h3
  · rw [(h1 _ (by omega)).2]; exact h4
  · rw [(h1 _ (by omega)).1, (h1 _ (by omega)).2]; exact h5
  · rw [(h1 _ (by omega)).1, (h1 _ (by omega)).2]; exact h6 z
theorem command_r (H : TP len pos S T) (hk : 5 * k ≤ pos) (hp : pos < 700) (h8 : S 11 8 = nI k) (h16 : T 28 16 = nI k) : ∃ b pos' S' T', (b = (0 : Int32) ∨ b = 1) ∧ pos ≤ pos' ∧ pos' ≤ pos + 10 ∧ g_X6_takeCommand S = some (b, S') ∧ g_X9_readsCommand T = some (b, T') ∧ TP len pos' S' T' ∧ FP8 S S' ∧ FP9 T T' ∧ (b = 1 → S' 11 8 = nI (k + 1) ∧ T' 28 16 = nI (k + 1) ∧ pos + 4 ≤ pos' ∧ pos' ≤ len ∧ CK k S' T') ∧ ∀ j, j < 3 * k → S' 12 j = S 12 j ∧ T' 26 j = T 26 j := by
  have h60 := H.1
  obtain ⟨w, pos1, S1, T1, p1, p2, e8, K, F, f12, f8, G, g26, g16, hw⟩ := word_r H (by omega)
  unfold g_X6_takeCommand f_X6_takeCommand_0 f_X6_takeCommand_21
  rw [e8, bd2_s]
  rcases hw with ⟨rfl, e9⟩ | ⟨t, ht, rfl, e9, g17, p3, p4⟩
  · rw [if_pos (show nI 0 = 0 from rfl)]
    refine ⟨0, pos1, S1, T1, Or.inl rfl, p1, by omega, rfl, ?_, K, F, G, fun z => absurd z (by decide), fun j _ => ⟨by rw [f12], by rw [g26]⟩⟩
    unfold g_X9_readsCommand f_X9_readsCommand_0
    rw [e9, bd2_s, if_pos rfl]
  · have hk12 : k < 12 := by omega
    rw [rd9 e9 hk12 (g16.trans h16) g17, if_neg (nI_ne0 (by omega) (by omega)), f8, h8, show (12 : Int32) = nI 12 from rfl, nlt_le (by omega) (by omega), if_neg (by omega), ck_in hk12 (by decide), nI_clamp (by omega)]
    have F2 : FP8 S1 (up (up S1 12 (3 * k) (nI (t + 1))) 12 (3 * k + 2) 0) := ⟨fun e h1 h2 => by rw [up_oth _ _ _ h2, up_oth _ _ _ h2], fun j h1 h2 => by rw [up_ne _ _ (by omega), up_ne _ _ (by omega)]⟩
    have G2 : FP9 T1 (up (up T1 26 (3 * k) (nI t)) 28 16 (nI (k + 1))) := ⟨fun e h1 h2 => by rw [up_oth _ _ _ h2, up_oth _ _ _ h1], fun j hj => by rw [up_ne _ _ (by omega), up_ne _ _ (by omega)]⟩
    have K2 : TP len pos1 (up (up S1 12 (3 * k) (nI (t + 1))) 12 (3 * k + 2) 0) (up (up T1 26 (3 * k) (nI t)) 28 16 (nI (k + 1))) := K.step (by omega) F2 G2 (by rw [up_ne _ _ (by omega), up_ne _ _ (by omega)]; exact K.2.2.2.2.2.1) (by rw [up_ne _ _ (by omega), up_ne _ _ (by omega)]; exact K.2.2.2.2.2.2)
    obtain ⟨b, pos2, S3, T3, hb, q1, q2, q3, c1, c2, K3, F3, G3, u8, u16, u12, v1, v2⟩ := args_r K2 (by omega) (by omega) hk12 ht (by rw [up_ne _ _ (by omega), up_same])
    have j12 : ∀ j, j < 3 * k → S3 12 j = S 12 j ∧ T3 26 j = T 26 j := fun j hj => ⟨by rw [(u12 j (by omega)).1, up_ne _ _ (by omega), up_ne _ _ (by omega), f12], by rw [(u12 j (by omega)).2, up_ne _ _ (by omega), up_ne _ _ (by omega), g26]⟩
    have w1 : S3 12 (3 * k) = nI (t + 1) := by rw [(u12 _ (by omega)).1, up_ne _ _ (by omega), up_same]
    have w2 : T3 26 (3 * k) = nI t := by rw [(u12 _ (by omega)).2, up_ne _ _ (by omega), up_same]
    have e3 : S3 11 8 = nI k := by rw [u8, up_ne _ _ (by omega), up_ne _ _ (by omega), f8, h8]
    have e4 : T3 28 16 = nI (k + 1) := by rw [u16, up_same]
    rw [c1, bd2_s]
    rcases hb with rfl | rfl
    · rw [if_pos rfl]
      exact ⟨0, pos2, S3, T3, Or.inl rfl, by omega, by omega, rfl, c2, K3, (F.tr F2).tr F3, (G.tr G2).tr G3, fun z => absurd z (by decide), j12⟩
    · rw [if_neg (by decide), e3, nI_p1]
      have F4 : FP8 S3 (up S3 11 8 (nI (k + 1))) := ⟨fun e h1 h2 => by rw [up_oth _ _ _ h1], fun j h1 h2 => by rw [up_ne _ _ (by omega)]⟩
      have G4 : FP9 T3 T3 := ⟨fun _ _ _ => rfl, fun _ _ => rfl⟩
      have o12 : up S3 11 8 (nI (k + 1)) 12 = S3 12 := up_oth _ _ _ (by decide)
      refine ⟨1, pos2, up S3 11 8 (nI (k + 1)), T3, Or.inr rfl, by omega, by omega, rfl, c2, K3.step K3.2.2.2.2.1 F4 G4 (by rw [up_ne _ _ (by omega)]; exact K3.2.2.2.2.2.1) K3.2.2.2.2.2.2, ((F.tr F2).tr F3).tr F4, (G.tr G2).tr G3, fun _ => ⟨up_same _ _ _ _, e4, by omega, q3 rfl, t, ht, ?_, w2, ?_, fun z => ?_⟩, fun j hj => ?_⟩
      · rw [o12]; exact w1
      · rw [o12]; exact v1 rfl
      · rw [o12]; exact v2 z rfl
      · rw [o12]; exact j12 j hj
end RCM2
