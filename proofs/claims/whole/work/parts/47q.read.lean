/-! ===== the pure part: the commands carried out ===== -/
section RDL
variable {a n i k : Nat} {S T : Mem}
theorem does_n (hi : i < 12) : g_X9_does T ((3 : Int32) * nI i) = (if T 26 (3 * i) = (0 : Int32) then g_X9_comes T (T 26 (3 * i + 1)) else if T 26 (3 * i) = (1 : Int32) then g_X9_asks T (T 26 (3 * i + 1)) else if T 26 (3 * i) = (2 : Int32) then g_X9_sends T (T 26 (3 * i + 1)) else if T 26 (3 * i) = (3 : Int32) then g_X9_shouts T (T 26 (3 * i + 1)) (T 26 (3 * i + 2)) else if T 26 (3 * i) = (4 : Int32) then g_X9_washes T (T 26 (3 * i + 1)) else if T 26 (3 * i) = (5 : Int32) then g_X9_comesBack T (T 26 (3 * i + 1)) else if T 26 (3 * i) = (6 : Int32) then g_X9_ropes T (T 26 (3 * i + 1)) (T 26 (3 * i + 2)) 1 else if T 26 (3 * i) = (7 : Int32) then g_X9_ropes T (T 26 (3 * i + 1)) (T 26 (3 * i + 2)) 0 else g_X9_beatsGo T (T 26 (3 * i + 1))) := by
  have a1 : (3 : Int32) * nI i = nI (3 * i) := pk_mul 3 i
  unfold g_X9_does f_X9_does_0
  simp only [a1, nI_p1, nI_p2, ck_in (show 3 * i < 39 by omega) (show 39 < 2 ^ 31 by decide), ck_in (show 3 * i + 1 < 39 by omega) (show 39 < 2 ^ 31 by decide), ck_in (show 3 * i + 2 < 39 by omega) (show 39 < 2 ^ 31 by decide), nI_clamp (show 3 * i < 2 ^ 31 by omega), nI_clamp (show 3 * i + 1 < 2 ^ 31 by omega), nI_clamp (show 3 * i + 2 < 2 ^ 31 by omega), bd2_id]
theorem cmd_r (H : RW a n (S 0) (T 20)) (R : RS S T) (hB : a + 100 < 9000000) (hi : i < 12) (C : CK i S T) : CM a S T (g_X8_carryOut S (S 12 (3 * i)) (S 12 (3 * i + 1)) (S 12 (3 * i + 2))) (g_X9_does T ((3 : Int32) * nI i)) := by
  obtain ⟨t, ht, e1, e2, e3, e4⟩ := C
  rw [does_n hi, e1, e2, ← e3]
  have cs : t = 0 ∨ t = 1 ∨ t = 2 ∨ t = 3 ∨ t = 4 ∨ t = 5 ∨ t = 6 ∨ t = 7 ∨ t = 8 := by omega
  rcases cs with rfl | rfl | rfl | rfl | rfl | rfl | rfl | rfl | rfl
  · rw [if_pos (by decide), show nI (0 + 1) = 1 from rfl, carry1]
    exact c_come H R _
  · rw [if_neg (by decide), if_pos (by decide), show nI (1 + 1) = 2 from rfl, carry2]
    exact c_ask H R hB _
  · rw [if_neg (by decide), if_neg (by decide), if_pos (by decide), show nI (2 + 1) = 3 from rfl, carry3]
    exact c_send H R _
  · rw [if_neg (by decide), if_neg (by decide), if_neg (by decide), if_pos (by decide), show nI (3 + 1) = 4 from rfl, carry4, ← e4 (Or.inl rfl)]
    exact c_shout H R _ _
  · rw [if_neg (by decide), if_neg (by decide), if_neg (by decide), if_neg (by decide), if_pos (by decide), show nI (4 + 1) = 5 from rfl, carry5]
    exact c_wash H R _
  · rw [if_neg (by decide), if_neg (by decide), if_neg (by decide), if_neg (by decide), if_neg (by decide), if_pos (by decide), show nI (5 + 1) = 6 from rfl, carry6]
    exact c_back H R _
  · rw [if_neg (by decide), if_neg (by decide), if_neg (by decide), if_neg (by decide), if_neg (by decide), if_neg (by decide), if_pos (by decide), show nI (6 + 1) = 7 from rfl, carry7, ← e4 (Or.inr (Or.inl rfl))]
    exact c_rope H R _ _ 1 (Or.inr rfl)
  · rw [if_neg (by decide), if_neg (by decide), if_neg (by decide), if_neg (by decide), if_neg (by decide), if_neg (by decide), if_neg (by decide), if_pos (by decide), show nI (7 + 1) = 8 from rfl, carry8, ← e4 (Or.inr (Or.inr rfl))]
    exact c_rope H R _ _ 0 (Or.inl rfl)
  · rw [if_neg (by decide), if_neg (by decide), if_neg (by decide), if_neg (by decide), if_neg (by decide), if_neg (by decide), if_neg (by decide), if_neg (by decide), show nI (8 + 1) = 9 from rfl, carry9]
    exact c_beats H R hB _
/-- all commands done, or one that answers less than 0 -/
theorem read_loop (hk : k ≤ 12) : ∀ d i F G S T a n, i + d = k → d < F → d < G → RW a n (S 0) (T 20) → RS S T → a + 100 * d + 100 < 9000000 → S 11 8 = nI k → T 28 16 = nI k → (∀ j, j < k → CK j S T) →
    ∃ S' T' a' n', a' ≤ a + 100 * d ∧ RW a' n' (S' 0) (T' 20) ∧ RS S' T' ∧ FC S S' ∧ FT T T' ∧
      ((lp (fun ih46 s9 => f_X8_read_46_b ih46 s9.1 s9.2) F (S, nI i) = bd1 (g_X3_remember S' 1) (fun S6 => some ((S6 11 8), S6)) ∧ lp (fun ih31 s9 => f_X9_read_31_b ih31 s9.1 s9.2) G (T, nI i) = bd2 (g_X9_ends T' (nI k)) (fun r5 S5 => some (r5, S5)))
      ∨ ∃ r x, lp (fun ih46 s9 => f_X8_read_46_b ih46 s9.1 s9.2) F (S, nI i) = bd1 (g_X4_copyFrom S' 0 1) (fun S10 => bd2 (g_X8_refuseCommand S10 x r) (fun r11 S11 => some (r11, S11))) ∧ lp (fun ih31 s9 => f_X9_read_31_b ih31 s9.1 s9.2) G (T, nI i) = f_X9_read_63 T' x (if r = -3 then 1 else 0)) := by
  intro d
  induction d with
  | zero =>
    intro i F G S T a n hi hF hG H R hB h8 h16 hC
    obtain ⟨F, rfl⟩ : ∃ F', F = F' + 1 := ⟨F - 1, by omega⟩
    obtain ⟨G, rfl⟩ : ∃ G', G = G' + 1 := ⟨G - 1, by omega⟩
    refine ⟨S, T, a, n, by omega, H, R, ⟨fun _ _ _ => rfl, fun _ _ => rfl⟩, ⟨fun _ _ _ => rfl, fun _ _ => rfl⟩, Or.inl ⟨?_, ?_⟩⟩
    · show f_X8_read_46_b _ S (nI i) = _
      unfold f_X8_read_46_b
      rw [h8, ile (by omega) (by omega), if_pos (by omega)]
    · show f_X9_read_31_b _ T (nI i) = _
      unfold f_X9_read_31_b
      rw [h16, ile (by omega) (by omega), if_pos (by omega)]
  | succ d ih =>
    intro i F G S T a n hi hF hG H R hB h8 h16 hC
    obtain ⟨F, rfl⟩ : ∃ F', F = F' + 1 := ⟨F - 1, by omega⟩
    obtain ⟨G, rfl⟩ : ∃ G', G = G' + 1 := ⟨G - 1, by omega⟩
    obtain ⟨r, S1, T1, a1, n1, c1, c2, g1, g2, H1, R1, F1, G1⟩ := cmd_r H R (by omega) (by omega) (hC i (by omega))
    have hc : lp (fun ih46 s9 => f_X8_read_46_b ih46 s9.1 s9.2) (F + 1) (S, nI i) = if 0 ≤ r then lp (fun ih46 s9 => f_X8_read_46_b ih46 s9.1 s9.2) F (S1, nI (i + 1)) else bd1 (g_X4_copyFrom S1 0 1) (fun S10 => bd2 (g_X8_refuseCommand S10 (nI i) r) (fun r11 S11 => some (r11, S11))) := by
      show f_X8_read_46_b _ S (nI i) = _
      unfold f_X8_read_46_b
      rw [h8, ile (by omega) (by omega), if_neg (by omega), ck_in (by omega) (by decide), nI_clamp (by omega), c1, bd2_s, nI_p1]
    have hr : lp (fun ih31 s9 => f_X9_read_31_b ih31 s9.1 s9.2) (G + 1) (T, nI i) = if 0 ≤ r then lp (fun ih31 s9 => f_X9_read_31_b ih31 s9.1 s9.2) G (T1, nI (i + 1)) else f_X9_read_63 T1 (nI i) (if r = -3 then 1 else 0) := by
      show f_X9_read_31_b _ T (nI i) = _
      unfold f_X9_read_31_b
      rw [h16, ile (by omega) (by omega), if_neg (by omega), c2, bd2_s, nI_p1]
      by_cases c3 : r = -3
      · rw [if_pos c3, if_pos c3]
      · rw [if_neg c3, if_neg c3]
    rw [hc, hr]
    by_cases c : 0 ≤ r
    · rw [if_pos c, if_pos c]
      obtain ⟨S2, T2, a2, n2, u1, u2, u3, u4, u5, u6⟩ := ih (i + 1) F G S1 T1 a1 n1 (by omega) (by omega) (by omega) H1 R1 (by omega) (by rw [F1.2 8 (by omega)]; exact h8) (by rw [G1.2 16 (by omega)]; exact h16) (fun j hj => (hC j hj).congr (fun l _ => ⟨by rw [F1.1 12 (by decide) (by decide)], by rw [G1.1 26 (by decide) (by decide)]⟩))
      exact ⟨S2, T2, a2, n2, by omega, u2, u3, F1.tr u4, G1.tr u5, u6⟩
    · rw [if_neg c, if_neg c]
      exact ⟨S1, T1, a1, n1, by omega, H1, R1, F1, G1, Or.inr ⟨r, nI i, rfl, rfl⟩⟩
end RDL
