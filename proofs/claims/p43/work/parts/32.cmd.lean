/-! ===== the pure part: commands ===== -/
section P32
variable {a a' n n' i j x k M w : Nat} {V V' : Nat → Int32} {S S' : Mem} {r : Int32}
/-- only the raft and the reasons have changed -/
def FC (S S' : Mem) : Prop := (∀ b, b ≠ 0 → b ≠ 11 → S' b = S b) ∧ ∀ j, (j < 4 ∨ 8 ≤ j) → S' 11 j = S 11 j
theorem FC.rf : FC S S := ⟨fun _ _ _ => rfl, fun _ _ => rfl⟩
theorem FC.tr {S1 S2 : Mem} (h : FC S S1) (h' : FC S1 S2) : FC S S2 := ⟨fun b h1 h2 => (h'.1 b h1 h2).trans (h.1 b h1 h2), fun j hj => (h'.2 j hj).trans (h.2 j hj)⟩
theorem FC.of (h : Fr 0 S S') : FC S S' := ⟨fun b h1 _ => h b h1, fun j _ => by rw [h 11 (by decide)]⟩
def MoN (n : Nat) (V V' : Nat → Int32) : Prop := ∀ j, j < n → rT V j ≤ rT V' j ∧ rC V j ≤ rC V' j
theorem MoN.rf : MoN n V V := fun _ _ => ⟨Int.le_refl _, Nat.le_refl _⟩
theorem MoN.of (h : ∀ j, j < n → V' (33 + 34 * j + 1) = V (33 + 34 * j + 1) ∧ V' (33 + 34 * j + 6) = V (33 + 34 * j + 6)) : MoN n V V' := fun j hj => ⟨Int.le_of_eq (rT_e (h j hj).1).symm, Nat.le_of_eq (rC_e (h j hj).2).symm⟩
/-- a number between -5 and 9000000 -/
def Sm (r : Int32) : Prop := -5 < r.toInt ∧ r.toInt ≤ 9000000
theorem Sm.nat {m : Nat} (h : m ≤ 9000000) : Sm (nI m) := by
  unfold Sm
  rw [nI_toInt (by omega)]
  omega
/-- a command done -/
def CM (a n : Nat) (S : Mem) (x : Option (Int32 × Mem)) : Prop := ∃ r S' n', x = some (r, S') ∧ n ≤ n' ∧ RO (a + 100) n' (S' 0) ∧ FC S S' ∧ MoN n (S 0) (S' 0) ∧ Sm r ∧ (r < 0 → S' 0 = S 0)
theorem CM.of {m : Nat} (h : RO a' n (S' 0)) (F : Fr 0 S S') (N : MoN n (S 0) (S' 0)) (ha : a' ≤ a + 100) (hB : a + 100 < 9000000) (hm : m ≤ 9000000) : CM a n S (some (nI m, S')) := ⟨_, _, n, rfl, Nat.le_refl _, h.up ha hB, FC.of F, N, Sm.nat hm, fun z => absurd z (nI_pos (by omega))⟩
theorem CM.same (H : RO a n (S 0)) (hB : a + 100 < 9000000) (hr : Sm r) : CM a n S (some (r, S)) := ⟨_, _, n, rfl, Nat.le_refl _, H.up (by omega) hB, FC.rf, MoN.rf, hr, fun _ => rfl⟩
theorem CM.ref (H : RO a n (S 0)) (hB : a + 100 < 9000000) (q d : Int32) : CM a n S (bd2 (g_X8_refuse S q d) (fun r S => some (r, S))) := by
  have e0 : up (up (up (up S 11 4 q) 11 5 d) 11 6 0) 11 7 0 0 = S 0 := by
    simp only [up_oth _ _ _ (show 0 ≠ 11 by decide)]
  refine ⟨-3, _, n, rfl, Nat.le_refl _, ?_, ⟨fun b _ h => ?_, fun j hj => ?_⟩, ?_, by unfold Sm; decide, fun _ => e0⟩
  · show RO (a + 100) n (up (up (up (up S 11 4 q) 11 5 d) 11 6 0) 11 7 0 0)
    rw [e0]; exact H.up (by omega) hB
  · simp only [up_oth _ _ _ h]
  · simp (disch := omega) only [up_ne]
  · show MoN n (S 0) (up (up (up (up S 11 4 q) 11 5 d) 11 6 0) 11 7 0 0)
    rw [e0]; exact MoN.rf
theorem bd2_i {α β : Type} (x : Option (α × β)) : bd2 x (fun r S => some (r, S)) = x := by
  cases x with
  | none => rfl
  | some p => rfl
/-- the place aboard changed, and what goes with it -/
theorem RO.seven (H : RO a n V) (hi : i < n) (hV : ∀ c, c ≠ 33 + 34 * i → c ≠ 33 + 34 * i + 3 → c ≠ 33 + 34 * i + 7 → V' c = V c) (hr : V' (33 + 34 * i) = 0 ∨ V' (33 + 34 * i) = V (33 + 34 * i)) (abd : (V' (33 + 34 * i + 7) = 0 ∧ V' (33 + 34 * i) = 0) ∨ V' (33 + 34 * i + 7) = 1) : RO a n V' := by
  have hB := H.aB
  obtain ⟨b, hb, e, f⟩ := H.ask
  have e1 : V' (33 + 34 * i + 1) = V (33 + 34 * i + 1) := hV _ (by omega) (by omega) (by omega)
  have e4 : V' (33 + 34 * i + 4) = V (33 + 34 * i + 4) := hV _ (by omega) (by omega) (by omega)
  have e6 : V' (33 + 34 * i + 6) = V (33 + 34 * i + 6) := hV _ (by omega) (by omega) (by omega)
  have eT := rT_e e1
  have eV := rV_e e4
  have eR : rR V' i = 0 ∨ rR V' i = rR V i := by
    rcases hr with h | h
    · left; unfold rR; rw [h]; rfl
    · right; exact rR_e h
  have e2 : V' 2 = V 2 := hV _ (by omega) (by omega) (by omega)
  have e3 : V' 3 = V 3 := hV _ (by omega) (by omega) (by omega)
  refine H.put hi (Nat.le_refl _) hB (fun c h8 c0 c1 c2 c3 c4 c6 c7 c8 c9 => hV c c0 c3 c7) ((hV 1 (by omega) (by omega) (by omega)).trans H.cnt) ⟨b, hb, e2.trans e, fun z => ?_⟩ ?_ ?_ (agr_k H hi e6) abd ?_ ?_ ?_
  · obtain ⟨f0, f1, f4, f5, f6⟩ := f z i hi
    refine ⟨by rw [e, z]; rfl, ?_, e1.trans f1, e4.trans f4, (hV _ (by omega) (by omega) (by omega)).trans f5, e6.trans f6⟩
    rcases hr with h | h
    · exact h
    · exact h.trans f0
  · rcases hr with h | h
    · exact Or.inl h
    · rw [h]; exact H.role i hi
  · rw [e1]; exact H.term i hi
  · rw [smf_e (V := V) (fun j _ => hV _ (by omega) (by omega) (by omega)), e2]; exact H.s8
  · rw [smf_e (V := V) (fun j _ => hV _ (by omega) (by omega) (by omega)), e3]; exact H.s9
  · refine H.iv.put H.l12 hi (fun c h8 c0 c1 c2 c3 c4 c7 c8 c9 => hV c c0 c3 c7) (by omega) (fun _ => Or.inl eV) ?_ ?_ ?_ ?_
    · intro z
      rw [eV]
      rcases eR with h | h
      · omega
      · rw [h] at z; exact H.iv.1 i hi z
    · intro w hw hwi z
      rw [eT]
      rw [eV] at z
      exact H.iv.2.1 i hi w hw z
    · intro z
      rcases eR with h | h
      · omega
      · rw [h] at z; exact ⟨z, eT⟩
    · intro z _
      rcases eR with h | h
      · omega
      · rw [h] at z; exact z
theorem RO.ropes (H : RO a n V) (hV : ∀ c, (c < 8 ∨ 33 ≤ c) → V' c = V c) (hr : ∀ i j, i < 5 → j < 5 → V' (8 + 5 * i + j) = V' (8 + 5 * j + i) ∧ (V' (8 + 5 * i + j) = 0 ∨ V' (8 + 5 * i + j) = 1)) : RO a n V' := by
  have H2 : RO a n V → RO a n V' := fun H => by
    obtain ⟨b, hb, e, f⟩ := H.ask
    have l : ∀ c, 33 ≤ c → V' c = V c := fun c hc => hV c (Or.inr hc)
    have lL : ∀ j, rL V' j = rL V j := fun j => rL_e (l _ (by omega))
    refine ⟨H.le5, H.aB, (hV 1 (by omega)).trans H.cnt, ⟨b, hb, (hV 2 (by omega)).trans e, fun z j hj => ?_⟩, fun j hj => ?_, fun j hj => ?_, fun j hj => ?_, fun j hj => ?_, fun j hj => ?_, fun j hj y hy => ?_, hr, ?_, ?_, H.iv.ext (fun j hj => ⟨l _ (by omega), l _ (by omega), l _ (by omega), l _ (by omega), l _ (by omega)⟩) (fun j hj y hy => ⟨l _ (by omega), l _ (by omega)⟩)⟩
    · unfold FRd
      rw [l _ (by omega), l _ (by omega), l _ (by omega), l _ (by omega), l _ (by omega)]
      exact f z j hj
    · rw [l _ (by omega)]; exact H.role j hj
    · rw [l _ (by omega)]; exact H.term j hj
    · rw [lL, l _ (by omega)]; exact H.many j hj
    · rw [rC_e (l _ (by omega)), l _ (by omega)]; exact H.agr j hj
    · rw [l _ (by omega), l _ (by omega)]; exact H.abd j hj
    · rw [lL] at hy
      rw [l _ (by omega), l _ (by omega)]
      exact H.lin j hj y hy
    · rw [smf_e (fun j _ => l _ (by omega)), hV 2 (by omega)]; exact H.s8
    · rw [smf_e (fun j _ => l _ (by omega)), hV 3 (by omega)]; exact H.s9
  exact H2 H
theorem c_ask (H : RO a n (S 0)) (hB : a + 100 < 9000000) (x : Int32) : CM a n S (g_X8_letAsk S x) := by
  have h5 := H.le5
  unfold g_X8_letAsk f_X8_letAsk_0
  rcases has_o H.cnt h5 x with ⟨i, hi, rfl, h1⟩ | ⟨-, h1⟩
  · rw [h1, bd1_s, if_neg (by decide), ck_in (by omega) (by decide), nI_clamp (by omega)]
    rcases H.abd i hi with ⟨hA, -⟩ | hA
    · rw [if_pos hA]; exact CM.ref H hB _ _
    · rw [if_neg (by rw [hA]; decide)]
      by_cases c : S 0 (33 + 34 * i) = 2
      · rw [if_pos c]; exact CM.ref H hB _ _
      · rw [if_neg c, bd2_i]
        obtain ⟨g, S', hg, e, P⟩ := gather_o H hi hA (by omega)
        rw [e]
        exact CM.of P.1 P.2.1 P.2.2.2.1 (by omega) hB (by omega)
  · rw [h1, bd1_s, if_pos rfl]
    exact CM.same H hB (by unfold Sm; decide)
theorem c_send (H : RO a n (S 0)) (hB : a + 100 < 9000000) (x : Int32) : CM a n S (g_X8_letSend S x) := by
  have h5 := H.le5
  unfold g_X8_letSend f_X8_letSend_0
  rcases has_o H.cnt h5 x with ⟨i, hi, rfl, h1⟩ | ⟨-, h1⟩
  · rw [h1, bd1_s, if_neg (by decide), ck_in (by omega) (by decide), nI_clamp (by omega)]
    rcases H.abd i hi with ⟨hA, -⟩ | hA
    · rw [if_pos hA]; exact CM.ref H hB _ _
    · rw [if_neg (by rw [hA]; decide)]
      by_cases c : S 0 (33 + 34 * i) = 2
      · rw [if_pos c, bd2_i]
        obtain ⟨g, S', hg, e, P⟩ := send_o H hi (role2 c)
        rw [e]
        exact CM.of P.1 P.2.1 P.2.2.2.1 (by omega) hB (by omega)
      · rw [if_neg c]; exact CM.ref H hB _ _
  · rw [h1, bd1_s, if_pos rfl]
    exact CM.same H hB (by unfold Sm; decide)
theorem c_wash (H : RO a n (S 0)) (hB : a + 100 < 9000000) (x : Int32) : CM a n S (g_X8_washAway S x) := by
  have h5 := H.le5
  unfold g_X8_washAway f_X8_washAway_0
  rcases has_o H.cnt h5 x with ⟨i, hi, rfl, h1⟩ | ⟨-, h1⟩
  · rw [h1, bd1_s, if_neg (by decide), ck_in (by omega) (by decide), nI_clamp (by omega)]
    rcases H.abd i hi with ⟨hA, -⟩ | hA
    · rw [if_pos hA]; exact CM.ref H hB _ _
    · rw [if_neg (by rw [hA]; decide)]
      have H2 : RO a n (up (up S 0 (33 + 34 * i + 7) 0) 0 (33 + 34 * i) 0 0) := H.seven hi (fun c c0 c3 c7 => by simp (disch := omega) only [up_ne]) (Or.inl (up_same _ _ _ _)) (Or.inl ⟨by simp (disch := omega) only [up_ne, up_same], up_same _ _ _ _⟩)
      have M2 : MoN n (S 0) (up (up S 0 (33 + 34 * i + 7) 0) 0 (33 + 34 * i) 0 0) := MoN.of fun j hj => ⟨by simp (disch := omega) only [up_ne], by simp (disch := omega) only [up_ne]⟩
      have F2 : Fr 0 S (up (up S 0 (33 + 34 * i + 7) 0) 0 (33 + 34 * i) 0) := (Fr.rf.up _ _).up _ _
      obtain ⟨q, hq, e⟩ := fg_01 (abV_b (up (up S 0 (33 + 34 * i + 7) 0) 0 (33 + 34 * i) 0 0)) n
      rw [aboard_o H2.cnt h5, bd1_s, e]
      exact CM.of H2 F2 M2 (by omega) hB (by omega)
  · rw [h1, bd1_s, if_pos rfl]
    exact CM.same H hB (by unfold Sm; decide)
theorem c_back (H : RO a n (S 0)) (hB : a + 100 < 9000000) (x : Int32) : CM a n S (g_X8_bringBack S x) := by
  have h5 := H.le5
  unfold g_X8_bringBack f_X8_bringBack_0
  rcases has_o H.cnt h5 x with ⟨i, hi, rfl, h1⟩ | ⟨-, h1⟩
  · rw [h1, bd1_s, if_neg (by decide), ck_in (by omega) (by decide), nI_clamp (by omega)]
    by_cases hA : S 0 (33 + 34 * i + 7) = 0
    · rw [if_pos hA]
      have H2 : RO a n (up (up S 0 (33 + 34 * i + 7) 1) 0 (33 + 34 * i + 3) 0 0) := H.seven hi (fun c c0 c3 c7 => by simp (disch := omega) only [up_ne]) (Or.inr (by simp (disch := omega) only [up_ne])) (Or.inr (by simp (disch := omega) only [up_ne, up_same]))
      have M2 : MoN n (S 0) (up (up S 0 (33 + 34 * i + 7) 1) 0 (33 + 34 * i + 3) 0 0) := MoN.of fun j hj => ⟨by simp (disch := omega) only [up_ne], by simp (disch := omega) only [up_ne]⟩
      have F2 : Fr 0 S (up (up S 0 (33 + 34 * i + 7) 1) 0 (33 + 34 * i + 3) 0) := (Fr.rf.up _ _).up _ _
      obtain ⟨q, hq, e⟩ := fg_01 (abV_b (up (up S 0 (33 + 34 * i + 7) 1) 0 (33 + 34 * i + 3) 0 0)) n
      rw [aboard_o H2.cnt h5, bd1_s, e]
      exact CM.of H2 F2 M2 (by omega) hB (by omega)
    · rw [if_neg hA]; exact CM.ref H hB _ _
  · rw [h1, bd1_s, if_pos rfl]
    exact CM.same H hB (by unfold Sm; decide)
theorem c_rope (H : RO a n (S 0)) (hB : a + 100 < 9000000) (x y z : Int32) (hz : z = 0 ∨ z = 1) : CM a n S (g_X8_changeRope S x y z) := by
  have h5 := H.le5
  unfold g_X8_changeRope f_X8_changeRope_0 f_X8_changeRope_22
  rcases has_o H.cnt h5 x with ⟨i, hi, rfl, h1⟩ | ⟨-, h1⟩
  · rw [h1, bd1_s, if_neg (by decide)]
    rcases has_o H.cnt h5 y with ⟨j, hj, rfl, h2⟩ | ⟨-, h2⟩
    · rw [h2, bd1_s, if_neg (by decide)]
      by_cases c : i = j
      · rw [if_pos (by rw [c])]; exact CM.ref H hB _ _
      · rw [if_neg (fun e => c ((nI_eq (by omega) (by omega)).mp e)), cut_o H (by omega) (by omega), bd1_s]
        by_cases c2 : S 0 (8 + 5 * i + j) = z
        · rw [if_pos c2]; exact CM.ref H hB _ _
        · rw [if_neg c2]
          unfold g_X4_setRope f_X4_setRope_0
          have hn : vp_nar .boolean z = z := by rcases hz with rfl | rfl <;> decide +kernel
          rw [rix (by omega) (by omega), rix (by omega) (by omega), ck_in (by omega) (by decide), ck_in (by omega) (by decide), nI_clamp (by omega), nI_clamp (by omega), hn, bd1_s]
          have H2 : RO a n (up (up S 0 (8 + (5 * i + j)) z) 0 (8 + (5 * j + i)) z 0) := by
            refine H.ropes (fun c hc => by simp (disch := omega) only [up_ne]) (fun p q hp hq => ?_)
            have v : ∀ p q, p < 5 → q < 5 → up (up S 0 (8 + (5 * i + j)) z) 0 (8 + (5 * j + i)) z 0 (8 + 5 * p + q) = if (p = i ∧ q = j) ∨ (p = j ∧ q = i) then z else S 0 (8 + 5 * p + q) := by
              intro p q hp hq
              by_cases c3 : p = j ∧ q = i
              · obtain ⟨rfl, rfl⟩ := c3
                rw [if_pos (Or.inr ⟨rfl, rfl⟩), show 8 + 5 * p + q = 8 + (5 * p + q) from Nat.add_assoc _ _ _, up_same]
              · rw [up_ne _ _ (by omega)]
                by_cases c4 : p = i ∧ q = j
                · obtain ⟨rfl, rfl⟩ := c4
                  rw [if_pos (Or.inl ⟨rfl, rfl⟩), show 8 + 5 * p + q = 8 + (5 * p + q) from Nat.add_assoc _ _ _, up_same]
                · rw [up_ne _ _ (by omega), if_neg (fun e => e.elim c4 c3)]
            rw [v p q hp hq, v q p hq hp]
            obtain ⟨g1, g2⟩ := H.rope p q hp hq
            by_cases c5 : (p = i ∧ q = j) ∨ (p = j ∧ q = i)
            · rw [if_pos c5, if_pos (by omega)]
              exact ⟨rfl, hz⟩
            · rw [if_neg c5, if_neg (by omega)]
              exact ⟨g1, g2⟩
          have M2 : MoN n (S 0) (up (up S 0 (8 + (5 * i + j)) z) 0 (8 + (5 * j + i)) z 0) := MoN.of fun j hj => ⟨by simp (disch := omega) only [up_ne], by simp (disch := omega) only [up_ne]⟩
          have F2 : Fr 0 S (up (up S 0 (8 + (5 * i + j)) z) 0 (8 + (5 * j + i)) z) := (Fr.rf.up _ _).up _ _
          obtain ⟨q, hq, e⟩ := ropes_p (S := up (up S 0 (8 + (5 * i + j)) z) 0 (8 + (5 * j + i)) z) (k := 0)
          rw [e, bd1_s]
          exact CM.of H2 F2 M2 (by omega) hB (by omega)
    · rw [h2, bd1_s, if_pos rfl]
      exact CM.same H hB (by unfold Sm; decide)
  · rw [h1, bd1_s, if_pos rfl]
    exact CM.same H hB (by unfold Sm; decide)
end P32
