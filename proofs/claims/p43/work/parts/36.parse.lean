/-! ===== the pure part: a text read into commands ===== -/
section P36
variable {a n len i j d q w : Nat} {S S' T : Mem} {r x y : Int32}
/-- q commands, each with a word or none -/
def CK (q : Nat) (S : Mem) : Prop := q ≤ 12 ∧ S 11 8 = nI q ∧ ∀ i, i < q → ∃ w : Nat, w ≤ 9 ∧ S 12 (3 * i) = nI w
/-- only what belongs to reading has changed -/
def PX (S S' : Mem) : Prop := (∀ b, b ≠ 11 → b ≠ 12 → S' b = S b) ∧ ∀ c, c < 8 → S' 11 c = S 11 c
theorem PX.rf : PX S S := ⟨fun _ _ _ => rfl, fun _ _ => rfl⟩
theorem PX.tr (h : PX S S') (h' : PX S' T) : PX S T := ⟨fun b h1 h2 => (h'.1 b h1 h2).trans (h.1 b h1 h2), fun c hc => (h'.2 c hc).trans (h.2 c hc)⟩
theorem PX.bo (h : PX S S') (H : BO S 0 len) : BO S' 0 len := H.e (h.1 13 (by decide) (by decide)) (h.1 14 (by decide) (by decide))
theorem FX.px (h : FX d S S') : PX S S' := ⟨h.1, fun c hc => h.2.1 c (by omega)⟩
theorem FX.ck (h : FX q S S') (H : CK q S) : CK q S' := ⟨H.1, (h.2.1 8 (by decide)).trans H.2.1, fun i hi => by
  obtain ⟨w, hw, e⟩ := H.2.2 i hi
  exact ⟨w, hw, (h.2.2 _ (by omega) (by omega)).trans e⟩⟩
theorem comm_o (H : BO S 0 len) (hl : len ≤ 142) (C : CK q S) : Gv (fun p => (p.1 = 0 ∨ p.1 = 1) ∧ PX S p.2 ∧ ∃ q', CK q' p.2) (g_X6_takeCommand S) := by
  unfold g_X6_takeCommand f_X6_takeCommand_0 f_X6_takeCommand_21
  refine Gv.bdd (word_o q H hl) (fun r S1 h => ?_)
  obtain ⟨⟨w, hw, e⟩, F⟩ := h
  dsimp only at e F
  subst e
  have C1 := F.ck C
  by_cases c : w = 0
  · rw [if_pos ((z_eqI (by omega)).mpr c)]
    exact Gv.ret ⟨Or.inl rfl, F.px, q, C1⟩
  · rw [if_neg (fun z => c ((z_eqI (by omega)).mp z)), C1.2.1]
    have q12 := C.1
    by_cases c2 : q < 12
    · rw [if_pos (show nI q < 12 from (nI_ltI (b := 12) (by omega) (by decide)).mpr c2), ck_in c2 (by decide), nI_clamp (by omega)]
      have F2 : PX S1 (up (up S1 12 (3 * q) (nI w)) 12 (3 * q + 2) 0) := ⟨fun b _ h2 => by rw [up_oth _ _ _ h2, up_oth _ _ _ h2], fun c _ => by rw [up_ne _ _ (by omega), up_ne _ _ (by omega)]⟩
      have e0 : up (up S1 12 (3 * q) (nI w)) 12 (3 * q + 2) 0 12 (3 * q) = nI w := by
        rw [up_ne _ _ (by omega), up_same]
      have oth : ∀ c, c < 3 * q → up (up S1 12 (3 * q) (nI w)) 12 (3 * q + 2) 0 12 c = S1 12 c := fun c hc => by
        rw [up_ne _ _ (by omega), up_ne _ _ (by omega)]
      have e8 : up (up S1 12 (3 * q) (nI w)) 12 (3 * q + 2) 0 11 8 = nI q := by
        rw [up_ne _ _ (by omega), up_ne _ _ (by omega)]; exact C1.2.1
      revert F2 e0 oth e8
      generalize up (up S1 12 (3 * q) (nI w)) 12 (3 * q + 2) 0 = S2
      intro F2 e0 oth e8
      have PX2 := PX.tr F.px F2
      refine Gv.bdd (args_o (d := q) (PX2.bo H) hl e0 (by omega) hw) (fun r5 S5 h5 => ?_)
      dsimp only at h5
      have PX5 := PX.tr PX2 h5.2.px
      have W : ∀ i, i < q + 1 → ∃ w : Nat, w ≤ 9 ∧ S5 12 (3 * i) = nI w := by
        intro i hi
        rw [h5.2.2.2 _ (by omega) (by omega)]
        by_cases ci : i = q
        · subst ci; exact ⟨w, hw, e0⟩
        · obtain ⟨w', hw', e'⟩ := C1.2.2 i (by omega)
          exact ⟨w', hw', (oth _ (by omega)).trans e'⟩
      have e85 : S5 11 8 = nI q := (h5.2.2.1 8 (by decide)).trans e8
      by_cases c5 : r5 = 0
      · rw [if_pos c5]
        exact Gv.ret ⟨Or.inl rfl, PX5, q, q12, e85, fun i hi => W i (by omega)⟩
      · rw [if_neg c5, e85, nI_p1]
        refine Gv.ret ⟨Or.inr rfl, PX.tr PX5 ⟨fun b h1 _ => up_oth _ _ _ h1, fun c hc => up_ne _ _ (by omega)⟩, q + 1, by omega, (by dsimp only; exact up_same _ _ _ _), fun i hi => ?_⟩
        dsimp only
        obtain ⟨w', hw', e'⟩ := W i hi
        exact ⟨w', hw', (up_ne _ _ (by omega)).trans e'⟩
    · rw [if_neg (show ¬ nI q < 12 from fun z => c2 ((nI_ltI (b := 12) (by omega) (by decide)).mp z))]
      exact Gv.ret ⟨Or.inl rfl, F.px, q, C1⟩
theorem parse_o (H : BO S 0 len) (hl : len ≤ 142) : Gv (fun p => (p.1 = 0 ∨ p.1 = 1) ∧ PX S p.2 ∧ ∃ q', CK q' p.2) (g_X6_parse S) := by
  unfold g_X6_parse f_X6_parse_0
  have P0 : PX S (up (up S 11 8 0) 11 9 0) := ⟨fun b h1 _ => by rw [up_oth _ _ _ h1, up_oth _ _ _ h1], fun c hc => by rw [up_ne _ _ (by omega), up_ne _ _ (by omega)]⟩
  have C0 : CK 0 (up (up S 11 8 0) 11 9 0) := ⟨Nat.zero_le _, by rw [up_ne _ _ (by omega), up_same]; rfl, fun i hi => absurd hi (Nat.not_lt_zero i)⟩
  refine Gv.bdd (comm_o (P0.bo H) hl C0) (fun r S1 h => ?_)
  obtain ⟨hr, hP, hC⟩ := h
  dsimp only at hr hP hC
  unfold f_X6_parse_17
  refine Gv_lp (fun d s => ∃ i S1 r1, i + d = 12 ∧ s = (S1, r1, nI i) ∧ (r1 = 0 ∨ r1 = 1) ∧ PX S S1 ∧ ∃ q', CK q' S1) ?_ 12 2000 _ (by omega) ⟨0, S1, r, by omega, rfl, hr, PX.tr P0 hP, hC⟩
  rintro d s f ⟨i, S2, r2, hd, rfl, hr2, hP2, q2, hC2⟩ K
  unfold f_X6_parse_17_b f_X6_parse_69 f_X6_parse_61 f_X6_parse_62
  dsimp only
  rw [show (12 : Int32) = nI 12 from rfl, ile (by omega) (by omega), ck_t _ (isb_of hr2)]
  have E : Gv (fun p : Int32 × Mem => (p.1 = 0 ∨ p.1 = 1) ∧ PX S p.2 ∧ ∃ q', CK q' p.2) (some (r2, S2)) := Gv.ret ⟨hr2, hP2, q2, hC2⟩
  by_cases c1 : 12 ≤ i
  · rw [if_pos c1]; exact E
  · rw [if_neg c1]
    by_cases c2 : r2 = 0
    · rw [if_pos c2]; exact E
    · rw [if_neg c2]
      by_cases c3 : S2 (13 + 2 * 0) 0 ≤ S2 11 9
      · rw [if_pos c3]; exact E
      · rw [if_neg c3]
        refine Gv.bdd (ts_o q2 (hP2.bo H) hl) (fun r6 S6 h6 => ?_)
        have hP6 := PX.tr hP2 h6.2.px
        have hC6 := h6.2.ck hC2
        by_cases c6 : r6 = 0
        · rw [if_pos c6, nI_p1]
          exact K (d - 1) _ (by omega) ⟨i + 1, S6, 0, by omega, rfl, Or.inl rfl, hP6, q2, hC6⟩
        · rw [if_neg c6]
          refine Gv.bdd (comm_o (hP6.bo H) hl hC6) (fun r8 S8 h8 => ?_)
          obtain ⟨h8r, h8P, h8C⟩ := h8
          dsimp only at h8r h8P h8C
          by_cases c8 : r8 = 0
          · rw [if_pos c8, nI_p1]
            exact K (d - 1) _ (by omega) ⟨i + 1, S8, 0, by omega, rfl, Or.inl rfl, PX.tr hP6 h8P, h8C⟩
          · rw [if_neg c8, nI_p1]
            exact K (d - 1) _ (by omega) ⟨i + 1, S8, 1, by omega, rfl, Or.inr rfl, PX.tr hP6 h8P, h8C⟩
end P36
