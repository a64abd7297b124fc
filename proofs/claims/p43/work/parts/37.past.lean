/-! ===== the pure part: the past; a change; a text carried out; undo ===== -/
section P37
variable {a n n' len i j d q w : Nat} {S S' T : Mem} {V : Nat → Int32} {r x y : Int32}
/-- past and text in order -/
def PT (S : Mem) : Prop := (∃ nx : Nat, nx < 8 ∧ S 11 2 = nI nx) ∧ (∃ pc : Nat, pc ≤ 8 ∧ S 11 3 = nI pc) ∧ BO S 0 0
/-- V is remembered last -/
def RM (n : Nat) (V : Nat → Int32) (S : Mem) : Prop := ∃ nx pc : Nat, nx < 8 ∧ pc < 8 ∧ S 11 2 = nI nx ∧ S 11 3 = nI (pc + 1) ∧ SR n V (S (3 + (nx + 7) % 8))
theorem PT.e (H : PT S) (h2 : S' 11 2 = S 11 2) (h3 : S' 11 3 = S 11 3) (h13 : S' 13 = S 13) (h14 : S' 14 = S 14) : PT S' := ⟨by rw [h2]; exact H.1, by rw [h3]; exact H.2.1, H.2.2.e h13 h14⟩
theorem MoN.same (h : SR n V (S 0)) : MoN n V (S 0) := MoN.of fun j hj => ⟨h.2.1 j hj 1 (by decide), h.2.1 j hj 6 (by decide)⟩
theorem MoN.tr {V1 V2 : Nat → Int32} (h : MoN n V V1) (h' : MoN n V1 V2) : MoN n V V2 := fun j hj => ⟨Int.le_trans (h j hj).1 (h' j hj).1, Nat.le_trans (h j hj).2 (h' j hj).2⟩
theorem md8 : ∀ nx, nx < 8 → (nI nx + 1) - (nI nx + 1) / 8 * 8 = nI ((nx + 1) % 8) := by decide +kernel
theorem md8' : ∀ nx, nx < 8 → ((nI nx + 8) - 1) - ((nI nx + 8) - 1) / 8 * 8 = nI ((nx + 7) % 8) := by decide +kernel
theorem remem_o (H : RO a n (S 1)) (hP : PT S) : ∃ S', g_X3_remember S 1 = some S' ∧ (∀ b, b ≠ 11 → (b < 3 ∨ 11 < b) → S' b = S b) ∧ (∀ c, c ≠ 2 → c ≠ 3 → S' 11 c = S 11 c) ∧ RM n (S 1) S' ∧ PT S' := by
  obtain ⟨⟨nx, hx, e2⟩, ⟨pc, hp, e3⟩, hB⟩ := hP
  unfold g_X3_remember f_X3_remember_0
  rw [e2, ck_in hx (by decide), nI_clamp (by omega)]
  obtain ⟨S2, c1, c2, c3⟩ := copy_o (S := S) (k := 3 + nx) (k' := 1) H (by omega)
  have e11 : S2 11 = S 11 := c2 11 (by omega)
  rw [c1, bd1_s]
  simp (disch := omega) only [up_ne]
  rw [e11, e2, e3, md8 nx hx, nI_p1, show (8 : Int32) = nI 8 from rfl, mnI (by omega) (by omega)]
  refine ⟨_, rfl, fun b h1 h2 => ?_, fun c h2 h3 => ?_, ⟨(nx + 1) % 8, min (pc + 1) 8 - 1, by omega, by omega, ?_, ?_, ?_⟩, ⟨(nx + 1) % 8, by omega, ?_⟩, ⟨min (pc + 1) 8, by omega, ?_⟩, ?_⟩
  · rw [up_oth _ _ _ h1, up_oth _ _ _ h1]; exact c2 b (by omega)
  · rw [up_ne _ _ (by omega), up_ne _ _ (by omega), e11]
  · rw [up_ne _ _ (by omega), up_same]
  · rw [up_same]; exact congrArg nI (by omega)
  · rw [show (nx + 1) % 8 + 7 = (nx + 1) % 8 + 7 from rfl, show 3 + ((nx + 1) % 8 + 7) % 8 = 3 + nx by omega, up_oth _ _ _ (by omega), up_oth _ _ _ (by omega)]
    exact c3
  · rw [up_ne _ _ (by omega), up_same]
  · rw [up_same]
  · refine hB.e ?_ ?_
    · rw [up_oth _ _ _ (by omega), up_oth _ _ _ (by omega)]; exact c2 13 (by omega)
    · rw [up_oth _ _ _ (by omega), up_oth _ _ _ (by omega)]; exact c2 14 (by omega)
/-- what a call that changes leaves -/
def DO (a n : Nat) (S : Mem) (r : Int32) (S' : Mem) : Prop := Sm r ∧ PT S' ∧ S' 2 = S 2 ∧ S' 11 0 = S 11 0 ∧ (∃ n', n ≤ n' ∧ RO (a + 1300) n' (S' 0)) ∧ MoN n (S 0) (S' 0) ∧ (r < 0 → SR n (S 0) (S' 0)) ∧ (0 ≤ r → RM n (S 0) S')
theorem change_o (H : RO a n (S 0)) (hB : a + 1300 < 9000000) (hP : PT S) (hw : w ≤ 9) : ∃ r S', g_X8_change S (nI w) x y = some (r, S') ∧ DO a n S r S' := by
  unfold g_X8_change f_X8_change_0 f_X8_change_36
  obtain ⟨S1, c1, c2, c3⟩ := copy_o (S := S) (k := 1) (k' := 0) H (by decide)
  have e0 : S1 0 = S 0 := c2 0 (by decide)
  have e11 : S1 11 = S 11 := c2 11 (by decide)
  rw [c1, bd1_s]
  have H1 : RO a n (S1 0) := by rw [e0]; exact H
  have P1 : PT S1 := hP.e (by rw [e11]) (by rw [e11]) (c2 13 (by decide)) (c2 14 (by decide))
  obtain ⟨r, S2, n', d1, d2, d3, d4, d5, d6, d7⟩ := carry_o H1 (by omega) hw x y
  rw [e0] at d5 d7
  rw [d1, bd2_s]
  have P2 : PT S2 := P1.e (d4.2 2 (by omega)) (d4.2 3 (by omega)) (d4.1 13 (by decide) (by decide)) (d4.1 14 (by decide) (by decide))
  have b1 : S2 1 = S1 1 := d4.1 1 (by decide) (by decide)
  have b2 : S2 2 = S 2 := (d4.1 2 (by decide) (by decide)).trans (c2 2 (by decide))
  have b0 : S2 11 0 = S 11 0 := (d4.2 0 (by omega)).trans (by rw [e11])
  by_cases c : r < 0
  · rw [if_pos c]
    refine ⟨_, _, rfl, d6, P2, b2, b0, ⟨n', d2, d3.up (by omega) hB⟩, d5, fun _ => ?_, fun z => absurd c (Int32.not_lt.mpr z)⟩
    rw [d7 c]
    exact SR.rf
  · rw [if_neg c]
    have H2 : RO a n (S2 1) := by rw [b1]; exact H.same c3
    obtain ⟨S3, m1, m2, m3, m4, m5⟩ := remem_o H2 P2
    rw [m1, bd1_s]
    have z0 : S3 0 = S2 0 := m2 0 (by decide) (by omega)
    refine ⟨_, _, rfl, d6, m5, (m2 2 (by decide) (by omega)).trans b2, (m3 0 (by decide) (by decide)).trans b0, ⟨n', d2, by rw [z0]; exact d3.up (by omega) hB⟩, by rw [z0]; exact d5, fun z => absurd z c, fun _ => ?_⟩
    obtain ⟨nx, pc, g1, g2, g3, g4, g5⟩ := m4
    rw [b1] at g5
    exact ⟨nx, pc, g1, g2, g3, g4, SR.tr c3 g5⟩
theorem read_o (H : RO a n (S 0)) (hB : a + 1300 < 9000000) (hP : PT S) (hT : BO T 0 len) (hl : len ≤ 142) (hF : ∀ b, b ≠ 13 → b ≠ 14 → T b = S b) : ∃ r S', g_X8_read T = some (r, S') ∧ DO a n S r S' := by
  have h5 := H.le5
  obtain ⟨⟨r1, S1⟩, p1, p2, p3, q, p4⟩ := parse_o hT hl
  dsimp only at p2 p3 p4
  obtain ⟨k1, k2, k3⟩ := empty_o (p3.bo hT) hl
  unfold g_X8_read f_X8_read_0
  rw [p1, bd2_s, k1, bd1_s]
  have z : ∀ b, b ≠ 13 → b ≠ 14 → b ≠ 11 → b ≠ 12 → setl S1 0 b = S b := fun b h1 h2 h3 h4 => (k3 b h1 h2).trans ((p3.1 b h3 h4).trans (hF b h1 h2))
  have z11 : ∀ c, c < 8 → setl S1 0 11 c = S 11 c := fun c hc => by
    rw [k3 11 (by decide) (by decide), p3.2 c hc, hF 11 (by decide) (by decide)]
  have C2 : CK q (setl S1 0) := by
    refine ⟨p4.1, ?_, ?_⟩
    · rw [k3 11 (by decide) (by decide)]; exact p4.2.1
    · rw [k3 12 (by decide) (by decide)]; exact p4.2.2
  revert k2 z z11 C2
  generalize setl S1 0 = S2
  intro k2 z z11 C2
  have P2 : PT S2 := ⟨by rw [z11 2 (by decide)]; exact hP.1, by rw [z11 3 (by decide)]; exact hP.2.1, k2⟩
  have e0 : S2 0 = S 0 := z 0 (by decide) (by decide) (by decide) (by decide)
  by_cases c : r1 = 0
  · rw [if_pos c]
    have u0 : up S2 11 1 (S2 11 9) 0 = S 0 := (up_oth _ _ _ (by decide)).trans e0
    refine ⟨_, _, rfl, by unfold Sm; decide, P2.e (up_ne _ _ (by omega)) (up_ne _ _ (by omega)) (up_oth _ _ _ (by decide)) (up_oth _ _ _ (by decide)), ?_, ?_, ⟨n, Nat.le_refl _, ?_⟩, ?_, fun _ => ?_, fun z => absurd z (by decide)⟩
    · rw [up_oth _ _ _ (by decide)]; exact z 2 (by decide) (by decide) (by decide) (by decide)
    · rw [up_ne _ _ (by omega)]; exact z11 0 (by decide)
    · rw [u0]; exact H.up (by omega) hB
    · rw [u0]; exact MoN.rf
    · rw [u0]; exact SR.rf
  · rw [if_neg c]
    have H2 : RO a n (S2 0) := by rw [e0]; exact H
    obtain ⟨S4, c1, c2, c3⟩ := copy_o (S := S2) (k := 1) (k' := 0) H2 (by decide)
    rw [c1, bd1_s]
    rw [e0] at c3
    have f0 : S4 0 = S 0 := (c2 0 (by decide)).trans e0
    have f11 : S4 11 = S2 11 := c2 11 (by decide)
    have f12 : S4 12 = S2 12 := c2 12 (by decide)
    have P4 : PT S4 := P2.e (by rw [f11]) (by rw [f11]) (c2 13 (by decide)) (c2 14 (by decide))
    have q12 := C2.1
    have R : Gv (fun p => DO a n S p.1 p.2) (f_X8_read_46 S4 0) := by
      unfold f_X8_read_46
      refine Gv_lp (fun d s => ∃ i S5 n5, i + d = q ∧ s = (S5, nI i) ∧ n ≤ n5 ∧ RO (a + 100 * i) n5 (S5 0) ∧ MoN n (S 0) (S5 0) ∧ FC S4 S5) ?_ q 2000 _ (by omega) ⟨0, S4, n, by omega, rfl, Nat.le_refl _, by rw [f0]; exact H, by rw [f0]; exact MoN.rf, FC.rf⟩
      rintro d s f ⟨i, S5, n5, hd, rfl, hn5, H5, M5, F5⟩ K
      have P5 : PT S5 := P4.e (F5.2 2 (by omega)) (F5.2 3 (by omega)) (F5.1 13 (by decide) (by decide)) (F5.1 14 (by decide) (by decide))
      have s1 : S5 1 = S4 1 := F5.1 1 (by decide) (by decide)
      have s2 : S5 2 = S 2 := (F5.1 2 (by decide) (by decide)).trans ((c2 2 (by decide)).trans (z 2 (by decide) (by decide) (by decide) (by decide)))
      have s110 : S5 11 0 = S 11 0 := (F5.2 0 (by omega)).trans ((congrFun f11 0).trans (z11 0 (by decide)))
      have s118 : S5 11 8 = nI q := (F5.2 8 (by omega)).trans ((congrFun f11 8).trans C2.2.1)
      have s12 : S5 12 = S2 12 := (F5.1 12 (by decide) (by decide)).trans f12
      have H51 : RO a n (S5 1) := by rw [s1]; exact H.same c3
      have sr1 : SR n (S 0) (S5 1) := by rw [s1]; exact c3
      unfold f_X8_read_46_b
      simp only [s118, ile (show q < 2 ^ 31 by omega) (show i < 2 ^ 31 by omega)]
      by_cases c5 : q ≤ i
      · rw [if_pos c5]
        obtain ⟨S6, m1, m2, m3, m4, m5⟩ := remem_o H51 P5
        have z0 : S6 0 = S5 0 := m2 0 (by decide) (by omega)
        rw [m1, bd1_s, m3 8 (by decide) (by decide), s118]
        refine Gv.ret ⟨Sm.nat (by omega), m5, (m2 2 (by decide) (by omega)).trans s2, (m3 0 (by decide) (by decide)).trans s110, ⟨n5, hn5, ?_⟩, ?_, fun z => absurd z (nI_pos (by omega)), fun _ => ?_⟩
        · show RO (a + 1300) n5 (S6 0)
          rw [z0]; exact H5.up (by omega) hB
        · show MoN n (S 0) (S6 0)
          rw [z0]; exact M5
        · obtain ⟨nx, pc, g1, g2, g3, g4, g5⟩ := m4
          exact ⟨nx, pc, g1, g2, g3, g4, SR.tr sr1 g5⟩
      · rw [if_neg c5, ck_in (by omega) (by decide), nI_clamp (by omega), s12]
        obtain ⟨w, hw, ew⟩ := C2.2.2 i (by omega)
        rw [ew]
        obtain ⟨r, S8, n8, d1, d2, d3, d4, d5, d6, d7⟩ := carry_o H5 (by omega) hw (S2 12 (3 * i + 1)) (S2 12 (3 * i + 2))
        rw [d1, bd2_s]
        by_cases c6 : 0 ≤ r
        · rw [if_pos c6, nI_p1]
          exact K (d - 1) _ (by omega) ⟨i + 1, S8, n8, by omega, rfl, by omega, d3.up (by omega) (by omega), M5.tr (fun j hj => d5 j (by omega)), F5.tr d4⟩
        · rw [if_neg c6]
          have t1 : S8 1 = S5 1 := d4.1 1 (by decide) (by decide)
          have H8 : RO a n (S8 1) := by rw [t1]; exact H51
          obtain ⟨S10, o1, o2, o3⟩ := copy_o (S := S8) (k := 0) (k' := 1) H8 (by decide)
          rw [t1] at o3
          have SR10 : SR n (S 0) (S10 0) := SR.tr sr1 o3
          have FC10 : ∀ b, b ≠ 0 → b ≠ 11 → S10 b = S5 b := fun b h1 h2 => (o2 b h1).trans (d4.1 b h1 h2)
          have F11 : ∀ c, (c < 4 ∨ 8 ≤ c) → S10 11 c = S5 11 c := fun c hc => by
            rw [o2 11 (by decide)]; exact d4.2 c hc
          have fin : ∀ S11 : Mem, (∀ b, b ≠ 11 → S11 b = S10 b) → (∀ c, c < 4 → S11 11 c = S10 11 c) → Gv (fun p => DO a n S p.1 p.2) (some ((-3 : Int32), S11)) := by
            intro S11 g1 g2
            have y0 : S11 0 = S10 0 := g1 0 (by decide)
            refine Gv.ret ⟨(show Sm (-3) by unfold Sm; decide), ?_, ?_, ?_, ⟨n, Nat.le_refl _, ?_⟩, ?_, fun _ => ?_, fun z => absurd z (show ¬ (0 : Int32) ≤ -3 by decide)⟩
            · exact P5.e ((g2 2 (by decide)).trans (F11 2 (by omega))) ((g2 3 (by decide)).trans (F11 3 (by omega))) ((g1 13 (by decide)).trans (FC10 13 (by decide) (by decide))) ((g1 14 (by decide)).trans (FC10 14 (by decide) (by decide)))
            · exact (g1 2 (by decide)).trans ((FC10 2 (by decide) (by decide)).trans s2)
            · exact (g2 0 (by decide)).trans ((F11 0 (by omega)).trans s110)
            · show RO (a + 1300) n (S11 0)
              rw [y0]; exact (H.same SR10).up (by omega) hB
            · show MoN n (S 0) (S11 0)
              rw [y0]; exact MoN.same SR10
            · show SR n (S 0) (S11 0)
              rw [y0]; exact SR10
          rw [o1, bd1_s]
          unfold g_X8_refuseCommand f_X8_refuseCommand_0 f_X8_refuseCommand_29 g_X5_putAhead f_X5_putAhead_0 g_X5_put f_X5_put_0
          rw [bd1_s, bd1_s]
          by_cases c7 : r = -3
          · rw [if_pos c7, bd2_s]
            exact fin _ (fun b h => by simp only [up_oth _ _ _ h]) (fun c hc => by simp (disch := omega) only [up_ne])
          · rw [if_neg c7, bd2_s]
            exact fin _ (fun b h => by simp only [up_oth _ _ _ h]) (fun c hc => by simp (disch := omega) only [up_ne])
    obtain ⟨⟨r, S'⟩, e, D⟩ := R
    exact ⟨r, S', e, D⟩
theorem undo_o (H : RO a n V) (hP : PT S) (hR : RM n V S) : ∃ u S', g_X8_undo S = some (u, S') ∧ 0 ≤ u ∧ SR n V (S' 0) ∧ PT S' := by
  obtain ⟨nx, pc, g1, g2, g3, g4, g5⟩ := hR
  unfold g_X8_undo f_X8_undo_0 g_X3_takeBack f_X3_takeBack_0
  rw [g4, if_neg (fun z => by have := (z_eqI (a := pc + 1) (by omega)).mp z; omega)]
  rw [g3, md8' nx g1, up_same, ck_in (by omega) (by decide), nI_clamp (by omega)]
  have o : up S 11 2 (nI ((nx + 7) % 8)) (3 + (nx + 7) % 8) = S (3 + (nx + 7) % 8) := up_oth _ _ _ (by omega)
  have Hs : RO a n (up S 11 2 (nI ((nx + 7) % 8)) (3 + (nx + 7) % 8)) := by rw [o]; exact H.same g5
  obtain ⟨S2, c1, c2, c3⟩ := copy_o (k := 0) Hs (by omega)
  rw [o] at c3
  have e3 : S2 11 3 = nI (pc + 1) := by rw [c2 11 (by decide), up_ne _ _ (by omega)]; exact g4
  have e2 : S2 11 2 = nI ((nx + 7) % 8) := by rw [c2 11 (by decide), up_same]
  rw [c1, bd1_s, bd1_s, e3, nI_m1 (by omega), Nat.add_sub_cancel, up_same]
  refine ⟨_, _, rfl, nI_pos' (by omega), ?_, ⟨(nx + 7) % 8, by omega, ?_⟩, ⟨pc, by omega, up_same _ _ _ _⟩, hP.2.2.e ?_ ?_⟩
  · rw [up_oth _ _ _ (by decide)]; exact SR.tr g5 c3
  · rw [up_ne _ _ (by omega)]; exact e2
  · rw [up_oth _ _ _ (by decide), c2 13 (by decide), up_oth _ _ _ (by decide)]
  · rw [up_oth _ _ _ (by decide), c2 14 (by decide), up_oth _ _ _ (by decide)]
end P37
