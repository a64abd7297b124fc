/-! ===== the pure part: what is owed of the pairs ===== -/
section OWED
variable {n : Nat} {S : Mem}
theorem Inv.step {f g : Mem → Option (Int32 × Mem)} (hn : n < 512) (H : ∀ N S T, N + 100 < 9000000 → RZ N S T → ∃ N', N' ≤ N + 1300 ∧ LK N' S T (f S) (g T)) (h : Inv n S) : ∃ (r : Int32) (S1 S2 : Mem), f S = some (r, S1) ∧ g S1 = some (r, S2) ∧ Inv (n + 1) S2 := by
  have hB : 1300 * n + 100 < 9000000 := by omega
  obtain ⟨r, S1, S2, h1, h2, h3⟩ := LK.seq (N := 1300 * n) (N' := 1300 * (n + 1)) (f := f) (g := g) (fun S T R => by
    obtain ⟨N', hN, r, S1, T1, e1, e2, e3, e4, e5⟩ := H (1300 * n) S T hB R
    exact ⟨r, S1, T1, e1, e2, e3.mono (by omega), e4, e5⟩) h
  exact ⟨r, S1, S2, h1, h2, h3⟩
theorem inv_mono (n : Nat) (S : Mem) (h : Inv n S) : Inv (n + 1) S := h.mono (by omega)
theorem inv_0 : Inv 0 Z0 := by
  have zr : ∀ b, b ≠ 11 ∧ b ≠ 13 ∧ b ≠ 15 ∧ b ≠ 28 → ∀ c, Z0 b c = 0 := fun b hb c => z_b hb
  have z11 : ∀ j, j ≠ 1 → Z0 11 j = 0 := fun j hj => by unfold Z0; rw [if_neg (by omega), if_neg (by omega)]
  have z28 : ∀ j, j ≠ 10 → Z0 28 j = 0 := fun j hj => by unfold Z0; rw [if_neg (by omega), if_neg (by omega)]
  have bo : ∀ b, b < 2 → BO Z0 b 0 := by
    intro b hb
    have hc : capN Z0 (13 + 2 * b) = 16 := by
      have : b = 0 ∨ b = 1 := by omega
      rcases this with rfl | rfl <;> decide +kernel
    refine ⟨?_, by omega, Or.inl hc, ?_⟩
    · have : b = 0 ∨ b = 1 := by omega
      rcases this with rfl | rfl <;> decide +kernel
    · intro j hj
      have : Z0 (14 + 2 * b) j = 0 := zr _ (by omega) j
      rw [this]
      exact fit_z ⟨0, by omega, rfl⟩
  have now : RN (1300 * 0) (Z0 0) (Z0 20) := ⟨0, 0, by omega, RW.none (fun c _ => zr 0 (by decide) c) (fun c _ => zr 20 (by decide) c)⟩
  refine ⟨now, ⟨?_, Or.inl (z11 0 (by decide))⟩, PS.zero ⟨0, by omega, z11 2 (by decide)⟩ (z11 3 (by decide)) (z28 5 (by decide)), ?_, ⟨?_, ?_, ?_, ?_⟩, BX.of (len := 0) (by omega) (bo 0 (by decide)) (z28 14 (by decide)) (fun i h => absurd h (Nat.not_lt_zero i)), BX.of (len := 0) (by omega) (bo 1 (by decide)) (z28 19 (by decide)) (fun i h => absurd h (Nat.not_lt_zero i))⟩
  · rw [z11 0 (by decide), z28 11 (by decide)]
  · decide +kernel
  · rw [z11 4 (by decide), z28 6 (by decide)]
  · rw [z11 5 (by decide), z28 7 (by decide)]
  · rw [z11 6 (by decide), z28 8 (by decide)]
  · rw [z11 7 (by decide), z28 9 (by decide)]; exact fun _ => rfl
theorem lawP (hr : Pr_read Inv) : LawP Inv := by
  refine ⟨inv_mono, ?_, ?_, ?_, ?_, ?_, ?_, ?_, ?_, ?_, ?_, ?_, ?_, ?_, ?_, ?_, ?_, ?_, ?_, ?_, ?_, ?_, ?_, ?_, ?_, ?_, ?_, ?_, ?_, ?_, ?_, ?_, ?_, ?_, ?_, ?_, ?_, ?_, ?_, ?_, ?_⟩
  · exact fun n S hn h => Inv.step hn (fun N S T hN R => ⟨N, by omega, l_clear R⟩) h
  · exact fun n S hn h x => Inv.step (f := fun S => g_X8_append S ((x.toUInt32 % 65536).toInt32)) (g := fun S => g_X9_append S ((x.toUInt32 % 65536).toInt32)) hn (fun N S T hN R => ⟨N, by omega, l_append _ R⟩) h
  · exact fun n S hn h x => Inv.step (f := fun S => g_X8_driver S x) (g := fun S => g_X9_driver S x) hn (fun N S T hN R => ⟨N + 100, by omega, l_driver hN x R⟩) h
  · exact fun n S hn h x => Inv.step (f := fun S => g_X8_ask S x) (g := fun S => g_X9_ask S x) hn (fun N S T hN R => ⟨N + 100, by omega, l_ask hN x R⟩) h
  · exact fun n S hn h x => Inv.step (f := fun S => g_X8_send S x) (g := fun S => g_X9_send S x) hn (fun N S T hN R => ⟨N + 100, by omega, l_send hN x R⟩) h
  · exact fun n S hn h x y => Inv.step (f := fun S => g_X8_shout S x ((y.toUInt32 % 65536).toInt32)) (g := fun S => g_X9_shout S x ((y.toUInt32 % 65536).toInt32)) hn (fun N S T hN R => ⟨N + 100, by omega, l_shout hN x _ R⟩) h
  · exact fun n S hn h x => Inv.step (f := fun S => g_X8_wash S x) (g := fun S => g_X9_wash S x) hn (fun N S T hN R => ⟨N + 100, by omega, l_wash hN x R⟩) h
  · exact fun n S hn h x => Inv.step (f := fun S => g_X8_back S x) (g := fun S => g_X9_back S x) hn (fun N S T hN R => ⟨N + 100, by omega, l_back hN x R⟩) h
  · exact fun n S hn h x y => Inv.step (f := fun S => g_X8_cut S x y) (g := fun S => g_X9_cut S x y) hn (fun N S T hN R => ⟨N + 100, by omega, l_cut hN x y R⟩) h
  · exact fun n S hn h x y => Inv.step (f := fun S => g_X8_tie S x y) (g := fun S => g_X9_tie S x y) hn (fun N S T hN R => ⟨N + 100, by omega, l_tie hN x y R⟩) h
  · exact fun n S hn h x => Inv.step (f := fun S => g_X8_beats S x) (g := fun S => g_X9_beats S x) hn (fun N S T hN R => ⟨N + 100, by omega, l_beats hN x R⟩) h
  · exact hr
  · exact fun n S hn h => p_fault h
  · exact fun n S hn h x b _ => p_reason h x b
  · exact fun n S hn h x y => by
      obtain ⟨a, m, -, hR⟩ := h.now
      exact p_driverOf hR x y
  · exact fun n S hn h x y b _ => by
      obtain ⟨a, m, -, hR⟩ := h.now
      exact p_lineOf hR x y b
  · exact fun n S hn h => by
      obtain ⟨a, m, -, hR⟩ := h.now
      exact p_leader hR
  · exact fun n S hn h x y => by
      obtain ⟨a, m, -, hR⟩ := h.now
      exact p_reaches hR x y
  · exact fun n S hn h x y => by
      obtain ⟨a, m, -, hR⟩ := h.now
      exact p_longer hR x y
  · exact fun n S hn h x y => by
      obtain ⟨a, m, -, hR⟩ := h.now
      exact p_wouldVote hR x y
  · exact fun n S hn h x => by
      obtain ⟨a, m, -, hR⟩ := h.now
      exact p_couldLead hR x
  · exact fun n S hn h x => Inv.step (f := fun S => g_X8_couldLeadAgain S x) (g := fun S => g_X9_couldLeadAgain S x) hn (fun N S T hN R => ⟨N, by omega, l_again hN x R⟩) h
  · exact fun n S hn h x y => by
      obtain ⟨a, m, -, hR⟩ := h.now
      exact p_alike hR x y
  · exact fun n S hn h x y => by
      obtain ⟨a, m, -, hR⟩ := h.now
      exact p_holders hR x y
  · exact fun n S hn h => by
      obtain ⟨a, m, -, hR⟩ := h.now
      exact p_agreed hR
  · exact fun n S hn h => by
      obtain ⟨a, m, -, hR⟩ := h.now
      exact p_agreedAgain hR
  · exact fun n S hn h => by
      obtain ⟨a, m, -, hR⟩ := h.now
      exact p_conflicts hR
  · exact fun n S hn h => by
      obtain ⟨a, m, -, hR⟩ := h.now
      exact p_isSafe hR
  · exact fun n S hn h x => by
      obtain ⟨a, m, -, hR⟩ := h.now
      exact p_ranked hR x
  · exact fun n S hn h x => by
      obtain ⟨a, m, -, hR⟩ := h.now
      exact p_oldest hR x
  · exact fun n S hn h => Inv.step hn (fun N S T hN R => ⟨N, by omega, l_quiet hN R⟩) h
  · exact fun n S hn h x => Inv.step (f := fun S => g_X8_tell S x) (g := fun S => g_X9_tell S x) hn (fun N S T hN R => ⟨N, by omega, l_tell x R⟩) h
  · exact fun n S hn h x => Inv.step (f := fun S => g_X8_tellVotes S x) (g := fun S => g_X9_tellVotes S x) hn (fun N S T hN R => ⟨N, by omega, l_tellVotes x R⟩) h
  · exact fun n S hn h x => p_written h x
  · exact fun n S hn h => by
      obtain ⟨a, m, -, hR⟩ := h.now
      exact p_meanTale hR
  · exact fun n S hn h => by
      obtain ⟨a, m, -, hR⟩ := h.now
      exact p_agreedShare hR
  · exact fun n S hn h x => by
      obtain ⟨a, m, -, hR⟩ := h.now
      obtain ⟨len, -, l2, l3, -⟩ := h.tx
      obtain ⟨nx, c, -, -, -, c4, c5, -⟩ := h.past
      exact p_account hR (l2.trans l3.symm) (c4.trans c5.symm) x
  · exact fun n S hn h => Inv.step hn (fun N S T hN R => ⟨N, by omega, l_undo R⟩) h
  · exact fun n S hn h => Inv.step hn (fun N S T hN R => ⟨N, by omega, l_save R⟩) h
  · exact fun n S hn h => Inv.step hn (fun N S T hN R => ⟨N, by omega, l_restore R⟩) h
end OWED
