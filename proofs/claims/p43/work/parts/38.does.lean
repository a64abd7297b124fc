/-! ===== the pure part: what the law does ===== -/
section P38
variable {a n len i j d q w b L : Nat} {S S' T : Mem} {xs : Nat → Int32} {r x y : Int32}
theorem and_31 (x : Int32) : 0 ≤ x &&& 2147483647 := by
  rw [Int32.le_iff_toInt_le, Int32.toInt_zero]
  have h : (x &&& 2147483647).toBitVec.toNat ≤ 2147483647 := by
    rw [Int32.toBitVec_and, BitVec.toNat_and]
    exact Nat.and_le_right
  show 0 ≤ (x &&& 2147483647).toBitVec.toInt
  rw [BitVec.toInt_eq_toNat_of_lt (by omega)]
  exact Int.natCast_nonneg _
theorem cell_o (hL : L ≤ 260) {k : Nat} (hk : k < 2 ^ 31) : ∃ z, g_L_cell S (b, L, xs) (nI k) = some z := by
  unfold g_L_cell f_L_cell_0 f_L_cell_15
  dsimp only
  by_cases c : L ≤ k
  · rw [if_pos (show Int32.ofNat L ≤ nI k from (nI_leI (by omega) hk).mpr c)]
    exact ⟨_, rfl⟩
  · rw [if_neg (show ¬ Int32.ofNat L ≤ nI k from fun z => c ((nI_leI (by omega) hk).mp z)), ck_in (by omega) (by omega)]
    exact ⟨_, rfl⟩
theorem in_o (hL : L ≤ 260) {k m : Nat} (hk : k < 2 ^ 31) (h0 : 0 < m) (hm : m ≤ 1000) : ∃ y : Nat, y < m ∧ g_L_in S (b, L, xs) (nI k) (nI m) = some (nI y) := by
  obtain ⟨z, e⟩ := cell_o (S := S) (b := b) (xs := xs) hL hk
  unfold g_L_in f_L_in_0
  rw [e, bd1_s]
  obtain ⟨t, ht, e2⟩ := nI_of (x := z &&& 2147483647) (Int32.not_lt.mpr (and_31 z))
  have hz : nz (nI m) = true := by
    unfold nz
    rw [decide_eq_false (fun z => by have := (z_eqI (a := m) (by omega)).mp z; omega)]
    rfl
  have hd := Nat.div_mul_le_self t m
  have hd2 := Nat.div_add_mod t m
  rw [Nat.mul_comm] at hd2
  rw [e2, ck_t _ hz, pk_div ht h0 (by omega), pk_mul, pk_sub hd]
  exact ⟨t - t / m * m, by have := Nat.mod_lt t h0; omega, rfl⟩
/-- the law's texts -/
theorem ylen {q : SY} (h : q.2.2.1 ≤ 22) : gy_J0_length_8abf5 S q = some (nI q.2.2.1) := by
  show some ((Int32.ofNat q.2.2.1) >>> ((0 : Int32) &&& 31)) = _
  generalize q.2.2.1 = m at h
  have : ∀ m, m < 23 → (Int32.ofNat m) >>> ((0 : Int32) &&& 31) = nI m := by decide +kernel
  rw [this m (by omega)]
theorem ychr {q : SY} (hy : ypr q) (h : q.2.2.1 ≤ 22) (hi : i < q.2.2.1) : ∃ t : Nat, 32 ≤ t ∧ t ≤ 126 ∧ gy_J0_charAt_5068e S q (nI i) = some (nI t) := by
  obtain ⟨h1, h2⟩ := hy i hi
  obtain ⟨t, ht, e⟩ := nI_of (x := q.2.2.2 i) (fun z => by rw [Int32.lt_iff_toInt_lt, Int32.toInt_zero] at z; omega)
  rw [e, nI_toInt ht] at h1 h2
  refine ⟨t, by omega, by omega, ?_⟩
  unfold gy_J0_charAt_5068e fy_J0_charAt_5068e_0
  rw [show gy_J0_isLatin1_aae02 S q = some 1 from rfl, bd1_s, if_neg (by decide)]
  unfold gy_J1_charAt_3b067 fy_J1_charAt_3b067_0 g_J0_checkIndex_df160 f_J0_checkIndex_df160_0 g_J3_checkIndex_8e157 f_J3_checkIndex_8e157_0
  rw [if_neg (nI_pos (by omega)), if_pos (show nI i < Int32.ofNat q.2.2.1 from nI_lt hi (by omega)), bd1_s, bd1_s, ck_in hi (by omega), nI_clamp (by omega), e, char_c (by omega), bd1_s]
  have : ∀ t, t < 128 → isc (nI t) = true := by decide +kernel
  exact ck_t _ (this t (by omega))
def DD (a n : Nat) (S : Mem) (o : Option (Int32 × Mem)) : Prop := ∃ r S', o = some (r, S') ∧ DO a n S r S'
theorem reads_o (H : RO a n (S 0)) (hB : a + 1300 < 9000000) (hP : PT S) {q : SY} (hy : ypr q) (h22 : q.2.2.1 ≤ 22) : DD a n S (g_L_reads S q) := by
  have R : Gv (fun p => DO a n S p.1 p.2) (g_L_reads S q) := by
    unfold g_L_reads f_L_reads_0 f_L_reads_4
    refine Gv_lp (fun d s => ∃ i m T, i + d = q.2.2.1 ∧ s = (T, nI m, nI i) ∧ m ≤ 60 * i ∧ BO T 0 i ∧ ∀ b, b ≠ 13 → b ≠ 14 → T b = S b) ?_ q.2.2.1 64 _ (by omega) ⟨0, 0, S, by omega, rfl, by omega, hP.2.2, fun _ _ _ => rfl⟩
    rintro d s f ⟨i, m, T, hd, rfl, hm, hT, hF⟩ K
    unfold f_L_reads_4_b f_L_reads_43
    dsimp only
    rw [ylen h22, bd1_s, ile (by omega) (by omega)]
    by_cases c : q.2.2.1 ≤ i
    · rw [if_pos c, if_pos (nI_pos' (by omega)), bd2_i]
      obtain ⟨r, S', e, D⟩ := read_o H hB hP hT (by omega) hF
      rw [e]
      exact Gv.ret D
    · obtain ⟨t, t1, t2, e⟩ := ychr (S := T) hy h22 (i := i) (by omega)
      obtain ⟨T', e2, hT', hF'⟩ := append_o hT (by omega) (t := t) ⟨t1, t2⟩
      rw [if_neg c, e, bd1_s, e2, bd2_s, nI_add, nI_p1]
      exact K (d - 1) _ (by omega) ⟨i + 1, m + (i + 1), T', by omega, rfl, by omega, hT', fun b h1 h2 => (hF' b h1 h2).trans (hF b h1 h2)⟩
  obtain ⟨⟨r, S'⟩, e, D⟩ := R
  exact ⟨r, S', e, D⟩
theorem d_ask (H : RO a n (S 0)) (hB : a + 1300 < 9000000) (hP : PT S) : DD a n S (g_X8_ask S x) := by
  unfold g_X8_ask f_X8_ask_0
  rw [bd2_i]
  exact change_o (w := 2) H hB hP (by decide)
theorem d_send (H : RO a n (S 0)) (hB : a + 1300 < 9000000) (hP : PT S) : DD a n S (g_X8_send S x) := by
  unfold g_X8_send f_X8_send_0
  rw [bd2_i]
  exact change_o (w := 3) H hB hP (by decide)
theorem d_shout (H : RO a n (S 0)) (hB : a + 1300 < 9000000) (hP : PT S) : DD a n S (g_X8_shout S x y) := by
  unfold g_X8_shout f_X8_shout_0
  rw [bd2_i]
  exact change_o (w := 4) H hB hP (by decide)
theorem d_wash (H : RO a n (S 0)) (hB : a + 1300 < 9000000) (hP : PT S) : DD a n S (g_X8_wash S x) := by
  unfold g_X8_wash f_X8_wash_0
  rw [bd2_i]
  exact change_o (w := 5) H hB hP (by decide)
theorem d_back (H : RO a n (S 0)) (hB : a + 1300 < 9000000) (hP : PT S) : DD a n S (g_X8_back S x) := by
  unfold g_X8_back f_X8_back_0
  rw [bd2_i]
  exact change_o (w := 6) H hB hP (by decide)
theorem d_cut (H : RO a n (S 0)) (hB : a + 1300 < 9000000) (hP : PT S) : DD a n S (g_X8_cut S x y) := by
  unfold g_X8_cut f_X8_cut_0
  rw [bd2_i]
  exact change_o (w := 7) H hB hP (by decide)
theorem d_tie (H : RO a n (S 0)) (hB : a + 1300 < 9000000) (hP : PT S) : DD a n S (g_X8_tie S x y) := by
  unfold g_X8_tie f_X8_tie_0
  rw [bd2_i]
  exact change_o (w := 8) H hB hP (by decide)
theorem d_beats (H : RO a n (S 0)) (hB : a + 1300 < 9000000) (hP : PT S) : DD a n S (g_X8_beats S x) := by
  unfold g_X8_beats f_X8_beats_0
  rw [bd2_i]
  exact change_o (w := 9) H hB hP (by decide)
theorem d_driver (H : RO a n (S 0)) (hB : a + 1300 < 9000000) (hP : PT S) : DD a n S (g_X8_driver S x) := by
  unfold g_X8_driver f_X8_driver_0
  rw [bd2_i]
  exact change_o (w := 1) H hB hP (by decide)
theorem does_o (H : RO a n (S 0)) (hn : 1 ≤ n) (hB : a + 1300 < 9000000) (hP : PT S) (hL : L ≤ 260) {k : Nat} (hk : k < 1000) : DD a n S (g_L_does S (b, L, xs) (nI k)) := by
  have h5 := H.le5
  unfold g_L_does f_L_does_0 f_L_does_170 f_L_does_168 f_L_does_193 f_L_does_191
  obtain ⟨y1, hy1, e1⟩ := in_o (S := S) (b := b) (xs := xs) hL (k := k + 1) (m := 1000) (by omega) (by omega) (by omega)
  obtain ⟨y2, hy2, e2⟩ := in_o (S := S) (b := b) (xs := xs) hL (k := k + 2) (m := 1000) (by omega) (by omega) (by omega)
  obtain ⟨y3, hy3, e3⟩ := in_o (S := S) (b := b) (xs := xs) hL (k := k) (m := 20) (by omega) (by omega) (by omega)
  have q1 : g_L_in S (b, L, xs) (nI k + 1) 1000 = some (nI y1) := by rw [nI_p1]; exact e1
  have q2 : g_L_in S (b, L, xs) (nI k + 2) 1000 = some (nI y2) := by rw [show (2 : Int32) = nI 2 from rfl, nI_add]; exact e2
  have q3 : g_L_in S (b, L, xs) (nI k) 20 = some (nI y3) := e3
  have hz : nz (nI n) = true := by
    unfold nz
    rw [decide_eq_false (fun z => by have := (z_eqI (a := n) (by omega)).mp z; omega)]
    rfl
  rw [q1, bd1_s, q2, bd1_s, acc_1, H.cnt, bd1_s, ck_t _ hz, bd1_s, ck_t _ hz, leader_o H, bd1_s, q3, bd1_s]
  generalize nI y1 - nI y1 / nI n * nI n = who
  generalize nI y2 - nI y2 / nI n * nI n = oth
  generalize ldI (ldr (S 0) n) = ld
  have SE : DD a n S (if ld < 0 then bd2 (g_X8_send S who) (fun r14 S14 => some (r14, S14)) else (if (nI y1 - nI y1 / (4 : Int32) * (4 : Int32)) ≤ 0 then bd2 (g_X8_send S who) (fun r14 S14 => some (r14, S14)) else bd2 (g_X8_send S ld) (fun r14 S14 => some (r14, S14)))) := by
    rw [bd2_i, bd2_i]
    by_cases c1 : ld < 0
    · rw [if_pos c1]; exact d_send H hB hP
    · rw [if_neg c1]
      by_cases c2 : (nI y1 - nI y1 / (4 : Int32) * (4 : Int32)) ≤ 0
      · rw [if_pos c2]; exact d_send H hB hP
      · rw [if_neg c2]; exact d_send H hB hP
  have SH : ∀ z, DD a n S (if ld < 0 then bd2 (g_X8_shout S who z) (fun r14 S14 => some (r14, S14)) else (if (nI y1 - nI y1 / (5 : Int32) * (5 : Int32)) ≤ 0 then bd2 (g_X8_shout S who z) (fun r14 S14 => some (r14, S14)) else bd2 (g_X8_shout S ld z) (fun r14 S14 => some (r14, S14)))) := by
    intro z
    rw [bd2_i, bd2_i]
    by_cases c1 : ld < 0
    · rw [if_pos c1]; exact d_shout H hB hP
    · rw [if_neg c1]
      by_cases c2 : (nI y1 - nI y1 / (5 : Int32) * (5 : Int32)) ≤ 0
      · rw [if_pos c2]; exact d_shout H hB hP
      · rw [if_neg c2]; exact d_shout H hB hP
  have : y3 = 0 ∨ y3 = 1 ∨ y3 = 2 ∨ y3 = 3 ∨ y3 = 4 ∨ y3 = 5 ∨ y3 = 6 ∨ y3 = 7 ∨ y3 = 8 ∨ y3 = 9 ∨ y3 = 10 ∨ y3 = 11 ∨ y3 = 12 ∨ y3 = 13 ∨ y3 = 14 ∨ y3 = 15 ∨ y3 = 16 ∨ y3 = 17 ∨ y3 = 18 ∨ y3 = 19 := by omega
  rcases this with rfl | rfl | rfl | rfl | rfl | rfl | rfl | rfl | rfl | rfl | rfl | rfl | rfl | rfl | rfl | rfl | rfl | rfl | rfl | rfl
  · rw [if_pos (by decide), bd2_i]; exact d_ask H hB hP
  · rw [if_neg (by decide), if_pos (by decide), bd2_i]; exact d_ask H hB hP
  · rw [if_neg (by decide), if_neg (by decide), if_pos (by decide)]; exact SE
  · rw [if_neg (by decide), if_neg (by decide), if_neg (by decide), if_pos (by decide)]; exact SE
  · rw [if_neg (by decide), if_neg (by decide), if_neg (by decide), if_neg (by decide), if_pos (by decide)]; exact SE
  · rw [if_neg (by decide), if_neg (by decide), if_neg (by decide), if_neg (by decide), if_neg (by decide), if_pos (by decide)]; exact SH _
  · rw [if_neg (by decide), if_neg (by decide), if_neg (by decide), if_neg (by decide), if_neg (by decide), if_neg (by decide), if_pos (by decide)]; exact SH _
  · rw [if_neg (by decide), if_neg (by decide), if_neg (by decide), if_neg (by decide), if_neg (by decide), if_neg (by decide), if_neg (by decide), if_pos (by decide)]; exact SH _
  · rw [if_neg (by decide), if_neg (by decide), if_neg (by decide), if_neg (by decide), if_neg (by decide), if_neg (by decide), if_neg (by decide), if_neg (by decide), if_pos (by decide)]; exact SH _
  · rw [if_neg (by decide), if_neg (by decide), if_neg (by decide), if_neg (by decide), if_neg (by decide), if_neg (by decide), if_neg (by decide), if_neg (by decide), if_neg (by decide), if_pos (by decide), bd2_i]; exact d_wash H hB hP
  · rw [if_neg (by decide), if_neg (by decide), if_neg (by decide), if_neg (by decide), if_neg (by decide), if_neg (by decide), if_neg (by decide), if_neg (by decide), if_neg (by decide), if_neg (by decide), if_pos (by decide), bd2_i]; exact d_wash H hB hP
  · rw [if_neg (by decide), if_neg (by decide), if_neg (by decide), if_neg (by decide), if_neg (by decide), if_neg (by decide), if_neg (by decide), if_neg (by decide), if_neg (by decide), if_neg (by decide), if_neg (by decide), if_pos (by decide), bd2_i]; exact d_back H hB hP
  · rw [if_neg (by decide), if_neg (by decide), if_neg (by decide), if_neg (by decide), if_neg (by decide), if_neg (by decide), if_neg (by decide), if_neg (by decide), if_neg (by decide), if_neg (by decide), if_neg (by decide), if_neg (by decide), if_pos (by decide), bd2_i]; exact d_back H hB hP
  · rw [if_neg (by decide), if_neg (by decide), if_neg (by decide), if_neg (by decide), if_neg (by decide), if_neg (by decide), if_neg (by decide), if_neg (by decide), if_neg (by decide), if_neg (by decide), if_neg (by decide), if_neg (by decide), if_neg (by decide), if_pos (by decide), bd2_i]; exact d_back H hB hP
  · rw [if_neg (by decide), if_neg (by decide), if_neg (by decide), if_neg (by decide), if_neg (by decide), if_neg (by decide), if_neg (by decide), if_neg (by decide), if_neg (by decide), if_neg (by decide), if_neg (by decide), if_neg (by decide), if_neg (by decide), if_neg (by decide), if_pos (by decide), bd2_i]; exact d_cut H hB hP
  · rw [if_neg (by decide), if_neg (by decide), if_neg (by decide), if_neg (by decide), if_neg (by decide), if_neg (by decide), if_neg (by decide), if_neg (by decide), if_neg (by decide), if_neg (by decide), if_neg (by decide), if_neg (by decide), if_neg (by decide), if_neg (by decide), if_neg (by decide), if_pos (by decide), bd2_i]; exact d_cut H hB hP
  · rw [if_neg (by decide), if_neg (by decide), if_neg (by decide), if_neg (by decide), if_neg (by decide), if_neg (by decide), if_neg (by decide), if_neg (by decide), if_neg (by decide), if_neg (by decide), if_neg (by decide), if_neg (by decide), if_neg (by decide), if_neg (by decide), if_neg (by decide), if_neg (by decide), if_pos (by decide), bd2_i]; exact d_tie H hB hP
  · rw [if_neg (by decide), if_neg (by decide), if_neg (by decide), if_neg (by decide), if_neg (by decide), if_neg (by decide), if_neg (by decide), if_neg (by decide), if_neg (by decide), if_neg (by decide), if_neg (by decide), if_neg (by decide), if_neg (by decide), if_neg (by decide), if_neg (by decide), if_neg (by decide), if_neg (by decide), if_pos (by decide), bd2_i]; exact d_tie H hB hP
  · rw [if_neg (by decide), if_neg (by decide), if_neg (by decide), if_neg (by decide), if_neg (by decide), if_neg (by decide), if_neg (by decide), if_neg (by decide), if_neg (by decide), if_neg (by decide), if_neg (by decide), if_neg (by decide), if_neg (by decide), if_neg (by decide), if_neg (by decide), if_neg (by decide), if_neg (by decide), if_neg (by decide), if_pos (by decide)]
    unfold g_L_d18
    rw [decide_eq_true (nI_pos' (show y1 < 2 ^ 31 by omega)), decide_eq_true (nI_pos' (show y2 < 2 ^ 31 by omega)), ck_t _ (show (true && true) = true from rfl)]
    exact reads_o H hB hP tE_ok.1 tE_ok.2.2
  · rw [if_neg (by decide), if_neg (by decide), if_neg (by decide), if_neg (by decide), if_neg (by decide), if_neg (by decide), if_neg (by decide), if_neg (by decide), if_neg (by decide), if_neg (by decide), if_neg (by decide), if_neg (by decide), if_neg (by decide), if_neg (by decide), if_neg (by decide), if_neg (by decide), if_neg (by decide), if_neg (by decide), if_neg (by decide), bd2_i]; exact d_beats H hB hP
end P38
