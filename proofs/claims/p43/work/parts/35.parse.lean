/-! ===== the pure part: a text is read: it comes to its end, and leaves commands ===== -/
section P35
variable {len i j d q w : Nat} {S S' T : Mem} {r x y : Int32}
/-- only places of reading and the command d have changed -/
def FX (d : Nat) (S S' : Mem) : Prop := (∀ b, b ≠ 11 → b ≠ 12 → S' b = S b) ∧ (∀ c, c ≠ 9 → S' 11 c = S 11 c) ∧ ∀ c, c ≠ 3 * d + 1 → c ≠ 3 * d + 2 → S' 12 c = S 12 c
theorem FX.rf : FX d S S := ⟨fun _ _ _ => rfl, fun _ _ => rfl, fun _ _ _ => rfl⟩
theorem FX.tr (h : FX d S S') (h' : FX d S' T) : FX d S T := ⟨fun b h1 h2 => (h'.1 b h1 h2).trans (h.1 b h1 h2), fun c hc => (h'.2.1 c hc).trans (h.2.1 c hc), fun c h1 h2 => (h'.2.2 c h1 h2).trans (h.2.2 c h1 h2)⟩
theorem FX.bo (h : FX d S S') (H : BO S 0 len) : BO S' 0 len := H.e (h.1 13 (by decide) (by decide)) (h.1 14 (by decide) (by decide))
theorem FX.pos (v : Int32) : FX d S (up S 11 9 v) := ⟨fun b h1 _ => up_oth _ _ _ h1, fun c hc => up_ne _ _ (by omega), fun c _ _ => up_ne _ _ (by omega)⟩
theorem FX.arg (v : Int32) {e : Nat} (he : e = 3 * d + 1 ∨ e = 3 * d + 2) : FX d S (up S 12 e v) := ⟨fun b _ h2 => up_oth _ _ _ h2, fun c _ => up_ne _ _ (by omega), fun c h1 h2 => up_ne _ _ (by omega)⟩
theorem sbat_o (H : BO S 0 len) (hl : len ≤ 142) (h0 : ¬ x < 0) (h1 : x < S (13 + 2 * 0) 0) : sbat S 0 x = true := by
  obtain ⟨e1, e2, e3, e4⟩ := H
  unfold sbat cnN
  have a : (S (13 + 2 * 0) 0).toNatClampNeg ≤ capN S (13 + 2 * 0) := by rw [e1, nI_clamp (by omega)]; exact e2
  rw [decide_eq_true (Int32.not_lt.mp h0), decide_eq_true h1, decide_eq_true a, decide_eq_true (show capN S (13 + 2 * 0) ≤ 160 by omega)]
  rfl
/-- what a step of reading gives -/
def GX (d len : Nat) (S : Mem) (x : Option (Int32 × Mem)) : Prop := Gv (fun p => FX d S p.2) x
def GB (d len : Nat) (S : Mem) (x : Option (Int32 × Mem)) : Prop := Gv (fun p => (p.1 = 0 ∨ p.1 = 1) ∧ FX d S p.2) x
theorem tb_o (d : Nat) (H : BO S 0 len) (hl : len ≤ 142) : GX d len S (g_X6_takeBetween S x y) := by
  unfold g_X6_takeBetween f_X6_takeBetween_0 f_X6_takeBetween_21 f_X6_takeBetween_45
  by_cases c1 : S 11 9 < 0
  · rw [if_pos c1]; exact Gv.ret FX.rf
  · rw [if_neg c1]
    by_cases c2 : S 11 9 < S (13 + 2 * 0) 0
    · rw [if_pos c2, ck_t _ (sbat_o H hl c1 c2)]
      by_cases c3 : sbch S 0 (S 11 9) < x
      · rw [if_pos c3]; exact Gv.ret FX.rf
      · rw [if_neg c3]
        by_cases c4 : sbch S 0 (S 11 9) ≤ y
        · rw [if_pos c4]; exact Gv.ret (FX.pos _)
        · rw [if_neg c4]; exact Gv.ret FX.rf
    · rw [if_neg c2]; exact Gv.ret FX.rf
theorem td_o (d : Nat) (H : BO S 0 len) (hl : len ≤ 142) : GX d len S (g_X6_takeDigit S) := by
  unfold g_X6_takeDigit f_X6_takeDigit_0 f_X6_takeDigit_21
  refine Gv.bdd (tb_o d H hl) (fun r S1 h => ?_)
  by_cases c : 0 ≤ r
  · rw [if_pos c]; exact Gv.ret h
  · rw [if_neg c]; exact Gv.ret h
theorem ts_o (d : Nat) (H : BO S 0 len) (hl : len ≤ 142) : GB d len S (g_X6_takeSign S x) := by
  unfold g_X6_takeSign f_X6_takeSign_0 f_X6_takeSign_14
  refine Gv.bdd (tb_o d H hl) (fun r S1 h => ?_)
  by_cases c : r < 0
  · rw [if_pos c, ck_0]; exact Gv.ret ⟨Or.inl rfl, h⟩
  · rw [if_neg c, ck_1]; exact Gv.ret ⟨Or.inr rfl, h⟩
theorem tl_o (H : BO S 0 len) (hl : len ≤ 142) : GB d len S (g_X6_takeLetter S d) := by
  unfold g_X6_takeLetter f_X6_takeLetter_0 f_X6_takeLetter_24
  refine Gv.bdd (tb_o d H hl) (fun r S1 h => ?_)
  have F := h.tr (FX.arg (S := S1) r (Or.inr rfl))
  by_cases c : up S1 12 (3 * d + 2) r 12 (3 * d + 2) < 0
  · rw [if_pos c, ck_0]; exact Gv.ret ⟨Or.inl rfl, F⟩
  · rw [if_neg c, ck_1]; exact Gv.ret ⟨Or.inr rfl, F⟩
theorem t2_o (H : BO S 0 len) (hl : len ≤ 142) : GB d len S (g_X6_takeSecond S d) := by
  unfold g_X6_takeSecond f_X6_takeSecond_0 f_X6_takeSecond_20
  refine Gv.bdd (td_o d H hl) (fun r S1 h => ?_)
  have F := FX.tr h (FX.arg (S := S1) r (Or.inr rfl))
  by_cases c : up S1 12 (3 * d + 2) r 12 (3 * d + 2) < 0
  · rw [if_pos c, ck_0]; exact Gv.ret ⟨Or.inl rfl, F⟩
  · rw [if_neg c, ck_1]; exact Gv.ret ⟨Or.inr rfl, F⟩
theorem t1_o (H : BO S 0 len) (hl : len ≤ 142) : GB d len S (g_X6_takeFirst S d) := by
  unfold g_X6_takeFirst f_X6_takeFirst_0 f_X6_takeFirst_20
  refine Gv.bdd (td_o d H hl) (fun r S1 h => ?_)
  have F := FX.tr h (FX.arg (S := S1) r (Or.inl rfl))
  by_cases c : up S1 12 (3 * d + 1) r 12 (3 * d + 1) < 0
  · rw [if_pos c, ck_0]; exact Gv.ret ⟨Or.inl rfl, F⟩
  · rw [if_neg c, ck_1]; exact Gv.ret ⟨Or.inr rfl, F⟩
/-- the first argument alone -/
theorem a1_o (H : BO S 0 len) (hl : len ≤ 142) : GB d len S (bd2 (g_X6_takeFirst S d) (fun r S => ck (isb r) (some (r, S)))) := by
  refine Gv.bdd (t1_o H hl) (fun r S1 h => ?_)
  rw [ck_t _ (isb_of h.1)]
  exact Gv.ret h
/-- two arguments -/
theorem a2_o (H : BO S 0 len) (hl : len ≤ 142) : GB d len S (bd2 (g_X6_takeFirst S d) (fun r17 S17 => (if r17 = 0 then f_X6_takeArguments_99 S17 else bd2 (g_X6_takeSecond S17 d) (fun r20 S20 => (if r20 = 0 then f_X6_takeArguments_99 S20 else f_X6_takeArguments_100 S20 (1 : Int32)))))) := by
  unfold f_X6_takeArguments_99 f_X6_takeArguments_100
  refine Gv.bdd (t1_o H hl) (fun r S1 h => ?_)
  by_cases c : r = 0
  · rw [if_pos c, ck_0]; exact Gv.ret ⟨Or.inl rfl, h.2⟩
  · rw [if_neg c]
    refine Gv.bdd (t2_o (h.2.bo H) hl) (fun r2 S2 h2 => ?_)
    by_cases c2 : r2 = 0
    · rw [if_pos c2, ck_0]; exact Gv.ret ⟨Or.inl rfl, FX.tr h.2 h2.2⟩
    · rw [if_neg c2, ck_1]; exact Gv.ret ⟨Or.inr rfl, FX.tr h.2 h2.2⟩
theorem args_o (H : BO S 0 len) (hl : len ≤ 142) (hw : S 12 (3 * d) = nI w) (h1 : 1 ≤ w) (h9 : w ≤ 9) : GB d len S (g_X6_takeArguments S d) := by
  unfold g_X6_takeArguments f_X6_takeArguments_0
  rw [hw]
  have D : GB d len S (bd2 (g_X6_takeFirst S d) (fun r S => ck (isb r) (some (r, S)))) := a1_o H hl
  have : w = 1 ∨ w = 2 ∨ w = 3 ∨ w = 4 ∨ w = 5 ∨ w = 6 ∨ w = 7 ∨ w = 8 ∨ w = 9 := by omega
  rcases this with rfl | rfl | rfl | rfl | rfl | rfl | rfl | rfl | rfl
  · rw [ck_t _ (by decide), ck_t _ (by decide), if_neg (by decide), if_neg (by decide), if_neg (by decide), if_neg (by decide), if_neg (by decide), if_neg (by decide)]; exact D
  · rw [ck_t _ (by decide), ck_t _ (by decide), if_neg (by decide), if_neg (by decide), if_neg (by decide), if_neg (by decide), if_neg (by decide), if_neg (by decide)]; exact D
  · rw [ck_t _ (by decide), ck_t _ (by decide), if_neg (by decide), if_neg (by decide), if_neg (by decide), if_neg (by decide), if_neg (by decide), if_neg (by decide)]; exact D
  · rw [ck_t _ (by decide), ck_t _ (by decide), if_pos (by decide)]
    unfold f_X6_takeArguments_77 f_X6_takeArguments_78
    refine Gv.bdd (t1_o H hl) (fun r S1 h => ?_)
    by_cases c : r = 0
    · rw [if_pos c, ck_0]; exact Gv.ret ⟨Or.inl rfl, h.2⟩
    · rw [if_neg c]
      refine Gv.bdd (ts_o d (h.2.bo H) hl) (fun r2 S2 h2 => ?_)
      have F2 := FX.tr h.2 h2.2
      by_cases c2 : r2 = 0
      · rw [if_pos c2, ck_0]; exact Gv.ret ⟨Or.inl rfl, F2⟩
      · rw [if_neg c2]
        refine Gv.bdd (tl_o (F2.bo H) hl) (fun r3 S3 h3 => ?_)
        by_cases c3 : r3 = 0
        · rw [if_pos c3, ck_0]; exact Gv.ret ⟨Or.inl rfl, FX.tr F2 h3.2⟩
        · rw [if_neg c3, ck_1]; exact Gv.ret ⟨Or.inr rfl, FX.tr F2 h3.2⟩
  · rw [ck_t _ (by decide), ck_t _ (by decide), if_neg (by decide), if_pos (by decide)]; exact D
  · rw [ck_t _ (by decide), ck_t _ (by decide), if_neg (by decide), if_neg (by decide), if_pos (by decide)]; exact D
  · rw [ck_t _ (by decide), ck_t _ (by decide), if_neg (by decide), if_neg (by decide), if_neg (by decide), if_pos (by decide)]; exact a2_o H hl
  · rw [ck_t _ (by decide), ck_t _ (by decide), if_neg (by decide), if_neg (by decide), if_neg (by decide), if_neg (by decide), if_pos (by decide)]; exact a2_o H hl
  · rw [ck_t _ (by decide), ck_t _ (by decide), if_neg (by decide), if_neg (by decide), if_neg (by decide), if_neg (by decide), if_neg (by decide), if_pos (by decide)]
    unfold f_X6_takeArguments_123 f_X6_takeArguments_128
    have F0 : FX d S (up S 12 (3 * d + 1) 1) := FX.arg 1 (Or.inl rfl)
    refine Gv.bdd (ts_o d (F0.bo H) hl) (fun r S1 h => ?_)
    have F1 := FX.tr F0 h.2
    by_cases c : r = 0
    · rw [if_pos c, ck_1]; exact Gv.ret ⟨Or.inr rfl, F1⟩
    · rw [if_neg c]
      refine Gv.bdd (t1_o (F1.bo H) hl) (fun r2 S2 h2 => ?_)
      by_cases c2 : r2 = 0
      · rw [if_pos c2, ck_0]; exact Gv.ret ⟨Or.inl rfl, FX.tr F1 h2.2⟩
      · rw [if_neg c2, ck_1]; exact Gv.ret ⟨Or.inr rfl, FX.tr F1 h2.2⟩
/-! ===== words ===== -/
theorem len_t : ∀ t, t < 9 → g_J0_length_8abf5 S t = some (nI (lenT t)) := by
  intro t ht
  have : ∀ t, t < 9 → (Int32.ofNat (lenT t)) >>> ((0 : Int32) &&& 31) = nI (lenT t) := by decide +kernel
  show some ((Int32.ofNat (lenT t)) >>> ((0 : Int32) &&& 31)) = _
  rw [this t ht]
theorem len_7 : ∀ t, t < 9 → lenT t ≤ 7 := by decide +kernel
def wch (t i : Nat) : Nat := ((wByt.getD t []).getD i 0).toNatClampNeg
theorem chr_S (t : Nat) (x : Int32) : g_J0_charAt_5068e S t x = g_J0_charAt_5068e (fun _ _ => 0) t x := rfl
theorem chr_t : ∀ t, t < 9 → ∀ i, i < lenT t → g_J0_charAt_5068e S t (nI i) = some (nI (wch t i)) := by
  intro t ht i hi
  rw [chr_S]
  have : ∀ t, t < 9 → ∀ i, i < lenT t → g_J0_charAt_5068e (fun _ _ => 0) t (nI i) = some (nI (wch t i)) := by decide +kernel
  exact this t ht i hi
theorem here_o (H : BO S 0 len) (hl : len ≤ 142) : ∃ b, (b = 0 ∨ b = 1) ∧ g_X6_isHere S x y = some b := by
  unfold g_X6_isHere f_X6_isHere_0 f_X6_isHere_38 f_X6_isHere_39
  by_cases c1 : S 11 9 + x < 0
  · rw [if_pos c1]; exact ⟨0, Or.inl rfl, rfl⟩
  · rw [if_neg c1]
    by_cases c2 : S (13 + 2 * 0) 0 ≤ S 11 9 + x
    · rw [if_pos c2]; exact ⟨0, Or.inl rfl, rfl⟩
    · rw [if_neg c2, ck_t _ (sbat_o H hl c1 (Int32.not_le.mp c2))]
      by_cases c3 : sbch S 0 (S 11 9 + x) = y
      · rw [if_pos c3]; exact ⟨1, Or.inr rfl, rfl⟩
      · rw [if_neg c3]; exact ⟨0, Or.inl rfl, rfl⟩
theorem fit_o (H : BO S 0 len) (hl : len ≤ 142) {t : Nat} (ht : t < 9) : ∃ q : Nat, q ≤ 7 ∧ g_X6_countFitting S t = some (nI q) := by
  have h7 := len_7 t ht
  have R : Gv (fun u => ∃ q : Nat, q ≤ 7 ∧ u = nI q) (g_X6_countFitting S t) := by
    unfold g_X6_countFitting f_X6_countFitting_0 f_X6_countFitting_2
    refine Gv_lp (fun d s => ∃ q, q + d = lenT t ∧ s = nI q) ?_ (lenT t) 2000 _ (by omega) ⟨0, by omega, rfl⟩
    rintro d s f ⟨q, hq, rfl⟩ K
    unfold f_X6_countFitting_2_b f_X6_countFitting_29
    rw [len_t t ht, bd1_s, ile (by omega) (by omega)]
    by_cases c : lenT t ≤ q
    · rw [if_pos c]
      exact Gv.ret ⟨q, by omega, rfl⟩
    · rw [if_neg c, chr_t t ht q (by omega), bd1_s]
      obtain ⟨b, hb, e⟩ := here_o (x := nI q) (y := nI (wch t q)) H hl
      rw [e, bd1_s]
      by_cases c2 : b = 0
      · rw [if_pos c2]; exact Gv.ret ⟨q, by omega, rfl⟩
      · rw [if_neg c2, nI_p1]
        exact K (d - 1) _ (by omega) ⟨q + 1, by omega, rfl⟩
  obtain ⟨u, h1, q, h3, rfl⟩ := R
  exact ⟨q, h3, h1⟩
theorem isw_i : ∀ i, i < 9 → isw (nI (i + 1)) = true := by decide +kernel
theorem word_o (d : Nat) (H : BO S 0 len) (hl : len ≤ 142) : Gv (fun p => (∃ w : Nat, w ≤ 9 ∧ p.1 = nI w) ∧ FX d S p.2) (g_X6_takeWord S) := by
  unfold g_X6_takeWord f_X6_takeWord_0 f_X6_takeWord_6
  refine Gv_lp (fun d s => ∃ i w m : Nat, i + d = 9 ∧ w ≤ 9 ∧ s = (nI w, nI m, nI i) ∧ m ≤ 7) ?_ 9 2000 _ (by omega) ⟨0, 0, 0, by omega, by omega, rfl, by omega⟩
  rintro d' s f ⟨i, w, m, hd, hw, rfl, hm⟩ K
  unfold f_X6_takeWord_6_b f_X6_takeWord_57
  dsimp only
  rw [show (9 : Int32) = nI 9 from rfl, ile (by omega) (by omega)]
  by_cases c : 9 ≤ i
  · rw [if_pos c]
    exact Gv.ret ⟨⟨w, hw, rfl⟩, FX.pos _⟩
  · obtain ⟨q, hq, e⟩ := fit_o H hl (t := i) (by omega)
    have h7 := len_7 i (by omega)
    rw [if_neg c, ck_in (by omega) (by decide), nI_p1, nI_m1 (by omega), nI_clamp (by omega), Nat.add_sub_cancel, ck_t _ (isw_i i (by omega)), e, bd1_s, ck_in (by omega) (by decide), ck_t _ (isw_i i (by omega)), len_t i (by omega), bd1_s, ck_in (by omega) (by decide), mxI (by omega) (by omega)]
    have KK : ∀ w', w' ≤ 9 → Gv (fun p => (∃ w : Nat, w ≤ 9 ∧ p.1 = nI w) ∧ FX d S p.2) (f (nI w', nI (max m q), nI (i + 1))) := fun w' hw' => K (d' - 1) _ (by omega) ⟨i + 1, w', max m q, by omega, hw', rfl, by omega⟩
    by_cases c2 : nI q = nI (lenT i)
    · rw [if_pos c2]; exact KK (i + 1) (by omega)
    · rw [if_neg c2]; exact KK w hw
end P35
