/-! ===== the pure part: how far a word fits ===== -/
section FIT
variable {len pos t : Nat} {S T : Mem}
/-- the word t fits q signs here, and no more -/
def Fits (len pos t q : Nat) (T : Mem) : Prop := q ≤ lenT t ∧ (∀ l, l < q → pos + l < len ∧ T 25 (pos + l) = nI (wch t l)) ∧ (q < lenT t → ¬ (pos + q < len ∧ T 25 (pos + q) = nI (wch t q)))
theorem len_7 : ∀ t, t < 9 → lenT t ≤ 7 := by decide +kernel
theorem fit_r (H : TP len pos S T) (hp : pos < 900) (ht : t < 9) : ∃ q, Fits len pos t q T ∧ g_X6_countFitting S t = some (nI q) ∧ g_X9_alikeHere T t = some (nI q) := by
  obtain ⟨t1, t2, t6, t7, t8, t9, t10⟩ := H
  have h7 := len_7 t ht
  have R : RR (fun u v => ∃ q, Fits len pos t q T ∧ u = nI q ∧ v = nI q) (g_X6_countFitting S t) (g_X9_alikeHere T t) := by
    unfold g_X6_countFitting f_X6_countFitting_0 f_X6_countFitting_2 g_X9_alikeHere f_X9_alikeHere_0 f_X9_alikeHere_2
    refine RR_lp (fun d s u => ∃ q, q + d = lenT t ∧ s = nI q ∧ u = nI q ∧ ∀ l, l < q → pos + l < len ∧ T 25 (pos + l) = nI (wch t l)) ?_ (lenT t) 2000 2000 _ _ (by omega) (by omega) ⟨0, by omega, rfl, rfl, fun l h => absurd h (Nat.not_lt_zero l)⟩
    rintro d s u f f' ⟨q, hq, rfl, rfl, hl⟩ K
    unfold f_X6_countFitting_2_b f_X6_countFitting_29 f_X9_alikeHere_2_b f_X9_alikeHere_48
    rw [len_t t ht, len_t t ht, bd1_s, bd1_s, ile (by omega) (by omega), ile (by omega) (by omega)]
    by_cases c : lenT t ≤ q
    · rw [if_pos c, if_pos c]
      exact RR.ret ⟨q, ⟨by omega, hl, fun z => by omega⟩, rfl, rfl⟩
    · rw [if_neg c, if_neg c, chr_t t ht q (by omega), chr_t t ht q (by omega), bd1_s]
      unfold g_X6_isHere f_X6_isHere_0 f_X6_isHere_38 f_X6_isHere_39
      rw [t6, t9, t10, nI_add, t2.1, if_neg (nI_pos (by omega)), ile (by omega) (by omega), ile (by omega) (by omega)]
      by_cases c2 : len ≤ pos + q
      · rw [if_pos c2, if_pos c2, ck_0, bd1_s, if_pos rfl]
        exact RR.ret ⟨q, ⟨by omega, hl, fun _ z => by omega⟩, rfl, rfl⟩
      · have hs : sbat S 0 (nI (pos + q)) = true := by
          unfold sbat cnN
          rw [t2.1, nI_clamp (by omega)]
          have a1 := t2.2.1
          have a2 : capN S (13 + 2 * 0) ≤ 160 := by have := t2.2.2.1; omega
          rw [decide_eq_true (nI_pos' (show pos + q < 2 ^ 31 by omega)), decide_eq_true (show nI (pos + q) < nI len from nI_lt (by omega) (by omega)), decide_eq_true a1, decide_eq_true a2]
          rfl
        rw [if_neg c2, if_neg c2, hs, ck_t _ rfl, t7 (pos + q) (by omega), ck_in (by omega) (by decide), bd1_s, nI_clamp (by omega)]
        by_cases c3 : T 25 (pos + q) = nI (wch t q)
        · rw [if_pos c3, if_pos c3, ck_1, bd1_s, if_neg (by decide), nI_p1]
          refine K (d - 1) _ _ (by omega) ⟨q + 1, by omega, rfl, rfl, fun l h => ?_⟩
          rcases Nat.lt_or_ge l q with h' | h'
          · exact hl l h'
          · have : l = q := by omega
            rw [this]
            exact ⟨by omega, c3⟩
        · rw [if_neg c3, if_neg c3, ck_0, bd1_s, if_pos rfl]
          exact RR.ret ⟨q, ⟨by omega, hl, fun _ z => c3 z.2⟩, rfl, rfl⟩
  obtain ⟨u, v, h1, h2, q, h3, rfl, rfl⟩ := R
  exact ⟨q, h3, h1, h2⟩
end FIT
