/-! ===== the pure part: one raft, as the theory of rafts sees it ===== -/
def rR (V : Nat → Int32) (i : Nat) : Int := (V (33 + 34 * i)).toInt
def rT (V : Nat → Int32) (i : Nat) : Int := (V (33 + 34 * i + 1)).toInt
def rV (V : Nat → Int32) (i : Nat) : Int := (V (33 + 34 * i + 4)).toInt
def rL (V : Nat → Int32) (i : Nat) : Nat := (V (33 + 34 * i + 5)).toNatClampNeg
def rC (V : Nat → Int32) (i : Nat) : Nat := (V (33 + 34 * i + 6)).toNatClampNeg
def rE (V : Nat → Int32) (i x : Nat) : En := ((V (33 + 34 * i + 10 + x)).toInt, (V (33 + 34 * i + 22 + x)).toInt)
def IV (n : Nat) (V : Nat → Int32) : Prop := IR n (rR V) (rT V) (rV V) (rL V) (rE V) (rC V)
section P21
variable {n i x : Nat} {V V' : Nat → Int32}
theorem rR_e {j : Nat} (h : V' (33 + 34 * j) = V (33 + 34 * j)) : rR V' j = rR V j := congrArg Int32.toInt h
theorem rT_e {j : Nat} (h : V' (33 + 34 * j + 1) = V (33 + 34 * j + 1)) : rT V' j = rT V j := congrArg Int32.toInt h
theorem rV_e {j : Nat} (h : V' (33 + 34 * j + 4) = V (33 + 34 * j + 4)) : rV V' j = rV V j := congrArg Int32.toInt h
theorem rL_e {j j' : Nat} (h : V' (33 + 34 * j + 5) = V (33 + 34 * j' + 5)) : rL V' j = rL V j' := congrArg Int32.toNatClampNeg h
theorem rC_e {j : Nat} (h : V' (33 + 34 * j + 6) = V (33 + 34 * j + 6)) : rC V' j = rC V j := congrArg Int32.toNatClampNeg h
theorem rE_e {j j' l : Nat} (h : V' (33 + 34 * j + 10 + l) = V (33 + 34 * j' + 10 + l)) (h2 : V' (33 + 34 * j + 22 + l) = V (33 + 34 * j' + 22 + l)) : rE V' j l = rE V j' l := by
  unfold rE
  rw [h, h2]
theorem IV.ext (H : IV n V) (hf : ∀ j, j < n → V' (33 + 34 * j) = V (33 + 34 * j) ∧ V' (33 + 34 * j + 1) = V (33 + 34 * j + 1) ∧ V' (33 + 34 * j + 4) = V (33 + 34 * j + 4) ∧ V' (33 + 34 * j + 5) = V (33 + 34 * j + 5) ∧ V' (33 + 34 * j + 6) = V (33 + 34 * j + 6)) (hl : ∀ j, j < n → ∀ l, l < rL V j → V' (33 + 34 * j + 10 + l) = V (33 + 34 * j + 10 + l) ∧ V' (33 + 34 * j + 22 + l) = V (33 + 34 * j + 22 + l)) : IV n V' :=
  st_ext H (fun j hj => rR_e (hf j hj).1) (fun j hj => rT_e (hf j hj).2.1) (fun j hj => rV_e (hf j hj).2.2.1) (fun j hj => rL_e (hf j hj).2.2.2.1) (fun j hj l h => rE_e (hl j hj l h).1 (hl j hj l h).2) (fun j hj => rC_e (hf j hj).2.2.2.2)
theorem IV.put (H : IV n V) (hm : ∀ j, j < n → rL V j ≤ 12) (hi : i < n) (hV : ∀ c, 33 ≤ c → c ≠ 33 + 34 * i → c ≠ 33 + 34 * i + 1 → c ≠ 33 + 34 * i + 2 → c ≠ 33 + 34 * i + 3 → c ≠ 33 + 34 * i + 4 → c ≠ 33 + 34 * i + 7 → c ≠ 33 + 34 * i + 8 → c ≠ 33 + 34 * i + 9 → V' c = V c)
    (ht : rT V i ≤ rT V' i) (hv : rT V' i = rT V i → rV V' i = rV V i ∨ rV V i = -1)
    (h1 : rR V' i = 1 ∨ rR V' i = 2 → rV V' i = (i : Int)) (h2 : ∀ k : Nat, k < n → k ≠ i → rV V' i = (k : Int) → rT V' i ≤ rT V k)
    (hl : rR V' i = 2 → rR V i = 2 ∧ rT V' i = rT V i) (hc : rR V' i = 1 → rT V' i = rT V i → rR V i = 1) : IV n V' := by
  have o : ∀ j f, j ≠ i → f < 34 → V' (33 + 34 * j + f) = V (33 + 34 * j + f) := fun j f hj hf => hV _ (by omega) (by omega) (by omega) (by omega) (by omega) (by omega) (by omega) (by omega) (by omega)
  have oR : ∀ j, j ≠ i → rR V' j = rR V j := fun j hj => rR_e (o j 0 hj (by omega))
  have oT : ∀ j, j ≠ i → rT V' j = rT V j := fun j hj => rT_e (o j 1 hj (by omega))
  have oV : ∀ j, j ≠ i → rV V' j = rV V j := fun j hj => rV_e (o j 4 hj (by omega))
  have l : ∀ j f, f = 5 ∨ f = 6 ∨ 10 ≤ f → f < 34 → V' (33 + 34 * j + f) = V (33 + 34 * j + f) := fun j f hf hf' => hV _ (by omega) (by omega) (by omega) (by omega) (by omega) (by omega) (by omega) (by omega) (by omega)
  have tU : ∀ j, rT V j ≤ rT V' j := fun j => by
    by_cases c : j = i
    · subst c; exact ht
    · rw [oT j c]; exact Int.le_refl _
  have A : IR n (rR V') (rT V') (rV V') (rL V) (rE V) (rC V) := by
    refine st_soft H (fun j hj hr => ?_) (fun j hj k hk hv' => ?_) (fun j _ => tU j) (fun j hj ht' => ?_) (fun j hj hr => ?_) (fun j hj hr ht' => ?_)
    · by_cases c : j = i
      · subst c; exact h1 hr
      · rw [oR j c] at hr; rw [oV j c]; exact H.1 j hj hr
    · by_cases c : j = i
      · subst c
        by_cases c2 : k = j
        · subst c2; exact Int.le_refl _
        · exact Int.le_trans (h2 k hk c2 hv') (tU k)
      · rw [oV j c] at hv'; rw [oT j c]; exact Int.le_trans (H.2.1 j hj k hk hv') (tU k)
    · by_cases c : j = i
      · subst c; exact hv ht'
      · exact Or.inl (oV j c)
    · by_cases c : j = i
      · subst c; exact hl hr
      · rw [oR j c] at hr; exact ⟨hr, oT j c⟩
    · by_cases c : j = i
      · subst c; exact hc hr ht'
      · rw [oR j c] at hr; exact hr
  exact st_ext A (fun _ _ => rfl) (fun _ _ => rfl) (fun _ _ => rfl) (fun j _ => rL_e (l j 5 (by omega) (by omega))) (fun j hj y hy => by have := hm j hj; exact rE_e (by rw [Nat.add_assoc]; exact l j (10 + y) (by omega) (by omega)) (by rw [Nat.add_assoc]; exact l j (22 + y) (by omega) (by omega))) (fun j _ => rC_e (l j 6 (by omega) (by omega)))
theorem IV.win (H : IV n V) (hm : ∀ j, j < n → rL V j ≤ 12) (hx : x < n) (hr : rR V x = 1) (hw : Mo n (fun i => rT V i = rT V x ∧ rV V i = (x : Int) ∧ rf_nl (rL V) (rE V) i x)) (hV : ∀ c, 33 ≤ c → c ≠ 33 + 34 * x → c ≠ 33 + 34 * x + 9 → V' c = V c) (h2 : rR V' x = 2) : IV n V' := by
  have A : IR n (rR V') (rT V) (rV V) (rL V) (rE V) (rC V) := st_win H hx hr hw h2 (fun j _ hj => rR_e (hV _ (by omega) (by omega) (by omega)))
  exact st_ext A (fun _ _ => rfl) (fun j _ => rT_e (hV _ (by omega) (by omega) (by omega))) (fun j _ => rV_e (hV _ (by omega) (by omega) (by omega))) (fun j _ => rL_e (hV _ (by omega) (by omega) (by omega))) (fun j hj y hy => by have := hm j hj; exact rE_e (hV _ (by omega) (by omega) (by omega)) (hV _ (by omega) (by omega) (by omega))) (fun j _ => rC_e (hV _ (by omega) (by omega) (by omega)))
theorem IV.copy (H : IV n V) (hm : ∀ j, j < n → rL V j ≤ 12) (hi : i < n) (hx : x < n) (hrx : rR V x = 2) (hri : rR V i ≠ 2) (ht : rT V i = rT V x) (hV : ∀ c, 33 ≤ c → c ≠ 33 + 34 * i + 5 → (c < 33 + 34 * i + 10 ∨ 33 + 34 * i + 34 ≤ c) → V' c = V c) (hl : V' (33 + 34 * i + 5) = V (33 + 34 * x + 5)) (he : ∀ l, l < rL V x → V' (33 + 34 * i + 10 + l) = V (33 + 34 * x + 10 + l) ∧ V' (33 + 34 * i + 22 + l) = V (33 + 34 * x + 22 + l)) : IV n V' ∧ rC V i ≤ rL V x ∧ ∀ l, l < rC V i → rE V x l = rE V i l := by
  obtain ⟨A, B⟩ := st_copy (len' := rL V') (e' := rE V') H hi hx hrx hri ht (rL_e hl) (fun y hy => rE_e (he y hy).1 (he y hy).2) (fun j hj hji => rL_e (hV _ (by omega) (by omega) (by omega))) (fun j hj hji y hy => by have := hm j hj; exact rE_e (hV _ (by omega) (by omega) (by omega)) (hV _ (by omega) (by omega) (by omega)))
  exact ⟨st_ext A (fun j _ => rR_e (hV _ (by omega) (by omega) (by omega))) (fun j _ => rT_e (hV _ (by omega) (by omega) (by omega))) (fun j _ => rV_e (hV _ (by omega) (by omega) (by omega))) (fun _ _ => rfl) (fun _ _ _ _ => rfl) (fun j _ => rC_e (hV _ (by omega) (by omega) (by omega))), B⟩
theorem IV.known (H : IV n V) (hm : ∀ j, j < n → rL V j ≤ 12) (hi : i < n) (hx : x < n) (ht : rT V x ≤ rT V i) (hp : rf_Hp (rL V) (rE V) (rE V x) (rL V x) i) (hV : ∀ c, 33 ≤ c → c ≠ 33 + 34 * i + 6 → V' c = V c) (hc : rC V' i = rC V i ∨ rC V' i = rC V x) : IV n V' := by
  have A := st_known (c' := rC V') H hi hx ht hp hc (fun j hj hji => rC_e (hV _ (by omega) (by omega)))
  exact st_ext A (fun j _ => rR_e (hV _ (by omega) (by omega))) (fun j _ => rT_e (hV _ (by omega) (by omega))) (fun j _ => rV_e (hV _ (by omega) (by omega))) (fun j _ => rL_e (hV _ (by omega) (by omega))) (fun j hj y hy => by have := hm j hj; exact rE_e (hV _ (by omega) (by omega)) (hV _ (by omega) (by omega))) (fun _ _ => rfl)
theorem IV.com {m : Nat} (H : IV n V) (hm : ∀ j, j < n → rL V j ≤ 12) (hx : x < n) (hr : rR V x = 2) (hmm : 0 < m ∧ m ≤ rL V x) (ht : (rE V x (m - 1)).1 = rT V x) (hw : Mo n (fun i => rT V i = rT V x ∧ rf_Hp (rL V) (rE V) (rE V x) (rL V x) i)) (hV : ∀ c, 33 ≤ c → c ≠ 33 + 34 * x + 6 → V' c = V c) (hc : rC V' x = m) : IV n V' := by
  have A := st_com (c' := rC V') H hx hr hmm ht hw hc (fun j hj hji => rC_e (hV _ (by omega) (by omega)))
  exact st_ext A (fun j _ => rR_e (hV _ (by omega) (by omega))) (fun j _ => rT_e (hV _ (by omega) (by omega))) (fun j _ => rV_e (hV _ (by omega) (by omega))) (fun j _ => rL_e (hV _ (by omega) (by omega))) (fun j hj y hy => by have := hm j hj; exact rE_e (hV _ (by omega) (by omega)) (hV _ (by omega) (by omega))) (fun _ _ => rfl)
theorem IV.app (H : IV n V) (hm : ∀ j, j < n → rL V j ≤ 12) (hx : x < n) (h12 : rL V x < 12) (hr : rR V x = 2) (hl : rL V' x = rL V x + 1) (hn : (rE V' x (rL V x)).1 = rT V x) (hV : ∀ c, 33 ≤ c → c ≠ 33 + 34 * x + 5 → c ≠ 33 + 34 * x + 10 + rL V x → c ≠ 33 + 34 * x + 22 + rL V x → V' c = V c) : IV n V' := by
  have A := st_app (len' := rL V') (e' := rE V') H hx hr hl (fun j hj hji => rL_e (hV _ (by omega) (by omega) (by omega) (by omega))) hn (fun y hy => rE_e (hV _ (by omega) (by omega) (by omega) (by omega)) (hV _ (by omega) (by omega) (by omega) (by omega))) (fun j hj hji y hy => by have := hm j hj; exact rE_e (hV _ (by omega) (by omega) (by omega) (by omega)) (hV _ (by omega) (by omega) (by omega) (by omega)))
  exact st_ext A (fun j _ => rR_e (hV _ (by omega) (by omega) (by omega) (by omega))) (fun j _ => rT_e (hV _ (by omega) (by omega) (by omega) (by omega))) (fun j _ => rV_e (hV _ (by omega) (by omega) (by omega) (by omega))) (fun _ _ => rfl) (fun _ _ _ _ => rfl) (fun j _ => rC_e (hV _ (by omega) (by omega) (by omega) (by omega)))
/-- the sum of a field over the drivers, as a loop makes it -/
def smf (V : Nat → Int32) (f : Nat) : Nat → Int32
  | 0 => 0
  | j + 1 => smf V f j + V (33 + 34 * j + f)
theorem smf_e {f : Nat} : ∀ {n : Nat}, (∀ j, j < n → V' (33 + 34 * j + f) = V (33 + 34 * j + f)) → smf V' f n = smf V f n
  | 0, _ => rfl
  | n + 1, h => by
    show smf V' f n + _ = smf V f n + _
    rw [smf_e (fun j hj => h j (Nat.lt_succ_of_lt hj)), h n (Nat.lt_succ_self n)]
theorem smf_i {f i : Nat} : ∀ {n : Nat}, i < n → (∀ j, j < n → j ≠ i → V' (33 + 34 * j + f) = V (33 + 34 * j + f)) → V' (33 + 34 * i + f) = V (33 + 34 * i + f) + 1 → smf V' f n = smf V f n + 1
  | 0, h, _, _ => absurd h (Nat.not_lt_zero i)
  | n + 1, h, k, e => by
    show smf V' f n + _ = smf V f n + _ + 1
    by_cases c : n = i
    · subst c
      rw [smf_e (fun j hj => k j (Nat.lt_succ_of_lt hj) (Nat.ne_of_lt hj)), e, Int32.add_assoc]
    · rw [smf_i (i := i) (by omega) (fun j hj hji => k j (Nat.lt_succ_of_lt hj) hji) e, k n (Nat.lt_succ_self n) c, Int32.add_assoc, Int32.add_assoc, Int32.add_comm 1]
end P21
