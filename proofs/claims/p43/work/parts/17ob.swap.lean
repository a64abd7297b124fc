/-! ===== a builder of the law's own takes the place of the class's builder of lines ===== -/
def vB (v : EV) (q : Nat) : EV := (eD v, eC v, fun p => if p = 217 then q else eA v p, eN v, eT v, eZ v, eY v, eI v, eW v)
def fresh (S : Mem) : Mem := fun b j => if b = 15 then (if j = 1 then 16 else 0) else if b = 16 then 0 else S b j
def oldB (v : EV) (da : Nat → Nat) (S : Mem) : va_W := [(eA v 217, ce v da S (layF 217)), (da 1, .inl (eC v 3, capN S 15, .inl (S 16)))]
/-- what of a cell's layout could name the builder's place -/
def names217 : DS → Bool
  | .inl (_, fs) => fs.any (fun f => (f.1 == 1 && f.2.1 == 217) || (f.1 == 3 && f.2.1 == 1) || ((f.1 == 0 || f.1 == 2) && (f.2.1 == 15 || f.2.1 == 16)))
  | .inr (_, _, 0, b, _) => b == 15 || b == 16
  | .inr (_, n, _, x, y) => (List.range n).any (fun j => x + y * j == 217)
theorem names_all : ∀ p, p < layN → p ≠ 217 → names217 (layF p) = false := by decide +kernel
theorem ce_sw {v : EV} {q : Nat} {da da' : Nat → Nat} {S S' : Mem} {d : DS} (hd : names217 d = false) (h0 : da' 0 = da 0) (hda : ∀ i, i ≠ 1 → da' i = da i) (hS : ∀ b j, b ≠ 15 → b ≠ 16 → S' b j = S b j) : ce (vB v q) da' S' d = ce v da S d := by
  match d, hd with
  | .inl (ci, fs), hd =>
    refine congrArg (fun l => Sum.inr (ci, l)) (List.map_congr_left fun f hf => ?_)
    have h := List.any_eq_false.mp hd f hf
    simp only [Bool.or_eq_true, Bool.and_eq_true, beq_iff_eq, not_or, not_and] at h
    unfold fv
    by_cases e0 : f.1 = 0
    · rw [if_pos e0, if_pos e0, hS _ _ (h.2 (Or.inl e0)).1 (h.2 (Or.inl e0)).2]
    · rw [if_neg e0, if_neg e0]
      by_cases e1 : f.1 = 1
      · rw [if_pos e1, if_pos e1]
        exact congrArg Value.ref (if_neg (h.1.1 e1))
      · rw [if_neg e1, if_neg e1]
        by_cases e2 : f.1 = 2
        · rw [if_pos e2, if_pos e2, hS _ _ (h.2 (Or.inr e2)).1 (h.2 (Or.inr e2)).2]
          rfl
        · rw [if_neg e2, if_neg e2]
          by_cases e3 : f.1 = 3
          · rw [if_pos e3, if_pos e3, hda _ (h.1.2 e3)]
          · rw [if_neg e3, if_neg e3]
            rfl
  | .inr (t, n, 0, b, st), hd =>
    have h : ¬ b = 15 ∧ ¬ b = 16 := by simpa [names217] using hd
    refine congrArg (fun g => Sum.inl (eC v t, n, Sum.inl g)) (funext fun k => ?_)
    rw [hS _ _ h.1 h.2]
  | .inr (t, n, k + 1, x, y), hd =>
    have h := List.any_eq_false.mp hd
    refine congrArg (fun g => Sum.inl (eC v t, n, Sum.inr (Sum.inr (Sum.inr (Sum.inr g))))) (funext fun j => ?_)
    by_cases hj : j < n
    · rw [if_pos hj, if_pos hj]
      have := h j (List.mem_range.mpr hj)
      simp only [beq_iff_eq] at this
      exact congrArg some (if_neg this)
    · rw [if_neg hj, if_neg hj]
section SWAP
variable {v : EV} {da da' : Nat → Nat} {S S' : Mem} {q d : Nat} {X A B C W : va_W} {H : Heap}
def swG (x k : Nat) : Nat := if k = 217 then 220 + x else if k = 219 then 221 + x else if k = 220 + x then 217 else if k = 221 + x then 219 else k
theorem swG_inj {x i j : Nat} (h : swG x i = swG x j) : i = j := by
  unfold swG at h
  repeat' split at h
  all_goals omega
theorem lenW : (wsW v da S).length = 220 := wsW_len
theorem ap2 {L Y : va_W} {x j : Nat} (hL : L.length = 220) (hX : X.length = x) : (L ++ (X ++ Y))[220 + x + j]? = Y[j]? := by
  rw [List.getElem?_append_right (by omega), List.getElem?_append_right (by omega), hL, hX]
  exact congrArg (fun z => Y[z]?) (by omega)
theorem swap_in (h : Lw v (wsW v da S ++ (X ++ SBW v (q, d))) H) : Lw (vB v q) (wsW (vB v q) (daU da 1 d) (fresh S) ++ (X ++ oldB v da S)) H := by
  have l1 := lenW (v := v) (da := da) (S := S)
  have l2 := lenW (v := vB v q) (da := daU da 1 d) (S := fresh S)
  have hS : ∀ b j, b ≠ 15 → b ≠ 16 → fresh S b j = S b j := fun b j h1 h2 => by unfold fresh; rw [if_neg h1, if_neg h2]
  have hg : ∀ (k : Nat) (z : Nat × va_E), (wsW (vB v q) (daU da 1 d) (fresh S) ++ (X ++ oldB v da S))[k]? = some z → (wsW v da S ++ (X ++ SBW v (q, d)))[swG X.length k]? = some z := by
    intro k z hk
    unfold swG
    by_cases h1 : k = 217
    · subst h1
      rw [if_pos rfl, show 220 + X.length = 220 + X.length + 0 from rfl, ap2 l1 rfl]
      rw [List.getElem?_append_left (by omega), wsW_at (by decide)] at hk
      rw [← hk]
      rfl
    · rw [if_neg h1]
      by_cases h2 : k = 219
      · subst h2
        rw [if_pos rfl, show 221 + X.length = 220 + X.length + 1 by omega, ap2 l1 rfl]
        rw [List.getElem?_append_left (by omega), show 219 = layN + 1 from rfl, wsW_dy (by decide)] at hk
        rw [← hk]
        rfl
      · rw [if_neg h2]
        by_cases h3 : k = 220 + X.length
        · subst h3
          rw [if_pos rfl, List.getElem?_append_left (by omega), wsW_at (by decide)]
          rw [show 220 + X.length = 220 + X.length + 0 from rfl, ap2 l2 rfl] at hk
          exact hk
        · rw [if_neg h3]
          by_cases h4 : k = 221 + X.length
          · subst h4
            rw [if_pos rfl, List.getElem?_append_left (by omega), show 219 = layN + 1 from rfl, wsW_dy (by decide)]
            rw [show 221 + X.length = 220 + X.length + 1 by omega, ap2 l2 rfl] at hk
            exact hk
          · rw [if_neg h4]
            by_cases h5 : k < 220
            · rw [List.getElem?_append_left (by omega)] at hk ⊢
              by_cases h6 : k < 218
              · rw [wsW_at h6] at hk ⊢
                rw [← hk]
                have e1 : eA (vB v q) k = eA v k := if_neg h1
                rw [e1, ce_sw (v := v) (q := q) (da := da) (da' := daU da 1 d) (S := S) (S' := fresh S) (names_all k h6 h1) (if_neg (by decide)) (fun i hi => if_neg hi) hS]
              · obtain rfl : k = layN + 0 := by show k = 218 + 0; omega
                rw [wsW_dy (by decide)] at hk ⊢
                rw [← hk]
                rfl
            · have h6 : k < 220 + X.length := by
                have := (List.getElem?_eq_some_iff.mp hk).1
                rw [List.length_append, List.length_append, l2] at this
                have e : (oldB v da S).length = 2 := rfl
                omega
              rw [List.getElem?_append_right (by omega), l2, List.getElem?_append_left (by omega)] at hk
              rw [List.getElem?_append_right (by omega), l1, List.getElem?_append_left (by omega)]
              exact hk
  exact ⟨h.1.by _ hg, h.2.by _ hg fun i j _ _ hij => swG_inj hij⟩
theorem swap_out (h : Lw (vB v q) (wsW (vB v q) da' S' ++ (X ++ oldB v da S)) H) (hS : ∀ b j, b ≠ 15 → b ≠ 16 → S' b j = S b j) : Lw v (wsW v (daU da' 1 (da 1)) S ++ X) H := by
  have l1 := lenW (v := v) (da := daU da' 1 (da 1)) (S := S)
  have l2 := lenW (v := vB v q) (da := da') (S := S')
  have hg : ∀ (k : Nat) (z : Nat × va_E), (wsW v (daU da' 1 (da 1)) S ++ X)[k]? = some z → (wsW (vB v q) da' S' ++ (X ++ oldB v da S))[swG X.length k]? = some z := by
    intro k z hk
    have hlen : k < 220 + X.length := by
      have := (List.getElem?_eq_some_iff.mp hk).1
      rw [List.length_append, l1] at this
      exact this
    unfold swG
    by_cases h1 : k = 217
    · subst h1
      rw [if_pos rfl, show 220 + X.length = 220 + X.length + 0 from rfl, ap2 l2 rfl]
      rw [List.getElem?_append_left (by omega), wsW_at (by decide)] at hk
      rw [← hk]
      rfl
    · rw [if_neg h1]
      by_cases h2 : k = 219
      · subst h2
        rw [if_pos rfl, show 221 + X.length = 220 + X.length + 1 by omega, ap2 l2 rfl]
        rw [List.getElem?_append_left (by omega), show 219 = layN + 1 from rfl, wsW_dy (by decide)] at hk
        rw [← hk]
        rfl
      · rw [if_neg h2, if_neg (by omega), if_neg (by omega)]
        by_cases h5 : k < 220
        · rw [List.getElem?_append_left (by omega)] at hk ⊢
          by_cases h6 : k < 218
          · rw [wsW_at h6] at hk ⊢
            rw [← hk]
            have e1 : eA (vB v q) k = eA v k := if_neg h1
            rw [e1, ce_sw (v := v) (q := q) (da := daU da' 1 (da 1)) (da' := da') (S := S) (S' := S') (names_all k h6 h1) rfl (fun i hi => (if_neg hi).symm) hS]
          · obtain rfl : k = layN + 0 := by show k = 218 + 0; omega
            rw [wsW_dy (by decide)] at hk ⊢
            rw [← hk]
            have e2 : capN S' (13 + 2 * 0) = capN S (13 + 2 * 0) := by unfold capN; rw [hS _ _ (by decide) (by decide)]
            have e3 : S' (14 + 2 * 0) = S (14 + 2 * 0) := funext fun j => hS _ _ (by decide) (by decide)
            rw [e2, e3]
            rfl
        · rw [List.getElem?_append_right (by omega), l1] at hk
          rw [List.getElem?_append_right (by omega), l2, List.getElem?_append_left (by omega)]
          exact hk
  exact ⟨h.1.by _ hg, h.2.by _ hg fun i j _ _ hij => swG_inj hij⟩
/-- the last comes first, the middle is let go -/
theorem l_perm (h : Lw v (W ++ ((A ++ B) ++ C)) H) : Lw v (W ++ (C ++ A)) H := by
  have hg : ∀ (k : Nat) (z : Nat × va_E), (W ++ (C ++ A))[k]? = some z → (W ++ ((A ++ B) ++ C))[if k < W.length then k else if k < W.length + C.length then k + A.length + B.length else k - C.length]? = some z := by
    intro k z hk
    have hlen := (List.getElem?_eq_some_iff.mp hk).1
    rw [List.length_append, List.length_append] at hlen
    by_cases h1 : k < W.length
    · rw [if_pos h1, List.getElem?_append_left h1]
      rw [List.getElem?_append_left h1] at hk
      exact hk
    · rw [if_neg h1]
      rw [List.getElem?_append_right (by omega)] at hk
      by_cases h2 : k < W.length + C.length
      · rw [if_pos h2]
        rw [List.getElem?_append_left (by omega)] at hk
        rw [List.getElem?_append_right (by omega), List.getElem?_append_right (by rw [List.length_append]; omega), List.length_append, show k + A.length + B.length - W.length - (A.length + B.length) = k - W.length by omega]
        exact hk
      · rw [if_neg h2]
        rw [List.getElem?_append_right (by omega)] at hk
        rw [List.getElem?_append_right (by omega), List.getElem?_append_left (by rw [List.length_append]; omega), List.getElem?_append_left (by omega), show k - C.length - W.length = k - W.length - C.length by omega]
        exact hk
  refine ⟨h.1.by _ hg, h.2.by _ hg fun i j hi hj hij => ?_⟩
  rw [List.length_append, List.length_append] at hi hj
  repeat' split at hij
  all_goals omega
theorem l_drop (h : Lw v (W ++ A) H) : Lw v W H := by
  have hg : ∀ (k : Nat) (z : Nat × va_E), W[k]? = some z → (W ++ A)[id k]? = some z := fun k z hk => ap_lf hk
  exact ⟨h.1.by _ hg, h.2.by _ hg fun i j _ _ hij => hij⟩
end SWAP
