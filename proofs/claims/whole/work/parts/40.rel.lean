/-! ===== the pure part: the whole relation ===== -/
section REL
variable {a a' n n' k k' i j m m' x y g q M N : Nat} {S T S' T' : Mem} {r : Int32}
/-- a builder (class) tells the row bank c with its number at cell d of bank 28 (reference) -/
def BX (b c d Mx : Nat) (S T : Mem) : Prop := ∃ len, len ≤ Mx ∧ S (13 + 2 * b) 0 = nI len ∧ T 28 d = nI len ∧ len ≤ capN S (13 + 2 * b) ∧ (capN S (13 + 2 * b) = 16 ∨ capN S (13 + 2 * b) = 34 ∨ capN S (13 + 2 * b) = 70 ∨ capN S (13 + 2 * b) = 142) ∧ fitB S b ∧ ∀ i, i < len → sbch S b (nI i) = T c i
theorem BX.congr {b c d Mx : Nat} {S1 T1 : Mem} (h : BX b c d Mx S T) (h1 : S1 (13 + 2 * b) = S (13 + 2 * b)) (h2 : S1 (14 + 2 * b) = S (14 + 2 * b)) (h3 : T1 28 d = T 28 d) (h4 : T1 c = T c) : BX b c d Mx S1 T1 := by
  obtain ⟨len, l1, l2, l3, l4, l5, l6, l7⟩ := h
  have hc : capN S1 (13 + 2 * b) = capN S (13 + 2 * b) := by unfold capN; rw [h1]
  refine ⟨len, l1, by rw [h1]; exact l2, h3.trans l3, by rw [hc]; exact l4, by rw [hc]; exact l5, ?_, ?_⟩
  · unfold fitB
    rw [hc, h2]
    exact l6
  · intro i hi
    unfold sbch
    rw [h2, h4]
    exact l7 i hi
/-- class and reference tell the same -/
abbrev RZ (N : Nat) (S T : Mem) : Prop :=
  (RN N (S 0) (T 20))
  ∧ (S 11 0 = T 28 11 ∧ (S 11 0 = 0 ∨ (S 11 0 = 1 ∧ RN N (S 2) (T 23))))
  ∧ (PS N S T)
  ∧ (S 11 1 = T 28 10)
  ∧ (RS S T)
  ∧ (BX 0 25 14 60 S T)
  ∧ (BX 1 27 19 120 S T)
theorem RZ.now {N : Nat} {S T : Mem} (h : RZ N S T) : RN N (S 0) (T 20) := h.1
theorem RZ.sv {N : Nat} {S T : Mem} (h : RZ N S T) : S 11 0 = T 28 11 ∧ (S 11 0 = 0 ∨ (S 11 0 = 1 ∧ RN N (S 2) (T 23))) := h.2.1
theorem RZ.past {N : Nat} {S T : Mem} (h : RZ N S T) : PS N S T := h.2.2.1
theorem RZ.flt {N : Nat} {S T : Mem} (h : RZ N S T) : S 11 1 = T 28 10 := h.2.2.2.1
theorem RZ.rs {N : Nat} {S T : Mem} (h : RZ N S T) : RS S T := h.2.2.2.2.1
theorem RZ.tx {N : Nat} {S T : Mem} (h : RZ N S T) : BX 0 25 14 60 S T := h.2.2.2.2.2.1
theorem RZ.wr {N : Nat} {S T : Mem} (h : RZ N S T) : BX 1 27 19 120 S T := h.2.2.2.2.2.2
theorem RZ.mono {N' : Nat} (h : RZ N S T) (hN : N ≤ N') : RZ N' S T := ⟨h.now.mono hN, ⟨h.sv.1, h.sv.2.imp id (fun z => ⟨z.1, z.2.mono hN⟩)⟩, h.past.mono hN, h.flt, h.rs, h.tx, h.wr⟩
/-- which banks a method of the class, or of the reference, leaves -/
def Lo (S S' : Mem) : Prop := ∀ b, 20 ≤ b → S' b = S b
def Hi (T T' : Mem) : Prop := ∀ b, b < 20 → T' b = T b
theorem Lo.tr {S1 S2 : Mem} (h : Lo S S1) (h' : Lo S1 S2) : Lo S S2 := fun b hb => (h' b hb).trans (h b hb)
theorem Hi.tr {S1 S2 : Mem} (h : Hi S S1) (h' : Hi S1 S2) : Hi S S2 := fun b hb => (h' b hb).trans (h b hb)
theorem Fr.lo (h : Fr k S S') (hk : k < 20) : Lo S S' := fun b hb => h b (by omega)
theorem Fr.hi (h : Fr k S S') (hk : 20 ≤ k) : Hi S S' := fun b hb => h b (by omega)
theorem Lo.rf : Lo S S := fun _ _ => rfl
theorem Hi.rf : Hi S S := fun _ _ => rfl
theorem RZ.congr {S1 T1 : Mem} (h : RZ N S T) (h1 : Hi S S1) (h2 : Lo T T1) : RZ N S1 T1 := by
  have eS : ∀ b, b < 20 → S1 b = S b := h1
  have eT : ∀ b, 20 ≤ b → T1 b = T b := h2
  refine ⟨?_, ?_, ?_, ?_, ?_, ?_, ?_⟩
  · rw [eS 0 (by decide), eT 20 (by decide)]; exact h.now
  · rw [eS 11 (by decide), eT 28 (by decide), eS 2 (by decide), eT 23 (by decide)]; exact h.sv
  · exact h.past.congr (by rw [eS 11 (by decide)]) (by rw [eS 11 (by decide)]) (by rw [eT 28 (by decide)]) (fun b _ _ => eS b (by omega)) (eT 24 (by decide))
  · rw [eS 11 (by decide), eT 28 (by decide)]; exact h.flt
  · unfold RS; rw [eS 11 (by decide), eT 28 (by decide)]; exact h.rs
  · exact h.tx.congr (eS _ (by omega)) (eS _ (by omega)) (by rw [eT 28 (by decide)]) (eT _ (by omega))
  · exact h.wr.congr (eS _ (by omega)) (eS _ (by omega)) (by rw [eT 28 (by decide)]) (eT _ (by omega))
/-- both methods done side by side -/
def LK (N' : Nat) (S T : Mem) (x y : Option (Int32 × Mem)) : Prop := ∃ r S' T', x = some (r, S') ∧ y = some (r, T') ∧ RZ N' S' T' ∧ Lo S S' ∧ Hi T T'
/-- side by side is one after the other -/
theorem LK.seq {f g : Mem → Option (Int32 × Mem)} {N' : Nat} (H : ∀ S T, RZ N S T → LK N' S T (f S) (g T)) (h : RZ N S S) : ∃ r S1 S2, f S = some (r, S1) ∧ g S1 = some (r, S2) ∧ RZ N' S2 S2 := by
  obtain ⟨r, S1, T1, f1, g1, R1, l1, h1⟩ := H S S h
  obtain ⟨r', S2, T2, f2, g2, R2, l2, h2⟩ := H S S1 (h.congr Hi.rf l1)
  rw [f1] at f2
  obtain ⟨rfl, rfl⟩ := Prod.mk.inj (Option.some.inj f2)
  exact ⟨r, S1, T2, f1, g2, R2.congr h2 Lo.rf⟩
/-- what asks a method may add, and how many calls there are -/
def Inv (c : Nat) (S : Mem) : Prop := RZ (1300 * c) S S
end REL
