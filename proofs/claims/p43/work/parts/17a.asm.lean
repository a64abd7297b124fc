/-! ===== the world behind the constructors ===== -/
def Z0 : Mem := fun b j => if (b = 13 ∨ b = 15) ∧ j = 1 then 16 else if (b = 11 ∧ j = 1) ∨ (b = 28 ∧ j = 10) then -4 else 0
theorem z_k {k j : Nat} (h : k < 11) : Z0 k j = 0 := by
  unfold Z0
  rw [if_neg (by omega), if_neg (by omega)]
theorem z_b {b j : Nat} (h : b ≠ 11 ∧ b ≠ 13 ∧ b ≠ 15 ∧ b ≠ 28) : Z0 b j = 0 := by
  unfold Z0
  rw [if_neg (by omega), if_neg (by omega)]
abbrev Rb : Type := (Nat × Nat × Nat) × List (Nat × Nat × Nat)
/-- the address of a raft's cell -/
def rA (b : Rb) (r : Nat) : Nat := if r = 0 then b.1.1 else if r = 1 then b.1.2.1 else if r = 2 then b.1.2.2 else
  let d := b.2.getD ((r - 3) / 3) (0, 0, 0)
  if (r - 3) % 3 = 0 then d.1 else if (r - 3) % 3 = 1 then d.2.1 else d.2.2
section ASM
variable {v : EV} {A : Nat → Nat} {da : Nat → Nat} {w : Nat}
def evA (v : EV) (A : Nat → Nat) (w : Nat) : EV := (eD v, eC v, A, eN v, eT v, eZ v, eY v, eI v, w)
theorem z_row {k n st : Nat} (h : k < 11) : (fun j => if j < n then Z0 k (st + j) else 0) = fun _ => 0 := by
  funext j
  rw [z_k h]
  split <;> rfl
theorem z_rowb {b n st : Nat} (h : b ≠ 11 ∧ b ≠ 13 ∧ b ≠ 15 ∧ b ≠ 28) : (fun j => if j < n then Z0 b (st + j) else 0) = fun _ => 0 := by
  funext j
  rw [z_b h]
  split <;> rfl
theorem rb_refs {k : Nat} {d0 d1 d2 d3 d4 : Nat × Nat × Nat} (h0 : A (18 * k + 3) = d0.1) (h1 : A (18 * k + 6) = d1.1) (h2 : A (18 * k + 9) = d2.1) (h3 : A (18 * k + 12) = d3.1) (h4 : A (18 * k + 15) = d4.1) : (fun j => (([d0, d1, d2, d3, d4] : List (Nat × Nat × Nat))[j]?).map (fun b => b.1)) = fun j => if j < 5 then some (A (18 * k + 3 + 3 * j)) else none := by
  funext j
  match j with
  | 0 => rw [if_pos (by decide), show 18 * k + 3 + 3 * 0 = 18 * k + 3 by omega, h0]; rfl
  | 1 => rw [if_pos (by decide), show 18 * k + 3 + 3 * 1 = 18 * k + 6 by omega, h1]; rfl
  | 2 => rw [if_pos (by decide), show 18 * k + 3 + 3 * 2 = 18 * k + 9 by omega, h2]; rfl
  | 3 => rw [if_pos (by decide), show 18 * k + 3 + 3 * 3 = 18 * k + 12 by omega, h3]; rfl
  | 4 => rw [if_pos (by decide), show 18 * k + 3 + 3 * 4 = 18 * k + 15 by omega, h4]; rfl
  | n + 5 => rw [if_neg (by omega)]; rfl
set_option maxRecDepth 100000 in
theorem rb_ent {b : Rb} (hb : b.2.length = 5) {k : Nat} (hk : k < 11) (hA : ∀ r, r < 18 → A (18 * k + r) = rA b r) : ∀ r, r < 18 → (RB v b)[r]? = some (rA b r, ce (evA v A w) da Z0 (layRaft k r)) := by
  obtain ⟨⟨a, d, z⟩, fl⟩ := b
  match fl, hb with
  | [d0, d1, d2, d3, d4], _ =>
  have z9 : ∀ j, Z0 k j = 0 := fun j => z_k hk
  intro r hr
  match r, hr with
  | 0, _ =>
    show some (a, (Sum.inr (4, [Value.ref d, Value.ref z, .int 0, .int 0, .int 0, .int 0, .int 0, .int 0, .int 0, .int 0]) : va_E)) = some (a, Sum.inr (4, [Value.ref (A (18 * k + 1)), Value.ref (A (18 * k + 2)), .int (Z0 k 1), .int (Z0 k 0), .int (Z0 k 2), .int (Z0 k 3), .int (Z0 k 4), .int (Z0 k 5), .int (Z0 k 6), .int (Z0 k 7)]))
    simp only [z9]
    rw [hA 1 (by decide), hA 2 (by decide)]
    rfl
  | 1, _ =>
    show some (d, (Sum.inl (eC v 4, 5, refsA (fun j => (([d0, d1, d2, d3, d4] : List (Nat × Nat × Nat))[j]?).map (fun b => b.1))) : va_E)) = some (d, Sum.inl (eC v 4, 5, refsA (fun j => if j < 5 then some (A (18 * k + 3 + 3 * j)) else none)))
    rw [rb_refs (k := k) (d0 := d0) (d1 := d1) (d2 := d2) (d3 := d3) (d4 := d4) (hA 3 (by decide)) (hA 6 (by decide)) (hA 9 (by decide)) (hA 12 (by decide)) (hA 15 (by decide))]
  | 2, _ =>
    show some (z, (Sum.inl (eC v 2, 25, .inl (fun _ => 0)) : va_E)) = some (z, Sum.inl (eC v 2, 25, .inl (fun j => if j < 25 then Z0 k (8 + j) else 0)))
    rw [z_row hk]
  | 3, _ =>
    show some (d0.1, (Sum.inr (2, [.int 0, .int 0, .int 0, .int 0, .int 0, .int 0, .int 0, .int 0, .int 0, .int 0, Value.ref d0.2.1, Value.ref d0.2.2]) : va_E)) = some (d0.1, Sum.inr (2, [.int (Z0 k (33 + 34 * 0)), .int (Z0 k (33 + 34 * 0 + 1)), .int (Z0 k (33 + 34 * 0 + 2)), .int (Z0 k (33 + 34 * 0 + 3)), .int (Z0 k (33 + 34 * 0 + 4)), .int (Z0 k (33 + 34 * 0 + 5)), .int (Z0 k (33 + 34 * 0 + 6)), .int (Z0 k (33 + 34 * 0 + 7)), .int (Z0 k (33 + 34 * 0 + 8)), .int (Z0 k (33 + 34 * 0 + 9)), Value.ref (A (18 * k + 4 + 3 * 0)), Value.ref (A (18 * k + 5 + 3 * 0))]))
    simp only [z9]
    rw [show 18 * k + 4 + 3 * 0 = 18 * k + 4 by omega, show 18 * k + 5 + 3 * 0 = 18 * k + 5 by omega, hA 4 (by decide), hA 5 (by decide)]
    rfl
  | 4, _ =>
    show some (d0.2.1, (Sum.inl (eC v 0, 12, .inl (fun _ => 0)) : va_E)) = some (d0.2.1, Sum.inl (eC v 0, 12, .inl (fun j => if j < 12 then Z0 k (33 + 34 * 0 + 10 + j) else 0)))
    rw [z_row hk]
  | 5, _ =>
    show some (d0.2.2, (Sum.inl (eC v 1, 12, .inl (fun _ => 0)) : va_E)) = some (d0.2.2, Sum.inl (eC v 1, 12, .inl (fun j => if j < 12 then Z0 k (33 + 34 * 0 + 22 + j) else 0)))
    rw [z_row hk]
  | 6, _ =>
    show some (d1.1, (Sum.inr (2, [.int 0, .int 0, .int 0, .int 0, .int 0, .int 0, .int 0, .int 0, .int 0, .int 0, Value.ref d1.2.1, Value.ref d1.2.2]) : va_E)) = some (d1.1, Sum.inr (2, [.int (Z0 k (33 + 34 * 1)), .int (Z0 k (33 + 34 * 1 + 1)), .int (Z0 k (33 + 34 * 1 + 2)), .int (Z0 k (33 + 34 * 1 + 3)), .int (Z0 k (33 + 34 * 1 + 4)), .int (Z0 k (33 + 34 * 1 + 5)), .int (Z0 k (33 + 34 * 1 + 6)), .int (Z0 k (33 + 34 * 1 + 7)), .int (Z0 k (33 + 34 * 1 + 8)), .int (Z0 k (33 + 34 * 1 + 9)), Value.ref (A (18 * k + 4 + 3 * 1)), Value.ref (A (18 * k + 5 + 3 * 1))]))
    simp only [z9]
    rw [show 18 * k + 4 + 3 * 1 = 18 * k + 7 by omega, show 18 * k + 5 + 3 * 1 = 18 * k + 8 by omega, hA 7 (by decide), hA 8 (by decide)]
    rfl
  | 7, _ =>
    show some (d1.2.1, (Sum.inl (eC v 0, 12, .inl (fun _ => 0)) : va_E)) = some (d1.2.1, Sum.inl (eC v 0, 12, .inl (fun j => if j < 12 then Z0 k (33 + 34 * 1 + 10 + j) else 0)))
    rw [z_row hk]
  | 8, _ =>
    show some (d1.2.2, (Sum.inl (eC v 1, 12, .inl (fun _ => 0)) : va_E)) = some (d1.2.2, Sum.inl (eC v 1, 12, .inl (fun j => if j < 12 then Z0 k (33 + 34 * 1 + 22 + j) else 0)))
    rw [z_row hk]
  | 9, _ =>
    show some (d2.1, (Sum.inr (2, [.int 0, .int 0, .int 0, .int 0, .int 0, .int 0, .int 0, .int 0, .int 0, .int 0, Value.ref d2.2.1, Value.ref d2.2.2]) : va_E)) = some (d2.1, Sum.inr (2, [.int (Z0 k (33 + 34 * 2)), .int (Z0 k (33 + 34 * 2 + 1)), .int (Z0 k (33 + 34 * 2 + 2)), .int (Z0 k (33 + 34 * 2 + 3)), .int (Z0 k (33 + 34 * 2 + 4)), .int (Z0 k (33 + 34 * 2 + 5)), .int (Z0 k (33 + 34 * 2 + 6)), .int (Z0 k (33 + 34 * 2 + 7)), .int (Z0 k (33 + 34 * 2 + 8)), .int (Z0 k (33 + 34 * 2 + 9)), Value.ref (A (18 * k + 4 + 3 * 2)), Value.ref (A (18 * k + 5 + 3 * 2))]))
    simp only [z9]
    rw [show 18 * k + 4 + 3 * 2 = 18 * k + 10 by omega, show 18 * k + 5 + 3 * 2 = 18 * k + 11 by omega, hA 10 (by decide), hA 11 (by decide)]
    rfl
  | 10, _ =>
    show some (d2.2.1, (Sum.inl (eC v 0, 12, .inl (fun _ => 0)) : va_E)) = some (d2.2.1, Sum.inl (eC v 0, 12, .inl (fun j => if j < 12 then Z0 k (33 + 34 * 2 + 10 + j) else 0)))
    rw [z_row hk]
  | 11, _ =>
    show some (d2.2.2, (Sum.inl (eC v 1, 12, .inl (fun _ => 0)) : va_E)) = some (d2.2.2, Sum.inl (eC v 1, 12, .inl (fun j => if j < 12 then Z0 k (33 + 34 * 2 + 22 + j) else 0)))
    rw [z_row hk]
  | 12, _ =>
    show some (d3.1, (Sum.inr (2, [.int 0, .int 0, .int 0, .int 0, .int 0, .int 0, .int 0, .int 0, .int 0, .int 0, Value.ref d3.2.1, Value.ref d3.2.2]) : va_E)) = some (d3.1, Sum.inr (2, [.int (Z0 k (33 + 34 * 3)), .int (Z0 k (33 + 34 * 3 + 1)), .int (Z0 k (33 + 34 * 3 + 2)), .int (Z0 k (33 + 34 * 3 + 3)), .int (Z0 k (33 + 34 * 3 + 4)), .int (Z0 k (33 + 34 * 3 + 5)), .int (Z0 k (33 + 34 * 3 + 6)), .int (Z0 k (33 + 34 * 3 + 7)), .int (Z0 k (33 + 34 * 3 + 8)), .int (Z0 k (33 + 34 * 3 + 9)), Value.ref (A (18 * k + 4 + 3 * 3)), Value.ref (A (18 * k + 5 + 3 * 3))]))
    simp only [z9]
    rw [show 18 * k + 4 + 3 * 3 = 18 * k + 13 by omega, show 18 * k + 5 + 3 * 3 = 18 * k + 14 by omega, hA 13 (by decide), hA 14 (by decide)]
    rfl
  | 13, _ =>
    show some (d3.2.1, (Sum.inl (eC v 0, 12, .inl (fun _ => 0)) : va_E)) = some (d3.2.1, Sum.inl (eC v 0, 12, .inl (fun j => if j < 12 then Z0 k (33 + 34 * 3 + 10 + j) else 0)))
    rw [z_row hk]
  | 14, _ =>
    show some (d3.2.2, (Sum.inl (eC v 1, 12, .inl (fun _ => 0)) : va_E)) = some (d3.2.2, Sum.inl (eC v 1, 12, .inl (fun j => if j < 12 then Z0 k (33 + 34 * 3 + 22 + j) else 0)))
    rw [z_row hk]
  | 15, _ =>
    show some (d4.1, (Sum.inr (2, [.int 0, .int 0, .int 0, .int 0, .int 0, .int 0, .int 0, .int 0, .int 0, .int 0, Value.ref d4.2.1, Value.ref d4.2.2]) : va_E)) = some (d4.1, Sum.inr (2, [.int (Z0 k (33 + 34 * 4)), .int (Z0 k (33 + 34 * 4 + 1)), .int (Z0 k (33 + 34 * 4 + 2)), .int (Z0 k (33 + 34 * 4 + 3)), .int (Z0 k (33 + 34 * 4 + 4)), .int (Z0 k (33 + 34 * 4 + 5)), .int (Z0 k (33 + 34 * 4 + 6)), .int (Z0 k (33 + 34 * 4 + 7)), .int (Z0 k (33 + 34 * 4 + 8)), .int (Z0 k (33 + 34 * 4 + 9)), Value.ref (A (18 * k + 4 + 3 * 4)), Value.ref (A (18 * k + 5 + 3 * 4))]))
    simp only [z9]
    rw [show 18 * k + 4 + 3 * 4 = 18 * k + 16 by omega, show 18 * k + 5 + 3 * 4 = 18 * k + 17 by omega, hA 16 (by decide), hA 17 (by decide)]
    rfl
  | 16, _ =>
    show some (d4.2.1, (Sum.inl (eC v 0, 12, .inl (fun _ => 0)) : va_E)) = some (d4.2.1, Sum.inl (eC v 0, 12, .inl (fun j => if j < 12 then Z0 k (33 + 34 * 4 + 10 + j) else 0)))
    rw [z_row hk]
  | 17, _ =>
    show some (d4.2.2, (Sum.inl (eC v 1, 12, .inl (fun _ => 0)) : va_E)) = some (d4.2.2, Sum.inl (eC v 1, 12, .inl (fun j => if j < 12 then Z0 k (33 + 34 * 4 + 22 + j) else 0)))
    rw [z_row hk]
  | n + 18, h => omega
theorem rb_len {b : Rb} (hb : b.2.length = 5) : (RB v b).length = 18 := by
  obtain ⟨⟨a, d, z⟩, fl⟩ := b
  match fl, hb with
  | [d0, d1, d2, d3, d4], _ => rfl
theorem fm_at {β : Type} {bw : β → va_W} {n : Nat} : ∀ (rl : List β), (∀ b ∈ rl, (bw b).length = n) → ∀ (i r : Nat) (b : β), rl[i]? = some b → r < n → (rl.flatMap bw)[n * i + r]? = (bw b)[r]?
  | [], _, i, r, b, h, _ => by simp at h
  | x :: rl, hl, 0, r, b, h, hr => by
    obtain rfl : x = b := Option.some.inj h
    rw [List.flatMap_cons, List.getElem?_append_left (by rw [hl x List.mem_cons_self]; omega), Nat.mul_zero, Nat.zero_add]
  | x :: rl, hl, i + 1, r, b, h, hr => by
    rw [List.flatMap_cons, List.getElem?_append_right (by rw [hl x List.mem_cons_self, Nat.mul_succ]; omega), hl x List.mem_cons_self, show n * (i + 1) + r - n = n * i + r by rw [Nat.mul_succ]; omega]
    exact fm_at rl (fun b hb => hl b (List.mem_cons_of_mem _ hb)) i r b h hr
theorem fm_len {β : Type} {bw : β → va_W} {n : Nat} : ∀ (rl : List β), (∀ b ∈ rl, (bw b).length = n) → (rl.flatMap bw).length = n * rl.length
  | [], _ => by simp
  | x :: rl, hl => by
    rw [List.flatMap_cons, List.length_append, hl x List.mem_cons_self, fm_len rl (fun b hb => hl b (List.mem_cons_of_mem _ hb)), List.length_cons, Nat.mul_succ]
    omega
theorem ap_r {X Y : va_W} {n i : Nat} (h : X.length = n) : (X ++ Y)[n + i]? = Y[i]? := by
  rw [List.getElem?_append_right (by omega), h, Nat.add_sub_cancel_left]
theorem ap_l {X Y : va_W} {n i : Nat} (h : X.length = n) (hi : i < n) : (X ++ Y)[i]? = X[i]? := List.getElem?_append_left (by omega)
abbrev Pb : Type := (Nat × Nat) × List Rb
abbrev Tb : Type := (Nat × Nat × (Nat × Nat)) × List Nat
def adA (a : Nat) (r : Nat → Rb) (pb : Pb) (rs : Nat) (tb : Tb) (sb : Nat × Nat) (p : Nat) : Nat :=
  if p < 54 then rA (r (p / 18)) (p % 18) else if p < 198 then rA (pb.2.getD ((p - 54) / 18) ((0, 0, 0), [])) ((p - 54) % 18) else if p = 198 then a else if p = 199 then pb.1.1 else if p = 200 then pb.1.2 else if p = 201 then rs else if p = 202 then tb.1.1 else if p = 203 then tb.1.2.2.1 else if p = 204 then tb.1.2.1 else if p < 217 then tb.2.getD (p - 205) 0 else sb.1
def daA (tb : Tb) (sb : Nat × Nat) (i : Nat) : Nat := if i = 0 then tb.1.2.2.2 else sb.2
def gA (k : Nat) : Nat := if k < 54 then k + 1 else if k < 198 then k + 3 else if k = 198 then 0 else if k = 199 then 55 else if k = 200 then 56 else if k < 204 then k else if k < 217 then k + 1 else if k = 217 then 218 else if k = 218 then 204 else 219
def gI (k : Nat) : Nat := if k = 0 then 198 else if k < 55 then k - 1 else if k = 55 then 199 else if k = 56 then 200 else if k < 201 then k - 3 else if k < 204 then k else if k = 204 then 218 else if k < 218 then k - 1 else if k = 218 then 217 else 219
theorem gI_A : ∀ k, k < 220 → gI (gA k) = k := by decide +kernel
/-- the world, block by block -/
def WF (v : EV) (a : Nat) (r : Nat → Rb) (pb : Pb) (rs : Nat) (tb : Tb) (sb : Nat × Nat) : va_W :=
  [(a, .inr (7, [.ref (r 0).1.1, .ref (r 1).1.1, .ref (r 2).1.1, .ref pb.1.1, .ref rs, .ref tb.1.1, .ref sb.1, .int 0, .int (-4)]))] ++ (RB v (r 0) ++ (RB v (r 1) ++ (RB v (r 2) ++ (PBY v pb.1.1 pb.1.2 pb.2 ++ (pb.2.flatMap (RB v) ++ ([(rs, .inr (5, [.int 0, .int 0, .int 0, .int 0]))] ++ (TBY v tb.1.1 tb.1.2.1 tb.1.2.2 tb.2 ++ (tb.2.flatMap (CB v) ++ SBW v sb))))))))
theorem wf_eq {a : Nat} {r : Nat → Rb} {pb : Pb} {rs : Nat} {tb : Tb} {sb : Nat × Nat} : LB v a r pb rs tb sb = WF v a r pb rs tb sb := by
  unfold LB WF PBW TBW
  simp only [List.append_assoc]
theorem ps_refs {pb : Pb} (h8 : pb.2.length = 8) (h : ∀ j, j < 8 → A (54 + 18 * j) = (pb.2.getD j ((0, 0, 0), [])).1.1) : (fun j => (pb.2[j]?).map (fun b => b.1.1)) = fun j => if j < 8 then some (A (54 + 18 * j)) else none := by
  funext j
  by_cases hj : j < 8
  · rw [if_pos hj, h j hj, List.getElem?_eq_getElem (by omega)]
    simp [List.getD_eq_getElem?_getD, List.getElem?_eq_getElem (show j < pb.2.length by omega)]
  · rw [if_neg hj, List.getElem?_eq_none (by omega)]
    rfl
theorem cm_refs {tb : Tb} (h12 : tb.2.length = 12) (h : ∀ j, j < 12 → A (205 + 1 * j) = tb.2.getD j 0) : (fun j => (tb.2[j]?).map (fun b => b)) = fun j => if j < 12 then some (A (205 + 1 * j)) else none := by
  funext j
  by_cases hj : j < 12
  · rw [if_pos hj, h j hj, List.getElem?_eq_getElem (by omega)]
    simp [List.getD_eq_getElem?_getD, List.getElem?_eq_getElem (show j < tb.2.length by omega)]
  · rw [if_neg hj, List.getElem?_eq_none (by omega)]
    rfl
theorem layF_rest {p : Nat} (h : ¬ p < 198) : layF p = layRest (p - 198) := if_neg h
theorem layF_raft {k r : Nat} (hk : k < 11) (hr : r < 18) : layF (18 * k + r) = layRaft k r := by
  unfold layF
  rw [if_pos (by omega), show (18 * k + r) / 18 = k by omega, show (18 * k + r) % 18 = r by omega]
set_option maxHeartbeats 4000000 in
set_option maxRecDepth 100000 in
theorem wf_ent {a : Nat} {r : Nat → Rb} {pb : Pb} {rs : Nat} {tb : Tb} {sb : Nat × Nat} (hda : da 0 = tb.1.2.2.2 ∧ da 1 = sb.2) (h5 : ∀ i, (r i).2.length = 5) (h8 : pb.2.length = 8 ∧ ∀ x ∈ pb.2, x.2.length = 5) (h12 : tb.2.length = 12) :
    ∀ p, p < 218 → (WF v a r pb rs tb sb)[gA p]? = some (adA a r pb rs tb sb p, ce (evA v (adA a r pb rs tb sb) sb.1) da Z0 (layF p)) := by
  have l0 := rb_len (v := v) (h5 0)
  have l1 := rb_len (v := v) (h5 1)
  have l2 := rb_len (v := v) (h5 2)
  have l4 : (pb.2.flatMap (RB v)).length = 144 := by rw [fm_len pb.2 (n := 18) (fun b hb => rb_len (h8.2 b hb)), h8.1]
  have l7 : (tb.2.flatMap (CB v)).length = 12 := by rw [fm_len tb.2 (n := 1) (fun b hb => rfl), h12]
  generalize hA0 : adA a r pb rs tb sb = A
  have hA : ∀ p, A p = adA a r pb rs tb sb p := fun p => by rw [hA0]
  have hR : ∀ k, k < 3 → ∀ q, q < 18 → A (18 * k + q) = rA (r k) q := by
    intro k hk q hq
    rw [hA]
    unfold adA
    rw [if_pos (by omega), show (18 * k + q) / 18 = k by omega, show (18 * k + q) % 18 = q by omega]
  have hP : ∀ k, k < 8 → ∀ q, q < 18 → A (18 * (3 + k) + q) = rA (pb.2.getD k ((0, 0, 0), [])) q := by
    intro k hk q hq
    rw [hA]
    unfold adA
    rw [if_neg (by omega), if_pos (by omega), show (18 * (3 + k) + q - 54) / 18 = k by omega, show (18 * (3 + k) + q - 54) % 18 = q by omega]
  intro p hp
  unfold WF gA
  by_cases p1 : p < 54
  · rw [if_pos p1]
    obtain ⟨k, q, hk, hq, rfl⟩ : ∃ k q, k < 3 ∧ q < 18 ∧ p = 18 * k + q := ⟨p / 18, p % 18, by omega, by omega, by omega⟩
    rw [layF_raft (by omega) hq, hR k hk q hq]
    have e := rb_ent (v := v) (A := A) (da := da) (w := sb.1) (h5 k) (k := k) (by omega) (hR k hk) q hq
    rw [show 18 * k + q + 1 = 1 + (18 * k + q) by omega, ap_r (n := 1) rfl]
    match k, hk with
    | 0, _ => rw [show 18 * 0 + q = q by omega, ap_l l0 hq]; exact e
    | 1, _ => rw [show 18 * 1 + q = 18 + q by omega, ap_r l0, ap_l l1 hq]; exact e
    | 2, _ => rw [show 18 * 2 + q = 18 + (18 + q) by omega, ap_r l0, ap_r l1, ap_l l2 hq]; exact e
    | n + 3, h => omega
  rw [if_neg p1]
  by_cases p2 : p < 198
  · rw [if_pos p2]
    obtain ⟨k, q, hk, hq, rfl⟩ : ∃ k q, k < 8 ∧ q < 18 ∧ p = 18 * (3 + k) + q := ⟨p / 18 - 3, p % 18, by omega, by omega, by omega⟩
    rw [layF_raft (by omega) hq, hP k hk q hq]
    have hk9 : k < pb.2.length := by omega
    have eg : pb.2[k]? = some (pb.2.getD k ((0, 0, 0), [])) := by
      rw [List.getD_eq_getElem?_getD, List.getElem?_eq_getElem hk9]; rfl
    have hm : pb.2.getD k ((0, 0, 0), []) ∈ pb.2 := List.mem_of_getElem? eg
    have e := rb_ent (v := v) (A := A) (da := da) (w := sb.1) (h8.2 _ hm) (k := 3 + k) (by omega) (hP k hk) q hq
    rw [show 18 * (3 + k) + q + 3 = 1 + (18 + (18 + (18 + (2 + (18 * k + q))))) by omega, ap_r (n := 1) rfl, ap_r l0, ap_r l1, ap_r l2, ap_r (n := 2) rfl, ap_l l4 (by omega), fm_at pb.2 (fun b hb => rb_len (h8.2 b hb)) k q _ eg hq]
    exact e
  rw [if_neg p2]
  by_cases p9 : p < 217 ∧ 205 ≤ p
  · obtain ⟨c, hc, rfl⟩ : ∃ c, c < 12 ∧ p = 205 + 1 * c := ⟨p - 205, by omega, by omega⟩
    rw [if_neg (by omega), if_neg (by omega), if_neg (by omega), if_neg (by omega), if_pos (by omega)]
    have e1 : A (205 + 1 * c) = tb.2.getD c 0 := by
      rw [hA]
      unfold adA
      rw [if_neg (by omega), if_neg (by omega), if_neg (by omega), if_neg (by omega), if_neg (by omega), if_neg (by omega), if_neg (by omega), if_neg (by omega), if_neg (by omega), if_pos (by omega), show 205 + 1 * c - 205 = c by omega]
    have eg : tb.2[c]? = some (tb.2.getD c 0) := by
      rw [List.getD_eq_getElem?_getD, List.getElem?_eq_getElem (show c < tb.2.length by omega)]; rfl
    rw [show 205 + 1 * c + 1 = 1 + (18 + (18 + (18 + (2 + (144 + (1 + (4 + (1 * c + 0)))))))) by omega, ap_r (n := 1) rfl, ap_r l0, ap_r l1, ap_r l2, ap_r (n := 2) rfl, ap_r l4, ap_r (n := 1) rfl, ap_r (n := 4) rfl, ap_l l7 (by omega), fm_at (bw := CB v) (n := 1) tb.2 (fun b hb => rfl) c 0 _ eg (by decide), e1]
    have el : layF (205 + 1 * c) = .inl (1, [(2, 12, 3 * c), (0, 12, 3 * c + 1), (0, 12, 3 * c + 2)]) := lay_C hc
    rw [el]
    show some (tb.2.getD c 0, (Sum.inr (1, [Value.null, .int 0, .int 0]) : va_E)) = some (_, Sum.inr (1, [wv (evA v A sb.1) (Z0 12 (3 * c)), .int (Z0 12 (3 * c + 1)), .int (Z0 12 (3 * c + 2))]))
    rw [z_b (by decide), z_b (by decide), z_b (by decide), wv_0]
  have pc : ∀ n, 198 ≤ n → n < 218 → ¬ (n < 217 ∧ 205 ≤ n) → n = 198 ∨ n = 199 ∨ n = 200 ∨ n = 201 ∨ n = 202 ∨ n = 203 ∨ n = 204 ∨ n = 217 := by omega
  have aR : ∀ k, k < 3 → A (18 * k) = (r k).1.1 := fun k hk => hR k hk 0 (by decide)
  have av : ∀ n, A n = adA a r pb rs tb sb n := hA
  rcases pc p (by omega) hp p9 with rfl | rfl | rfl | rfl | rfl | rfl | rfl | rfl
  · show (_ ++ _ : va_W)[0]? = _
    rw [show 0 = 0 from rfl, ap_l (n := 1) rfl (by decide)]
    show some (a, (Sum.inr (7, [Value.ref (r 0).1.1, .ref (r 1).1.1, .ref (r 2).1.1, .ref pb.1.1, .ref rs, .ref tb.1.1, .ref sb.1, .int 0, .int (-4)]) : va_E)) = some (A 198, Sum.inr (7, [Value.ref (A 0), .ref (A 18), .ref (A 36), .ref (A 199), .ref (A 201),   .ref (A 202), .ref sb.1, .int (Z0 11 0), .int (Z0 11 1)]))
    rw [av 198, av 0, av 18, av 36, av 199, av 201, av 202]
    rfl
  · show (_ ++ _ : va_W)[55]? = _
    rw [show 55 = 1 + (18 + (18 + (18 + 0))) from rfl, ap_r (n := 1) rfl, ap_r (n := 18) l0, ap_r (n := 18) l1, ap_r (n := 18) l2, ap_l (n := 2) rfl (by decide)]
    show some (pb.1.1, (Sum.inr (3, [Value.ref pb.1.2, .int 0, .int 0]) : va_E)) = some (A 199, Sum.inr (3, [Value.ref (A 200), .int (Z0 11 2), .int (Z0 11 3)]))
    rw [av 199, av 200]
    rfl
  · show (_ ++ _ : va_W)[56]? = _
    rw [show 56 = 1 + (18 + (18 + (18 + 1))) from rfl, ap_r (n := 1) rfl, ap_r (n := 18) l0, ap_r (n := 18) l1, ap_r (n := 18) l2, ap_l (n := 2) rfl (by decide)]
    have e9 := ps_refs (A := A) h8.1 (fun j hj => by rw [show 54 + 18 * j = 18 * (3 + j) + 0 by omega]; exact hP j hj 0 (by decide))
    show some (pb.1.2, (Sum.inl (eC v 5, 8, refsA (fun j => (pb.2[j]?).map (fun b => b.1.1))) : va_E)) = some (A 200, Sum.inl (eC v 5, 8, refsA (fun j => if j < 8 then some (A (54 + 18 * j)) else none)))
    rw [e9, av 200]
    rfl
  · show (_ ++ _ : va_W)[201]? = _
    rw [show 201 = 1 + (18 + (18 + (18 + (2 + (144 + 0))))) from rfl, ap_r (n := 1) rfl, ap_r (n := 18) l0, ap_r (n := 18) l1, ap_r (n := 18) l2, ap_r (n := 2) rfl, ap_r (n := 144) l4, ap_l (n := 1) rfl (by decide)]
    show some (rs, (Sum.inr (5, [Value.int 0, .int 0, .int 0, .int 0]) : va_E)) = some (A 201, Sum.inr (5, [Value.int (Z0 11 4), .int (Z0 11 5), .int (Z0 11 6), .int (Z0 11 7)]))
    rw [av 201]
    rfl
  · show (_ ++ _ : va_W)[202]? = _
    rw [show 202 = 1 + (18 + (18 + (18 + (2 + (144 + (1 + 0)))))) from rfl, ap_r (n := 1) rfl, ap_r (n := 18) l0, ap_r (n := 18) l1, ap_r (n := 18) l2, ap_r (n := 2) rfl, ap_r (n := 144) l4, ap_r (n := 1) rfl, ap_l (n := 4) rfl (by decide)]
    show some (tb.1.1, (Sum.inr (6, [Value.ref tb.1.2.2.1, .ref tb.1.2.1, .int 0, .int 0]) : va_E)) = some (A 202, Sum.inr (6, [Value.ref (A 203), .ref (A 204), .int (Z0 11 8), .int (Z0 11 9)]))
    rw [av 202, av 203, av 204]
    rfl
  · show (_ ++ _ : va_W)[203]? = _
    rw [show 203 = 1 + (18 + (18 + (18 + (2 + (144 + (1 + 1)))))) from rfl, ap_r (n := 1) rfl, ap_r (n := 18) l0, ap_r (n := 18) l1, ap_r (n := 18) l2, ap_r (n := 2) rfl, ap_r (n := 144) l4, ap_r (n := 1) rfl, ap_l (n := 4) rfl (by decide)]
    show some (tb.1.2.2.1, (Sum.inr (0, [Value.ref tb.1.2.2.2, .int 0, .int 0, .int 0]) : va_E)) = some (A 203, Sum.inr (0, [Value.ref (da 0), .int 0, .int (Z0 13 2), .int (Z0 13 0)]))
    rw [av 203, hda.1]
    rfl
  · show (_ ++ _ : va_W)[205]? = _
    rw [show 205 = 1 + (18 + (18 + (18 + (2 + (144 + (1 + 3)))))) from rfl, ap_r (n := 1) rfl, ap_r (n := 18) l0, ap_r (n := 18) l1, ap_r (n := 18) l2, ap_r (n := 2) rfl, ap_r (n := 144) l4, ap_r (n := 1) rfl, ap_l (n := 4) rfl (by decide)]
    have e9 := cm_refs (A := A) h12 (fun j hj => by
      rw [hA]
      unfold adA
      rw [if_neg (by omega), if_neg (by omega), if_neg (by omega), if_neg (by omega), if_neg (by omega), if_neg (by omega), if_neg (by omega), if_neg (by omega), if_neg (by omega), if_pos (by omega), show 205 + 1 * j - 205 = j by omega])
    show some (tb.1.2.1, (Sum.inl (eC v 6, 12, refsA (fun j => (tb.2[j]?).map (fun b => b))) : va_E)) = some (A 204, Sum.inl (eC v 6, 12, refsA (fun j => if j < 12 then some (A (205 + 1 * j)) else none)))
    rw [e9, av 204]
    rfl
  · show (_ ++ _ : va_W)[218]? = _
    rw [show 218 = 1 + (18 + (18 + (18 + (2 + (144 + (1 + (4 + (12 + 0)))))))) from rfl, ap_r (n := 1) rfl, ap_r (n := 18) l0, ap_r (n := 18) l1, ap_r (n := 18) l2, ap_r (n := 2) rfl, ap_r (n := 144) l4, ap_r (n := 1) rfl, ap_r (n := 4) rfl, ap_r (n := 12) l7]
    show some (sb.1, (Sum.inr (0, [Value.ref sb.2, .int 0, .int 0, .int 0]) : va_E)) = some (A 217, Sum.inr (0, [Value.ref (da 1), .int 0, .int (Z0 15 2), .int (Z0 15 0)]))
    rw [av 217, hda.2]
    rfl
theorem wf_len {a : Nat} {r : Nat → Rb} {pb : Pb} {rs : Nat} {tb : Tb} {sb : Nat × Nat} (h5 : ∀ i, (r i).2.length = 5) (h8 : pb.2.length = 8 ∧ ∀ x ∈ pb.2, x.2.length = 5) (h12 : tb.2.length = 12) : (WF v a r pb rs tb sb)[204]? = some (tb.1.2.2.2, .inl (eC v 3, 16, .inl (fun _ => 0))) ∧ (WF v a r pb rs tb sb)[219]? = some (sb.2, .inl (eC v 3, 16, .inl (fun _ => 0))) := by
  have l0 := rb_len (v := v) (h5 0)
  have l1 := rb_len (v := v) (h5 1)
  have l2 := rb_len (v := v) (h5 2)
  have l4 : (pb.2.flatMap (RB v)).length = 144 := by rw [fm_len pb.2 (n := 18) (fun b hb => rb_len (h8.2 b hb)), h8.1]
  have l7 : (tb.2.flatMap (CB v)).length = 12 := by rw [fm_len tb.2 (n := 1) (fun b hb => rfl), h12]
  unfold WF
  refine ⟨?_, ?_⟩
  · rw [show 204 = 1 + (18 + (18 + (18 + (2 + (144 + (1 + 2)))))) from rfl, ap_r (n := 1) rfl, ap_r (n := 18) l0, ap_r (n := 18) l1, ap_r (n := 18) l2, ap_r (n := 2) rfl, ap_r (n := 144) l4, ap_r (n := 1) rfl, ap_l (n := 4) rfl (by decide)]
    rfl
  · rw [show 219 = 1 + (18 + (18 + (18 + (2 + (144 + (1 + (4 + (12 + 1)))))))) from rfl, ap_r (n := 1) rfl, ap_r (n := 18) l0, ap_r (n := 18) l1, ap_r (n := 18) l2, ap_r (n := 2) rfl, ap_r (n := 144) l4, ap_r (n := 1) rfl, ap_r (n := 4) rfl, ap_r (n := 12) l7]
    rfl
theorem wf_WD {a : Nat} {r : Nat → Rb} {pb : Pb} {rs : Nat} {tb : Tb} {sb : Nat × Nat} {H : Heap} (h5 : ∀ i, (r i).2.length = 5) (h8 : pb.2.length = 8 ∧ ∀ x ∈ pb.2, x.2.length = 5) (h12 : tb.2.length = 12) (hW : Lw v (WF v a r pb rs tb sb) H) : WDa (evA v (adA a r pb rs tb sb) sb.1) (daA tb sb) Z0 H := by
  have hg : ∀ (k : Nat) (q : Nat × va_E), (wsW (evA v (adA a r pb rs tb sb) sb.1) (daA tb sb) Z0)[k]? = some q → (WF v a r pb rs tb sb)[gA k]? = some q := by
    intro k q hk
    have hlen : k < layN + 2 := by
      have := (List.getElem?_eq_some_iff.mp hk).1
      rwa [wsW_len] at this
    have e9 : layN = 218 := rfl
    rw [e9] at hlen
    by_cases h1 : k < 218
    · rw [wsW_at (by rw [e9]; exact h1)] at hk
      rw [← hk]
      exact wf_ent (da := daA tb sb) ⟨rfl, rfl⟩ h5 h8 h12 k h1
    · have h2 : k = layN + 0 ∨ k = layN + 1 := by rw [e9]; omega
      rcases h2 with rfl | rfl
      · rw [wsW_dy (by decide)] at hk
        rw [← hk]
        show (WF v a r pb rs tb sb)[204]? = _
        rw [(wf_len h5 h8 h12).1]
        have e1 : Z0 (14 + 2 * 0) = fun _ => 0 := funext fun j => z_b (by decide)
        rw [e1]
        rfl
      · rw [wsW_dy (by decide)] at hk
        rw [← hk]
        show (WF v a r pb rs tb sb)[219]? = _
        rw [(wf_len h5 h8 h12).2]
        have e1 : Z0 (14 + 2 * 1) = fun _ => 0 := funext fun j => z_b (by decide)
        rw [e1]
        rfl
  refine ⟨hW.1.by _ hg, hW.2.by _ hg fun i j hi hj hij => ?_⟩
  rw [wsW_len] at hi hj
  have e9 : layN = 218 := rfl
  rw [e9] at hi hj
  rw [← gI_A i hi, ← gI_A j hj, hij]
end ASM
