/-! ===== the words that hold at every entry ===== -/
/-- private methods of the builder's upper class, chosen on a builder -/
def twX : List Cond := [Cond.selects RJ4 yJ5_newCapacity_0f7a4 yJ5_newCapacity_0f7a4, Cond.selects RJ4 yJ5_ensureCapacityInternal_d00df yJ5_ensureCapacityInternal_d00df, Cond.selects RJ4 yJ5_putStringAt_47b60 yJ5_putStringAt_47b60, Cond.selects RJ4 yJ5_inflateIfNeededFor_a7421 yJ5_inflateIfNeededFor_a7421]
def TW : List Cond := twX ++ lw_tbl.filter goodWord
theorem tw_of {w : Cond} {i : Nat} (h : lw_tbl[i]? = some w) (hg : goodWord w = true) : w ∈ TW := List.mem_append_right _ (List.mem_filter.mpr ⟨List.mem_of_getElem? h, hg⟩)
theorem tw_good : GoodIn TW TW := fun w h => ⟨h, by
  rcases List.mem_append.mp h with h | h
  · have h2 : twX.all goodWord = true := rfl
    exact good_of_word (List.all_eq_true.mp h2 w h)
  · exact good_of_word (List.mem_filter.mp h).2⟩
/-! ===== the memory: banks of ints; places of objects and arrays; what stands at a place ===== -/
abbrev Mem : Type := Nat → Nat → Int32
def up (S : Mem) (b j : Nat) (x : Int32) : Mem := fun b' j' => if b' = b ∧ j' = j then x else S b' j'
theorem up_same (S : Mem) (b j : Nat) (x : Int32) : up S b j x b j = x := by simp [up]
theorem up_ne (S : Mem) {b j b' j' : Nat} (x : Int32) (h : ¬ (b' = b ∧ j' = j)) : up S b j x b' j' = S b' j' := by simp [up, h]
/-- the fixed data of a run: classes; array classes; the places' addresses; where the law's cells begin; addresses of constants; what is known of the constants -/
abbrev SY : Type := Nat × Nat × Nat × (Nat → Int32)
abbrev IY : Type := Nat × Nat × (Nat → Int32)
/-- cells of the law's own that nobody writes any more; texts; rows of ints -/
abbrev EXt : Type := List Nat × List SY × List IY × Nat
abbrev EV : Type := va_G × (Nat → ClassId) × (Nat → Nat) × Nat × (Nat → Nat) × EXt
abbrev eD (v : EV) : va_G := v.1
abbrev eC (v : EV) : Nat → ClassId := v.2.1
abbrev eA (v : EV) : Nat → Nat := v.2.2.1
abbrev eN (v : EV) : Nat := v.2.2.2.1
abbrev eT (v : EV) : Nat → Nat := v.2.2.2.2.1
abbrev eZ (v : EV) : List Nat := v.2.2.2.2.2.1
abbrev eY (v : EV) : List SY := v.2.2.2.2.2.2.1
abbrev eI (v : EV) : List IY := v.2.2.2.2.2.2.2.1
/-- where the class's own builder of lines lies -/
abbrev eW (v : EV) : Nat := v.2.2.2.2.2.2.2.2
abbrev eG (v : EV) : Nat → Prop := fun q => eN v ≤ q ∧ q ∉ eZ v
/-- what lies below a heap of that size -/
def eB (v : EV) (n : Nat) : Prop := eN v ≤ n ∧ ∀ q ∈ eZ v, q < n
theorem eB.up {v : EV} {n m : Nat} (h : eB v n) (k : n ≤ m) : eB v m := ⟨Nat.le_trans h.1 k, fun q hq => Nat.lt_of_lt_of_le (h.2 q hq) k⟩
theorem eB.new {v : EV} {n q : Nat} (h : eB v n) (k : n ≤ q) : eG v q := ⟨Nat.le_trans h.1 k, fun z => Nat.lt_irrefl _ (Nat.lt_of_lt_of_le (h.2 q z) k)⟩
abbrev FS : Type := Nat × Nat × Nat
abbrev DS : Type := (Nat × List FS) ⊕ (Nat × Nat × Nat × Nat × Nat)
def wv (v : EV) (x : Int32) : Value := if x = 0 then .null else .ref (eT v (x - 1).toNatClampNeg)
def fv (v : EV) (da : Nat → Nat) (S : Mem) (f : FS) : Value :=
  if f.1 = 0 then .int (S f.2.1 f.2.2) else if f.1 = 1 then .ref (eA v f.2.1) else if f.1 = 2 then wv v (S f.2.1 f.2.2) else if f.1 = 3 then .ref (da f.2.1) else if f.1 = 5 then .ref (eW v) else .int (Int32.ofNat f.2.1)
def ce (v : EV) (da : Nat → Nat) (S : Mem) : DS → va_E
  | .inl (ci, fs) => .inr (ci, fs.map (fv v da S))
  | .inr (t, n, 0, b, st) => .inl (eC v t, n, .inl (fun j => if j < n then S b (st + j) else 0))
  | .inr (t, n, _, x, y) => .inl (eC v t, n, .inr (.inr (.inr (.inr (fun j => if j < n then some (eA v (x + y * j)) else none)))))
def pR (k : Nat) : Nat := 18 * k
def pD (k i : Nat) : Nat := 18 * k + 3 + 3 * i
def layRaft (k r : Nat) : DS :=
  if r = 0 then .inl (4, [(1, 18 * k + 1, 0), (1, 18 * k + 2, 0), (0, k, 1), (0, k, 0), (0, k, 2), (0, k, 3), (0, k, 4), (0, k, 5), (0, k, 6), (0, k, 7)])
  else if r = 1 then .inr (4, 5, 1, 18 * k + 3, 3)
  else if r = 2 then .inr (2, 25, 0, k, 8)
  else if (r - 3) % 3 = 0 then .inl (2, [(0, k, 33 + 34 * ((r - 3) / 3)), (0, k, 33 + 34 * ((r - 3) / 3) + 1), (0, k, 33 + 34 * ((r - 3) / 3) + 2), (0, k, 33 + 34 * ((r - 3) / 3) + 3), (0, k, 33 + 34 * ((r - 3) / 3) + 4), (0, k, 33 + 34 * ((r - 3) / 3) + 5), (0, k, 33 + 34 * ((r - 3) / 3) + 6), (0, k, 33 + 34 * ((r - 3) / 3) + 7), (0, k, 33 + 34 * ((r - 3) / 3) + 8), (0, k, 33 + 34 * ((r - 3) / 3) + 9), (1, 18 * k + 4 + 3 * ((r - 3) / 3), 0), (1, 18 * k + 5 + 3 * ((r - 3) / 3), 0)])
  else if (r - 3) % 3 = 1 then .inr (0, 12, 0, k, 33 + 34 * ((r - 3) / 3) + 10)
  else .inr (1, 12, 0, k, 33 + 34 * ((r - 3) / 3) + 22)
def layRest : Nat → DS
  | 0 => .inl (7, [(1, 0, 0), (1, 18, 0), (1, 36, 0), (1, 199, 0), (1, 201, 0), (1, 202, 0), (5, 0, 0), (0, 11, 0), (0, 11, 1)])
  | 1 => .inl (3, [(1, 200, 0), (0, 11, 2), (0, 11, 3)])
  | 2 => .inr (5, 8, 1, 54, 18)
  | 3 => .inl (5, [(0, 11, 4), (0, 11, 5), (0, 11, 6), (0, 11, 7)])
  | 4 => .inl (6, [(1, 203, 0), (1, 204, 0), (0, 11, 8), (0, 11, 9)])
  | 5 => .inl (0, [(3, 0, 0), (4, 0, 0), (0, 13, 2), (0, 13, 0)])
  | 6 => .inr (6, 12, 1, 205, 1)
  | 19 => .inl (0, [(3, 1, 0), (4, 0, 0), (0, 15, 2), (0, 15, 0)])
  | 20 => .inl (8, [(1, 219, 0), (1, 220, 0), (1, 221, 0), (1, 222, 0), (1, 223, 0), (0, 28, 5), (0, 28, 6), (0, 28, 7), (0, 28, 8), (0, 28, 9), (0, 28, 10), (0, 28, 11), (1, 224, 0), (1, 225, 0), (0, 28, 14), (0, 28, 15), (0, 28, 16), (0, 28, 17), (1, 226, 0), (0, 28, 19)])
  | 21 => .inr (0, 203, 0, 20, 0)
  | 22 => .inr (0, 203, 0, 21, 0)
  | 23 => .inr (0, 203, 0, 22, 0)
  | 24 => .inr (0, 203, 0, 23, 0)
  | 25 => .inr (0, 1624, 0, 24, 0)
  | 26 => .inr (0, 60, 0, 25, 0)
  | 27 => .inr (0, 39, 0, 26, 0)
  | 28 => .inr (0, 120, 0, 27, 0)
  | n => .inl (1, [(2, 12, 3 * (n - 7)), (0, 12, 3 * (n - 7) + 1), (0, 12, 3 * (n - 7) + 2)])
def layF (p : Nat) : DS := if p < 198 then layRaft (p / 18) (p % 18) else layRest (p - 198)
def layN : Nat := 218
/-- which place a cell of the memory belongs to -/
def ownr (b j : Nat) : Nat :=
  if b < 11 then (if j < 8 then 18 * b else if j < 33 then 18 * b + 2 else 18 * b + 3 + 3 * ((j - 33) / 34) + (if (j - 33) % 34 < 10 then 0 else if (j - 33) % 34 < 22 then 1 else 2))
  else if b = 11 then (if j < 2 then 198 else if j < 4 then 199 else if j < 8 then 201 else 202)
  else if b = 12 then 205 + j / 3
  else if b = 13 then 203 else if b = 15 then 217 else if b = 28 then 218 else 199 + b
def srcs : DS → List (Nat × Nat)
  | .inl (_, fs) => fs.filterMap (fun f => if f.1 = 0 ∨ f.1 = 2 then some (f.2.1, f.2.2) else none)
  | .inr (_, n, 0, b, st) => (List.range n).map (fun j => (b, st + j))
  | .inr _ => []
theorem own_all : ∀ p, p < layN → (srcs (layF p)).all (fun q => ownr q.1 q.2 == p) = true := by decide +kernel
theorem own_ok {p : Nat} (hp : p < layN) {q : Nat × Nat} (h : q ∈ srcs (layF p)) : ownr q.1 q.2 = p := eq_of_beq (List.all_eq_true.mp (own_all p hp) q h)
theorem fv_up {v : EV} {da : Nat → Nat} {S : Mem} {b j : Nat} {x : Int32} {f : FS} (h : (f.1 = 0 ∨ f.1 = 2) → ¬ (f.2.1 = b ∧ f.2.2 = j)) : fv v da (up S b j x) f = fv v da S f := by
  unfold fv
  by_cases h0 : f.1 = 0
  · rw [if_pos h0, if_pos h0, up_ne S x (h (Or.inl h0))]
  · rw [if_neg h0, if_neg h0]
    by_cases h1 : f.1 = 1
    · rw [if_pos h1, if_pos h1]
    · rw [if_neg h1, if_neg h1]
      by_cases h2 : f.1 = 2
      · rw [if_pos h2, if_pos h2, up_ne S x (h (Or.inr h2))]
      · rw [if_neg h2, if_neg h2]
theorem ce_up {v : EV} {da : Nat → Nat} {S : Mem} {b j : Nat} {x : Int32} {d : DS} (h : (b, j) ∉ srcs d) : ce v da (up S b j x) d = ce v da S d := by
  match d, h with
  | .inl (ci, fs), h =>
    show Sum.inr (ci, _) = Sum.inr (ci, _)
    refine congrArg (fun l => Sum.inr (ci, l)) (List.map_congr_left fun f hf => fv_up fun ht e => h ?_)
    exact List.mem_filterMap.mpr ⟨f, hf, by rw [if_pos ht, e.1, e.2]⟩
  | .inr (t, n, 0, b', st), h =>
    refine congrArg (fun g => Sum.inl (eC v t, n, Sum.inl g)) (funext fun k => ?_)
    by_cases hk : k < n
    · rw [if_pos hk, if_pos hk]
      refine up_ne S x fun e => h ?_
      exact List.mem_map.mpr ⟨k, List.mem_range.mpr hk, by rw [← e.1, ← e.2]⟩
    · rw [if_neg hk, if_neg hk]
  | .inr (t, n, k + 1, y, z), h => rfl
/-! ===== the world ===== -/
def wsL (v : EV) (da : Nat → Nat) (S : Mem) : va_W := (List.range layN).map (fun p => (eA v p, ce v da S (layF p)))
def capN (S : Mem) (b : Nat) : Nat := (S b 1).toNatClampNeg
def wsD (v : EV) (da : Nat → Nat) (S : Mem) : va_W := [(da 0, .inl (eC v 3, capN S 13, .inl (S 14))), (da 1, .inl (eC v 3, capN S 15, .inl (S 16)))]
def wsW (v : EV) (da : Nat → Nat) (S : Mem) : va_W := wsL v da S ++ wsD v da S
def WDa (v : EV) (da : Nat → Nat) (S : Mem) (H : Heap) : Prop := va_P (eD v) vwCl (wsW v da S) H ∧ va_D (eG v) (wsW v da S)
def WD (v : EV) (S : Mem) (H : Heap) : Prop := ∃ da : Nat → Nat, WDa v da S H
theorem wsL_len (v : EV) (da : Nat → Nat) (S : Mem) : (wsL v da S).length = layN := by simp [wsL]
theorem wsW_at {v : EV} {da : Nat → Nat} {S : Mem} {p : Nat} (hp : p < layN) : (wsW v da S)[p]? = some (eA v p, ce v da S (layF p)) := by
  unfold wsW
  rw [List.getElem?_append_left (by rw [wsL_len]; exact hp)]
  simp [wsL, hp]
theorem wsL_set {v : EV} {da : Nat → Nat} {S S' : Mem} {p : Nat} {e : va_E} (hp : p < layN) (h1 : ce v da S' (layF p) = e) (h2 : ∀ q, q < layN → q ≠ p → ce v da S' (layF q) = ce v da S (layF q)) : (wsL v da S).set p (eA v p, e) = wsL v da S' := by
  refine List.ext_getElem? fun q => ?_
  rw [List.getElem?_set, wsL_len]
  by_cases hq : p = q
  · subst hq
    rw [if_pos rfl, if_pos hp]
    simp [wsL, hp, h1]
  · rw [if_neg hq]
    by_cases hl : q < layN
    · simp [wsL, hl, h2 q hl (fun z => hq z.symm)]
    · simp [wsL, hl]
/-- a cell of the memory that no builder's row holds -/
def plainB (b j : Nat) : Prop := b ≠ 14 ∧ b ≠ 16 ∧ ¬ (b = 13 ∧ j = 1) ∧ ¬ (b = 15 ∧ j = 1)
theorem wsW_up {v : EV} {da : Nat → Nat} {S : Mem} {p b j : Nat} {x : Int32} {e : va_E} (hp : p < layN) (hb : plainB b j) (ho : ownr b j = p) (h1 : ce v da (up S b j x) (layF p) = e) : (wsW v da S).set p (eA v p, e) = wsW v da (up S b j x) := by
  unfold wsW
  rw [List.set_append_left _ _ (by rw [wsL_len]; exact hp), wsL_set hp h1 (fun q hq hn => ce_up fun hm => hn ?_)]
  · unfold wsD capN
    rw [up_ne S x (fun z => hb.2.2.1 ⟨z.1.symm, z.2.symm⟩), up_ne S x (fun z => hb.2.2.2 ⟨z.1.symm, z.2.symm⟩)]
    rw [show up S b j x 14 = S 14 from funext fun k => up_ne S x (fun z => hb.1 z.1.symm), show up S b j x 16 = S 16 from funext fun k => up_ne S x (fun z => hb.2.1 z.1.symm)]
  · have := own_ok hq hm
    dsimp only at this
    rw [← this, ho]
/-! ===== what holds in a method's frame; the judgement; the contract ===== -/
def tysOf (v : EV) : List (ClassId × FieldType) := [(eC v 0, .int), (eC v 1, .char), (eC v 2, .boolean), (eC v 3, .byte), (eC v 4, .object "LogRaft$Driver"), (eC v 5, .object "LogRaft$Raft"), (eC v 6, .object "LogRaft$Command")]
def tyOf : Nat → FieldType
  | 0 => .int
  | 1 => .char
  | 2 => .boolean
  | 3 => .byte
  | 4 => .object "LogRaft$Driver"
  | 5 => .object "LogRaft$Raft"
  | _ => .object "LogRaft$Command"
theorem tysOf_at (v : EV) {t : Nat} (h : t < 7) : (tysOf v)[t]? = some (eC v t, tyOf t) := by
  match t, h with
  | 0, _ => rfl
  | 1, _ => rfl
  | 2, _ => rfl
  | 3, _ => rfl
  | 4, _ => rfl
  | 5, _ => rfl
  | 6, _ => rfl
  | n + 7, h => omega
/-! ===== the constants: the words of the enum, the literals, the tables ===== -/
def wNm : List String := ["DRIVER", "ASK", "SEND", "SHOUT", "WASH", "BACK", "CUT", "TIE", "BEAT"]
def wTx : List String := ["driver ", "ask ", "send ", "shout ", "wash ", "back ", "cut ", "tie ", "beat"]
def wLen : List Nat := [7, 4, 5, 6, 5, 5, 4, 4, 4]
def wByt : List (List Int32) := [[100, 114, 105, 118, 101, 114, 32], [97, 115, 107, 32], [115, 101, 110, 100, 32], [115, 104, 111, 117, 116, 32], [119, 97, 115, 104, 32], [98, 97, 99, 107, 32], [99, 117, 116, 32], [116, 105, 101, 32], [98, 101, 97, 116]]
def lTx : List String := ["beat ", ";ask ", ";cut 0", ";shout ", " k"]
def lIx : List Nat := [79, 87, 89, 95, 97]
def lLen : List Nat := [5, 5, 6, 7, 2]
def lByt : List (List Int32) := [[98, 101, 97, 116, 32], [59, 97, 115, 107, 32], [59, 99, 117, 116, 32, 48], [59, 115, 104, 111, 117, 116, 32], [32, 107]]
/-- a text that nobody writes -/
def SF (v : EV) (q : SY) (U : State) : Prop := va_O "java/lang/String" q.1 (eG v) U U.heap ∧ va_OF "java/lang/String" "coder" "B" (.int 0) q.1 (eG v) U U.heap ∧ va_OF "java/lang/String" "value" "[B" (.ref q.2.1) q.1 (eG v) U U.heap ∧ va_T .byte q.2.1 q.2.2.1 (fun j => .int (q.2.2.2 j)) (eG v) U U.heap
def dgO (j : Nat) : Int32 := Int32.ofNat (48 + j % 10)
def dgT (j : Nat) : Int32 := Int32.ofNat (48 + j / 10)
def eX (U : State) : Prop := va_AO "LogRaft$Driver" U ∧ va_AO "LogRaft$Raft" U ∧ va_AO "LogRaft$Command" U ∧ va_Nw (.methodLinkNest "LogRaft" 31 ⟨"LogRaft$Reasons", "<init>", "()V"⟩ "LogRaft") U ∧ va_Nw (.methodLinkNest "LogRaft$Text" 24 ⟨"LogRaft$Command", "<init>", "()V"⟩ "LogRaft") U
theorem eX_moved {s U : State} (h : eX s) (hvm : s.vm = U.vm ∨ s.WarmedH U.vm) : eX U := by
  have hal : s.vm.Alike U.vm := by
    rcases hvm with e | e
    · rw [e]; exact Vm.Alike.refl _
    · exact e.alike
  obtain ⟨a1, a2, a3, a4, a5⟩ := h
  refine ⟨a1.moved hal, a2.moved hal, a3.moved hal, ?_, ?_⟩
  · rcases hvm with e | e
    · exact va_Nw.same rfl e a4
    · exact va_Nw.warmM e a4
  · rcases hvm with e | e
    · exact va_Nw.same rfl e a5
    · exact va_Nw.warmM e a5
def eF (v : EV) (U : State) : Prop :=
  va_En "LogRaft$Word" "LLogRaft$Word;" wNm [("java/lang/Enum", "ordinal", "I", [0, 1, 2, 3, 4, 5, 6, 7, 8])] (eT v) (eG v) U U.heap
  ∧ va_Ef 9 "LogRaft$Word" "signs" "Ljava/lang/String;" (fun i => .ref (eT v (10 + i))) (eT v) (eG v) U U.heap
  ∧ vk_S 9 wLen wByt (fun i => eT v (10 + i)) (fun i => eT v (20 + i)) (eG v) U U.heap
  ∧ (∀ i, i < 5 → vk_R "LogRaftLaw" (lIx.getD i 0) (lTx.getD i "") (eT v (40 + i)) U)
  ∧ va_Z "LogRaft" "WORDS" "[LLogRaft$Word;" (.ref (eT v 31)) (eG v) U U.heap
  ∧ va_T (.object "LogRaft$Word") (eT v 31) 9 (fun j => .ref (eT v j)) (eG v) U U.heap
  ∧ va_Z "LogRaft$1" "$SwitchMap$LogRaft$Word" "[I" (.ref (eT v 30)) (eG v) U U.heap
  ∧ va_T .int (eT v 30) 9 (fun j => .int (Int32.ofNat (j + 1))) (eG v) U U.heap
  ∧ va_Z "java/lang/String" "COMPACT_STRINGS" "Z" (.int 1) (eG v) U U.heap
  ∧ va_Z "java/lang/Integer" "DigitOnes" "[B" (.ref (eT v 32)) (eG v) U U.heap
  ∧ va_T .byte (eT v 32) 100 (fun j => .int (dgO j)) (eG v) U U.heap
  ∧ va_Z "java/lang/Integer" "DigitTens" "[B" (.ref (eT v 33)) (eG v) U U.heap
  ∧ va_T .byte (eT v 33) 100 (fun j => .int (dgT j)) (eG v) U U.heap
  ∧ (∃ q, (∃ a : Nat, q = Value.ref a) ∧ va_Z "jdk/internal/util/Preconditions" "SIOOBE_FORMATTER" "Ljava/util/function/BiFunction;" q (eG v) U U.heap ∨ q = Value.null ∧ va_Z "jdk/internal/util/Preconditions" "SIOOBE_FORMATTER" "Ljava/util/function/BiFunction;" q (eG v) U U.heap)
  ∧ va_Nw (.fieldLinkNest "LogRaft$Text" 67 "LogRaft" "WORDS" "[LLogRaft$Word;" "LogRaft") U
  ∧ va_Nw (.methodLinkNest "LogRaft$Raft" 21 ⟨"LogRaft$Driver", "<init>", "()V"⟩ "LogRaft") U
  ∧ va_Nw (.declares ⟨"java/lang/Enum", "ordinal", "()I"⟩) U
  ∧ (∀ q ∈ eY v, SF v q U) ∧ (∀ q ∈ eI v, va_T .int q.1 q.2.1 (fun j => .int (q.2.2 j)) (eG v) U U.heap)
  ∧ eX U
/-- what is known of the constants stays, however the law's own cells change -/
def Stb (v : EV) : Prop := ∀ s U : State, eF v s → (s.vm = U.vm ∨ s.WarmedH U.vm) → (∀ q : Nat, q < s.heap.size → ¬ eG v q → U.heap[q]? = s.heap[q]?) → eF v U
theorem stb_all (v : EV) : Stb v := by
  intro s U h hvm hq
  have hal : s.vm.Alike U.vm := by
    rcases hvm with e | e
    · rw [e]; exact Vm.Alike.refl _
    · exact e.alike
  obtain ⟨a1, a2, a3, a4, a5, a6, a7, a8, a9, a10, a11, a12, a13, a14, a15, a16, a17, a18, a19, a20⟩ := h
  refine ⟨(a1.kept hq).moved hal, (a2.kept hq).moved hal, (a3.kept hq).moved hal, fun i hi => ?_, (a5.kept hq).moved hal, (a6.kept hq).moved hal, (a7.kept hq).moved hal, (a8.kept hq).moved hal, (a9.kept hq).moved hal, (a10.kept hq).moved hal, (a11.kept hq).moved hal, (a12.kept hq).moved hal, (a13.kept hq).moved hal, ?_, ?_, ?_, ?_, fun q h => ⟨((a18 q h).1.kept hq).moved hal, ((a18 q h).2.1.kept hq).moved hal, ((a18 q h).2.2.1.kept hq).moved hal, ((a18 q h).2.2.2.kept hq).moved hal⟩, fun q h => ((a19 q h).kept hq).moved hal, eX_moved a20 hvm⟩
  · rcases hvm with e | e
    · exact (a4 i hi).same e.symm
    · exact (a4 i hi).warm e
  · obtain ⟨q, h⟩ := a14
    exact ⟨q, h.imp (fun h => ⟨h.1, (h.2.kept hq).moved hal⟩) (fun h => ⟨h.1, (h.2.kept hq).moved hal⟩)⟩
  · rcases hvm with e | e
    · exact va_Nw.same rfl e a15
    · exact va_Nw.warmF e a15
  · rcases hvm with e | e
    · exact va_Nw.same rfl e a16
    · exact va_Nw.warmM e a16
  · rcases hvm with e | e
    · exact va_Nw.same rfl e a17
    · exact va_Nw.warmD e a17
def Cx (v : EV) (p : Program) (l : Launch) (e : Env) (s : State) (m : MethodId) (args : Array Value) (meth : Method) (c : Code) (own : String) (cc : ByteArray) (nL : Nat) (ret : Option FieldType) : Prop :=
  p.tables.exec = Jvm.exec ∧ c.code = cc ∧ c.maxLocals = nL ∧ s.vm.findClass own = some m.cls ∧ (∀ w ∈ TW, w.before args s = true) ∧ va_K (eD v) vwCl (tysOf v) s ∧ eF v s ∧ Stb v ∧ eB v s.heap.size ∧ meth.sig.returnType = ret ∧ meth.locks = false
/-- the judgement: from the frame at pc, with the memory S in the heap, at most qb further growths -/
def Mw (Wd : Mem → Heap → Prop) (v : EV) (p : Program) (l : Launch) (e : Env) (R : Room) (s : State) (m : MethodId) (args : Array Value) (below : List Frame) (meth : Method) (c : Code) (nL : Nat) (Q : State → Prop) (qb : Nat) (S : Mem) (pc : Nat) (lv : List (Nat × Value)) (st : List Value) : Prop :=
  ∀ (H : Heap) (locs : List Loc) (ls : Array Slot) (cells slots : Nat), (cells + qb ≤ R.cells ∧ slots + 160 * qb ≤ R.slots) → Wd S H → va_S (eG v) s.heap H locs → lv_has ls nL lv → W p l e R s m args below meth c H locs cells slots Q (F0 m pc ls st)
abbrev Mj (v : EV) (p : Program) (l : Launch) (e : Env) (R : Room) (s : State) (m : MethodId) (args : Array Value) (below : List Frame) (meth : Method) (c : Code) (nL : Nat) (Q : State → Prop) (qb : Nat) (S : Mem) (pc : Nat) (lv : List (Nat × Value)) (st : List Value) : Prop :=
  Mw (WD v) v p l e R s m args below meth c nL Q qb S pc lv st
def Qc (v : EV) (rv : Option Value) (S' : Mem) : Array Value → State → Outcome → State → Prop := fun _ st o t => o = .returned rv ∧ WD v S' t.heap ∧ va_F (eG v) st t
def Pe (v : EV) (av : List Value) (S : Mem) : Array Value → State → Prop := va_Pc av (fun U => eB v U.heap.size ∧ va_K (eD v) vwCl (tysOf v) U ∧ eF v U ∧ WD v S U.heap)
def rmF (F L : Nat) : Room := { frames := F, cells := 0, slots := 0, locals := L }
def rmK (K F L : Nat) : Room := { frames := F, cells := K, slots := 160 * K, locals := L }
def ConK (K : Nat) (v : EV) (l : Launch) (y : MethodName) (cc : ByteArray) (nL : Nat) (ret : Option FieldType) (F L : Nat) (av : List Value) (S : Mem) (rv : Option Value) (S' : Mem) : Prop :=
  Met l y (.code y cc nL ret :: TW) (rmK K F L) (Pe v av S) (Qc v rv S') K (160 * K) (eG v)
abbrev Con (v : EV) (l : Launch) (y : MethodName) (cc : ByteArray) (nL : Nat) (ret : Option FieldType) (F L : Nat) (av : List Value) (S : Mem) (rv : Option Value) (S' : Mem) : Prop := ConK 0 v l y cc nL ret F L av S rv S'
/-! ===== locals ===== -/
def lk : List (Nat × Value) → Nat → Option Value
  | [], _ => none
  | (j, x) :: l, i => bif Nat.beq j i then some x else lk l i
theorem lk_mem {lv : List (Nat × Value)} {i : Nat} {x : Value} (h : lk lv i = some x) : (i, x) ∈ lv := by
  induction lv with
  | nil => cases h
  | cons q l ih =>
    obtain ⟨j, y⟩ := q
    unfold lk at h
    by_cases hj : Nat.beq j i = true
    · rw [hj] at h
      obtain rfl := Option.some.inj h
      rw [Nat.eq_of_beq_eq_true hj]
      exact List.mem_cons_self
    · rw [Bool.eq_false_iff.mpr hj] at h
      exact List.mem_cons_of_mem _ (ih h)
theorem lk_has {ls : Array Slot} {nL : Nat} {lv : List (Nat × Value)} {i : Nat} {x : Value} (h : lv_has ls nL lv) (hk : lk lv i = some x) : ls[i]? = some (.val x) := h.2.2 (i, x) (lk_mem hk)
def lst (lv : List (Nat × Value)) (i : Nat) (x : Value) : List (Nat × Value) := (i, x) :: lv.filter (fun q => !(q.1 == i) && !(q.1 + 1 == i && q.2.category == 2))
def subl (lv : List (Nat × Value)) : List (Nat × Value) → Prop
  | [] => True
  | q :: l => lk lv q.1 = some q.2 ∧ subl lv l
theorem subl_has {ls : Array Slot} {nL : Nat} {lv lv' : List (Nat × Value)} (h : lv_has ls nL lv) (hs : subl lv lv') : lv_has ls nL lv' := by
  refine ⟨h.1, h.2.1, ?_⟩
  induction lv' with
  | nil => intro q hq; cases hq
  | cons a l ih =>
    intro q hq
    rcases List.mem_cons.mp hq with rfl | hq
    · exact h.2.2 _ (lk_mem hs.1)
    · exact ih hs.2 q hq
