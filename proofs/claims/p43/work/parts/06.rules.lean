section RULES
variable {v : EV} {p : Program} {l : Launch} {e : Env} {R : Room} {s : State} {m : MethodId} {args : Array Value} {below : List Frame} {meth : Method} {c : Code} {own : String} {cc : ByteArray} {nL : Nat} {ret : Option FieldType} {Q : State → Prop} {qb : Nat} {Wd : Mem → Heap → Prop} {da : Nat → Nat} {S : Mem} {pc : Nat} {lv : List (Nat × Value)} {st : List Value}
theorem i_iconst (hC : Cx v p l e s m args meth c own cc nL ret) {n : Int} {x : Int32} (hdg : decode cc pc = .ok (.iconst n, 1)) (hv : Int32.ofInt n = x) (k : Mw Wd v p l e R s m args below meth c nL Q qb S (pc + 1) lv (.int x :: st)) : Mw Wd v p l e R s m args below meth c nL Q qb S pc lv (st) := fun H locs ls cells slots hbu hW hS hl => lv_iconst hC.1 hC.2.1 hdg hv (k H locs ls cells slots hbu hW hS hl)
theorem i_bipush (hC : Cx v p l e s m args meth c own cc nL ret) {n : Int} {x : Int32} (hdg : decode cc pc = .ok (.bipush n, 2)) (hv : (Int8.ofInt n).toInt32 = x) (k : Mw Wd v p l e R s m args below meth c nL Q qb S (pc + 2) lv (.int x :: st)) : Mw Wd v p l e R s m args below meth c nL Q qb S pc lv (st) := fun H locs ls cells slots hbu hW hS hl => lv_bipush hC.1 hC.2.1 hdg hv (k H locs ls cells slots hbu hW hS hl)
theorem i_sipush (hC : Cx v p l e s m args meth c own cc nL ret) {n : Int} {x : Int32} (hdg : decode cc pc = .ok (.sipush n, 3)) (hv : (Int16.ofInt n).toInt32 = x) (k : Mw Wd v p l e R s m args below meth c nL Q qb S (pc + 3) lv (.int x :: st)) : Mw Wd v p l e R s m args below meth c nL Q qb S pc lv (st) := fun H locs ls cells slots hbu hW hS hl => lv_sipush hC.1 hC.2.1 hdg hv (k H locs ls cells slots hbu hW hS hl)
theorem i_iadd (hC : Cx v p l e s m args meth c own cc nL ret) {x y : Int32} (hdg : decode cc pc = .ok (.iadd, 1)) (k : Mw Wd v p l e R s m args below meth c nL Q qb S (pc + 1) lv (.int (x + y) :: st)) : Mw Wd v p l e R s m args below meth c nL Q qb S pc lv (.int y :: .int x :: st) := fun H locs ls cells slots hbu hW hS hl => lv_iadd hC.1 hC.2.1 hdg (k H locs ls cells slots hbu hW hS hl)
theorem i_isub (hC : Cx v p l e s m args meth c own cc nL ret) {x y : Int32} (hdg : decode cc pc = .ok (.isub, 1)) (k : Mw Wd v p l e R s m args below meth c nL Q qb S (pc + 1) lv (.int (x - y) :: st)) : Mw Wd v p l e R s m args below meth c nL Q qb S pc lv (.int y :: .int x :: st) := fun H locs ls cells slots hbu hW hS hl => lv_isub hC.1 hC.2.1 hdg (k H locs ls cells slots hbu hW hS hl)
theorem i_imul (hC : Cx v p l e s m args meth c own cc nL ret) {x y : Int32} (hdg : decode cc pc = .ok (.imul, 1)) (k : Mw Wd v p l e R s m args below meth c nL Q qb S (pc + 1) lv (.int (x * y) :: st)) : Mw Wd v p l e R s m args below meth c nL Q qb S pc lv (.int y :: .int x :: st) := fun H locs ls cells slots hbu hW hS hl => lv_imul hC.1 hC.2.1 hdg (k H locs ls cells slots hbu hW hS hl)
theorem i_iand (hC : Cx v p l e s m args meth c own cc nL ret) {x y : Int32} (hdg : decode cc pc = .ok (.iand, 1)) (k : Mw Wd v p l e R s m args below meth c nL Q qb S (pc + 1) lv (.int (x &&& y) :: st)) : Mw Wd v p l e R s m args below meth c nL Q qb S pc lv (.int y :: .int x :: st) := fun H locs ls cells slots hbu hW hS hl => lv_iand hC.1 hC.2.1 hdg (k H locs ls cells slots hbu hW hS hl)
theorem i_idiv (hC : Cx v p l e s m args meth c own cc nL ret) {x y : Int32} (hdg : decode cc pc = .ok (.idiv, 1)) (hne : ¬ y = 0) (k : Mw Wd v p l e R s m args below meth c nL Q qb S (pc + 1) lv (.int (x / y) :: st)) : Mw Wd v p l e R s m args below meth c nL Q qb S pc lv (.int y :: .int x :: st) := fun H locs ls cells slots hbu hW hS hl => lv_idiv hC.1 hC.2.1 hdg hne (k H locs ls cells slots hbu hW hS hl)
theorem i_irem (hC : Cx v p l e s m args meth c own cc nL ret) {x y : Int32} (hdg : decode cc pc = .ok (.irem, 1)) (hne : ¬ y = 0) (k : Mw Wd v p l e R s m args below meth c nL Q qb S (pc + 1) lv (.int (x - x / y * y) :: st)) : Mw Wd v p l e R s m args below meth c nL Q qb S pc lv (.int y :: .int x :: st) := fun H locs ls cells slots hbu hW hS hl => lv_irem hC.1 hC.2.1 hdg hne (k H locs ls cells slots hbu hW hS hl)
theorem i_dup (hC : Cx v p l e s m args meth c own cc nL ret) {x : Value} (hdg : decode cc pc = .ok (.dup, 1)) (hc : x.category = 1) (k : Mw Wd v p l e R s m args below meth c nL Q qb S (pc + 1) lv (x :: x :: st)) : Mw Wd v p l e R s m args below meth c nL Q qb S pc lv (x :: st) := fun H locs ls cells slots hbu hW hS hl => lv_dup hC.1 hC.2.1 hdg hc (k H locs ls cells slots hbu hW hS hl)
theorem i_pop (hC : Cx v p l e s m args meth c own cc nL ret) {x : Value} (hdg : decode cc pc = .ok (.pop, 1)) (hc : x.category = 1) (k : Mw Wd v p l e R s m args below meth c nL Q qb S (pc + 1) lv (st)) : Mw Wd v p l e R s m args below meth c nL Q qb S pc lv (x :: st) := fun H locs ls cells slots hbu hW hS hl => lv_pop hC.1 hC.2.1 hdg hc (k H locs ls cells slots hbu hW hS hl)
theorem i_dup2 (hC : Cx v p l e s m args meth c own cc nL ret) {x y : Value} (hdg : decode cc pc = .ok (.dup2, 1)) (hc : x.category = 1) (hc2 : y.category = 1) (k : Mw Wd v p l e R s m args below meth c nL Q qb S (pc + 1) lv (x :: y :: x :: y :: st)) : Mw Wd v p l e R s m args below meth c nL Q qb S pc lv (x :: y :: st) := fun H locs ls cells slots hbu hW hS hl => lv_dup2_11 hC.1 hC.2.1 hdg hc hc2 (k H locs ls cells slots hbu hW hS hl)
theorem i_i2c (hC : Cx v p l e s m args meth c own cc nL ret) {x : Int32} (hdg : decode cc pc = .ok (.i2c, 1)) (k : Mw Wd v p l e R s m args below meth c nL Q qb S (pc + 1) lv (.int ((x.toUInt32 % 65536).toInt32) :: st)) : Mw Wd v p l e R s m args below meth c nL Q qb S pc lv (.int x :: st) := fun H locs ls cells slots hbu hW hS hl => lv_i2c hC.1 hC.2.1 hdg rfl (k H locs ls cells slots hbu hW hS hl)
theorem i_iload_n (hC : Cx v p l e s m args meth c own cc nL ret) {q : Fin 4} {x : Int32} (hdg : decode cc pc = .ok (.iload_n q, 1)) (hk : lk lv q = some (.int x)) (k : Mw Wd v p l e R s m args below meth c nL Q qb S (pc + 1) lv (.int x :: st)) : Mw Wd v p l e R s m args below meth c nL Q qb S pc lv st := fun H locs ls cells slots hbu hW hS hl => lv_iload_n hC.1 hC.2.1 hdg rfl (lk_has hl hk) (k H locs ls cells slots hbu hW hS hl)
theorem i_iload (hC : Cx v p l e s m args meth c own cc nL ret) {i : Nat} {x : Int32} (hdg : decode cc pc = .ok (.iload i, 2)) (hk : lk lv i = some (.int x)) (k : Mw Wd v p l e R s m args below meth c nL Q qb S (pc + 2) lv (.int x :: st)) : Mw Wd v p l e R s m args below meth c nL Q qb S pc lv st := fun H locs ls cells slots hbu hW hS hl => lv_iload hC.1 hC.2.1 hdg (lk_has hl hk) (k H locs ls cells slots hbu hW hS hl)
theorem i_aload_n (hC : Cx v p l e s m args meth c own cc nL ret) {q : Fin 4} {x : Nat} (hdg : decode cc pc = .ok (.aload_n q, 1)) (hk : lk lv q = some (.ref x)) (k : Mw Wd v p l e R s m args below meth c nL Q qb S (pc + 1) lv (.ref x :: st)) : Mw Wd v p l e R s m args below meth c nL Q qb S pc lv st := fun H locs ls cells slots hbu hW hS hl => lv_aload_n hC.1 hC.2.1 hdg rfl (lk_has hl hk) (k H locs ls cells slots hbu hW hS hl)
theorem i_aload (hC : Cx v p l e s m args meth c own cc nL ret) {i : Nat} {x : Nat} (hdg : decode cc pc = .ok (.aload i, 2)) (hk : lk lv i = some (.ref x)) (k : Mw Wd v p l e R s m args below meth c nL Q qb S (pc + 2) lv (.ref x :: st)) : Mw Wd v p l e R s m args below meth c nL Q qb S pc lv st := fun H locs ls cells slots hbu hW hS hl => lv_aload hC.1 hC.2.1 hdg (lk_has hl hk) (k H locs ls cells slots hbu hW hS hl)
theorem i_istore_n (hC : Cx v p l e s m args meth c own cc nL ret) {q : Fin 4} {x : Int32} (hdg : decode cc pc = .ok (.istore_n q, 1)) (hn : (q : Nat) < nL) (k : Mw Wd v p l e R s m args below meth c nL Q qb S (pc + 1) (lst lv q (.int x)) st) : Mw Wd v p l e R s m args below meth c nL Q qb S pc lv (.int x :: st) := fun H locs ls cells slots hbu hW hS hl => lv_istore_n hC.1 hC.2.1 hdg rfl hl hn rfl (fun ls hl => k H locs ls cells slots hbu hW hS hl)
theorem i_istore (hC : Cx v p l e s m args meth c own cc nL ret) {i : Nat} {x : Int32} (hdg : decode cc pc = .ok (.istore i, 2)) (hn : i < nL) (k : Mw Wd v p l e R s m args below meth c nL Q qb S (pc + 2) (lst lv i (.int x)) st) : Mw Wd v p l e R s m args below meth c nL Q qb S pc lv (.int x :: st) := fun H locs ls cells slots hbu hW hS hl => lv_istore hC.1 hC.2.1 hdg hl hn rfl (fun ls hl => k H locs ls cells slots hbu hW hS hl)
theorem i_astore_n (hC : Cx v p l e s m args meth c own cc nL ret) {q : Fin 4} {x : Nat} (hdg : decode cc pc = .ok (.astore_n q, 1)) (hn : (q : Nat) < nL) (k : Mw Wd v p l e R s m args below meth c nL Q qb S (pc + 1) (lst lv q (.ref x)) st) : Mw Wd v p l e R s m args below meth c nL Q qb S pc lv (.ref x :: st) := fun H locs ls cells slots hbu hW hS hl => lv_astore_n hC.1 hC.2.1 hdg rfl hl hn rfl (fun ls hl => k H locs ls cells slots hbu hW hS hl)
theorem i_astore (hC : Cx v p l e s m args meth c own cc nL ret) {i : Nat} {x : Nat} (hdg : decode cc pc = .ok (.astore i, 2)) (hn : i < nL) (k : Mw Wd v p l e R s m args below meth c nL Q qb S (pc + 2) (lst lv i (.ref x)) st) : Mw Wd v p l e R s m args below meth c nL Q qb S pc lv (.ref x :: st) := fun H locs ls cells slots hbu hW hS hl => lv_astore hC.1 hC.2.1 hdg hl hn rfl (fun ls hl => k H locs ls cells slots hbu hW hS hl)
theorem i_iinc (hC : Cx v p l e s m args meth c own cc nL ret) {i : Nat} {n : Int} {x y : Int32} (hdg : decode cc pc = .ok (.iinc i n, 3)) (hk : lk lv i = some (.int x)) (hv : Int32.ofInt n = y) (hn : i < nL) (k : Mw Wd v p l e R s m args below meth c nL Q qb S (pc + 3) (lst lv i (.int (x + y))) st) : Mw Wd v p l e R s m args below meth c nL Q qb S pc lv st := by
  intro H locs ls cells slots hbu hW hS hl
  obtain ⟨j, hj⟩ := List.getElem?_of_mem (lk_mem hk)
  exact lv_iinc hC.1 hC.2.1 hdg hl hj (by rw [hv]) hn rfl (fun ls hl => k H locs ls cells slots hbu hW hS hl)
theorem i_goto (hC : Cx v p l e s m args meth c own cc nL ret) {off : Int} {tgt : Nat} (hdg : decode cc pc = .ok (.goto off, 3)) (ht : (pc : Int) + off = (tgt : Int)) (k : Mw Wd v p l e R s m args below meth c nL Q qb S tgt lv st) : Mw Wd v p l e R s m args below meth c nL Q qb S pc lv st := fun H locs ls cells slots hbu hW hS hl => lv_goto hC.1 hC.2.1 hdg ht (k H locs ls cells slots hbu hW hS hl)
theorem i_if_eq (hC : Cx v p l e s m args meth c own cc nL ret) {x : Int32} {off : Int} {tgt : Nat} (hdg : decode cc pc = .ok (.ifCond .eq off, 3)) (ht : (pc : Int) + off = (tgt : Int)) (kt : x = 0 → Mw Wd v p l e R s m args below meth c nL Q qb S tgt lv st) (kf : ¬ x = 0 → Mw Wd v p l e R s m args below meth c nL Q qb S (pc + 3) lv st) : Mw Wd v p l e R s m args below meth c nL Q qb S pc lv (.int x :: st) := fun H locs ls cells slots hbu hW hS hl => lv_if_eq hC.1 hC.2.1 hdg ht (fun q => kt q H locs ls cells slots hbu hW hS hl) (fun q => kf q H locs ls cells slots hbu hW hS hl)
theorem i_icmp_eq (hC : Cx v p l e s m args meth c own cc nL ret) {x y : Int32} {off : Int} {tgt : Nat} (hdg : decode cc pc = .ok (.if_icmp .eq off, 3)) (ht : (pc : Int) + off = (tgt : Int)) (kt : x = y → Mw Wd v p l e R s m args below meth c nL Q qb S tgt lv st) (kf : ¬ x = y → Mw Wd v p l e R s m args below meth c nL Q qb S (pc + 3) lv st) : Mw Wd v p l e R s m args below meth c nL Q qb S pc lv (.int y :: .int x :: st) := fun H locs ls cells slots hbu hW hS hl => lv_icmp_eq hC.1 hC.2.1 hdg ht (fun q => kt q H locs ls cells slots hbu hW hS hl) (fun q => kf q H locs ls cells slots hbu hW hS hl)
theorem i_if_ne (hC : Cx v p l e s m args meth c own cc nL ret) {x : Int32} {off : Int} {tgt : Nat} (hdg : decode cc pc = .ok (.ifCond .ne off, 3)) (ht : (pc : Int) + off = (tgt : Int)) (kt : ¬ x = 0 → Mw Wd v p l e R s m args below meth c nL Q qb S tgt lv st) (kf : x = 0 → Mw Wd v p l e R s m args below meth c nL Q qb S (pc + 3) lv st) : Mw Wd v p l e R s m args below meth c nL Q qb S pc lv (.int x :: st) := fun H locs ls cells slots hbu hW hS hl => lv_if_ne hC.1 hC.2.1 hdg ht (fun q => kt q H locs ls cells slots hbu hW hS hl) (fun q => kf q H locs ls cells slots hbu hW hS hl)
theorem i_icmp_ne (hC : Cx v p l e s m args meth c own cc nL ret) {x y : Int32} {off : Int} {tgt : Nat} (hdg : decode cc pc = .ok (.if_icmp .ne off, 3)) (ht : (pc : Int) + off = (tgt : Int)) (kt : ¬ x = y → Mw Wd v p l e R s m args below meth c nL Q qb S tgt lv st) (kf : x = y → Mw Wd v p l e R s m args below meth c nL Q qb S (pc + 3) lv st) : Mw Wd v p l e R s m args below meth c nL Q qb S pc lv (.int y :: .int x :: st) := fun H locs ls cells slots hbu hW hS hl => lv_icmp_ne hC.1 hC.2.1 hdg ht (fun q => kt q H locs ls cells slots hbu hW hS hl) (fun q => kf q H locs ls cells slots hbu hW hS hl)
theorem i_if_lt (hC : Cx v p l e s m args meth c own cc nL ret) {x : Int32} {off : Int} {tgt : Nat} (hdg : decode cc pc = .ok (.ifCond .lt off, 3)) (ht : (pc : Int) + off = (tgt : Int)) (kt : x < 0 → Mw Wd v p l e R s m args below meth c nL Q qb S tgt lv st) (kf : ¬ x < 0 → Mw Wd v p l e R s m args below meth c nL Q qb S (pc + 3) lv st) : Mw Wd v p l e R s m args below meth c nL Q qb S pc lv (.int x :: st) := fun H locs ls cells slots hbu hW hS hl => lv_if_lt hC.1 hC.2.1 hdg ht (fun q => kt q H locs ls cells slots hbu hW hS hl) (fun q => kf q H locs ls cells slots hbu hW hS hl)
theorem i_icmp_lt (hC : Cx v p l e s m args meth c own cc nL ret) {x y : Int32} {off : Int} {tgt : Nat} (hdg : decode cc pc = .ok (.if_icmp .lt off, 3)) (ht : (pc : Int) + off = (tgt : Int)) (kt : x < y → Mw Wd v p l e R s m args below meth c nL Q qb S tgt lv st) (kf : ¬ x < y → Mw Wd v p l e R s m args below meth c nL Q qb S (pc + 3) lv st) : Mw Wd v p l e R s m args below meth c nL Q qb S pc lv (.int y :: .int x :: st) := fun H locs ls cells slots hbu hW hS hl => lv_icmp_lt hC.1 hC.2.1 hdg ht (fun q => kt q H locs ls cells slots hbu hW hS hl) (fun q => kf q H locs ls cells slots hbu hW hS hl)
theorem i_if_ge (hC : Cx v p l e s m args meth c own cc nL ret) {x : Int32} {off : Int} {tgt : Nat} (hdg : decode cc pc = .ok (.ifCond .ge off, 3)) (ht : (pc : Int) + off = (tgt : Int)) (kt : 0 ≤ x → Mw Wd v p l e R s m args below meth c nL Q qb S tgt lv st) (kf : ¬ 0 ≤ x → Mw Wd v p l e R s m args below meth c nL Q qb S (pc + 3) lv st) : Mw Wd v p l e R s m args below meth c nL Q qb S pc lv (.int x :: st) := fun H locs ls cells slots hbu hW hS hl => lv_if_ge hC.1 hC.2.1 hdg ht (fun q => kt q H locs ls cells slots hbu hW hS hl) (fun q => kf q H locs ls cells slots hbu hW hS hl)
theorem i_icmp_ge (hC : Cx v p l e s m args meth c own cc nL ret) {x y : Int32} {off : Int} {tgt : Nat} (hdg : decode cc pc = .ok (.if_icmp .ge off, 3)) (ht : (pc : Int) + off = (tgt : Int)) (kt : y ≤ x → Mw Wd v p l e R s m args below meth c nL Q qb S tgt lv st) (kf : ¬ y ≤ x → Mw Wd v p l e R s m args below meth c nL Q qb S (pc + 3) lv st) : Mw Wd v p l e R s m args below meth c nL Q qb S pc lv (.int y :: .int x :: st) := fun H locs ls cells slots hbu hW hS hl => lv_icmp_ge hC.1 hC.2.1 hdg ht (fun q => kt q H locs ls cells slots hbu hW hS hl) (fun q => kf q H locs ls cells slots hbu hW hS hl)
theorem i_if_gt (hC : Cx v p l e s m args meth c own cc nL ret) {x : Int32} {off : Int} {tgt : Nat} (hdg : decode cc pc = .ok (.ifCond .gt off, 3)) (ht : (pc : Int) + off = (tgt : Int)) (kt : 0 < x → Mw Wd v p l e R s m args below meth c nL Q qb S tgt lv st) (kf : ¬ 0 < x → Mw Wd v p l e R s m args below meth c nL Q qb S (pc + 3) lv st) : Mw Wd v p l e R s m args below meth c nL Q qb S pc lv (.int x :: st) := fun H locs ls cells slots hbu hW hS hl => lv_if_gt hC.1 hC.2.1 hdg ht (fun q => kt q H locs ls cells slots hbu hW hS hl) (fun q => kf q H locs ls cells slots hbu hW hS hl)
theorem i_icmp_gt (hC : Cx v p l e s m args meth c own cc nL ret) {x y : Int32} {off : Int} {tgt : Nat} (hdg : decode cc pc = .ok (.if_icmp .gt off, 3)) (ht : (pc : Int) + off = (tgt : Int)) (kt : y < x → Mw Wd v p l e R s m args below meth c nL Q qb S tgt lv st) (kf : ¬ y < x → Mw Wd v p l e R s m args below meth c nL Q qb S (pc + 3) lv st) : Mw Wd v p l e R s m args below meth c nL Q qb S pc lv (.int y :: .int x :: st) := fun H locs ls cells slots hbu hW hS hl => lv_icmp_gt hC.1 hC.2.1 hdg ht (fun q => kt q H locs ls cells slots hbu hW hS hl) (fun q => kf q H locs ls cells slots hbu hW hS hl)
theorem i_if_le (hC : Cx v p l e s m args meth c own cc nL ret) {x : Int32} {off : Int} {tgt : Nat} (hdg : decode cc pc = .ok (.ifCond .le off, 3)) (ht : (pc : Int) + off = (tgt : Int)) (kt : x ≤ 0 → Mw Wd v p l e R s m args below meth c nL Q qb S tgt lv st) (kf : ¬ x ≤ 0 → Mw Wd v p l e R s m args below meth c nL Q qb S (pc + 3) lv st) : Mw Wd v p l e R s m args below meth c nL Q qb S pc lv (.int x :: st) := fun H locs ls cells slots hbu hW hS hl => lv_if_le hC.1 hC.2.1 hdg ht (fun q => kt q H locs ls cells slots hbu hW hS hl) (fun q => kf q H locs ls cells slots hbu hW hS hl)
theorem i_icmp_le (hC : Cx v p l e s m args meth c own cc nL ret) {x y : Int32} {off : Int} {tgt : Nat} (hdg : decode cc pc = .ok (.if_icmp .le off, 3)) (ht : (pc : Int) + off = (tgt : Int)) (kt : x ≤ y → Mw Wd v p l e R s m args below meth c nL Q qb S tgt lv st) (kf : ¬ x ≤ y → Mw Wd v p l e R s m args below meth c nL Q qb S (pc + 3) lv st) : Mw Wd v p l e R s m args below meth c nL Q qb S pc lv (.int y :: .int x :: st) := fun H locs ls cells slots hbu hW hS hl => lv_icmp_le hC.1 hC.2.1 hdg ht (fun q => kt q H locs ls cells slots hbu hW hS hl) (fun q => kf q H locs ls cells slots hbu hW hS hl)
theorem Mj.sub {lv2 : List (Nat × Value)} (hs : subl lv lv2) (k : Mw Wd v p l e R s m args below meth c nL Q qb S pc lv2 st) : Mw Wd v p l e R s m args below meth c nL Q qb S pc lv st := fun H locs ls cells slots hbu hW hS hl => k H locs ls cells slots hbu hW hS (subl_has hl hs)
theorem Mj.to {lv2 : List (Nat × Value)} (k : Mw Wd v p l e R s m args below meth c nL Q qb S pc lv2 st) (hs : subl lv lv2) : Mw Wd v p l e R s m args below meth c nL Q qb S pc lv st := Mj.sub hs k
theorem va_S.free {A : Nat → Prop} {H0 H : Heap} {locs : List Loc} (h : va_S A H0 H locs) : ∀ q ∈ locs, A q.base := h.2.2
theorem r_iret (hw : ∀ S H, Wd S H → WD v S H) (hC : Cx v p l e s m args meth c own cc nL (some .int)) {x : Int32} (hdg : decode cc pc = .ok (.ireturn, 1)) : Mw Wd v p l e R s m args below meth c nL (MQ below (Qc v (some (.int x)) S) args s R.cells R.slots (eG v)) qb S pc lv [.int x] := by
  intro H locs ls cells slots hbu hW hS hl
  obtain ⟨hx, hb, -, -, -, -, -, -, -, hr, hk⟩ := hC
  refine W.widen (k := R.cells) (n := R.slots) (by omega) (by omega) ?_
  exact W.iret hx hb hr (fun t ht hW' => ⟨rfl, by rw [ht]; exact hw S H hW, hS.F ht⟩) hS.free hdg hk
theorem r_zret (hw : ∀ S H, Wd S H → WD v S H) {ty : FieldType} (hC : Cx v p l e s m args meth c own cc nL (some ty)) {x : Int32} (hdg : decode cc pc = .ok (.ireturn, 1)) (hn : narrow ty (.int x) = .int x) : Mw Wd v p l e R s m args below meth c nL (MQ below (Qc v (some (.int x)) S) args s R.cells R.slots (eG v)) qb S pc lv [.int x] := by
  intro H locs ls cells slots hbu hW hS hl
  obtain ⟨hx, hb, -, -, -, -, -, -, -, hr, hk⟩ := hC
  refine W.widen (k := R.cells) (n := R.slots) (by omega) (by omega) ?_
  exact W.zret hx hb hr hn (fun t ht hW' => ⟨rfl, by rw [ht]; exact hw S H hW, hS.F ht⟩) hS.free hdg hk
theorem r_vret (hw : ∀ S H, Wd S H → WD v S H) (hC : Cx v p l e s m args meth c own cc nL none) (hdg : decode cc pc = .ok (.return_, 1)) : Mw Wd v p l e R s m args below meth c nL (MQ below (Qc v none S) args s R.cells R.slots (eG v)) qb S pc lv [] := by
  intro H locs ls cells slots hbu hW hS hl
  obtain ⟨hx, hb, -, -, -, -, -, -, -, hr, hk⟩ := hC
  refine W.widen (k := R.cells) (n := R.slots) (by omega) (by omega) ?_
  exact W.vret hx hb hr (fun t ht hW' => ⟨rfl, by rw [ht]; exact hw S H hW, hS.F ht⟩) hS.free hdg hk
theorem i_iret (hC : Cx v p l e s m args meth c own cc nL (some .int)) {x : Int32} (hdg : decode cc pc = .ok (.ireturn, 1)) : Mj v p l e R s m args below meth c nL (MQ below (Qc v (some (.int x)) S) args s R.cells R.slots (eG v)) qb S pc lv [.int x] := r_iret (fun _ _ h => h) hC hdg
theorem i_zret {ty : FieldType} (hC : Cx v p l e s m args meth c own cc nL (some ty)) {x : Int32} (hdg : decode cc pc = .ok (.ireturn, 1)) (hn : narrow ty (.int x) = .int x) : Mj v p l e R s m args below meth c nL (MQ below (Qc v (some (.int x)) S) args s R.cells R.slots (eG v)) qb S pc lv [.int x] := r_zret (fun _ _ h => h) hC hdg hn
theorem i_vret (hC : Cx v p l e s m args meth c own cc nL none) (hdg : decode cc pc = .ok (.return_, 1)) : Mj v p l e R s m args below meth c nL (MQ below (Qc v none S) args s R.cells R.slots (eG v)) qb S pc lv [] := r_vret (fun _ _ h => h) hC hdg
theorem ex_da (h : ∀ da, Mw (WDa v da) v p l e R s m args below meth c nL Q qb S pc lv st) : Mj v p l e R s m args below meth c nL Q qb S pc lv st := fun H locs ls cells slots hbu hW hS hl => hW.elim fun da hW => h da H locs ls cells slots hbu hW hS hl
theorem to_da (h : Mj v p l e R s m args below meth c nL Q qb S pc lv st) : Mw (WDa v da) v p l e R s m args below meth c nL Q qb S pc lv st := fun H locs ls cells slots hbu hW hS hl => h H locs ls cells slots hbu ⟨da, hW⟩ hS hl
theorem va_dummy : True := trivial
/-- a field link of the tables: class, place among the fields, and the words -/
def FL (own : String) (idx ci k : Nat) (fin : Bool) (ty : FieldType) : Prop := ∃ (C : String) (T : u_T) (N : Nat) (ty0 : Nat → FieldType), vwCl[ci]? = some (C, T, N) ∧ k < N ∧ Cond.fieldLink own idx (T k).1 (T k).2.1 (T k).2.2.1 ∈ TW ∧ (∀ w ∈ u_ws C T N, w ∈ TW) ∧ (∀ k, k < N → parseFieldDescriptor (T k).2.2.1 = some (ty0 k)) ∧ (∀ a, a < N → ∀ b, b < N → a ≠ b → (T a).2.1 ≠ (T b).2.1) ∧ (T k).2.2.2 = fin ∧ parseFieldDescriptor (T k).2.2.1 = some ty
theorem m_get (hC : Cx v p l e s m args meth c own cc nL ret) {idx ci k : Nat} {fin : Bool} {ty : FieldType} (hF : FL own idx ci k fin ty) {H : Heap} {cells slots : Nat} {locs : List Loc} {ls : Array Slot} {q : Nat} {fs : List FS} {f : FS} (hP : va_P (eD v) vwCl (wsW v da S) H) (hq : q < layN) (hy : layF q = .inl (ci, fs)) (hf : fs[k]? = some f) (hdg : decode cc pc = .ok (.getfield idx, 3))
    (kk : W p l e R s m args below meth c H locs cells slots Q (F0 m (pc + 3) ls (fv v da S f :: st))) : W p l e R s m args below meth c H locs cells slots Q (F0 m pc ls (.ref (eA v q) :: st)) := by
  obtain ⟨K, T, N, ty0, hc, hk, hl, hin, -⟩ := hF
  refine va_get hC.1 hC.2.1 hC.2.2.2.2.1 hin hC.2.2.2.1 hC.2.2.2.2.2.1 hP q (fs := fs.map (fv v da S)) (by rw [wsW_at hq, hy]; rfl) hc k hk (hC.2.2.2.2.1 _ hl) (fun _ h => h) (by rw [List.getElem?_map, hf]; rfl) hdg kk
theorem j_getI (hC : Cx v p l e s m args meth c own cc nL ret) {idx ci k : Nat} {fin : Bool} {ty : FieldType} (hF : FL own idx ci k fin ty) {q : Nat} {fs : List FS} {b j : Nat} (hq : q < layN) (hy : layF q = .inl (ci, fs)) (hf : fs[k]? = some (0, b, j)) (hdg : decode cc pc = .ok (.getfield idx, 3))
    (k2 : Mw (WDa v da) v p l e R s m args below meth c nL Q qb S (pc + 3) lv (.int (S b j) :: st)) : Mw (WDa v da) v p l e R s m args below meth c nL Q qb S pc lv (.ref (eA v q) :: st) := by
  intro H locs ls cells slots hbu hW hS hl
  have hP := hW.1
  exact m_get hC hF hP hq hy hf hdg (k2 H locs ls cells slots hbu hW hS hl)
theorem j_getR (hC : Cx v p l e s m args meth c own cc nL ret) {idx ci k : Nat} {fin : Bool} {ty : FieldType} (hF : FL own idx ci k fin ty) {q : Nat} {fs : List FS} {x y : Nat} (hq : q < layN) (hy : layF q = .inl (ci, fs)) (hf : fs[k]? = some (1, x, y)) (hdg : decode cc pc = .ok (.getfield idx, 3))
    (k2 : Mw (WDa v da) v p l e R s m args below meth c nL Q qb S (pc + 3) lv (.ref (eA v x) :: st)) : Mw (WDa v da) v p l e R s m args below meth c nL Q qb S pc lv (.ref (eA v q) :: st) := by
  intro H locs ls cells slots hbu hW hS hl
  have hP := hW.1
  exact m_get hC hF hP hq hy hf hdg (k2 H locs ls cells slots hbu hW hS hl)

theorem fv_new {v : EV} {da : Nat → Nat} {S : Mem} {b j : Nat} {x : Int32} : fv v da (up S b j x) (0, b, j) = .int x := by
  unfold fv
  rw [if_pos rfl, up_same]
theorem map_set_up {v : EV} {da : Nat → Nat} {S : Mem} {fs : List FS} {k b j : Nat} {x : Int32} (hf : fs[k]? = some (0, b, j)) (hu : ∀ i f, fs[i]? = some f → i ≠ k → (f.1 = 0 ∨ f.1 = 2) → ¬ (f.2.1 = b ∧ f.2.2 = j)) : fs.map (fv v da (up S b j x)) = (fs.map (fv v da S)).set k (.int x) := by
  refine List.ext_getElem? fun i => ?_
  rw [List.getElem?_set, List.getElem?_map, List.getElem?_map, List.length_map]
  have hk : k < fs.length := (List.getElem?_eq_some_iff.mp hf).1
  by_cases hi : k = i
  · subst hi
    rw [if_pos rfl, if_pos hk, hf, Option.map_some, fv_new]
  · rw [if_neg hi]
    cases h : fs[i]? with
    | none => rw [Option.map_none, Option.map_none]
    | some f => rw [Option.map_some, Option.map_some, fv_up (hu i f h (fun z => hi z.symm))]
/-- the sources of one object's fields are apart -/
def apf (fs : List FS) : Bool := (List.range fs.length).all fun i => (List.range fs.length).all fun k => match fs[i]?, fs[k]? with
  | some f, some h => i == k || !(f.1 == 0 || f.1 == 2) || !(h.1 == 0 || h.1 == 2) || !(f.2.1 == h.2.1 && f.2.2 == h.2.2)
  | _, _ => true
theorem apf_all : ∀ p, p < layN → (match layF p with
  | .inl (_, fs) => apf fs
  | _ => true) = true := by decide +kernel
theorem apf_ok {q ci : Nat} {fs : List FS} (hq : q < layN) (hy : layF q = .inl (ci, fs)) {k b j : Nat} (hf : fs[k]? = some (0, b, j)) : ∀ i f, fs[i]? = some f → i ≠ k → (f.1 = 0 ∨ f.1 = 2) → ¬ (f.2.1 = b ∧ f.2.2 = j) := by
  intro i f hi hne ht he
  have h := apf_all q hq
  rw [hy] at h
  have hi' : i < fs.length := (List.getElem?_eq_some_iff.mp hi).1
  have hk' : k < fs.length := (List.getElem?_eq_some_iff.mp hf).1
  have h1 := List.all_eq_true.mp (List.all_eq_true.mp h i (List.mem_range.mpr hi')) k (List.mem_range.mpr hk')
  rw [hi, hf] at h1
  obtain ⟨t, y, z⟩ := f
  dsimp only at ht he h1
  obtain ⟨rfl, rfl⟩ := he
  rcases ht with rfl | rfl <;> simp [hne] at h1
theorem j_putI (hC : Cx v p l e s m args meth c own cc nL ret) {idx ci k : Nat} {ty : FieldType} (hF : FL own idx ci k false ty) {q : Nat} {fs : List FS} {b j : Nat} {x : Int32} (hq : q < layN) (hy : layF q = .inl (ci, fs)) (hf : fs[k]? = some (0, b, j)) (hb : plainB b j) (hn : narrow ty (.int x) = .int x ∧ fits ty (.int x) = true) (hdg : decode cc pc = .ok (.putfield idx, 3))
    (k2 : Mw (WDa v da) v p l e R s m args below meth c nL Q qb (up S b j x) (pc + 3) lv st) : Mw (WDa v da) v p l e R s m args below meth c nL Q qb S pc lv (.int x :: .ref (eA v q) :: st) := by
  intro H locs ls cells slots hbu hW hS hl
  obtain ⟨hP, hD⟩ := hW
  obtain ⟨K, T, N, ty0, hc, hk, hlk, hin, hty, hnm, hfin, hd⟩ := hF
  have ho : ownr b j = q := own_ok hq (q := (b, j)) (by rw [hy]; exact List.mem_filterMap.mpr ⟨(0, b, j), List.mem_of_getElem? hf, by simp⟩)
  have hset : (wsW v da S).set q (eA v q, .inr (ci, (fs.map (fv v da S)).set k (.int x))) = wsW v da (up S b j x) := wsW_up hq hb ho (by rw [hy]; exact congrArg (fun z => Sum.inr (ci, z)) (map_set_up hf (apf_ok hq hy hf)))
  refine va_put hC.1 hC.2.1 hC.2.2.2.2.1 hin ty0 hty hnm hC.2.2.2.1 hC.2.2.2.2.2.1 hP hD hS q (fs := fs.map (fv v da S)) (by rw [wsW_at hq, hy]; rfl) hc k hk (hC.2.2.2.2.1 _ hlk) (fun _ h => h) hfin hd hn.1 hn.2 (by rw [List.length_map]; exact (List.getElem?_eq_some_iff.mp hf).1) hdg fun H1 locs1 hP1 hD1 hS1 => ?_
  rw [hset] at hP1 hD1
  exact k2 H1 locs1 ls cells slots hbu ⟨hP1, hD1⟩ hS1 hl
theorem j_iald (hC : Cx v p l e s m args meth c own cc nL ret) {q n b b0 j0 : Nat} {i : Int32} (hq : q < layN) (hy : layF q = .inr (0, n, 0, b, b0)) (hin : vp_in i n) (hj : b0 + i.toNatClampNeg = j0) (hdg : decode cc pc = .ok (.iaload, 1)) (k2 : Mw (WDa v da) v p l e R s m args below meth c nL Q qb S (pc + 1) lv (.int (S b j0) :: st)) : Mw (WDa v da) v p l e R s m args below meth c nL Q qb S pc lv (.int i :: .ref (eA v q) :: st) := by
  subst hj
  intro H locs ls cells slots hbu hW hS hl
  have hP := hW.1
  have hlt : i.toNatClampNeg < n := Nat.not_le.mp fun z => hin (Or.inr z)
  refine va_iald hC.1 hC.2.1 hC.2.2.2.2.2.1 hP q 0 (n := n) (f := fun j => if j < n then S b (b0 + j) else 0) (by rw [wsW_at hq, hy]; rfl) (tysOf_at v (by decide)) hin hdg ?_
  rw [if_pos hlt]
  exact k2 H locs ls cells slots hbu hW hS hl
theorem j_cald (hC : Cx v p l e s m args meth c own cc nL ret) {q n b b0 j0 : Nat} {i : Int32} (hq : q < layN) (hy : layF q = .inr (1, n, 0, b, b0)) (hin : vp_in i n) (hj : b0 + i.toNatClampNeg = j0) (hdg : decode cc pc = .ok (.caload, 1)) (k2 : Mw (WDa v da) v p l e R s m args below meth c nL Q qb S (pc + 1) lv (.int (S b j0) :: st)) : Mw (WDa v da) v p l e R s m args below meth c nL Q qb S pc lv (.int i :: .ref (eA v q) :: st) := by
  subst hj
  intro H locs ls cells slots hbu hW hS hl
  have hP := hW.1
  have hlt : i.toNatClampNeg < n := Nat.not_le.mp fun z => hin (Or.inr z)
  refine va_cald hC.1 hC.2.1 hC.2.2.2.2.2.1 hP q 1 (n := n) (f := fun j => if j < n then S b (b0 + j) else 0) (by rw [wsW_at hq, hy]; rfl) (tysOf_at v (by decide)) hin hdg ?_
  rw [if_pos hlt]
  exact k2 H locs ls cells slots hbu hW hS hl
theorem j_zald (hC : Cx v p l e s m args meth c own cc nL ret) {q n b b0 j0 : Nat} {i : Int32} (hq : q < layN) (hy : layF q = .inr (2, n, 0, b, b0)) (hin : vp_in i n) (hj : b0 + i.toNatClampNeg = j0) (hdg : decode cc pc = .ok (.baload, 1)) (k2 : Mw (WDa v da) v p l e R s m args below meth c nL Q qb S (pc + 1) lv (.int (S b j0) :: st)) : Mw (WDa v da) v p l e R s m args below meth c nL Q qb S pc lv (.int i :: .ref (eA v q) :: st) := by
  subst hj
  intro H locs ls cells slots hbu hW hS hl
  have hP := hW.1
  have hlt : i.toNatClampNeg < n := Nat.not_le.mp fun z => hin (Or.inr z)
  refine va_zald hC.1 hC.2.1 hC.2.2.2.2.2.1 hP q 2 (n := n) (f := fun j => if j < n then S b (b0 + j) else 0) (by rw [wsW_at hq, hy]; rfl) (tysOf_at v (by decide)) hin hdg ?_
  rw [if_pos hlt]
  exact k2 H locs ls cells slots hbu hW hS hl
theorem j_iast (hC : Cx v p l e s m args meth c own cc nL ret) {q n b b0 j0 : Nat} {i x : Int32} (hq : q < layN) (hy : layF q = .inr (0, n, 0, b, b0)) (hb : plainB b j0) (hin : vp_in i n) (hj : b0 + i.toNatClampNeg = j0) (hdg : decode cc pc = .ok (.iastore, 1)) (k2 : Mw (WDa v da) v p l e R s m args below meth c nL Q qb (up S b j0 (x)) (pc + 1) lv st) : Mw (WDa v da) v p l e R s m args below meth c nL Q qb S pc lv (.int x :: .int i :: .ref (eA v q) :: st) := by
  subst hj
  intro H locs ls cells slots hbu hW hS hl
  obtain ⟨hP, hD⟩ := hW
  have hlt : i.toNatClampNeg < n := Nat.not_le.mp fun z => hin (Or.inr z)
  have ho : ownr b (b0 + i.toNatClampNeg) = q := own_ok hq (q := (b, b0 + i.toNatClampNeg)) (by rw [hy]; exact List.mem_map.mpr ⟨_, List.mem_range.mpr hlt, rfl⟩)
  have hset : (wsW v da S).set q (eA v q, .inl (eC v 0, n, .inl (upd (fun j => if j < n then S b (b0 + j) else 0) i.toNatClampNeg (x)))) = wsW v da (up S b (b0 + i.toNatClampNeg) (x)) := by
    refine wsW_up hq hb ho ?_
    rw [hy]
    refine congrArg (fun z => Sum.inl (eC v 0, n, Sum.inl z)) (funext fun j => ?_)
    by_cases hj : j = i.toNatClampNeg
    · subst hj
      rw [if_pos hlt, up_same]; exact (if_pos rfl).symm
    · rw [show upd (fun j => if j < n then S b (b0 + j) else 0) i.toNatClampNeg (x) j = if j < n then S b (b0 + j) else 0 from if_neg hj]
      rw [up_ne S _ (fun z => hj (Nat.add_left_cancel z.2))]
  refine va_iast hC.1 hC.2.1 hC.2.2.2.2.2.1 hP hD hS q 0 (n := n) (f := fun j => if j < n then S b (b0 + j) else 0) (by rw [wsW_at hq, hy]; rfl) (tysOf_at v (by decide)) hin hdg fun H1 locs1 hP1 hD1 hS1 => ?_
  rw [hset] at hP1 hD1
  exact k2 H1 locs1 ls cells slots hbu ⟨hP1, hD1⟩ hS1 hl
theorem j_cast (hC : Cx v p l e s m args meth c own cc nL ret) {q n b b0 j0 : Nat} {i x : Int32} (hq : q < layN) (hy : layF q = .inr (1, n, 0, b, b0)) (hb : plainB b j0) (hin : vp_in i n) (hj : b0 + i.toNatClampNeg = j0) (hdg : decode cc pc = .ok (.castore, 1)) (k2 : Mw (WDa v da) v p l e R s m args below meth c nL Q qb (up S b j0 (vp_nar .char x)) (pc + 1) lv st) : Mw (WDa v da) v p l e R s m args below meth c nL Q qb S pc lv (.int x :: .int i :: .ref (eA v q) :: st) := by
  subst hj
  intro H locs ls cells slots hbu hW hS hl
  obtain ⟨hP, hD⟩ := hW
  have hlt : i.toNatClampNeg < n := Nat.not_le.mp fun z => hin (Or.inr z)
  have ho : ownr b (b0 + i.toNatClampNeg) = q := own_ok hq (q := (b, b0 + i.toNatClampNeg)) (by rw [hy]; exact List.mem_map.mpr ⟨_, List.mem_range.mpr hlt, rfl⟩)
  have hset : (wsW v da S).set q (eA v q, .inl (eC v 1, n, .inl (upd (fun j => if j < n then S b (b0 + j) else 0) i.toNatClampNeg (vp_nar .char x)))) = wsW v da (up S b (b0 + i.toNatClampNeg) (vp_nar .char x)) := by
    refine wsW_up hq hb ho ?_
    rw [hy]
    refine congrArg (fun z => Sum.inl (eC v 1, n, Sum.inl z)) (funext fun j => ?_)
    by_cases hj : j = i.toNatClampNeg
    · subst hj
      rw [if_pos hlt, up_same]; exact (if_pos rfl).symm
    · rw [show upd (fun j => if j < n then S b (b0 + j) else 0) i.toNatClampNeg (vp_nar .char x) j = if j < n then S b (b0 + j) else 0 from if_neg hj]
      rw [up_ne S _ (fun z => hj (Nat.add_left_cancel z.2))]
  refine va_cast hC.1 hC.2.1 hC.2.2.2.2.2.1 hP hD hS q 1 (n := n) (f := fun j => if j < n then S b (b0 + j) else 0) (by rw [wsW_at hq, hy]; rfl) (tysOf_at v (by decide)) hin hdg fun H1 locs1 hP1 hD1 hS1 => ?_
  rw [hset] at hP1 hD1
  exact k2 H1 locs1 ls cells slots hbu ⟨hP1, hD1⟩ hS1 hl
theorem j_zast (hC : Cx v p l e s m args meth c own cc nL ret) {q n b b0 j0 : Nat} {i x : Int32} (hq : q < layN) (hy : layF q = .inr (2, n, 0, b, b0)) (hb : plainB b j0) (hin : vp_in i n) (hj : b0 + i.toNatClampNeg = j0) (hdg : decode cc pc = .ok (.bastore, 1)) (k2 : Mw (WDa v da) v p l e R s m args below meth c nL Q qb (up S b j0 (vp_nar .boolean x)) (pc + 1) lv st) : Mw (WDa v da) v p l e R s m args below meth c nL Q qb S pc lv (.int x :: .int i :: .ref (eA v q) :: st) := by
  subst hj
  intro H locs ls cells slots hbu hW hS hl
  obtain ⟨hP, hD⟩ := hW
  have hlt : i.toNatClampNeg < n := Nat.not_le.mp fun z => hin (Or.inr z)
  have ho : ownr b (b0 + i.toNatClampNeg) = q := own_ok hq (q := (b, b0 + i.toNatClampNeg)) (by rw [hy]; exact List.mem_map.mpr ⟨_, List.mem_range.mpr hlt, rfl⟩)
  have hset : (wsW v da S).set q (eA v q, .inl (eC v 2, n, .inl (upd (fun j => if j < n then S b (b0 + j) else 0) i.toNatClampNeg (vp_nar .boolean x)))) = wsW v da (up S b (b0 + i.toNatClampNeg) (vp_nar .boolean x)) := by
    refine wsW_up hq hb ho ?_
    rw [hy]
    refine congrArg (fun z => Sum.inl (eC v 2, n, Sum.inl z)) (funext fun j => ?_)
    by_cases hj : j = i.toNatClampNeg
    · subst hj
      rw [if_pos hlt, up_same]; exact (if_pos rfl).symm
    · rw [show upd (fun j => if j < n then S b (b0 + j) else 0) i.toNatClampNeg (vp_nar .boolean x) j = if j < n then S b (b0 + j) else 0 from if_neg hj]
      rw [up_ne S _ (fun z => hj (Nat.add_left_cancel z.2))]
  refine va_zast hC.1 hC.2.1 hC.2.2.2.2.2.1 hP hD hS q 2 (n := n) (f := fun j => if j < n then S b (b0 + j) else 0) (by rw [wsW_at hq, hy]; rfl) (tysOf_at v (by decide)) hin hdg fun H1 locs1 hP1 hD1 hS1 => ?_
  rw [hset] at hP1 hD1
  exact k2 H1 locs1 ls cells slots hbu ⟨hP1, hD1⟩ hS1 hl
theorem j_aald (hC : Cx v p l e s m args meth c own cc nL ret) {q t n x y : Nat} {i : Int32} (hq : q < layN) (hy : layF q = .inr (t, n, 1, x, y)) (ht : 4 ≤ t ∧ t < 7) (hin : vp_in i n) (hdg : decode cc pc = .ok (.aaload, 1)) (k2 : Mw (WDa v da) v p l e R s m args below meth c nL Q qb S (pc + 1) lv (.ref (eA v (x + y * i.toNatClampNeg)) :: st)) : Mw (WDa v da) v p l e R s m args below meth c nL Q qb S pc lv (.int i :: .ref (eA v q) :: st) := by
  intro H locs ls cells slots hbu hW hS hl
  have hP := hW.1
  have hlt : i.toNatClampNeg < n := Nat.not_le.mp fun z => hin (Or.inr z)
  have hobj : ∃ K, tyOf t = .object K := by
    obtain ⟨h1, h2⟩ := ht
    match t, h1, h2 with
    | 4, _, _ => exact ⟨_, rfl⟩
    | 5, _, _ => exact ⟨_, rfl⟩
    | 6, _, _ => exact ⟨_, rfl⟩
  obtain ⟨K, hK⟩ := hobj
  refine va_aldq hC.1 hC.2.1 hC.2.2.2.2.2.1 hP q t (n := n) (C := K) (f := fun j => if j < n then some (eA v (x + y * j)) else none) (by rw [wsW_at hq, hy]; rfl) (by rw [tysOf_at v ht.2, hK]) hin hdg ?_
  rw [if_pos hlt]
  exact k2 H locs ls cells slots hbu hW hS hl
theorem j_alen (hC : Cx v p l e s m args meth c own cc nL ret) {q t n k x y : Nat} {z : Int32} (hq : q < layN) (hy : layF q = .inr (t, n, k, x, y)) (ht : t < 7) (hv : Int32.ofNat n = z) (hdg : decode cc pc = .ok (.arraylength, 1)) (k2 : Mw (WDa v da) v p l e R s m args below meth c nL Q qb S (pc + 1) lv (.int z :: st)) : Mw (WDa v da) v p l e R s m args below meth c nL Q qb S pc lv (.ref (eA v q) :: st) := by
  intro H locs ls cells slots hbu hW hS hl
  have hP := hW.1
  match k, hy with
  | 0, hy => exact va_alen hC.1 hC.2.1 hC.2.2.2.2.2.1 hP q t (x := (n, .inl (fun j => if j < n then S x (y + j) else 0))) (by rw [wsW_at hq, hy]; rfl) (tysOf_at v ht) hv hdg (k2 H locs ls cells slots hbu hW hS hl)
  | k + 1, hy => exact va_alen hC.1 hC.2.1 hC.2.2.2.2.2.1 hP q t (x := (n, .inr (.inr (.inr (.inr (fun j => if j < n then some (eA v (x + y * j)) else none)))))) (by rw [wsW_at hq, hy]; rfl) (tysOf_at v ht) hv hdg (k2 H locs ls cells slots hbu hW hS hl)
theorem i_tabIn (hC : Cx v p l e s m args meth c own cc nL ret) {dflt lo hi a : Int} {offs : Array Int} {len : Nat} {x k : Int32} {off : Int} {tgt : Nat} (hdg : decode cc pc = .ok (.tableswitch dflt lo hi offs, len)) (hx : x = k) (hk : k.toInt = a) (h1 : ¬ a < lo) (h2 : ¬ hi < a) (ho : offs[(a - lo).toNat]? = some off) (ht : (pc : Int) + off = (tgt : Int)) (k2 : Mw Wd v p l e R s m args below meth c nL Q qb S tgt lv st) : Mw Wd v p l e R s m args below meth c nL Q qb S pc lv (.int x :: st) := by
  subst hx
  subst hk
  exact fun H locs ls cells slots hbu hW hS hl => lv_tableIn hC.1 hC.2.1 hdg h1 h2 ho ht (k2 H locs ls cells slots hbu hW hS hl)
theorem i_tabOut (hC : Cx v p l e s m args meth c own cc nL ret) {dflt lo hi : Int} {offs : Array Int} {len : Nat} {x : Int32} {tgt : Nat} (hdg : decode cc pc = .ok (.tableswitch dflt lo hi offs, len)) (h : x.toInt < lo ∨ hi < x.toInt) (ht : (pc : Int) + dflt = (tgt : Int)) (k2 : Mw Wd v p l e R s m args below meth c nL Q qb S tgt lv st) : Mw Wd v p l e R s m args below meth c nL Q qb S pc lv (.int x :: st) := fun H locs ls cells slots hbu hW hS hl => lv_tableOut hC.1 hC.2.1 hdg h ht (k2 H locs ls cells slots hbu hW hS hl)
theorem i_getI (hC : Cx v p l e s m args meth c own cc nL ret) {idx ci k : Nat} {fin : Bool} {ty : FieldType} (hF : FL own idx ci k fin ty) {q : Nat} {fs : List FS} {b j : Nat} (hq : q < layN) (hy : layF q = .inl (ci, fs)) (hf : fs[k]? = some (0, b, j)) (hdg : decode cc pc = .ok (.getfield idx, 3)) (k2 : Mj v p l e R s m args below meth c nL Q qb S (pc + 3) lv (.int (S b j) :: st)) : Mj v p l e R s m args below meth c nL Q qb S pc lv (.ref (eA v q) :: st) := ex_da fun da => j_getI hC hF hq hy hf hdg (to_da k2)
theorem i_getR (hC : Cx v p l e s m args meth c own cc nL ret) {idx ci k : Nat} {fin : Bool} {ty : FieldType} (hF : FL own idx ci k fin ty) {q : Nat} {fs : List FS} {x y : Nat} (hq : q < layN) (hy : layF q = .inl (ci, fs)) (hf : fs[k]? = some (1, x, y)) (hdg : decode cc pc = .ok (.getfield idx, 3)) (k2 : Mj v p l e R s m args below meth c nL Q qb S (pc + 3) lv (.ref (eA v x) :: st)) : Mj v p l e R s m args below meth c nL Q qb S pc lv (.ref (eA v q) :: st) := ex_da fun da => j_getR hC hF hq hy hf hdg (to_da k2)
theorem i_putI (hC : Cx v p l e s m args meth c own cc nL ret) {idx ci k : Nat} {ty : FieldType} (hF : FL own idx ci k false ty) {q : Nat} {fs : List FS} {b j : Nat} {x : Int32} (hq : q < layN) (hy : layF q = .inl (ci, fs)) (hf : fs[k]? = some (0, b, j)) (hb : plainB b j) (hn : narrow ty (.int x) = .int x ∧ fits ty (.int x) = true) (hdg : decode cc pc = .ok (.putfield idx, 3)) (k2 : Mj v p l e R s m args below meth c nL Q qb (up S b j x) (pc + 3) lv st) : Mj v p l e R s m args below meth c nL Q qb S pc lv (.int x :: .ref (eA v q) :: st) := ex_da fun da => j_putI hC hF hq hy hf hb hn hdg (to_da k2)
theorem i_iald (hC : Cx v p l e s m args meth c own cc nL ret) {q n b b0 j0 : Nat} {i : Int32} (hq : q < layN) (hy : layF q = .inr (0, n, 0, b, b0)) (hin : vp_in i n) (hj : b0 + i.toNatClampNeg = j0) (hdg : decode cc pc = .ok (.iaload, 1)) (k2 : Mj v p l e R s m args below meth c nL Q qb S (pc + 1) lv (.int (S b j0) :: st)) : Mj v p l e R s m args below meth c nL Q qb S pc lv (.int i :: .ref (eA v q) :: st) := ex_da fun da => j_iald hC hq hy hin hj hdg (to_da k2)
theorem i_cald (hC : Cx v p l e s m args meth c own cc nL ret) {q n b b0 j0 : Nat} {i : Int32} (hq : q < layN) (hy : layF q = .inr (1, n, 0, b, b0)) (hin : vp_in i n) (hj : b0 + i.toNatClampNeg = j0) (hdg : decode cc pc = .ok (.caload, 1)) (k2 : Mj v p l e R s m args below meth c nL Q qb S (pc + 1) lv (.int (S b j0) :: st)) : Mj v p l e R s m args below meth c nL Q qb S pc lv (.int i :: .ref (eA v q) :: st) := ex_da fun da => j_cald hC hq hy hin hj hdg (to_da k2)
theorem i_zald (hC : Cx v p l e s m args meth c own cc nL ret) {q n b b0 j0 : Nat} {i : Int32} (hq : q < layN) (hy : layF q = .inr (2, n, 0, b, b0)) (hin : vp_in i n) (hj : b0 + i.toNatClampNeg = j0) (hdg : decode cc pc = .ok (.baload, 1)) (k2 : Mj v p l e R s m args below meth c nL Q qb S (pc + 1) lv (.int (S b j0) :: st)) : Mj v p l e R s m args below meth c nL Q qb S pc lv (.int i :: .ref (eA v q) :: st) := ex_da fun da => j_zald hC hq hy hin hj hdg (to_da k2)
theorem i_iast (hC : Cx v p l e s m args meth c own cc nL ret) {q n b b0 j0 : Nat} {i x : Int32} (hq : q < layN) (hy : layF q = .inr (0, n, 0, b, b0)) (hb : plainB b j0) (hin : vp_in i n) (hj : b0 + i.toNatClampNeg = j0) (hdg : decode cc pc = .ok (.iastore, 1)) (k2 : Mj v p l e R s m args below meth c nL Q qb (up S b j0 (x)) (pc + 1) lv st) : Mj v p l e R s m args below meth c nL Q qb S pc lv (.int x :: .int i :: .ref (eA v q) :: st) := ex_da fun da => j_iast hC hq hy hb hin hj hdg (to_da k2)
theorem i_cast (hC : Cx v p l e s m args meth c own cc nL ret) {q n b b0 j0 : Nat} {i x : Int32} (hq : q < layN) (hy : layF q = .inr (1, n, 0, b, b0)) (hb : plainB b j0) (hin : vp_in i n) (hj : b0 + i.toNatClampNeg = j0) (hdg : decode cc pc = .ok (.castore, 1)) (k2 : Mj v p l e R s m args below meth c nL Q qb (up S b j0 (vp_nar .char x)) (pc + 1) lv st) : Mj v p l e R s m args below meth c nL Q qb S pc lv (.int x :: .int i :: .ref (eA v q) :: st) := ex_da fun da => j_cast hC hq hy hb hin hj hdg (to_da k2)
theorem i_zast (hC : Cx v p l e s m args meth c own cc nL ret) {q n b b0 j0 : Nat} {i x : Int32} (hq : q < layN) (hy : layF q = .inr (2, n, 0, b, b0)) (hb : plainB b j0) (hin : vp_in i n) (hj : b0 + i.toNatClampNeg = j0) (hdg : decode cc pc = .ok (.bastore, 1)) (k2 : Mj v p l e R s m args below meth c nL Q qb (up S b j0 (vp_nar .boolean x)) (pc + 1) lv st) : Mj v p l e R s m args below meth c nL Q qb S pc lv (.int x :: .int i :: .ref (eA v q) :: st) := ex_da fun da => j_zast hC hq hy hb hin hj hdg (to_da k2)
theorem i_aald (hC : Cx v p l e s m args meth c own cc nL ret) {q t n x y : Nat} {i : Int32} (hq : q < layN) (hy : layF q = .inr (t, n, 1, x, y)) (ht : 4 ≤ t ∧ t < 7) (hin : vp_in i n) (hdg : decode cc pc = .ok (.aaload, 1)) (k2 : Mj v p l e R s m args below meth c nL Q qb S (pc + 1) lv (.ref (eA v (x + y * i.toNatClampNeg)) :: st)) : Mj v p l e R s m args below meth c nL Q qb S pc lv (.int i :: .ref (eA v q) :: st) := ex_da fun da => j_aald hC hq hy ht hin hdg (to_da k2)
theorem i_alen (hC : Cx v p l e s m args meth c own cc nL ret) {q t n k x y : Nat} {z : Int32} (hq : q < layN) (hy : layF q = .inr (t, n, k, x, y)) (ht : t < 7) (hv : Int32.ofNat n = z) (hdg : decode cc pc = .ok (.arraylength, 1)) (k2 : Mj v p l e R s m args below meth c nL Q qb S (pc + 1) lv (.int z :: st)) : Mj v p l e R s m args below meth c nL Q qb S pc lv (.ref (eA v q) :: st) := ex_da fun da => j_alen hC hq hy ht hv hdg (to_da k2)
end RULES
