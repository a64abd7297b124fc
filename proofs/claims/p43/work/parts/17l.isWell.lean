def f_L_isWell_489 (S : Mem) (xt0 : Int32) : Option (Int32) := ck (isb xt0) (some xt0)
def f_L_isWell_488 (S : Mem)  : Option (Int32) := f_L_isWell_489 S (0 : Int32)
def f_L_isWell_163 (S : Mem)  : Option (Int32) := some (0 : Int32)
def f_L_isWell_413 (ih16 : (Int32 × Int32 × Int32 × Int32 × Int32 × Int32) → Option (Int32)) (S : Mem) (x1 : Int32) (x2 : Int32) (x3 : Int32) (x4 : Int32) (x6 : Int32) (xt0 : Int32) : Option (Int32) := ih16 (x1, x2, x3, x4, xt0, (x6 + (1 : Int32)))
def f_L_isWell_411 (ih16 : (Int32 × Int32 × Int32 × Int32 × Int32 × Int32) → Option (Int32)) (S : Mem) (x1 : Int32) (x2 : Int32) (x3 : Int32) (x4 : Int32) (x5 : Int32) (x6 : Int32) : Option (Int32) := f_L_isWell_413 ih16 S x1 x2 x3 x4 x6 x5
def f_L_isWell_406 (ih16 : (Int32 × Int32 × Int32 × Int32 × Int32 × Int32) → Option (Int32)) (S : Mem) (x1 : Int32) (x2 : Int32) (x3 : Int32) (x4 : Int32) (x6 : Int32) : Option (Int32) := f_L_isWell_413 ih16 S x1 x2 x3 x4 x6 x6
def f_L_isWell_360 (S : Mem)  : Option (Int32) := some (0 : Int32)
def f_L_isWell_295 (ih16 : (Int32 × Int32 × Int32 × Int32 × Int32 × Int32) → Option (Int32)) (ih223 : (Int32 × Int32) → Option (Int32)) (S : Mem) (x1 : Int32) (x2 : Int32) (x3 : Int32) (x4 : Int32) (x5 : Int32) (x6 : Int32) (x7 : Int32) (x8 : Int32) (x9 : Int32) (x11 : Int32) (xt0 : Int32) : Option (Int32) := (if xt0 = 0 then bd1 (g_X8_reaches S x6 x11) (fun r46 => bd1 (g_X8_reaches S x11 x6) (fun r47 => (if r46 = r47 then bd1 (g_X8_longer S x6 x11) (fun r49 => bd1 (g_X8_longer S x11 x6) (fun r50 => (if r49 = (-r50) then bd1 (g_X8_alike S x6 x11) (fun r52 => bd1 (g_X8_alike S x11 x6) (fun r53 => (if r52 = r53 then ih223 (x9, (x11 + (1 : Int32))) else f_L_isWell_360 S))) else f_L_isWell_360 S))) else f_L_isWell_360 S))) else f_L_isWell_360 S)
def f_L_isWell_294 (ih16 : (Int32 × Int32 × Int32 × Int32 × Int32 × Int32) → Option (Int32)) (ih223 : (Int32 × Int32) → Option (Int32)) (S : Mem) (x1 : Int32) (x2 : Int32) (x3 : Int32) (x4 : Int32) (x5 : Int32) (x6 : Int32) (x7 : Int32) (x8 : Int32) (x9 : Int32) (x11 : Int32) : Option (Int32) := f_L_isWell_295 ih16 ih223 S x1 x2 x3 x4 x5 x6 x7 x8 x9 x11 (0 : Int32)
def f_L_isWell_251 (ih16 : (Int32 × Int32 × Int32 × Int32 × Int32 × Int32) → Option (Int32)) (ih223 : (Int32 × Int32) → Option (Int32)) (S : Mem) (x1 : Int32) (x2 : Int32) (x3 : Int32) (x4 : Int32) (x5 : Int32) (x6 : Int32) (x7 : Int32) (x8 : Int32) (x11 : Int32) (xt0 : Int32) (xt1 : Int32) : Option (Int32) := (if x11 = x6 then f_L_isWell_294 ih16 ih223 S x1 x2 x3 x4 x5 x6 x7 x8 (xt1 + xt0) x11 else (if x7 = (2 : Int32) then bd1 (g_X8_driverOf S x11 (0 : Int32)) (fun r56 => (if r56 = (2 : Int32) then bd1 (g_X8_driverOf S x11 (1 : Int32)) (fun r58 => (if r58 = x8 then f_L_isWell_295 ih16 ih223 S x1 x2 x3 x4 x5 x6 x7 x8 (xt1 + xt0) x11 (1 : Int32) else f_L_isWell_294 ih16 ih223 S x1 x2 x3 x4 x5 x6 x7 x8 (xt1 + xt0) x11)) else f_L_isWell_294 ih16 ih223 S x1 x2 x3 x4 x5 x6 x7 x8 (xt1 + xt0) x11)) else f_L_isWell_294 ih16 ih223 S x1 x2 x3 x4 x5 x6 x7 x8 (xt1 + xt0) x11))
def f_L_isWell_223_b (ih16 : (Int32 × Int32 × Int32 × Int32 × Int32 × Int32) → Option (Int32)) (ih223 : (Int32 × Int32) → Option (Int32)) (S : Mem) (x1 : Int32) (x2 : Int32) (x3 : Int32) (x4 : Int32) (x5 : Int32) (x6 : Int32) (x7 : Int32) (x8 : Int32) (x9 : Int32) (x11 : Int32) : Option (Int32) := bd1 (g_X8_account S (1 : Int32)) (fun r34 => (if r34 ≤ x11 then bd1 (g_X8_driverOf S x6 (8 : Int32)) (fun r36 => (if x9 = r36 then (if x7 = (2 : Int32) then (if x5 < 0 then f_L_isWell_406 ih16 S x1 x2 x3 x4 x6 else bd1 (g_X8_driverOf S x5 (1 : Int32)) (fun r40 => (if x8 ≤ r40 then f_L_isWell_411 ih16 S x1 x2 x3 x4 x5 x6 else f_L_isWell_406 ih16 S x1 x2 x3 x4 x6))) else f_L_isWell_411 ih16 S x1 x2 x3 x4 x5 x6) else some (0 : Int32))) else bd1 (g_X8_reaches S x6 x11) (fun r42 => (if r42 = 0 then f_L_isWell_251 ih16 ih223 S x1 x2 x3 x4 x5 x6 x7 x8 x11 (0 : Int32) x9 else f_L_isWell_251 ih16 ih223 S x1 x2 x3 x4 x5 x6 x7 x8 x11 (1 : Int32) x9))))
def f_L_isWell_223 (ih16 : (Int32 × Int32 × Int32 × Int32 × Int32 × Int32) → Option (Int32)) (S : Mem) (x1 : Int32) (x2 : Int32) (x3 : Int32) (x4 : Int32) (x5 : Int32) (x6 : Int32) (x7 : Int32) (x8 : Int32) (x9 : Int32) (x11 : Int32) : Option (Int32) := lp (fun ih223 s9 => f_L_isWell_223_b ih16 ih223 S x1 x2 x3 x4 x5 x6 x7 x8 s9.1 s9.2) 2000 (x9, x11)
def f_L_isWell_208 (S : Mem)  : Option (Int32) := some (0 : Int32)
def f_L_isWell_171_b (ih16 : (Int32 × Int32 × Int32 × Int32 × Int32 × Int32) → Option (Int32)) (ih171 : (Int32 × Int32) → Option (Int32)) (S : Mem) (x1 : Int32) (x2 : Int32) (x3 : Int32) (x4 : Int32) (x5 : Int32) (x6 : Int32) (x7 : Int32) (x8 : Int32) (x9 : Int32) (x10 : Int32) (x11 : Int32) : Option (Int32) := bd1 (g_X8_driverOf S x6 (5 : Int32)) (fun r32 => (if r32 < x11 then f_L_isWell_223 ih16 S x1 x2 x3 x4 x5 x6 x7 x8 x9 (0 : Int32) else bd1 (g_X8_lineOf S x6 x11 (0 : Int32)) (fun r60 => (if r60 < x10 then f_L_isWell_208 S else (if r60 ≤ x8 then ih171 (r60, (x11 + (1 : Int32))) else f_L_isWell_208 S)))))
def f_L_isWell_171 (ih16 : (Int32 × Int32 × Int32 × Int32 × Int32 × Int32) → Option (Int32)) (S : Mem) (x1 : Int32) (x2 : Int32) (x3 : Int32) (x4 : Int32) (x5 : Int32) (x6 : Int32) (x7 : Int32) (x8 : Int32) (x9 : Int32) (x10 : Int32) (x11 : Int32) : Option (Int32) := lp (fun ih171 s9 => f_L_isWell_171_b ih16 ih171 S x1 x2 x3 x4 x5 x6 x7 x8 x9 s9.1 s9.2) 2000 (x10, x11)
def f_L_isWell_165 (ih16 : (Int32 × Int32 × Int32 × Int32 × Int32 × Int32) → Option (Int32)) (S : Mem) (x1 : Int32) (x2 : Int32) (x3 : Int32) (x4 : Int32) (x5 : Int32) (x6 : Int32) (x7 : Int32) (x8 : Int32) (x9 : Int32) : Option (Int32) := f_L_isWell_171 ih16 S x1 x2 x3 x4 x5 x6 x7 x8 x9 (0 : Int32) (1 : Int32)
def f_L_isWell_16_b (ih16 : (Int32 × Int32 × Int32 × Int32 × Int32 × Int32) → Option (Int32)) (S : Mem) (x1 : Int32) (x2 : Int32) (x3 : Int32) (x4 : Int32) (x5 : Int32) (x6 : Int32) : Option (Int32) := bd1 (g_X8_account S (1 : Int32)) (fun r1 => (if r1 ≤ x6 then bd1 (g_X8_account S (2 : Int32)) (fun r3 => (if x1 = r3 then bd1 (g_X8_account S (5 : Int32)) (fun r6 => (if x2 = r6 then bd1 (g_X8_account S (6 : Int32)) (fun r8 => (if x3 = r8 then bd1 (g_X8_agreed S) (fun r10 => (if x4 = r10 then bd1 (g_X8_agreedAgain S) (fun r12 => (if x4 = r12 then bd1 (g_X8_leader S) (fun r14 => (if x5 = r14 then bd1 (g_X8_isSafe S) (fun r16 => (if r16 = (1 : Int32) then f_L_isWell_489 S (1 : Int32) else f_L_isWell_488 S)) else f_L_isWell_488 S)) else f_L_isWell_488 S)) else f_L_isWell_488 S)) else f_L_isWell_488 S)) else f_L_isWell_488 S)) else f_L_isWell_488 S)) else bd1 (g_X8_driverOf S x6 (0 : Int32)) (fun r18 => bd1 (g_X8_driverOf S x6 (1 : Int32)) (fun r19 => bd1 (g_X8_driverOf S x6 (7 : Int32)) (fun r20 => bd1 (g_X8_driverOf S x6 (9 : Int32)) (fun r21 => bd1 (g_X8_driverOf S x6 (10 : Int32)) (fun r22 => bd1 (g_X8_driverOf S x6 (6 : Int32)) (fun r23 => bd1 (g_X8_driverOf S x6 (6 : Int32)) (fun r24 => bd1 (g_X8_driverOf S x6 (5 : Int32)) (fun r25 => (if r25 < r24 then f_L_isWell_163 S else bd1 (g_X8_driverOf S x6 (5 : Int32)) (fun r27 => (if (12 : Int32) < r27 then f_L_isWell_163 S else bd1 (g_X8_account S (4 : Int32)) (fun r29 => (if r29 < r19 then f_L_isWell_163 S else (if r18 ≤ 0 then f_L_isWell_165 ih16 S (x1 + r20) (x2 + r21) (x3 + r22) (mx x4 r23) x5 x6 r18 r19 (0 : Int32) else bd1 (g_X8_driverOf S x6 (4 : Int32)) (fun r63 => (if r63 = x6 then bd1 (g_X8_driverOf S x6 (7 : Int32)) (fun r65 => (if r65 = 0 then f_L_isWell_163 S else f_L_isWell_165 ih16 S (x1 + r20) (x2 + r21) (x3 + r22) (mx x4 r23) x5 x6 r18 r19 (0 : Int32))) else f_L_isWell_163 S))))))))))))))))))
def f_L_isWell_16 (S : Mem) (x1 : Int32) (x2 : Int32) (x3 : Int32) (x4 : Int32) (x5 : Int32) (x6 : Int32) : Option (Int32) := lp (fun ih16 s9 => f_L_isWell_16_b ih16 S s9.1 s9.2.1 s9.2.2.1 s9.2.2.2.1 s9.2.2.2.2.1 s9.2.2.2.2.2) 2000 (x1, x2, x3, x4, x5, x6)
def f_L_isWell_0 (S : Mem)  : Option (Int32) := f_L_isWell_16 S (0 : Int32) (0 : Int32) (0 : Int32) (0 : Int32) (-4 : Int32) (0 : Int32)
def g_L_isWell (S : Mem)  : Option (Int32) := f_L_isWell_0 S
set_option maxHeartbeats 4000000 in
set_option maxRecDepth 100000 in
theorem b_L_isWell_489 {v : EV} {p : Program} {l : Launch} {e : Env} {s : State} {m : MethodId} {args : Array Value} {below : List Frame} {meth : Method} {c : Code} (hC : Cx v p l e s m args meth c RL cL_isWell 13 (some .boolean)) {S : Mem} {xt0 : Int32}  {r : Int32} (hf : f_L_isWell_489 S xt0 = some r) : Mj v p l e (rmF 5 102) s m args below meth c 13 (MQ below (Qc v (some (.int r)) S) args s 0 0 (eG v)) 0 S 489 [] [.int xt0] := by
  obtain ⟨k5, hf⟩ := ck_of hf
  obtain rfl := Option.some.inj hf
  exact i_zret hC dL_isWell_489 (isb_z k5).1
set_option maxHeartbeats 4000000 in
set_option maxRecDepth 100000 in
theorem b_L_isWell_488 {v : EV} {p : Program} {l : Launch} {e : Env} {s : State} {m : MethodId} {args : Array Value} {below : List Frame} {meth : Method} {c : Code} (hC : Cx v p l e s m args meth c RL cL_isWell 13 (some .boolean)) {S : Mem}  {r : Int32} (hf : f_L_isWell_488 S = some r) : Mj v p l e (rmF 5 102) s m args below meth c 13 (MQ below (Qc v (some (.int r)) S) args s 0 0 (eG v)) 0 S 488 [] [] := by
  refine i_iconst hC dL_isWell_488 li_0 ?_
  exact Mj.to (b_L_isWell_489 hC  hf) trivial
set_option maxHeartbeats 4000000 in
set_option maxRecDepth 100000 in
theorem b_L_isWell_163 {v : EV} {p : Program} {l : Launch} {e : Env} {s : State} {m : MethodId} {args : Array Value} {below : List Frame} {meth : Method} {c : Code} (hC : Cx v p l e s m args meth c RL cL_isWell 13 (some .boolean)) {S : Mem}  {r : Int32} (hf : f_L_isWell_163 S = some r) : Mj v p l e (rmF 5 102) s m args below meth c 13 (MQ below (Qc v (some (.int r)) S) args s 0 0 (eG v)) 0 S 163 [] [] := by
  refine i_iconst hC dL_isWell_163 li_0 ?_
  obtain rfl := Option.some.inj hf
  exact i_zret hC dL_isWell_164 (isb_z (x := (0 : Int32)) (by decide)).1
set_option maxHeartbeats 4000000 in
set_option maxRecDepth 100000 in
theorem b_L_isWell_413 {v : EV} {p : Program} {l : Launch} {e : Env} {s : State} {m : MethodId} {args : Array Value} {below : List Frame} {meth : Method} {c : Code} (hC : Cx v p l e s m args meth c RL cL_isWell 13 (some .boolean)) {S : Mem} {x1 : Int32} {x2 : Int32} {x3 : Int32} {x4 : Int32} {x6 : Int32} {xt0 : Int32}  {r : Int32} {ih16 : (Int32 × Int32 × Int32 × Int32 × Int32 × Int32) → Option (Int32)} (hih16 : ∀ s9 : (Int32 × Int32 × Int32 × Int32 × Int32 × Int32), ih16 s9 = some r → Mj v p l e (rmF 5 102) s m args below meth c 13 (MQ below (Qc v (some (.int r)) S) args s 0 0 (eG v)) 0 S 16 [(0, .ref (eA v (198))), (1, .int (s9.1)), (2, .int (s9.2.1)), (3, .int (s9.2.2.1)), (4, .int (s9.2.2.2.1)), (5, .int (s9.2.2.2.2.1)), (6, .int (s9.2.2.2.2.2))] []) (hf : f_L_isWell_413 ih16 S x1 x2 x3 x4 x6 xt0 = some r) : Mj v p l e (rmF 5 102) s m args below meth c 13 (MQ below (Qc v (some (.int r)) S) args s 0 0 (eG v)) 0 S 413 [(0, .ref (eA v (198))), (1, .int x1), (2, .int x2), (3, .int x3), (4, .int x4), (6, .int x6)] [.int xt0] := by
  refine i_istore hC dL_isWell_413 (by decide) ?_
  refine i_iinc hC dL_isWell_415 rfl li_1 (by decide) ?_
  refine i_goto hC (tgt := 16) dL_isWell_418 (by decide) ?_
  exact Mj.to (hih16 _ hf) ⟨rfl, rfl, rfl, rfl, rfl, rfl, rfl, trivial⟩
set_option maxHeartbeats 4000000 in
set_option maxRecDepth 100000 in
theorem b_L_isWell_411 {v : EV} {p : Program} {l : Launch} {e : Env} {s : State} {m : MethodId} {args : Array Value} {below : List Frame} {meth : Method} {c : Code} (hC : Cx v p l e s m args meth c RL cL_isWell 13 (some .boolean)) {S : Mem} {x1 : Int32} {x2 : Int32} {x3 : Int32} {x4 : Int32} {x5 : Int32} {x6 : Int32}  {r : Int32} {ih16 : (Int32 × Int32 × Int32 × Int32 × Int32 × Int32) → Option (Int32)} (hih16 : ∀ s9 : (Int32 × Int32 × Int32 × Int32 × Int32 × Int32), ih16 s9 = some r → Mj v p l e (rmF 5 102) s m args below meth c 13 (MQ below (Qc v (some (.int r)) S) args s 0 0 (eG v)) 0 S 16 [(0, .ref (eA v (198))), (1, .int (s9.1)), (2, .int (s9.2.1)), (3, .int (s9.2.2.1)), (4, .int (s9.2.2.2.1)), (5, .int (s9.2.2.2.2.1)), (6, .int (s9.2.2.2.2.2))] []) (hf : f_L_isWell_411 ih16 S x1 x2 x3 x4 x5 x6 = some r) : Mj v p l e (rmF 5 102) s m args below meth c 13 (MQ below (Qc v (some (.int r)) S) args s 0 0 (eG v)) 0 S 411 [(0, .ref (eA v (198))), (1, .int x1), (2, .int x2), (3, .int x3), (4, .int x4), (5, .int x5), (6, .int x6)] [] := by
  refine i_iload hC dL_isWell_411 rfl ?_
  exact Mj.to (b_L_isWell_413 hC hih16 hf) ⟨rfl, rfl, rfl, rfl, rfl, rfl, trivial⟩
set_option maxHeartbeats 4000000 in
set_option maxRecDepth 100000 in
theorem b_L_isWell_406 {v : EV} {p : Program} {l : Launch} {e : Env} {s : State} {m : MethodId} {args : Array Value} {below : List Frame} {meth : Method} {c : Code} (hC : Cx v p l e s m args meth c RL cL_isWell 13 (some .boolean)) {S : Mem} {x1 : Int32} {x2 : Int32} {x3 : Int32} {x4 : Int32} {x6 : Int32}  {r : Int32} {ih16 : (Int32 × Int32 × Int32 × Int32 × Int32 × Int32) → Option (Int32)} (hih16 : ∀ s9 : (Int32 × Int32 × Int32 × Int32 × Int32 × Int32), ih16 s9 = some r → Mj v p l e (rmF 5 102) s m args below meth c 13 (MQ below (Qc v (some (.int r)) S) args s 0 0 (eG v)) 0 S 16 [(0, .ref (eA v (198))), (1, .int (s9.1)), (2, .int (s9.2.1)), (3, .int (s9.2.2.1)), (4, .int (s9.2.2.2.1)), (5, .int (s9.2.2.2.2.1)), (6, .int (s9.2.2.2.2.2))] []) (hf : f_L_isWell_406 ih16 S x1 x2 x3 x4 x6 = some r) : Mj v p l e (rmF 5 102) s m args below meth c 13 (MQ below (Qc v (some (.int r)) S) args s 0 0 (eG v)) 0 S 406 [(0, .ref (eA v (198))), (1, .int x1), (2, .int x2), (3, .int x3), (4, .int x4), (6, .int x6)] [] := by
  refine i_iload hC dL_isWell_406 rfl ?_
  refine i_goto hC (tgt := 413) dL_isWell_408 (by decide) ?_
  exact Mj.to (b_L_isWell_413 hC hih16 hf) ⟨rfl, rfl, rfl, rfl, rfl, rfl, trivial⟩
set_option maxHeartbeats 4000000 in
set_option maxRecDepth 100000 in
theorem b_L_isWell_360 {v : EV} {p : Program} {l : Launch} {e : Env} {s : State} {m : MethodId} {args : Array Value} {below : List Frame} {meth : Method} {c : Code} (hC : Cx v p l e s m args meth c RL cL_isWell 13 (some .boolean)) {S : Mem}  {r : Int32} (hf : f_L_isWell_360 S = some r) : Mj v p l e (rmF 5 102) s m args below meth c 13 (MQ below (Qc v (some (.int r)) S) args s 0 0 (eG v)) 0 S 360 [] [] := by
  refine i_iconst hC dL_isWell_360 li_0 ?_
  obtain rfl := Option.some.inj hf
  exact i_zret hC dL_isWell_361 (isb_z (x := (0 : Int32)) (by decide)).1
set_option maxHeartbeats 4000000 in
set_option maxRecDepth 100000 in
theorem b_L_isWell_295 {v : EV} {p : Program} {l : Launch} {e : Env} {s : State} {m : MethodId} {args : Array Value} {below : List Frame} {meth : Method} {c : Code} (hC : Cx v p l e s m args meth c RL cL_isWell 13 (some .boolean)) {S : Mem} {x1 : Int32} {x2 : Int32} {x3 : Int32} {x4 : Int32} {x5 : Int32} {x6 : Int32} {x7 : Int32} {x8 : Int32} {x9 : Int32} {x11 : Int32} {xt0 : Int32}  {r : Int32} {ih16 : (Int32 × Int32 × Int32 × Int32 × Int32 × Int32) → Option (Int32)} (hih16 : ∀ s9 : (Int32 × Int32 × Int32 × Int32 × Int32 × Int32), ih16 s9 = some r → Mj v p l e (rmF 5 102) s m args below meth c 13 (MQ below (Qc v (some (.int r)) S) args s 0 0 (eG v)) 0 S 16 [(0, .ref (eA v (198))), (1, .int (s9.1)), (2, .int (s9.2.1)), (3, .int (s9.2.2.1)), (4, .int (s9.2.2.2.1)), (5, .int (s9.2.2.2.2.1)), (6, .int (s9.2.2.2.2.2))] []) {ih223 : (Int32 × Int32) → Option (Int32)} (hih223 : ∀ s9 : (Int32 × Int32), ih223 s9 = some r → Mj v p l e (rmF 5 102) s m args below meth c 13 (MQ below (Qc v (some (.int r)) S) args s 0 0 (eG v)) 0 S 223 [(0, .ref (eA v (198))), (1, .int x1), (2, .int x2), (3, .int x3), (4, .int x4), (5, .int x5), (6, .int x6), (7, .int x7), (8, .int x8), (9, .int (s9.1)), (11, .int (s9.2))] []) (hf : f_L_isWell_295 ih16 ih223 S x1 x2 x3 x4 x5 x6 x7 x8 x9 x11 xt0 = some r) : Mj v p l e (rmF 5 102) s m args below meth c 13 (MQ below (Qc v (some (.int r)) S) args s 0 0 (eG v)) 0 S 295 [(0, .ref (eA v (198))), (1, .int x1), (2, .int x2), (3, .int x3), (4, .int x4), (5, .int x5), (6, .int x6), (7, .int x7), (8, .int x8), (9, .int x9), (11, .int x11)] [.int xt0] := by
  refine i_istore hC dL_isWell_295 (by decide) ?_
  refine i_iload hC dL_isWell_297 rfl ?_
  refine i_if_ne hC (tgt := 360) dL_isWell_299 (by decide) (fun c45 => ?_) (fun c45 => ?_)
  · replace hf := (if_neg c45).symm.trans hf
    exact Mj.to (b_L_isWell_360 hC  hf) trivial
  · replace hf := (if_pos c45).symm.trans hf
    refine i_aload_n hC dL_isWell_302 rfl ?_
    refine i_iload hC dL_isWell_303 rfl ?_
    refine i_iload hC dL_isWell_305 rfl ?_
    obtain ⟨r46, hc46, hf⟩ := bd1_of hf
    refine i_callVi hC mv_L_115 (c_X8_reaches hC.2.2.2.2.2.2.2.1 hc46) (pln rfl) (lay_p198) rfl rfl rfl rfl ⟨Nat.le_of_ble_eq_true rfl, Nat.le_of_ble_eq_true rfl⟩ (Nat.le_of_ble_eq_true rfl) dL_isWell_307 ?_
    refine i_aload_n hC dL_isWell_310 rfl ?_
    refine i_iload hC dL_isWell_311 rfl ?_
    refine i_iload hC dL_isWell_313 rfl ?_
    obtain ⟨r47, hc47, hf⟩ := bd1_of hf
    refine i_callVi hC mv_L_115 (c_X8_reaches hC.2.2.2.2.2.2.2.1 hc47) (pln rfl) (lay_p198) rfl rfl rfl rfl ⟨Nat.le_of_ble_eq_true rfl, Nat.le_of_ble_eq_true rfl⟩ (Nat.le_of_ble_eq_true rfl) dL_isWell_315 ?_
    refine i_icmp_ne hC (tgt := 360) dL_isWell_318 (by decide) (fun c48 => ?_) (fun c48 => ?_)
    · replace hf := (if_neg c48).symm.trans hf
      exact Mj.to (b_L_isWell_360 hC  hf) trivial
    · replace hf := (if_pos c48).symm.trans hf
      refine i_aload_n hC dL_isWell_321 rfl ?_
      refine i_iload hC dL_isWell_322 rfl ?_
      refine i_iload hC dL_isWell_324 rfl ?_
      obtain ⟨r49, hc49, hf⟩ := bd1_of hf
      refine i_callVi hC mv_L_119 (c_X8_longer hC.2.2.2.2.2.2.2.1 hc49) (pln rfl) (lay_p198) rfl rfl rfl rfl ⟨Nat.le_of_ble_eq_true rfl, Nat.le_of_ble_eq_true rfl⟩ (Nat.le_of_ble_eq_true rfl) dL_isWell_326 ?_
      refine i_aload_n hC dL_isWell_329 rfl ?_
      refine i_iload hC dL_isWell_330 rfl ?_
      refine i_iload hC dL_isWell_332 rfl ?_
      obtain ⟨r50, hc50, hf⟩ := bd1_of hf
      refine i_callVi hC mv_L_119 (c_X8_longer hC.2.2.2.2.2.2.2.1 hc50) (pln rfl) (lay_p198) rfl rfl rfl rfl ⟨Nat.le_of_ble_eq_true rfl, Nat.le_of_ble_eq_true rfl⟩ (Nat.le_of_ble_eq_true rfl) dL_isWell_334 ?_
      refine i_ineg hC dL_isWell_337 ?_
      refine i_icmp_ne hC (tgt := 360) dL_isWell_338 (by decide) (fun c51 => ?_) (fun c51 => ?_)
      · replace hf := (if_neg c51).symm.trans hf
        exact Mj.to (b_L_isWell_360 hC  hf) trivial
      · replace hf := (if_pos c51).symm.trans hf
        refine i_aload_n hC dL_isWell_341 rfl ?_
        refine i_iload hC dL_isWell_342 rfl ?_
        refine i_iload hC dL_isWell_344 rfl ?_
        obtain ⟨r52, hc52, hf⟩ := bd1_of hf
        refine i_callVi hC mv_L_122 (c_X8_alike hC.2.2.2.2.2.2.2.1 hc52) (pln rfl) (lay_p198) rfl rfl rfl rfl ⟨Nat.le_of_ble_eq_true rfl, Nat.le_of_ble_eq_true rfl⟩ (Nat.le_of_ble_eq_true rfl) dL_isWell_346 ?_
        refine i_aload_n hC dL_isWell_349 rfl ?_
        refine i_iload hC dL_isWell_350 rfl ?_
        refine i_iload hC dL_isWell_352 rfl ?_
        obtain ⟨r53, hc53, hf⟩ := bd1_of hf
        refine i_callVi hC mv_L_122 (c_X8_alike hC.2.2.2.2.2.2.2.1 hc53) (pln rfl) (lay_p198) rfl rfl rfl rfl ⟨Nat.le_of_ble_eq_true rfl, Nat.le_of_ble_eq_true rfl⟩ (Nat.le_of_ble_eq_true rfl) dL_isWell_354 ?_
        refine i_icmp_eq hC (tgt := 362) dL_isWell_357 (by decide) (fun c54 => ?_) (fun c54 => ?_)
        · replace hf := (if_pos c54).symm.trans hf
          refine i_iinc hC dL_isWell_362 rfl li_1 (by decide) ?_
          refine i_goto hC (tgt := 223) dL_isWell_365 (by decide) ?_
          exact Mj.to (hih223 _ hf) ⟨rfl, rfl, rfl, rfl, rfl, rfl, rfl, rfl, rfl, rfl, rfl, trivial⟩
        · replace hf := (if_neg c54).symm.trans hf
          exact Mj.to (b_L_isWell_360 hC  hf) trivial
set_option maxHeartbeats 4000000 in
set_option maxRecDepth 100000 in
theorem b_L_isWell_294 {v : EV} {p : Program} {l : Launch} {e : Env} {s : State} {m : MethodId} {args : Array Value} {below : List Frame} {meth : Method} {c : Code} (hC : Cx v p l e s m args meth c RL cL_isWell 13 (some .boolean)) {S : Mem} {x1 : Int32} {x2 : Int32} {x3 : Int32} {x4 : Int32} {x5 : Int32} {x6 : Int32} {x7 : Int32} {x8 : Int32} {x9 : Int32} {x11 : Int32}  {r : Int32} {ih16 : (Int32 × Int32 × Int32 × Int32 × Int32 × Int32) → Option (Int32)} (hih16 : ∀ s9 : (Int32 × Int32 × Int32 × Int32 × Int32 × Int32), ih16 s9 = some r → Mj v p l e (rmF 5 102) s m args below meth c 13 (MQ below (Qc v (some (.int r)) S) args s 0 0 (eG v)) 0 S 16 [(0, .ref (eA v (198))), (1, .int (s9.1)), (2, .int (s9.2.1)), (3, .int (s9.2.2.1)), (4, .int (s9.2.2.2.1)), (5, .int (s9.2.2.2.2.1)), (6, .int (s9.2.2.2.2.2))] []) {ih223 : (Int32 × Int32) → Option (Int32)} (hih223 : ∀ s9 : (Int32 × Int32), ih223 s9 = some r → Mj v p l e (rmF 5 102) s m args below meth c 13 (MQ below (Qc v (some (.int r)) S) args s 0 0 (eG v)) 0 S 223 [(0, .ref (eA v (198))), (1, .int x1), (2, .int x2), (3, .int x3), (4, .int x4), (5, .int x5), (6, .int x6), (7, .int x7), (8, .int x8), (9, .int (s9.1)), (11, .int (s9.2))] []) (hf : f_L_isWell_294 ih16 ih223 S x1 x2 x3 x4 x5 x6 x7 x8 x9 x11 = some r) : Mj v p l e (rmF 5 102) s m args below meth c 13 (MQ below (Qc v (some (.int r)) S) args s 0 0 (eG v)) 0 S 294 [(0, .ref (eA v (198))), (1, .int x1), (2, .int x2), (3, .int x3), (4, .int x4), (5, .int x5), (6, .int x6), (7, .int x7), (8, .int x8), (9, .int x9), (11, .int x11)] [] := by
  refine i_iconst hC dL_isWell_294 li_0 ?_
  exact Mj.to (b_L_isWell_295 hC hih16 hih223 hf) ⟨rfl, rfl, rfl, rfl, rfl, rfl, rfl, rfl, rfl, rfl, rfl, trivial⟩
set_option maxHeartbeats 4000000 in
set_option maxRecDepth 100000 in
theorem b_L_isWell_251 {v : EV} {p : Program} {l : Launch} {e : Env} {s : State} {m : MethodId} {args : Array Value} {below : List Frame} {meth : Method} {c : Code} (hC : Cx v p l e s m args meth c RL cL_isWell 13 (some .boolean)) {S : Mem} {x1 : Int32} {x2 : Int32} {x3 : Int32} {x4 : Int32} {x5 : Int32} {x6 : Int32} {x7 : Int32} {x8 : Int32} {x11 : Int32} {xt0 : Int32} {xt1 : Int32}  {r : Int32} {ih16 : (Int32 × Int32 × Int32 × Int32 × Int32 × Int32) → Option (Int32)} (hih16 : ∀ s9 : (Int32 × Int32 × Int32 × Int32 × Int32 × Int32), ih16 s9 = some r → Mj v p l e (rmF 5 102) s m args below meth c 13 (MQ below (Qc v (some (.int r)) S) args s 0 0 (eG v)) 0 S 16 [(0, .ref (eA v (198))), (1, .int (s9.1)), (2, .int (s9.2.1)), (3, .int (s9.2.2.1)), (4, .int (s9.2.2.2.1)), (5, .int (s9.2.2.2.2.1)), (6, .int (s9.2.2.2.2.2))] []) {ih223 : (Int32 × Int32) → Option (Int32)} (hih223 : ∀ s9 : (Int32 × Int32), ih223 s9 = some r → Mj v p l e (rmF 5 102) s m args below meth c 13 (MQ below (Qc v (some (.int r)) S) args s 0 0 (eG v)) 0 S 223 [(0, .ref (eA v (198))), (1, .int x1), (2, .int x2), (3, .int x3), (4, .int x4), (5, .int x5), (6, .int x6), (7, .int x7), (8, .int x8), (9, .int (s9.1)), (11, .int (s9.2))] []) (hf : f_L_isWell_251 ih16 ih223 S x1 x2 x3 x4 x5 x6 x7 x8 x11 xt0 xt1 = some r) : Mj v p l e (rmF 5 102) s m args below meth c 13 (MQ below (Qc v (some (.int r)) S) args s 0 0 (eG v)) 0 S 251 [(0, .ref (eA v (198))), (1, .int x1), (2, .int x2), (3, .int x3), (4, .int x4), (5, .int x5), (6, .int x6), (7, .int x7), (8, .int x8), (11, .int x11)] [.int xt0, .int xt1] := by
  refine i_iadd hC dL_isWell_251 ?_
  refine i_istore hC dL_isWell_252 (by decide) ?_
  refine i_iload hC dL_isWell_254 rfl ?_
  refine i_iload hC dL_isWell_256 rfl ?_
  refine i_icmp_eq hC (tgt := 294) dL_isWell_258 (by decide) (fun c44 => ?_) (fun c44 => ?_)
  · replace hf := (if_pos c44).symm.trans hf
    exact Mj.to (b_L_isWell_294 hC hih16 hih223 hf) ⟨rfl, rfl, rfl, rfl, rfl, rfl, rfl, rfl, rfl, rfl, rfl, trivial⟩
  · replace hf := (if_neg c44).symm.trans hf
    refine i_iload hC dL_isWell_261 rfl ?_
    refine i_iconst hC dL_isWell_263 li_2 ?_
    refine i_icmp_ne hC (tgt := 294) dL_isWell_264 (by decide) (fun c55 => ?_) (fun c55 => ?_)
    · replace hf := (if_neg c55).symm.trans hf
      exact Mj.to (b_L_isWell_294 hC hih16 hih223 hf) ⟨rfl, rfl, rfl, rfl, rfl, rfl, rfl, rfl, rfl, rfl, rfl, trivial⟩
    · replace hf := (if_pos c55).symm.trans hf
      refine i_aload_n hC dL_isWell_267 rfl ?_
      refine i_iload hC dL_isWell_268 rfl ?_
      refine i_iconst hC dL_isWell_270 li_0 ?_
      obtain ⟨r56, hc56, hf⟩ := bd1_of hf
      refine i_callVi hC mv_L_103 (c_X8_driverOf hC.2.2.2.2.2.2.2.1 hc56) (pln rfl) (lay_p198) rfl rfl rfl rfl ⟨Nat.le_of_ble_eq_true rfl, Nat.le_of_ble_eq_true rfl⟩ (Nat.le_of_ble_eq_true rfl) dL_isWell_271 ?_
      refine i_iconst hC dL_isWell_274 li_2 ?_
      refine i_icmp_ne hC (tgt := 294) dL_isWell_275 (by decide) (fun c57 => ?_) (fun c57 => ?_)
      · replace hf := (if_neg c57).symm.trans hf
        exact Mj.to (b_L_isWell_294 hC hih16 hih223 hf) ⟨rfl, rfl, rfl, rfl, rfl, rfl, rfl, rfl, rfl, rfl, rfl, trivial⟩
      · replace hf := (if_pos c57).symm.trans hf
        refine i_aload_n hC dL_isWell_278 rfl ?_
        refine i_iload hC dL_isWell_279 rfl ?_
        refine i_iconst hC dL_isWell_281 li_1 ?_
        obtain ⟨r58, hc58, hf⟩ := bd1_of hf
        refine i_callVi hC mv_L_103 (c_X8_driverOf hC.2.2.2.2.2.2.2.1 hc58) (pln rfl) (lay_p198) rfl rfl rfl rfl ⟨Nat.le_of_ble_eq_true rfl, Nat.le_of_ble_eq_true rfl⟩ (Nat.le_of_ble_eq_true rfl) dL_isWell_282 ?_
        refine i_iload hC dL_isWell_285 rfl ?_
        refine i_icmp_ne hC (tgt := 294) dL_isWell_287 (by decide) (fun c59 => ?_) (fun c59 => ?_)
        · replace hf := (if_neg c59).symm.trans hf
          exact Mj.to (b_L_isWell_294 hC hih16 hih223 hf) ⟨rfl, rfl, rfl, rfl, rfl, rfl, rfl, rfl, rfl, rfl, rfl, trivial⟩
        · replace hf := (if_pos c59).symm.trans hf
          refine i_iconst hC dL_isWell_290 li_1 ?_
          refine i_goto hC (tgt := 295) dL_isWell_291 (by decide) ?_
          exact Mj.to (b_L_isWell_295 hC hih16 hih223 hf) ⟨rfl, rfl, rfl, rfl, rfl, rfl, rfl, rfl, rfl, rfl, rfl, trivial⟩
set_option maxHeartbeats 4000000 in
set_option maxRecDepth 100000 in
theorem b_L_isWell_223_b {v : EV} {p : Program} {l : Launch} {e : Env} {s : State} {m : MethodId} {args : Array Value} {below : List Frame} {meth : Method} {c : Code} (hC : Cx v p l e s m args meth c RL cL_isWell 13 (some .boolean)) {S : Mem} {x1 : Int32} {x2 : Int32} {x3 : Int32} {x4 : Int32} {x5 : Int32} {x6 : Int32} {x7 : Int32} {x8 : Int32} {x9 : Int32} {x11 : Int32}  {r : Int32} {ih16 : (Int32 × Int32 × Int32 × Int32 × Int32 × Int32) → Option (Int32)} (hih16 : ∀ s9 : (Int32 × Int32 × Int32 × Int32 × Int32 × Int32), ih16 s9 = some r → Mj v p l e (rmF 5 102) s m args below meth c 13 (MQ below (Qc v (some (.int r)) S) args s 0 0 (eG v)) 0 S 16 [(0, .ref (eA v (198))), (1, .int (s9.1)), (2, .int (s9.2.1)), (3, .int (s9.2.2.1)), (4, .int (s9.2.2.2.1)), (5, .int (s9.2.2.2.2.1)), (6, .int (s9.2.2.2.2.2))] []) {ih223 : (Int32 × Int32) → Option (Int32)} (hih223 : ∀ s9 : (Int32 × Int32), ih223 s9 = some r → Mj v p l e (rmF 5 102) s m args below meth c 13 (MQ below (Qc v (some (.int r)) S) args s 0 0 (eG v)) 0 S 223 [(0, .ref (eA v (198))), (1, .int x1), (2, .int x2), (3, .int x3), (4, .int x4), (5, .int x5), (6, .int x6), (7, .int x7), (8, .int x8), (9, .int (s9.1)), (11, .int (s9.2))] []) (hf : f_L_isWell_223_b ih16 ih223 S x1 x2 x3 x4 x5 x6 x7 x8 x9 x11 = some r) : Mj v p l e (rmF 5 102) s m args below meth c 13 (MQ below (Qc v (some (.int r)) S) args s 0 0 (eG v)) 0 S 223 [(0, .ref (eA v (198))), (1, .int x1), (2, .int x2), (3, .int x3), (4, .int x4), (5, .int x5), (6, .int x6), (7, .int x7), (8, .int x8), (9, .int x9), (11, .int x11)] [] := by
  refine i_iload hC dL_isWell_223 rfl ?_
  refine i_aload_n hC dL_isWell_225 rfl ?_
  refine i_iconst hC dL_isWell_226 li_1 ?_
  obtain ⟨r34, hc34, hf⟩ := bd1_of hf
  refine i_callVi hC mv_L_47 (c_X8_account hC.2.2.2.2.2.2.2.1 hc34) (pln rfl) (lay_p198) rfl rfl rfl rfl ⟨Nat.le_of_ble_eq_true rfl, Nat.le_of_ble_eq_true rfl⟩ (Nat.le_of_ble_eq_true rfl) dL_isWell_227 ?_
  refine i_icmp_ge hC (tgt := 368) dL_isWell_230 (by decide) (fun c35 => ?_) (fun c35 => ?_)
  · replace hf := (if_pos c35).symm.trans hf
    refine i_iload hC dL_isWell_368 rfl ?_
    refine i_aload_n hC dL_isWell_370 rfl ?_
    refine i_iload hC dL_isWell_371 rfl ?_
    refine i_bipush hC dL_isWell_373 lb_8 ?_
    obtain ⟨r36, hc36, hf⟩ := bd1_of hf
    refine i_callVi hC mv_L_103 (c_X8_driverOf hC.2.2.2.2.2.2.2.1 hc36) (pln rfl) (lay_p198) rfl rfl rfl rfl ⟨Nat.le_of_ble_eq_true rfl, Nat.le_of_ble_eq_true rfl⟩ (Nat.le_of_ble_eq_true rfl) dL_isWell_375 ?_
    refine i_icmp_eq hC (tgt := 383) dL_isWell_378 (by decide) (fun c37 => ?_) (fun c37 => ?_)
    · replace hf := (if_pos c37).symm.trans hf
      refine i_iload hC dL_isWell_383 rfl ?_
      refine i_iconst hC dL_isWell_385 li_2 ?_
      refine i_icmp_ne hC (tgt := 411) dL_isWell_386 (by decide) (fun c38 => ?_) (fun c38 => ?_)
      · replace hf := (if_neg c38).symm.trans hf
        exact Mj.to (b_L_isWell_411 hC hih16 hf) ⟨rfl, rfl, rfl, rfl, rfl, rfl, rfl, trivial⟩
      · replace hf := (if_pos c38).symm.trans hf
        refine i_iload hC dL_isWell_389 rfl ?_
        refine i_if_lt hC (tgt := 406) dL_isWell_391 (by decide) (fun c39 => ?_) (fun c39 => ?_)
        · replace hf := (if_pos c39).symm.trans hf
          exact Mj.to (b_L_isWell_406 hC hih16 hf) ⟨rfl, rfl, rfl, rfl, rfl, rfl, trivial⟩
        · replace hf := (if_neg c39).symm.trans hf
          refine i_iload hC dL_isWell_394 rfl ?_
          refine i_aload_n hC dL_isWell_396 rfl ?_
          refine i_iload hC dL_isWell_397 rfl ?_
          refine i_iconst hC dL_isWell_399 li_1 ?_
          obtain ⟨r40, hc40, hf⟩ := bd1_of hf
          refine i_callVi hC mv_L_103 (c_X8_driverOf hC.2.2.2.2.2.2.2.1 hc40) (pln rfl) (lay_p198) rfl rfl rfl rfl ⟨Nat.le_of_ble_eq_true rfl, Nat.le_of_ble_eq_true rfl⟩ (Nat.le_of_ble_eq_true rfl) dL_isWell_400 ?_
          refine i_icmp_le hC (tgt := 411) dL_isWell_403 (by decide) (fun c41 => ?_) (fun c41 => ?_)
          · replace hf := (if_pos c41).symm.trans hf
            exact Mj.to (b_L_isWell_411 hC hih16 hf) ⟨rfl, rfl, rfl, rfl, rfl, rfl, rfl, trivial⟩
          · replace hf := (if_neg c41).symm.trans hf
            exact Mj.to (b_L_isWell_406 hC hih16 hf) ⟨rfl, rfl, rfl, rfl, rfl, rfl, trivial⟩
    · replace hf := (if_neg c37).symm.trans hf
      refine i_iconst hC dL_isWell_381 li_0 ?_
      obtain rfl := Option.some.inj hf
      exact i_zret hC dL_isWell_382 (isb_z (x := (0 : Int32)) (by decide)).1
  · replace hf := (if_neg c35).symm.trans hf
    refine i_iload hC dL_isWell_233 rfl ?_
    refine i_aload_n hC dL_isWell_235 rfl ?_
    refine i_iload hC dL_isWell_236 rfl ?_
    refine i_iload hC dL_isWell_238 rfl ?_
    obtain ⟨r42, hc42, hf⟩ := bd1_of hf
    refine i_callVi hC mv_L_115 (c_X8_reaches hC.2.2.2.2.2.2.2.1 hc42) (pln rfl) (lay_p198) rfl rfl rfl rfl ⟨Nat.le_of_ble_eq_true rfl, Nat.le_of_ble_eq_true rfl⟩ (Nat.le_of_ble_eq_true rfl) dL_isWell_240 ?_
    refine i_if_eq hC (tgt := 250) dL_isWell_243 (by decide) (fun c43 => ?_) (fun c43 => ?_)
    · replace hf := (if_pos c43).symm.trans hf
      refine i_iconst hC dL_isWell_250 li_0 ?_
      exact Mj.to (b_L_isWell_251 hC hih16 hih223 hf) ⟨rfl, rfl, rfl, rfl, rfl, rfl, rfl, rfl, rfl, rfl, trivial⟩
    · replace hf := (if_neg c43).symm.trans hf
      refine i_iconst hC dL_isWell_246 li_1 ?_
      refine i_goto hC (tgt := 251) dL_isWell_247 (by decide) ?_
      exact Mj.to (b_L_isWell_251 hC hih16 hih223 hf) ⟨rfl, rfl, rfl, rfl, rfl, rfl, rfl, rfl, rfl, rfl, trivial⟩
theorem b_L_isWell_223 {v : EV} {p : Program} {l : Launch} {e : Env} {s : State} {m : MethodId} {args : Array Value} {below : List Frame} {meth : Method} {c : Code} (hC : Cx v p l e s m args meth c RL cL_isWell 13 (some .boolean)) {S : Mem} {x1 : Int32} {x2 : Int32} {x3 : Int32} {x4 : Int32} {x5 : Int32} {x6 : Int32} {x7 : Int32} {x8 : Int32} {x9 : Int32} {x11 : Int32}  {r : Int32} {ih16 : (Int32 × Int32 × Int32 × Int32 × Int32 × Int32) → Option (Int32)} (hih16 : ∀ s9 : (Int32 × Int32 × Int32 × Int32 × Int32 × Int32), ih16 s9 = some r → Mj v p l e (rmF 5 102) s m args below meth c 13 (MQ below (Qc v (some (.int r)) S) args s 0 0 (eG v)) 0 S 16 [(0, .ref (eA v (198))), (1, .int (s9.1)), (2, .int (s9.2.1)), (3, .int (s9.2.2.1)), (4, .int (s9.2.2.2.1)), (5, .int (s9.2.2.2.2.1)), (6, .int (s9.2.2.2.2.2))] []) (hf : f_L_isWell_223 ih16 S x1 x2 x3 x4 x5 x6 x7 x8 x9 x11 = some r) : Mj v p l e (rmF 5 102) s m args below meth c 13 (MQ below (Qc v (some (.int r)) S) args s 0 0 (eG v)) 0 S 223 [(0, .ref (eA v (198))), (1, .int x1), (2, .int x2), (3, .int x3), (4, .int x4), (5, .int x5), (6, .int x6), (7, .int x7), (8, .int x8), (9, .int x9), (11, .int x11)] [] :=
  lp_ind (P := fun s9 : (Int32 × Int32) => Mj v p l e (rmF 5 102) s m args below meth c 13 (MQ below (Qc v (some (.int r)) S) args s 0 0 (eG v)) 0 S 223 [(0, .ref (eA v (198))), (1, .int x1), (2, .int x2), (3, .int x3), (4, .int x4), (5, .int x5), (6, .int x6), (7, .int x7), (8, .int x8), (9, .int (s9.1)), (11, .int (s9.2))] []) (fun ih s9 hih hf => b_L_isWell_223_b hC  hih16 hih hf) _ _ hf
set_option maxHeartbeats 4000000 in
set_option maxRecDepth 100000 in
theorem b_L_isWell_208 {v : EV} {p : Program} {l : Launch} {e : Env} {s : State} {m : MethodId} {args : Array Value} {below : List Frame} {meth : Method} {c : Code} (hC : Cx v p l e s m args meth c RL cL_isWell 13 (some .boolean)) {S : Mem}  {r : Int32} (hf : f_L_isWell_208 S = some r) : Mj v p l e (rmF 5 102) s m args below meth c 13 (MQ below (Qc v (some (.int r)) S) args s 0 0 (eG v)) 0 S 208 [] [] := by
  refine i_iconst hC dL_isWell_208 li_0 ?_
  obtain rfl := Option.some.inj hf
  exact i_zret hC dL_isWell_209 (isb_z (x := (0 : Int32)) (by decide)).1
set_option maxHeartbeats 4000000 in
set_option maxRecDepth 100000 in
theorem b_L_isWell_171_b {v : EV} {p : Program} {l : Launch} {e : Env} {s : State} {m : MethodId} {args : Array Value} {below : List Frame} {meth : Method} {c : Code} (hC : Cx v p l e s m args meth c RL cL_isWell 13 (some .boolean)) {S : Mem} {x1 : Int32} {x2 : Int32} {x3 : Int32} {x4 : Int32} {x5 : Int32} {x6 : Int32} {x7 : Int32} {x8 : Int32} {x9 : Int32} {x10 : Int32} {x11 : Int32}  {r : Int32} {ih16 : (Int32 × Int32 × Int32 × Int32 × Int32 × Int32) → Option (Int32)} (hih16 : ∀ s9 : (Int32 × Int32 × Int32 × Int32 × Int32 × Int32), ih16 s9 = some r → Mj v p l e (rmF 5 102) s m args below meth c 13 (MQ below (Qc v (some (.int r)) S) args s 0 0 (eG v)) 0 S 16 [(0, .ref (eA v (198))), (1, .int (s9.1)), (2, .int (s9.2.1)), (3, .int (s9.2.2.1)), (4, .int (s9.2.2.2.1)), (5, .int (s9.2.2.2.2.1)), (6, .int (s9.2.2.2.2.2))] []) {ih171 : (Int32 × Int32) → Option (Int32)} (hih171 : ∀ s9 : (Int32 × Int32), ih171 s9 = some r → Mj v p l e (rmF 5 102) s m args below meth c 13 (MQ below (Qc v (some (.int r)) S) args s 0 0 (eG v)) 0 S 171 [(0, .ref (eA v (198))), (1, .int x1), (2, .int x2), (3, .int x3), (4, .int x4), (5, .int x5), (6, .int x6), (7, .int x7), (8, .int x8), (9, .int x9), (10, .int (s9.1)), (11, .int (s9.2))] []) (hf : f_L_isWell_171_b ih16 ih171 S x1 x2 x3 x4 x5 x6 x7 x8 x9 x10 x11 = some r) : Mj v p l e (rmF 5 102) s m args below meth c 13 (MQ below (Qc v (some (.int r)) S) args s 0 0 (eG v)) 0 S 171 [(0, .ref (eA v (198))), (1, .int x1), (2, .int x2), (3, .int x3), (4, .int x4), (5, .int x5), (6, .int x6), (7, .int x7), (8, .int x8), (9, .int x9), (10, .int x10), (11, .int x11)] [] := by
  refine i_iload hC dL_isWell_171 rfl ?_
  refine i_aload_n hC dL_isWell_173 rfl ?_
  refine i_iload hC dL_isWell_174 rfl ?_
  refine i_iconst hC dL_isWell_176 li_5 ?_
  obtain ⟨r32, hc32, hf⟩ := bd1_of hf
  refine i_callVi hC mv_L_103 (c_X8_driverOf hC.2.2.2.2.2.2.2.1 hc32) (pln rfl) (lay_p198) rfl rfl rfl rfl ⟨Nat.le_of_ble_eq_true rfl, Nat.le_of_ble_eq_true rfl⟩ (Nat.le_of_ble_eq_true rfl) dL_isWell_177 ?_
  refine i_icmp_gt hC (tgt := 220) dL_isWell_180 (by decide) (fun c33 => ?_) (fun c33 => ?_)
  · replace hf := (if_pos c33).symm.trans hf
    refine i_iconst hC dL_isWell_220 li_0 ?_
    refine i_istore hC dL_isWell_221 (by decide) ?_
    exact Mj.to (b_L_isWell_223 hC hih16 hf) ⟨rfl, rfl, rfl, rfl, rfl, rfl, rfl, rfl, rfl, rfl, rfl, trivial⟩
  · replace hf := (if_neg c33).symm.trans hf
    refine i_aload_n hC dL_isWell_183 rfl ?_
    refine i_iload hC dL_isWell_184 rfl ?_
    refine i_iload hC dL_isWell_186 rfl ?_
    refine i_iconst hC dL_isWell_188 li_0 ?_
    obtain ⟨r60, hc60, hf⟩ := bd1_of hf
    refine i_callVi hC mv_L_106 (c_X8_lineOf hC.2.2.2.2.2.2.2.1 hc60) (pln rfl) (lay_p198) rfl rfl rfl rfl ⟨Nat.le_of_ble_eq_true rfl, Nat.le_of_ble_eq_true rfl⟩ (Nat.le_of_ble_eq_true rfl) dL_isWell_189 ?_
    refine i_istore hC dL_isWell_192 (by decide) ?_
    refine i_iload hC dL_isWell_194 rfl ?_
    refine i_iload hC dL_isWell_196 rfl ?_
    refine i_icmp_lt hC (tgt := 208) dL_isWell_198 (by decide) (fun c61 => ?_) (fun c61 => ?_)
    · replace hf := (if_pos c61).symm.trans hf
      exact Mj.to (b_L_isWell_208 hC  hf) trivial
    · replace hf := (if_neg c61).symm.trans hf
      refine i_iload hC dL_isWell_201 rfl ?_
      refine i_iload hC dL_isWell_203 rfl ?_
      refine i_icmp_le hC (tgt := 210) dL_isWell_205 (by decide) (fun c62 => ?_) (fun c62 => ?_)
      · replace hf := (if_pos c62).symm.trans hf
        refine i_iload hC dL_isWell_210 rfl ?_
        refine i_istore hC dL_isWell_212 (by decide) ?_
        refine i_iinc hC dL_isWell_214 rfl li_1 (by decide) ?_
        refine i_goto hC (tgt := 171) dL_isWell_217 (by decide) ?_
        exact Mj.to (hih171 _ hf) ⟨rfl, rfl, rfl, rfl, rfl, rfl, rfl, rfl, rfl, rfl, rfl, rfl, trivial⟩
      · replace hf := (if_neg c62).symm.trans hf
        exact Mj.to (b_L_isWell_208 hC  hf) trivial
theorem b_L_isWell_171 {v : EV} {p : Program} {l : Launch} {e : Env} {s : State} {m : MethodId} {args : Array Value} {below : List Frame} {meth : Method} {c : Code} (hC : Cx v p l e s m args meth c RL cL_isWell 13 (some .boolean)) {S : Mem} {x1 : Int32} {x2 : Int32} {x3 : Int32} {x4 : Int32} {x5 : Int32} {x6 : Int32} {x7 : Int32} {x8 : Int32} {x9 : Int32} {x10 : Int32} {x11 : Int32}  {r : Int32} {ih16 : (Int32 × Int32 × Int32 × Int32 × Int32 × Int32) → Option (Int32)} (hih16 : ∀ s9 : (Int32 × Int32 × Int32 × Int32 × Int32 × Int32), ih16 s9 = some r → Mj v p l e (rmF 5 102) s m args below meth c 13 (MQ below (Qc v (some (.int r)) S) args s 0 0 (eG v)) 0 S 16 [(0, .ref (eA v (198))), (1, .int (s9.1)), (2, .int (s9.2.1)), (3, .int (s9.2.2.1)), (4, .int (s9.2.2.2.1)), (5, .int (s9.2.2.2.2.1)), (6, .int (s9.2.2.2.2.2))] []) (hf : f_L_isWell_171 ih16 S x1 x2 x3 x4 x5 x6 x7 x8 x9 x10 x11 = some r) : Mj v p l e (rmF 5 102) s m args below meth c 13 (MQ below (Qc v (some (.int r)) S) args s 0 0 (eG v)) 0 S 171 [(0, .ref (eA v (198))), (1, .int x1), (2, .int x2), (3, .int x3), (4, .int x4), (5, .int x5), (6, .int x6), (7, .int x7), (8, .int x8), (9, .int x9), (10, .int x10), (11, .int x11)] [] :=
  lp_ind (P := fun s9 : (Int32 × Int32) => Mj v p l e (rmF 5 102) s m args below meth c 13 (MQ below (Qc v (some (.int r)) S) args s 0 0 (eG v)) 0 S 171 [(0, .ref (eA v (198))), (1, .int x1), (2, .int x2), (3, .int x3), (4, .int x4), (5, .int x5), (6, .int x6), (7, .int x7), (8, .int x8), (9, .int x9), (10, .int (s9.1)), (11, .int (s9.2))] []) (fun ih s9 hih hf => b_L_isWell_171_b hC  hih16 hih hf) _ _ hf
set_option maxHeartbeats 4000000 in
set_option maxRecDepth 100000 in
theorem b_L_isWell_165 {v : EV} {p : Program} {l : Launch} {e : Env} {s : State} {m : MethodId} {args : Array Value} {below : List Frame} {meth : Method} {c : Code} (hC : Cx v p l e s m args meth c RL cL_isWell 13 (some .boolean)) {S : Mem} {x1 : Int32} {x2 : Int32} {x3 : Int32} {x4 : Int32} {x5 : Int32} {x6 : Int32} {x7 : Int32} {x8 : Int32} {x9 : Int32}  {r : Int32} {ih16 : (Int32 × Int32 × Int32 × Int32 × Int32 × Int32) → Option (Int32)} (hih16 : ∀ s9 : (Int32 × Int32 × Int32 × Int32 × Int32 × Int32), ih16 s9 = some r → Mj v p l e (rmF 5 102) s m args below meth c 13 (MQ below (Qc v (some (.int r)) S) args s 0 0 (eG v)) 0 S 16 [(0, .ref (eA v (198))), (1, .int (s9.1)), (2, .int (s9.2.1)), (3, .int (s9.2.2.1)), (4, .int (s9.2.2.2.1)), (5, .int (s9.2.2.2.2.1)), (6, .int (s9.2.2.2.2.2))] []) (hf : f_L_isWell_165 ih16 S x1 x2 x3 x4 x5 x6 x7 x8 x9 = some r) : Mj v p l e (rmF 5 102) s m args below meth c 13 (MQ below (Qc v (some (.int r)) S) args s 0 0 (eG v)) 0 S 165 [(0, .ref (eA v (198))), (1, .int x1), (2, .int x2), (3, .int x3), (4, .int x4), (5, .int x5), (6, .int x6), (7, .int x7), (8, .int x8), (9, .int x9)] [] := by
  refine i_iconst hC dL_isWell_165 li_0 ?_
  refine i_istore hC dL_isWell_166 (by decide) ?_
  refine i_iconst hC dL_isWell_168 li_1 ?_
  refine i_istore hC dL_isWell_169 (by decide) ?_
  exact Mj.to (b_L_isWell_171 hC hih16 hf) ⟨rfl, rfl, rfl, rfl, rfl, rfl, rfl, rfl, rfl, rfl, rfl, rfl, trivial⟩
set_option maxHeartbeats 4000000 in
set_option maxRecDepth 100000 in
theorem b_L_isWell_16_b {v : EV} {p : Program} {l : Launch} {e : Env} {s : State} {m : MethodId} {args : Array Value} {below : List Frame} {meth : Method} {c : Code} (hC : Cx v p l e s m args meth c RL cL_isWell 13 (some .boolean)) {S : Mem} {x1 : Int32} {x2 : Int32} {x3 : Int32} {x4 : Int32} {x5 : Int32} {x6 : Int32}  {r : Int32} {ih16 : (Int32 × Int32 × Int32 × Int32 × Int32 × Int32) → Option (Int32)} (hih16 : ∀ s9 : (Int32 × Int32 × Int32 × Int32 × Int32 × Int32), ih16 s9 = some r → Mj v p l e (rmF 5 102) s m args below meth c 13 (MQ below (Qc v (some (.int r)) S) args s 0 0 (eG v)) 0 S 16 [(0, .ref (eA v (198))), (1, .int (s9.1)), (2, .int (s9.2.1)), (3, .int (s9.2.2.1)), (4, .int (s9.2.2.2.1)), (5, .int (s9.2.2.2.2.1)), (6, .int (s9.2.2.2.2.2))] []) (hf : f_L_isWell_16_b ih16 S x1 x2 x3 x4 x5 x6 = some r) : Mj v p l e (rmF 5 102) s m args below meth c 13 (MQ below (Qc v (some (.int r)) S) args s 0 0 (eG v)) 0 S 16 [(0, .ref (eA v (198))), (1, .int x1), (2, .int x2), (3, .int x3), (4, .int x4), (5, .int x5), (6, .int x6)] [] := by
  refine i_iload hC dL_isWell_16 rfl ?_
  refine i_aload_n hC dL_isWell_18 rfl ?_
  refine i_iconst hC dL_isWell_19 li_1 ?_
  obtain ⟨r1, hc1, hf⟩ := bd1_of hf
  refine i_callVi hC mv_L_47 (c_X8_account hC.2.2.2.2.2.2.2.1 hc1) (pln rfl) (lay_p198) rfl rfl rfl rfl ⟨Nat.le_of_ble_eq_true rfl, Nat.le_of_ble_eq_true rfl⟩ (Nat.le_of_ble_eq_true rfl) dL_isWell_20 ?_
  refine i_icmp_ge hC (tgt := 421) dL_isWell_23 (by decide) (fun c2 => ?_) (fun c2 => ?_)
  · replace hf := (if_pos c2).symm.trans hf
    refine i_iload_n hC dL_isWell_421 rfl ?_
    refine i_aload_n hC dL_isWell_422 rfl ?_
    refine i_iconst hC dL_isWell_423 li_2 ?_
    obtain ⟨r3, hc3, hf⟩ := bd1_of hf
    refine i_callVi hC mv_L_47 (c_X8_account hC.2.2.2.2.2.2.2.1 hc3) (pln rfl) (lay_p198) rfl rfl rfl rfl ⟨Nat.le_of_ble_eq_true rfl, Nat.le_of_ble_eq_true rfl⟩ (Nat.le_of_ble_eq_true rfl) dL_isWell_424 ?_
    refine i_icmp_ne hC (tgt := 488) dL_isWell_427 (by decide) (fun c4 => ?_) (fun c4 => ?_)
    · replace hf := (if_neg c4).symm.trans hf
      exact Mj.to (b_L_isWell_488 hC  hf) trivial
    · replace hf := (if_pos c4).symm.trans hf
      refine i_iload_n hC dL_isWell_430 rfl ?_
      refine i_aload_n hC dL_isWell_431 rfl ?_
      refine i_iconst hC dL_isWell_432 li_5 ?_
      obtain ⟨r6, hc6, hf⟩ := bd1_of hf
      refine i_callVi hC mv_L_47 (c_X8_account hC.2.2.2.2.2.2.2.1 hc6) (pln rfl) (lay_p198) rfl rfl rfl rfl ⟨Nat.le_of_ble_eq_true rfl, Nat.le_of_ble_eq_true rfl⟩ (Nat.le_of_ble_eq_true rfl) dL_isWell_433 ?_
      refine i_icmp_ne hC (tgt := 488) dL_isWell_436 (by decide) (fun c7 => ?_) (fun c7 => ?_)
      · replace hf := (if_neg c7).symm.trans hf
        exact Mj.to (b_L_isWell_488 hC  hf) trivial
      · replace hf := (if_pos c7).symm.trans hf
        refine i_iload_n hC dL_isWell_439 rfl ?_
        refine i_aload_n hC dL_isWell_440 rfl ?_
        refine i_bipush hC dL_isWell_441 lb_6 ?_
        obtain ⟨r8, hc8, hf⟩ := bd1_of hf
        refine i_callVi hC mv_L_47 (c_X8_account hC.2.2.2.2.2.2.2.1 hc8) (pln rfl) (lay_p198) rfl rfl rfl rfl ⟨Nat.le_of_ble_eq_true rfl, Nat.le_of_ble_eq_true rfl⟩ (Nat.le_of_ble_eq_true rfl) dL_isWell_443 ?_
        refine i_icmp_ne hC (tgt := 488) dL_isWell_446 (by decide) (fun c9 => ?_) (fun c9 => ?_)
        · replace hf := (if_neg c9).symm.trans hf
          exact Mj.to (b_L_isWell_488 hC  hf) trivial
        · replace hf := (if_pos c9).symm.trans hf
          refine i_iload hC dL_isWell_449 rfl ?_
          refine i_aload_n hC dL_isWell_451 rfl ?_
          obtain ⟨r10, hc10, hf⟩ := bd1_of hf
          refine i_callVi hC mv_L_125 (c_X8_agreed hC.2.2.2.2.2.2.2.1 hc10) (pln rfl) (lay_p198) rfl rfl rfl rfl ⟨Nat.le_of_ble_eq_true rfl, Nat.le_of_ble_eq_true rfl⟩ (Nat.le_of_ble_eq_true rfl) dL_isWell_452 ?_
          refine i_icmp_ne hC (tgt := 488) dL_isWell_455 (by decide) (fun c11 => ?_) (fun c11 => ?_)
          · replace hf := (if_neg c11).symm.trans hf
            exact Mj.to (b_L_isWell_488 hC  hf) trivial
          · replace hf := (if_pos c11).symm.trans hf
            refine i_iload hC dL_isWell_458 rfl ?_
            refine i_aload_n hC dL_isWell_460 rfl ?_
            obtain ⟨r12, hc12, hf⟩ := bd1_of hf
            refine i_callVi hC mv_L_128 (c_X8_agreedAgain hC.2.2.2.2.2.2.2.1 hc12) (pln rfl) (lay_p198) rfl rfl rfl rfl ⟨Nat.le_of_ble_eq_true rfl, Nat.le_of_ble_eq_true rfl⟩ (Nat.le_of_ble_eq_true rfl) dL_isWell_461 ?_
            refine i_icmp_ne hC (tgt := 488) dL_isWell_464 (by decide) (fun c13 => ?_) (fun c13 => ?_)
            · replace hf := (if_neg c13).symm.trans hf
              exact Mj.to (b_L_isWell_488 hC  hf) trivial
            · replace hf := (if_pos c13).symm.trans hf
              refine i_iload hC dL_isWell_467 rfl ?_
              refine i_aload_n hC dL_isWell_469 rfl ?_
              obtain ⟨r14, hc14, hf⟩ := bd1_of hf
              refine i_callVi hC mv_L_50 (c_X8_leader hC.2.2.2.2.2.2.2.1 hc14) (pln rfl) (lay_p198) rfl rfl rfl rfl ⟨Nat.le_of_ble_eq_true rfl, Nat.le_of_ble_eq_true rfl⟩ (Nat.le_of_ble_eq_true rfl) dL_isWell_470 ?_
              refine i_icmp_ne hC (tgt := 488) dL_isWell_473 (by decide) (fun c15 => ?_) (fun c15 => ?_)
              · replace hf := (if_neg c15).symm.trans hf
                exact Mj.to (b_L_isWell_488 hC  hf) trivial
              · replace hf := (if_pos c15).symm.trans hf
                refine i_aload_n hC dL_isWell_476 rfl ?_
                obtain ⟨r16, hc16, hf⟩ := bd1_of hf
                refine i_callVi hC mv_L_131 (c_X8_isSafe hC.2.2.2.2.2.2.2.1 hc16) (pln rfl) (lay_p198) rfl rfl rfl rfl ⟨Nat.le_of_ble_eq_true rfl, Nat.le_of_ble_eq_true rfl⟩ (Nat.le_of_ble_eq_true rfl) dL_isWell_477 ?_
                refine i_iconst hC dL_isWell_480 li_1 ?_
                refine i_icmp_ne hC (tgt := 488) dL_isWell_481 (by decide) (fun c17 => ?_) (fun c17 => ?_)
                · replace hf := (if_neg c17).symm.trans hf
                  exact Mj.to (b_L_isWell_488 hC  hf) trivial
                · replace hf := (if_pos c17).symm.trans hf
                  refine i_iconst hC dL_isWell_484 li_1 ?_
                  refine i_goto hC (tgt := 489) dL_isWell_485 (by decide) ?_
                  exact Mj.to (b_L_isWell_489 hC  hf) trivial
  · replace hf := (if_neg c2).symm.trans hf
    refine i_aload_n hC dL_isWell_26 rfl ?_
    refine i_iload hC dL_isWell_27 rfl ?_
    refine i_iconst hC dL_isWell_29 li_0 ?_
    obtain ⟨r18, hc18, hf⟩ := bd1_of hf
    refine i_callVi hC mv_L_103 (c_X8_driverOf hC.2.2.2.2.2.2.2.1 hc18) (pln rfl) (lay_p198) rfl rfl rfl rfl ⟨Nat.le_of_ble_eq_true rfl, Nat.le_of_ble_eq_true rfl⟩ (Nat.le_of_ble_eq_true rfl) dL_isWell_30 ?_
    refine i_istore hC dL_isWell_33 (by decide) ?_
    refine i_aload_n hC dL_isWell_35 rfl ?_
    refine i_iload hC dL_isWell_36 rfl ?_
    refine i_iconst hC dL_isWell_38 li_1 ?_
    obtain ⟨r19, hc19, hf⟩ := bd1_of hf
    refine i_callVi hC mv_L_103 (c_X8_driverOf hC.2.2.2.2.2.2.2.1 hc19) (pln rfl) (lay_p198) rfl rfl rfl rfl ⟨Nat.le_of_ble_eq_true rfl, Nat.le_of_ble_eq_true rfl⟩ (Nat.le_of_ble_eq_true rfl) dL_isWell_39 ?_
    refine i_istore hC dL_isWell_42 (by decide) ?_
    refine i_iconst hC dL_isWell_44 li_0 ?_
    refine i_istore hC dL_isWell_45 (by decide) ?_
    refine i_iload_n hC dL_isWell_47 rfl ?_
    refine i_aload_n hC dL_isWell_48 rfl ?_
    refine i_iload hC dL_isWell_49 rfl ?_
    refine i_bipush hC dL_isWell_51 lb_7 ?_
    obtain ⟨r20, hc20, hf⟩ := bd1_of hf
    refine i_callVi hC mv_L_103 (c_X8_driverOf hC.2.2.2.2.2.2.2.1 hc20) (pln rfl) (lay_p198) rfl rfl rfl rfl ⟨Nat.le_of_ble_eq_true rfl, Nat.le_of_ble_eq_true rfl⟩ (Nat.le_of_ble_eq_true rfl) dL_isWell_53 ?_
    refine i_iadd hC dL_isWell_56 ?_
    refine i_istore_n hC dL_isWell_57 (by decide) ?_
    refine i_iload_n hC dL_isWell_58 rfl ?_
    refine i_aload_n hC dL_isWell_59 rfl ?_
    refine i_iload hC dL_isWell_60 rfl ?_
    refine i_bipush hC dL_isWell_62 lb_9 ?_
    obtain ⟨r21, hc21, hf⟩ := bd1_of hf
    refine i_callVi hC mv_L_103 (c_X8_driverOf hC.2.2.2.2.2.2.2.1 hc21) (pln rfl) (lay_p198) rfl rfl rfl rfl ⟨Nat.le_of_ble_eq_true rfl, Nat.le_of_ble_eq_true rfl⟩ (Nat.le_of_ble_eq_true rfl) dL_isWell_64 ?_
    refine i_iadd hC dL_isWell_67 ?_
    refine i_istore_n hC dL_isWell_68 (by decide) ?_
    refine i_iload_n hC dL_isWell_69 rfl ?_
    refine i_aload_n hC dL_isWell_70 rfl ?_
    refine i_iload hC dL_isWell_71 rfl ?_
    refine i_bipush hC dL_isWell_73 lb_10 ?_
    obtain ⟨r22, hc22, hf⟩ := bd1_of hf
    refine i_callVi hC mv_L_103 (c_X8_driverOf hC.2.2.2.2.2.2.2.1 hc22) (pln rfl) (lay_p198) rfl rfl rfl rfl ⟨Nat.le_of_ble_eq_true rfl, Nat.le_of_ble_eq_true rfl⟩ (Nat.le_of_ble_eq_true rfl) dL_isWell_75 ?_
    refine i_iadd hC dL_isWell_78 ?_
    refine i_istore_n hC dL_isWell_79 (by decide) ?_
    refine i_iload hC dL_isWell_80 rfl ?_
    refine i_aload_n hC dL_isWell_82 rfl ?_
    refine i_iload hC dL_isWell_83 rfl ?_
    refine i_bipush hC dL_isWell_85 lb_6 ?_
    obtain ⟨r23, hc23, hf⟩ := bd1_of hf
    refine i_callVi hC mv_L_103 (c_X8_driverOf hC.2.2.2.2.2.2.2.1 hc23) (pln rfl) (lay_p198) rfl rfl rfl rfl ⟨Nat.le_of_ble_eq_true rfl, Nat.le_of_ble_eq_true rfl⟩ (Nat.le_of_ble_eq_true rfl) dL_isWell_87 ?_
    refine i_mmax hC mw_1006 mw_164 mw_40 mw_165 ⟨Nat.le_of_ble_eq_true rfl, Nat.le_of_ble_eq_true rfl⟩ dL_isWell_90 ?_
    refine i_istore hC dL_isWell_93 (by decide) ?_
    refine i_aload_n hC dL_isWell_95 rfl ?_
    refine i_iload hC dL_isWell_96 rfl ?_
    refine i_bipush hC dL_isWell_98 lb_6 ?_
    obtain ⟨r24, hc24, hf⟩ := bd1_of hf
    refine i_callVi hC mv_L_103 (c_X8_driverOf hC.2.2.2.2.2.2.2.1 hc24) (pln rfl) (lay_p198) rfl rfl rfl rfl ⟨Nat.le_of_ble_eq_true rfl, Nat.le_of_ble_eq_true rfl⟩ (Nat.le_of_ble_eq_true rfl) dL_isWell_100 ?_
    refine i_aload_n hC dL_isWell_103 rfl ?_
    refine i_iload hC dL_isWell_104 rfl ?_
    refine i_iconst hC dL_isWell_106 li_5 ?_
    obtain ⟨r25, hc25, hf⟩ := bd1_of hf
    refine i_callVi hC mv_L_103 (c_X8_driverOf hC.2.2.2.2.2.2.2.1 hc25) (pln rfl) (lay_p198) rfl rfl rfl rfl ⟨Nat.le_of_ble_eq_true rfl, Nat.le_of_ble_eq_true rfl⟩ (Nat.le_of_ble_eq_true rfl) dL_isWell_107 ?_
    refine i_icmp_gt hC (tgt := 163) dL_isWell_110 (by decide) (fun c26 => ?_) (fun c26 => ?_)
    · replace hf := (if_pos c26).symm.trans hf
      exact Mj.to (b_L_isWell_163 hC  hf) trivial
    · replace hf := (if_neg c26).symm.trans hf
      refine i_aload_n hC dL_isWell_113 rfl ?_
      refine i_iload hC dL_isWell_114 rfl ?_
      refine i_iconst hC dL_isWell_116 li_5 ?_
      obtain ⟨r27, hc27, hf⟩ := bd1_of hf
      refine i_callVi hC mv_L_103 (c_X8_driverOf hC.2.2.2.2.2.2.2.1 hc27) (pln rfl) (lay_p198) rfl rfl rfl rfl ⟨Nat.le_of_ble_eq_true rfl, Nat.le_of_ble_eq_true rfl⟩ (Nat.le_of_ble_eq_true rfl) dL_isWell_117 ?_
      refine i_bipush hC dL_isWell_120 lb_12 ?_
      refine i_icmp_gt hC (tgt := 163) dL_isWell_122 (by decide) (fun c28 => ?_) (fun c28 => ?_)
      · replace hf := (if_pos c28).symm.trans hf
        exact Mj.to (b_L_isWell_163 hC  hf) trivial
      · replace hf := (if_neg c28).symm.trans hf
        refine i_iload hC dL_isWell_125 rfl ?_
        refine i_aload_n hC dL_isWell_127 rfl ?_
        refine i_iconst hC dL_isWell_128 li_4 ?_
        obtain ⟨r29, hc29, hf⟩ := bd1_of hf
        refine i_callVi hC mv_L_47 (c_X8_account hC.2.2.2.2.2.2.2.1 hc29) (pln rfl) (lay_p198) rfl rfl rfl rfl ⟨Nat.le_of_ble_eq_true rfl, Nat.le_of_ble_eq_true rfl⟩ (Nat.le_of_ble_eq_true rfl) dL_isWell_129 ?_
        refine i_icmp_gt hC (tgt := 163) dL_isWell_132 (by decide) (fun c30 => ?_) (fun c30 => ?_)
        · replace hf := (if_pos c30).symm.trans hf
          exact Mj.to (b_L_isWell_163 hC  hf) trivial
        · replace hf := (if_neg c30).symm.trans hf
          refine i_iload hC dL_isWell_135 rfl ?_
          refine i_if_le hC (tgt := 165) dL_isWell_137 (by decide) (fun c31 => ?_) (fun c31 => ?_)
          · replace hf := (if_pos c31).symm.trans hf
            exact Mj.to (b_L_isWell_165 hC hih16 hf) ⟨rfl, rfl, rfl, rfl, rfl, rfl, rfl, rfl, rfl, rfl, trivial⟩
          · replace hf := (if_neg c31).symm.trans hf
            refine i_aload_n hC dL_isWell_140 rfl ?_
            refine i_iload hC dL_isWell_141 rfl ?_
            refine i_iconst hC dL_isWell_143 li_4 ?_
            obtain ⟨r63, hc63, hf⟩ := bd1_of hf
            refine i_callVi hC mv_L_103 (c_X8_driverOf hC.2.2.2.2.2.2.2.1 hc63) (pln rfl) (lay_p198) rfl rfl rfl rfl ⟨Nat.le_of_ble_eq_true rfl, Nat.le_of_ble_eq_true rfl⟩ (Nat.le_of_ble_eq_true rfl) dL_isWell_144 ?_
            refine i_iload hC dL_isWell_147 rfl ?_
            refine i_icmp_ne hC (tgt := 163) dL_isWell_149 (by decide) (fun c64 => ?_) (fun c64 => ?_)
            · replace hf := (if_neg c64).symm.trans hf
              exact Mj.to (b_L_isWell_163 hC  hf) trivial
            · replace hf := (if_pos c64).symm.trans hf
              refine i_aload_n hC dL_isWell_152 rfl ?_
              refine i_iload hC dL_isWell_153 rfl ?_
              refine i_bipush hC dL_isWell_155 lb_7 ?_
              obtain ⟨r65, hc65, hf⟩ := bd1_of hf
              refine i_callVi hC mv_L_103 (c_X8_driverOf hC.2.2.2.2.2.2.2.1 hc65) (pln rfl) (lay_p198) rfl rfl rfl rfl ⟨Nat.le_of_ble_eq_true rfl, Nat.le_of_ble_eq_true rfl⟩ (Nat.le_of_ble_eq_true rfl) dL_isWell_157 ?_
              refine i_if_ne hC (tgt := 165) dL_isWell_160 (by decide) (fun c66 => ?_) (fun c66 => ?_)
              · replace hf := (if_neg c66).symm.trans hf
                exact Mj.to (b_L_isWell_165 hC hih16 hf) ⟨rfl, rfl, rfl, rfl, rfl, rfl, rfl, rfl, rfl, rfl, trivial⟩
              · replace hf := (if_pos c66).symm.trans hf
                exact Mj.to (b_L_isWell_163 hC  hf) trivial
theorem b_L_isWell_16 {v : EV} {p : Program} {l : Launch} {e : Env} {s : State} {m : MethodId} {args : Array Value} {below : List Frame} {meth : Method} {c : Code} (hC : Cx v p l e s m args meth c RL cL_isWell 13 (some .boolean)) {S : Mem} {x1 : Int32} {x2 : Int32} {x3 : Int32} {x4 : Int32} {x5 : Int32} {x6 : Int32}  {r : Int32} (hf : f_L_isWell_16 S x1 x2 x3 x4 x5 x6 = some r) : Mj v p l e (rmF 5 102) s m args below meth c 13 (MQ below (Qc v (some (.int r)) S) args s 0 0 (eG v)) 0 S 16 [(0, .ref (eA v (198))), (1, .int x1), (2, .int x2), (3, .int x3), (4, .int x4), (5, .int x5), (6, .int x6)] [] :=
  lp_ind (P := fun s9 : (Int32 × Int32 × Int32 × Int32 × Int32 × Int32) => Mj v p l e (rmF 5 102) s m args below meth c 13 (MQ below (Qc v (some (.int r)) S) args s 0 0 (eG v)) 0 S 16 [(0, .ref (eA v (198))), (1, .int (s9.1)), (2, .int (s9.2.1)), (3, .int (s9.2.2.1)), (4, .int (s9.2.2.2.1)), (5, .int (s9.2.2.2.2.1)), (6, .int (s9.2.2.2.2.2))] []) (fun ih s9 hih hf => b_L_isWell_16_b hC   hih hf) _ _ hf
set_option maxHeartbeats 4000000 in
set_option maxRecDepth 100000 in
theorem b_L_isWell_0 {v : EV} {p : Program} {l : Launch} {e : Env} {s : State} {m : MethodId} {args : Array Value} {below : List Frame} {meth : Method} {c : Code} (hC : Cx v p l e s m args meth c RL cL_isWell 13 (some .boolean)) {S : Mem}  {r : Int32} (hf : f_L_isWell_0 S = some r) : Mj v p l e (rmF 5 102) s m args below meth c 13 (MQ below (Qc v (some (.int r)) S) args s 0 0 (eG v)) 0 S 0 [(0, .ref (eA v (198)))] [] := by
  refine i_iconst hC dL_isWell_0 li_0 ?_
  refine i_istore_n hC dL_isWell_1 (by decide) ?_
  refine i_iconst hC dL_isWell_2 li_0 ?_
  refine i_istore_n hC dL_isWell_3 (by decide) ?_
  refine i_iconst hC dL_isWell_4 li_0 ?_
  refine i_istore_n hC dL_isWell_5 (by decide) ?_
  refine i_iconst hC dL_isWell_6 li_0 ?_
  refine i_istore hC dL_isWell_7 (by decide) ?_
  refine i_bipush hC dL_isWell_9 lb_m4 ?_
  refine i_istore hC dL_isWell_11 (by decide) ?_
  refine i_iconst hC dL_isWell_13 li_0 ?_
  refine i_istore hC dL_isWell_14 (by decide) ?_
  exact Mj.to (b_L_isWell_16 hC  hf) ⟨rfl, rfl, rfl, rfl, rfl, rfl, rfl, trivial⟩
theorem c_L_isWell {v : EV} {l : Launch} (hst : Stb v) {S : Mem}  {r : Int32} (hf : g_L_isWell S = some r) : Con v l yL_isWell cL_isWell 13 (some .boolean) 5 102 [.ref (eA v (198))] S (some (.int r)) S := con_of (by decide) hst (Nat.le_of_ble_eq_true rfl) (fun p e s m args below meth c hC => b_L_isWell_0 hC  hf)
