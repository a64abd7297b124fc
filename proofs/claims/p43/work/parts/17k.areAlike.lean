def f_L_areAlike_2_b (ih2 : Int32 → Option (Int32)) (S : Mem) (d0_0 : IY) (d1_0 : IY) (x2 : Int32) : Option (Int32) := (if (Int32.ofNat d0_0.2.1) ≤ x2 then some (1 : Int32) else ck (inb x2 d0_0.2.1) (ck (inb x2 d1_0.2.1) ((if (d0_0.2.2 (x2).toNatClampNeg) = (d1_0.2.2 (x2).toNatClampNeg) then ih2 ((x2 + (1 : Int32))) else some (0 : Int32)))))
def f_L_areAlike_2 (S : Mem) (d0_0 : IY) (d1_0 : IY) (x2 : Int32) : Option (Int32) := lp (fun ih2 s9 => f_L_areAlike_2_b ih2 S d0_0 d1_0 s9) 2000 (x2)
def f_L_areAlike_0 (S : Mem) (d0_0 : IY) (d1_0 : IY) : Option (Int32) := f_L_areAlike_2 S d0_0 d1_0 (0 : Int32)
def g_L_areAlike (S : Mem) (d0_0 : IY) (d1_0 : IY) : Option (Int32) := f_L_areAlike_0 S d0_0 d1_0
set_option maxHeartbeats 4000000 in
set_option maxRecDepth 100000 in
theorem b_L_areAlike_2_b {v : EV} {p : Program} {l : Launch} {e : Env} {s : State} {m : MethodId} {args : Array Value} {below : List Frame} {meth : Method} {c : Code} (hC : Cx v p l e s m args meth c RL cL_areAlike 3 (some .boolean)) {S : Mem} {d0_0 : IY} {d1_0 : IY} {x2 : Int32} (h0 : d0_0 ∈ eI v) (h1 : d1_0 ∈ eI v) {r : Int32} {ih2 : Int32 → Option (Int32)} (hih2 : ∀ s9 : Int32, ih2 s9 = some r → Mj v p l e (rmF 1 12) s m args below meth c 3 (MQ below (Qc v (some (.int r)) S) args s 0 0 (eG v)) 0 S 2 [(0, .ref d0_0.1), (1, .ref d1_0.1), (2, .int (s9))] []) (hf : f_L_areAlike_2_b ih2 S d0_0 d1_0 x2 = some r) : Mj v p l e (rmF 1 12) s m args below meth c 3 (MQ below (Qc v (some (.int r)) S) args s 0 0 (eG v)) 0 S 2 [(0, .ref d0_0.1), (1, .ref d1_0.1), (2, .int x2)] [] := by
  refine i_iload_n hC dL_areAlike_2 rfl ?_
  refine i_aload_n hC dL_areAlike_3 rfl ?_
  refine i_isLen hC h0 dL_areAlike_4 ?_
  refine i_icmp_ge hC (tgt := 25) dL_areAlike_5 (by decide) (fun c1 => ?_) (fun c1 => ?_)
  · replace hf := (if_pos c1).symm.trans hf
    refine i_iconst hC dL_areAlike_25 li_1 ?_
    obtain rfl := Option.some.inj hf
    exact i_zret hC dL_areAlike_26 (isb_z (x := (1 : Int32)) (by decide)).1
  · replace hf := (if_neg c1).symm.trans hf
    refine i_aload_n hC dL_areAlike_8 rfl ?_
    refine i_iload_n hC dL_areAlike_9 rfl ?_
    obtain ⟨k2, hf⟩ := ck_of hf
    refine i_isLd hC h0 (inb_in k2) dL_areAlike_10 ?_
    refine i_aload_n hC dL_areAlike_11 rfl ?_
    refine i_iload_n hC dL_areAlike_12 rfl ?_
    obtain ⟨k3, hf⟩ := ck_of hf
    refine i_isLd hC h1 (inb_in k3) dL_areAlike_13 ?_
    refine i_icmp_eq hC (tgt := 19) dL_areAlike_14 (by decide) (fun c4 => ?_) (fun c4 => ?_)
    · replace hf := (if_pos c4).symm.trans hf
      refine i_iinc hC dL_areAlike_19 rfl li_1 (by decide) ?_
      refine i_goto hC (tgt := 2) dL_areAlike_22 (by decide) ?_
      exact Mj.to (hih2 _ hf) ⟨rfl, rfl, rfl, trivial⟩
    · replace hf := (if_neg c4).symm.trans hf
      refine i_iconst hC dL_areAlike_17 li_0 ?_
      obtain rfl := Option.some.inj hf
      exact i_zret hC dL_areAlike_18 (isb_z (x := (0 : Int32)) (by decide)).1
theorem b_L_areAlike_2 {v : EV} {p : Program} {l : Launch} {e : Env} {s : State} {m : MethodId} {args : Array Value} {below : List Frame} {meth : Method} {c : Code} (hC : Cx v p l e s m args meth c RL cL_areAlike 3 (some .boolean)) {S : Mem} {d0_0 : IY} {d1_0 : IY} {x2 : Int32} (h0 : d0_0 ∈ eI v) (h1 : d1_0 ∈ eI v) {r : Int32} (hf : f_L_areAlike_2 S d0_0 d1_0 x2 = some r) : Mj v p l e (rmF 1 12) s m args below meth c 3 (MQ below (Qc v (some (.int r)) S) args s 0 0 (eG v)) 0 S 2 [(0, .ref d0_0.1), (1, .ref d1_0.1), (2, .int x2)] [] :=
  lp_ind (P := fun s9 : Int32 => Mj v p l e (rmF 1 12) s m args below meth c 3 (MQ below (Qc v (some (.int r)) S) args s 0 0 (eG v)) 0 S 2 [(0, .ref d0_0.1), (1, .ref d1_0.1), (2, .int (s9))] []) (fun ih s9 hih hf => b_L_areAlike_2_b hC h0 h1  hih hf) _ _ hf
set_option maxHeartbeats 4000000 in
set_option maxRecDepth 100000 in
theorem b_L_areAlike_0 {v : EV} {p : Program} {l : Launch} {e : Env} {s : State} {m : MethodId} {args : Array Value} {below : List Frame} {meth : Method} {c : Code} (hC : Cx v p l e s m args meth c RL cL_areAlike 3 (some .boolean)) {S : Mem} {d0_0 : IY} {d1_0 : IY} (h0 : d0_0 ∈ eI v) (h1 : d1_0 ∈ eI v) {r : Int32} (hf : f_L_areAlike_0 S d0_0 d1_0 = some r) : Mj v p l e (rmF 1 12) s m args below meth c 3 (MQ below (Qc v (some (.int r)) S) args s 0 0 (eG v)) 0 S 0 [(0, .ref d0_0.1), (1, .ref d1_0.1)] [] := by
  refine i_iconst hC dL_areAlike_0 li_0 ?_
  refine i_istore_n hC dL_areAlike_1 (by decide) ?_
  exact Mj.to (b_L_areAlike_2 hC h0 h1 hf) ⟨rfl, rfl, rfl, trivial⟩
theorem c_L_areAlike {v : EV} {l : Launch} (hst : Stb v) {S : Mem} {d0_0 d1_0 : IY} (h0 : d0_0 ∈ eI v) (h1 : d1_0 ∈ eI v) {r : Int32} (hf : g_L_areAlike S d0_0 d1_0 = some r) : Con v l yL_areAlike cL_areAlike 3 (some .boolean) 1 12 [.ref d0_0.1, .ref d1_0.1] S (some (.int r)) S := con_of (by decide) hst (Nat.le_of_ble_eq_true rfl) (fun p e s m args below meth c hC => b_L_areAlike_0 hC h0 h1 hf)
