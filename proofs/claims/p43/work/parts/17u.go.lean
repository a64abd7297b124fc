theorem mw_328 : Cond.methodLink RL 134 yL_begun ∈ TW := tw_of (i := 328) (by decide +kernel) rfl
theorem mw_329 : Cond.static yL_begun ∈ TW := tw_of (i := 329) (by decide +kernel) rfl
theorem mw_330 : Cond.code yL_begun cL_begun 5 (some (.object "LogRaft")) ∈ TW := tw_of (i := 330) (by decide +kernel) rfl
theorem mv_L_134 : MS RL 134 yL_begun cL_begun 5 (some (.object "LogRaft")) 1 := ⟨gi_cons mw_328 (gi_cons mw_329 (gi_cons mw_25 (gi_cons mw_330 tw_good))), by decide +kernel⟩
theorem i_ifnuR {v : EV} {p : Program} {l : Launch} {e : Env} {R : Room} {s : State} {m : MethodId} {args : Array Value} {below : List Frame} {meth : Method} {c : Code} {own : String} {cc : ByteArray} {nL : Nat} {ret : Option FieldType} {Q : State → Prop} {qb : Nat} {Wd : Mem → Heap → Prop} {S : Mem} {pc : Nat} {lv : List (Nat × Value)} {st : List Value} (hC : Cx v p l e s m args meth c own cc nL ret) {a : Nat} {off : Int} (hdg : decode cc pc = .ok (.ifnull off, 3)) (k : Mw Wd v p l e R s m args below meth c nL Q qb S (pc + 3) lv st) : Mw Wd v p l e R s m args below meth c nL Q qb S pc lv (.ref a :: st) := fun H locs ls cells slots hbu hW hS hl => lv_ifnull hC.1 hC.2.1 hdg (k H locs ls cells slots hbu hW hS hl)
theorem lY_ok {T : Nat → Nat} : ∀ i, i < 5 → (T (40 + i), T (45 + i), (yL i).2.2) ∈ lY T := fun i hi => List.mem_map.mpr ⟨i, List.mem_range.mpr hi, rfl⟩
set_option maxHeartbeats 4000000 in
set_option maxRecDepth 100000 in
theorem law_go {p : Program} {e : Env} {s : State} {m : MethodId} {below : List Frame} {meth : Method} {c : Code} (l : Launch) {b L : Nat} {xs : Nat → Int32} (hL : L ≤ 260) (hH : ∃ LI, LawH (b, L, xs) LI) (C0 : lw_At p s m meth c b L xs) : W p l e room_1 s m #[Value.ref b] below meth c s.heap [] 0 0 (lw_Z below #[Value.ref b] s) (entryFrame m ([Value.ref b] : List Value).toArray 6) := by
  obtain ⟨LI, hH⟩ := hH
  obtain ⟨hx, hb, hr, hml, hown, hts, hX, hbl, hlocks, hgv⟩ := id C0
  obtain ⟨T, hT⟩ := eF_start (by omega) hX hts hgv
  obtain ⟨D, C, hK⟩ := vK_start hts
  have hl := lv_entry ([.ref b]) (n := 6) (Nat.le_of_ble_eq_true rfl)
  rw [lg_entry_eq]
  generalize (lg_sl ([.ref b]) ++ List.replicate (6 - (lg_sl ([.ref b])).length) Slot.unset).toArray = ls at hl ⊢
  have hl : lv_has ls 6 [(0, .ref b)] := hl
  have hCx : ∀ (A : Nat → Nat) (w : Nat), Cx (D, C, A, s.heap.size, T, [], lY T, [(b, L, xs)], w) p l e s m #[Value.ref b] meth c RL cL_law 6 (some .boolean) := fun A w => ⟨hx, hb, hml, hown, tw_start hts, hK A _ T _, hT D C A w, stb_all _, ⟨Nat.le_refl _, fun q h => absurd h List.not_mem_nil⟩, hr, hlocks⟩
  obtain ⟨r0, hf0, hr0, hw0, hI0⟩ := hH.1
  have hC := hCx (fun _ => 0) 0
  have M : Mw (fun _ H => Lw (D, C, (fun _ => 0), s.heap.size, T, [], lY T, [(b, L, xs)], 0) [] H) (D, C, (fun _ => 0), s.heap.size, T, [], lY T, [(b, L, xs)], 0) p l e room_1 s m #[Value.ref b] below meth c 6 (lw_Z below #[Value.ref b] s) (6 + 86 * 24 + 226) Z0 0 [(0, .ref b)] [] := by
    refine i_aload_n hC dL_law_0 rfl ?_
    refine p_callS (R := room_1) (q2 := 6 + 86 * 24) (As := [.ref b]) hC mv_L_134 (c_L_begun (stb_all _) (q := (b, L, xs)) List.mem_cons_self hf0 hr0) (fun _ h => h) rfl rfl rfl ⟨(by exact Nat.le_of_ble_eq_true rfl), (by exact Nat.le_of_ble_eq_true rfl)⟩ (by exact Nat.le_of_ble_eq_true rfl) dL_law_1 (fun u => ?_)
    refine n_ex (fun A => ?_)
    refine n_ex (fun w => ?_)
    refine n_and (fun e1 => ?_)
    subst e1
    have hC1 : Cx (D, C, A, s.heap.size, T, [], lY T, [(b, L, xs)], w) p l e s m #[Value.ref b] meth c RL cL_law 6 (some .boolean) := hCx A w
    generalize hv : ((D, C, A, s.heap.size, T, [], lY T, [(b, L, xs)], w) : EV) = v at hC1
    have hv2 : evA (D, C, (fun _ => 0), s.heap.size, T, [], lY T, [(b, L, xs)], 0) A w = v := by rw [← hv]; rfl
    have hvA : A 198 = eA v 198 := by rw [← hv]
    have hN : eN v = s.heap.size := by rw [← hv]
    have hsc : ((b, L, xs) : IY) ∈ eI v := by rw [← hv]; exact List.mem_cons_self
    have hLY : LY v := by rw [← hv]; exact lY_ok
    rw [hv2, hvA]
    show Mw (fun _ H => WD v r0.2 H) (D, C, (fun _ => 0), s.heap.size, T, [], lY T, [(b, L, xs)], 0) p l e room_1 s m _ below meth c 6 _ _ Z0 4 _ _
    have fin : Mw (WE v []) v p l e room_1 s m #[Value.ref b] below meth c 6 (lw_Z below #[Value.ref b] s) (6 + 86 * 24) r0.2 4 [(0, .ref b)] [.ref (eA v 198)] := by
      refine i_astore_n hC1 dL_law_4 (by decide) ?_
      refine i_aload_n hC1 (x := eA v 198) dL_law_5 rfl ?_
      refine i_ifnuR hC1 dL_law_6 ?_
      refine i_aload_n hC1 (x := eA v 198) dL_law_9 rfl ?_
      refine x_callS (R := room_1) (Y := []) (K := 0) (q2 := 6 + 86 * 24) (S := r0.2) (S1 := r0.2) (rv := some (.int (1 : Int32))) (As := [.ref (eA v 198)]) hC1 [] [] mv_L_138 (fun _ _ => no_i) (fun _ _ => no_i) (c_L_isWell (v := vz v (zsX []) [] []) (stb_all _) hw0) rfl rfl rfl ⟨(by exact Nat.le_of_ble_eq_true rfl), (by exact Nat.le_of_ble_eq_true rfl)⟩ (by exact Nat.le_of_ble_eq_true rfl) dL_law_10 ?_
      refine i_if_ne hC1 (tgt := 18) dL_law_13 (by decide) (fun _ => ?_) (fun z9 => absurd z9 (by decide))
      refine i_iconst hC1 (x := (0 : Int32)) dL_law_18 (by decide) ?_
      refine i_istore_n hC1 dL_law_19 (by decide) ?_
      refine Mj.to (lw_loop (qb := 6) hC1 hLY (sc := (b, L, xs)) hsc hH (fun S hS => lw_fin hC1 (sc := (b, L, xs)) hsc hH hS (by omega) (fun Y S9 lv H locs ls cells slots hbu hW hS hl => ?_)) 24 0 r0.2 rfl hI0) ⟨rfl, rfl, rfl, trivial⟩
      refine va_forget (fun q hq => by have := (hS.2.2 q hq).1; rw [hN] at this; exact this) ?_
      refine W.widen (k := 600000) (n := 7302249) hbu.1 (Nat.le_trans (Nat.le_add_right _ _) hbu.2) ?_
      exact lw_ret hx hb hr hlocks dL_law_304
    intro H locs ls2 cells slots hbu hW hS hl2
    have hS2 : va_S (eG v) s.heap H locs := by rw [← hv]; exact hS
    exact fin H locs ls2 cells slots hbu (hW.elim fun da h => ⟨da, by rw [List.append_nil]; exact h⟩) hS2 hl2
  exact M s.heap [] ls 0 0 ⟨by decide, by decide⟩ ⟨fun k q h => by simp at h, fun i j p q h => by simp at h, fun k q h => by simp at h⟩ va_S.rf hl
