set_option maxHeartbeats 4000000 in
set_option maxRecDepth 100000 in
theorem c_L_types (l : Launch) (dC : Nat → ClassId) (dI : Nat → Nat → Nat) (cI : ClassId) (bs L : Nat) (xs : Nat → Int32) (a : Nat → Nat) (sz : Nat) (S : S_LS) (v3 : Int32) (rr : Int32) (Y : S_LS) (hF : F_L_types L xs S v3 = some (rr, Y)) (hbA0 : ¬ va_A ((W_LS cI a S)) sz bs) : Met l yL_types wsL_types ({ frames := 8, cells := 0, slots := 0, locals := 133 } : Room) (va_Pc [.ref (a 0), .ref bs, .int v3] (jPreY (dC, dI) [(cI, .int)] sz ((W_LS cI a S)) bs L xs)) (va_Qi (fun (r' : Int32) (u : S_LS) => rr = r' ∧ Y = u) (fun u : S_LS => jB (dC, dI) [(cI, .int)] (va_A ((W_LS cI a S)) sz) ((W_LS cI a u))) (va_A ((W_LS cI a S)) sz)) 0 0 (va_A ((W_LS cI a S)) sz) := by
  refine Met.ofW (cc := cL_types) (maxL := 16) (ret := (some .int)) (by decide) rfl ?_
  intro p e s m args below meth c s₁ B hml hv
  obtain ⟨rfl, ⟨hsz, hP, hK, hD0, hN⟩, hX, hbl⟩ := hv
  have hx := B.exec
  have hb := B.bytes
  have hr := B.returns
  have hts := atoms_spec (ws := wsL_types) B.pre
  have hown : s.vm.findClass RL = some m.cls := findClass_of_methodNamed B.named
  have hlocks := B.notSynchronized
  subst hsz
  have hD := hD0.self (sz := s.heap.size)
  generalize hAe : (va_A ((W_LS cI a S)) s.heap.size) = A at hD hbA0 ⊢
  have hbA : ¬ A bs := hbA0
  have hA : ∀ q : Nat, s.heap.size ≤ q → A q := fun q h => by rw [← hAe]; exact Or.inr h
  have hS : va_S A s.heap s.heap [] := va_S.rf
  have hl := lv_entry ([.ref (a 0), .ref bs, .int v3]) (n := 16) (Nat.le_of_ble_eq_true rfl)
  rw [lg_entry_eq]
  generalize (lg_sl ([.ref (a 0), .ref bs, .int v3]) ++ List.replicate (16 - (lg_sl ([.ref (a 0), .ref bs, .int v3])).length) Slot.unset).toArray = ls at hl ⊢
  have hl : lv_has ls 16 [(0, .ref (a 0)), (1, .ref bs), (2, .int v3)] := hl
  have K327 : ∀ (n327 : Nat) (S : S_LS) (x3 : Int32) (x5 : Int32) (x7 : Int32) (H : Heap) (locs : List Loc), F_L_types_327 n327 S x3 x5 x7 = some (rr, Y) → va_P (dC, dI) vwCl ((W_LS cI a S)) H → va_D A ((W_LS cI a S)) → va_S A s.heap H locs → ∀ ls : Array Slot, lv_has ls 16 [(0, .ref (a 0)), (3, .int x3), (5, .int x5), (7, .int x7)] → W p l e (headSpec wsL_types ({ frames := 8, cells := 0, slots := 0, locals := 133 } : Room)).room s m ([.ref (a 0), .ref bs, .int v3] : List Value).toArray below meth c H locs 0 0 (MQ below (va_Qi (fun (r' : Int32) (u : S_LS) => rr = r' ∧ Y = u) (fun u : S_LS => jB (dC, dI) [(cI, .int)] A ((W_LS cI a u))) A) ([.ref (a 0), .ref bs, .int v3] : List Value).toArray s 0 0 A) (F0 m 327 ls []) := by
    intro n327
    induction n327 with
    | zero => intro S x3 x5 x7 H locs hF; exact nomatch hF
    | succ n327 ih327 =>
      intro S x3 x5 x7 H locs hF hP hD hS ls hl
      rw [F_L_types_327_s] at hF
      refine lv_iload_n hx hb dL_types_327 rfl (lv_at hl 1 rfl) ?_
      refine lv_if_le (tgt := 358) hx hb dL_types_328 (by decide) (fun c1 => ?_) (fun c1 => ?_)
      · have hF := F_pos c1 hF
        refine lv_iload hx hb dL_types_358 (lv_at hl 3 rfl) ?_
        have e50 := Option.some.inj hF
        obtain ⟨e60, e51⟩ := Prod.mk.inj e50
        subst e60
        subst e51
        exact W.iret (v := x7) hx hb hr (fun t ht hW => ⟨⟨x7, S, rfl, ⟨rfl, rfl⟩, by rw [ht]; exact hP, va_K.moved hW.alike hK, hD⟩, hS.F ht⟩) hS.2.2 dL_types_360
      · have hF := F_neg c1 hF
        refine lv_aload_n hx hb dL_types_331 rfl (lv_at hl 0 rfl) ?_
        refine lv_iload hx hb dL_types_332 (lv_at hl 2 rfl) ?_
        refine lv_iconst (v := (1 : Int32)) hx hb dL_types_334 (by decide) ?_
        refine lv_iload_n hx hb dL_types_335 rfl (lv_at hl 1 rfl) ?_
        refine lv_ishl hx hb dL_types_336 ?_
        refine lv_iand hx hb dL_types_337 ?_
        refine lv_if_eq (tgt := 346) hx hb dL_types_338 (by decide) (fun c2 => ?_) (fun c2 => ?_)
        · have hF := F_pos c2 hF
          refine lv_bipush (v := (41 : Int32)) hx hb dL_types_346 (by decide) ?_
          obtain ⟨r3, u4, h5, hF⟩ := ob2_some hF
          have h5 := okr_some h5
          have hPc : va_P (dC, dI) vwCl ((W_LS cI a S)) H := hP
          have hDc : va_D A ((W_LS cI a S)) := hD
          have hFc := jFreeW (ws := (W_LS cI a S)) hD hS hA
          refine va_calli (va_runV (As := [.int (41 : Int32)]) (rest := []) ⟨hx, hb, hml, hown, hts⟩ (c_X4_append_ok l dC dI cI a H.size _ _ _ _ h5) (cwV 1 hts gL_types_X4_append rfl rfl rfl (by decide +kernel) ⟨Nat.le_of_ble_eq_true rfl, Nat.le_of_ble_eq_true rfl⟩) (jPreV hK hPc hDc hN (ci := 4) rfl rfl) rfl rfl hl.1 rfl (lv_room (Nat.le_of_ble_eq_true rfl)) dL_types_348 ⟨Nat.le_of_ble_eq_true rfl, Nat.le_of_ble_eq_true rfl⟩) hS (fun q _ h => hFc q h) hFc (fun r' u' t H locs ht hvm hw hB hz1 hk1 hS => ?_)
          obtain ⟨e1, e2⟩ := hw
          subst e1
          subst e2
          obtain ⟨hP1, -, hD1⟩ := hB
          rw [ht] at hP1
          have hP : va_P (dC, dI) vwCl ((W_LS cI a u4)) H := hP1
          have hD : va_D A ((W_LS cI a u4)) := hD1.weaken (fun _ _ _ h => hFc _ h)
          refine lv_pop hx hb dL_types_351 rfl ?_
          refine lv_iinc (v := (x3 + (-1 : Int32))) (lv' := [(3, .int (x3 + (-1 : Int32))), (0, .ref (a 0)), (5, .int x5), (7, .int x7)]) hx hb dL_types_352 hl (k := 1) rfl rfl (by decide) rfl (fun ls hl => ?_)
          refine lv_goto (tgt := 327) hx hb dL_types_355 (by decide) ?_
          exact ih327 _ _ _ _ _ _ hF hP hD hS _ (lv_sub hl [1, 0, 2, 3] rfl)
        · have hF := F_neg c2 hF
          refine lv_bipush (v := (93 : Int32)) hx hb dL_types_341 (by decide) ?_
          refine lv_goto (tgt := 348) hx hb dL_types_343 (by decide) ?_
          obtain ⟨r6, u7, h8, hF⟩ := ob2_some hF
          have h8 := okr_some h8
          have hPc : va_P (dC, dI) vwCl ((W_LS cI a S)) H := hP
          have hDc : va_D A ((W_LS cI a S)) := hD
          have hFc := jFreeW (ws := (W_LS cI a S)) hD hS hA
          refine va_calli (va_runV (As := [.int (93 : Int32)]) (rest := []) ⟨hx, hb, hml, hown, hts⟩ (c_X4_append_ok l dC dI cI a H.size _ _ _ _ h8) (cwV 1 hts gL_types_X4_append rfl rfl rfl (by decide +kernel) ⟨Nat.le_of_ble_eq_true rfl, Nat.le_of_ble_eq_true rfl⟩) (jPreV hK hPc hDc hN (ci := 4) rfl rfl) rfl rfl hl.1 rfl (lv_room (Nat.le_of_ble_eq_true rfl)) dL_types_348 ⟨Nat.le_of_ble_eq_true rfl, Nat.le_of_ble_eq_true rfl⟩) hS (fun q _ h => hFc q h) hFc (fun r' u' t H locs ht hvm hw hB hz1 hk1 hS => ?_)
          obtain ⟨e1, e2⟩ := hw
          subst e1
          subst e2
          obtain ⟨hP1, -, hD1⟩ := hB
          rw [ht] at hP1
          have hP : va_P (dC, dI) vwCl ((W_LS cI a u7)) H := hP1
          have hD : va_D A ((W_LS cI a u7)) := hD1.weaken (fun _ _ _ h => hFc _ h)
          refine lv_pop hx hb dL_types_351 rfl ?_
          refine lv_iinc (v := (x3 + (-1 : Int32))) (lv' := [(3, .int (x3 + (-1 : Int32))), (0, .ref (a 0)), (5, .int x5), (7, .int x7)]) hx hb dL_types_352 hl (k := 1) rfl rfl (by decide) rfl (fun ls hl => ?_)
          refine lv_goto (tgt := 327) hx hb dL_types_355 (by decide) ?_
          exact ih327 _ _ _ _ _ _ hF hP hD hS _ (lv_sub hl [1, 0, 2, 3] rfl)
  have K38 : ∀ (n38 : Nat) (S : S_LS) (x3 : Int32) (x4 : Int32) (x5 : Int32) (x6 : Int32) (x7 : Int32) (x8 : Int32) (x9 : Int32) (H : Heap) (locs : List Loc), F_L_types_38 L xs v3 n38 S x3 x4 x5 x6 x7 x8 x9 = some (rr, Y) → va_P (dC, dI) vwCl ((W_LS cI a S)) H → va_D A ((W_LS cI a S)) → va_S A s.heap H locs → ∀ ls : Array Slot, lv_has ls 16 [(0, .ref (a 0)), (1, .ref bs), (2, .int v3), (3, .int x3), (4, .int x4), (5, .int x5), (6, .int x6), (7, .int x7), (8, .int x8), (9, .int x9)] → W p l e (headSpec wsL_types ({ frames := 8, cells := 0, slots := 0, locals := 133 } : Room)).room s m ([.ref (a 0), .ref bs, .int v3] : List Value).toArray below meth c H locs 0 0 (MQ below (va_Qi (fun (r' : Int32) (u : S_LS) => rr = r' ∧ Y = u) (fun u : S_LS => jB (dC, dI) [(cI, .int)] A ((W_LS cI a u))) A) ([.ref (a 0), .ref bs, .int v3] : List Value).toArray s 0 0 A) (F0 m 38 ls []) := by
    intro n38
    induction n38 with
    | zero => intro S x3 x4 x5 x6 x7 x8 x9 H locs hF; exact nomatch hF
    | succ n38 ih38 =>
      intro S x3 x4 x5 x6 x7 x8 x9 H locs hF hP hD hS ls hl
      rw [F_L_types_38_s] at hF
      have K278 : ∀ (S : S_LS) (x3 : Int32) (x4 : Int32) (x6 : Int32) (x7 : Int32) (x8 : Int32) (x9 : Int32) (t0 : Int32) (H : Heap) (locs : List Loc), F_L_types_278 L xs v3 (F_L_types_38 L xs v3 n38) S x3 x4 x6 x7 x8 x9 t0 = some (rr, Y) → va_P (dC, dI) vwCl ((W_LS cI a S)) H → va_D A ((W_LS cI a S)) → va_S A s.heap H locs → ∀ ls : Array Slot, lv_has ls 16 [(0, .ref (a 0)), (1, .ref bs), (2, .int v3), (3, .int x3), (4, .int x4), (6, .int x6), (7, .int x7), (8, .int x8), (9, .int x9)] → W p l e (headSpec wsL_types ({ frames := 8, cells := 0, slots := 0, locals := 133 } : Room)).room s m ([.ref (a 0), .ref bs, .int v3] : List Value).toArray below meth c H locs 0 0 (MQ below (va_Qi (fun (r' : Int32) (u : S_LS) => rr = r' ∧ Y = u) (fun u : S_LS => jB (dC, dI) [(cI, .int)] A ((W_LS cI a u))) A) ([.ref (a 0), .ref bs, .int v3] : List Value).toArray s 0 0 A) (F0 m 278 ls [.int t0]) := by
        intro S x3 x4 x6 x7 x8 x9 t0 H locs hF hP hD hS ls hl
        unfold F_L_types_278 at hF
        refine lv_istore (lv' := [(5, .int t0), (0, .ref (a 0)), (1, .ref bs), (2, .int v3), (3, .int x3), (4, .int x4), (6, .int x6), (7, .int x7), (8, .int x8), (9, .int x9)]) hx hb dL_types_278 hl (by decide) rfl (fun ls hl => ?_)
        refine lv_iload hx hb dL_types_280 (lv_at hl 6 rfl) ?_
        refine lv_iconst (v := (1 : Int32)) hx hb dL_types_282 (by decide) ?_
        refine lv_iload_n hx hb dL_types_283 rfl (lv_at hl 4 rfl) ?_
        refine lv_ishl hx hb dL_types_284 ?_
        refine lv_iconst (v := (-1 : Int32)) hx hb dL_types_285 (by decide) ?_
        refine lv_ixor hx hb dL_types_286 ?_
        refine lv_iand hx hb dL_types_287 ?_
        refine lv_istore (lv' := [(6, .int (x6 &&& (((1 : Int32) <<< (x3 &&& 31)) ^^^ (-1 : Int32)))), (5, .int t0), (0, .ref (a 0)), (1, .ref bs), (2, .int v3), (3, .int x3), (4, .int x4), (7, .int x7), (8, .int x8), (9, .int x9)]) hx hb dL_types_288 hl (by decide) rfl (fun ls hl => ?_)
        refine lv_iload hx hb dL_types_290 (lv_at hl 6 rfl) ?_
        refine lv_bipush (v := (15 : Int32)) hx hb dL_types_292 (by decide) ?_
        refine lv_iconst (v := (4 : Int32)) hx hb dL_types_294 (by decide) ?_
        refine lv_iload_n hx hb dL_types_295 rfl (lv_at hl 5 rfl) ?_
        refine lv_iconst (v := (1 : Int32)) hx hb dL_types_296 (by decide) ?_
        refine lv_isub hx hb dL_types_297 ?_
        refine lv_imul hx hb dL_types_298 ?_
        refine lv_ishl hx hb dL_types_299 ?_
        refine lv_iconst (v := (-1 : Int32)) hx hb dL_types_300 (by decide) ?_
        refine lv_ixor hx hb dL_types_301 ?_
        refine lv_iand hx hb dL_types_302 ?_
        refine lv_istore (lv' := [(4, .int (x4 &&& (((15 : Int32) <<< (((4 : Int32) * (x3 - (1 : Int32))) &&& 31)) ^^^ (-1 : Int32)))), (6, .int (x6 &&& (((1 : Int32) <<< (x3 &&& 31)) ^^^ (-1 : Int32)))), (5, .int t0), (0, .ref (a 0)), (1, .ref bs), (2, .int v3), (3, .int x3), (7, .int x7), (8, .int x8), (9, .int x9)]) hx hb dL_types_303 hl (by decide) rfl (fun ls hl => ?_)
        refine lv_goto (tgt := 321) hx hb dL_types_305 (by decide) ?_
        refine lv_iinc (v := (x9 + (1 : Int32))) (lv' := [(9, .int (x9 + (1 : Int32))), (4, .int (x4 &&& (((15 : Int32) <<< (((4 : Int32) * (x3 - (1 : Int32))) &&& 31)) ^^^ (-1 : Int32)))), (6, .int (x6 &&& (((1 : Int32) <<< (x3 &&& 31)) ^^^ (-1 : Int32)))), (5, .int t0), (0, .ref (a 0)), (1, .ref bs), (2, .int v3), (3, .int x3), (7, .int x7), (8, .int x8)]) hx hb dL_types_321 hl (k := 9) rfl rfl (by decide) rfl (fun ls hl => ?_)
        refine lv_goto (tgt := 38) hx hb dL_types_324 (by decide) ?_
        exact ih38 _ _ _ _ _ _ _ _ _ _ hF hP hD hS _ (lv_sub hl [4, 5, 6, 7, 1, 3, 2, 8, 9, 0] rfl)
      have K247 : ∀ (S : S_LS) (x3 : Int32) (x4 : Int32) (x5 : Int32) (x6 : Int32) (x7 : Int32) (x8 : Int32) (x9 : Int32) (x11 : Int32) (t1 : Int32) (H : Heap) (locs : List Loc), F_L_types_247 L xs v3 (F_L_types_38 L xs v3 n38) S x3 x4 x5 x6 x7 x8 x9 x11 t1 = some (rr, Y) → va_P (dC, dI) vwCl ((W_LS cI a S)) H → va_D A ((W_LS cI a S)) → va_S A s.heap H locs → ∀ ls : Array Slot, lv_has ls 16 [(0, .ref (a 0)), (1, .ref bs), (2, .int v3), (3, .int x3), (4, .int x4), (5, .int x5), (6, .int x6), (7, .int x7), (8, .int x8), (9, .int x9), (11, .int x11)] → W p l e (headSpec wsL_types ({ frames := 8, cells := 0, slots := 0, locals := 133 } : Room)).room s m ([.ref (a 0), .ref bs, .int v3] : List Value).toArray below meth c H locs 0 0 (MQ below (va_Qi (fun (r' : Int32) (u : S_LS) => rr = r' ∧ Y = u) (fun u : S_LS => jB (dC, dI) [(cI, .int)] A ((W_LS cI a u))) A) ([.ref (a 0), .ref bs, .int v3] : List Value).toArray s 0 0 A) (F0 m 247 ls [.int t1, .ref (a 0)]) := by
        intro S x3 x4 x5 x6 x7 x8 x9 x11 t1 H locs hF hP hD hS ls hl
        unfold F_L_types_247 at hF
        obtain ⟨r9, u10, h11, hF⟩ := ob2_some hF
        have h11 := okr_some h11
        have hPc : va_P (dC, dI) vwCl ((W_LS cI a S)) H := hP
        have hDc : va_D A ((W_LS cI a S)) := hD
        have hFc := jFreeW (ws := (W_LS cI a S)) hD hS hA
        refine va_calli (va_runV (As := [.int t1]) (rest := []) ⟨hx, hb, hml, hown, hts⟩ (c_X4_append_ok l dC dI cI a H.size _ _ _ _ h11) (cwV 1 hts gL_types_X4_append rfl rfl rfl (by decide +kernel) ⟨Nat.le_of_ble_eq_true rfl, Nat.le_of_ble_eq_true rfl⟩) (jPreV hK hPc hDc hN (ci := 4) rfl rfl) rfl rfl hl.1 rfl (lv_room (Nat.le_of_ble_eq_true rfl)) dL_types_247 ⟨Nat.le_of_ble_eq_true rfl, Nat.le_of_ble_eq_true rfl⟩) hS (fun q _ h => hFc q h) hFc (fun r' u' t H locs ht hvm hw hB hz1 hk1 hS => ?_)
        obtain ⟨e1, e2⟩ := hw
        subst e1
        subst e2
        obtain ⟨hP1, -, hD1⟩ := hB
        rw [ht] at hP1
        have hP : va_P (dC, dI) vwCl ((W_LS cI a u10)) H := hP1
        have hD : va_D A ((W_LS cI a u10)) := hD1.weaken (fun _ _ _ h => hFc _ h)
        refine lv_pop hx hb dL_types_250 rfl ?_
        refine lv_iinc (v := (x3 + (1 : Int32))) (lv' := [(3, .int (x3 + (1 : Int32))), (0, .ref (a 0)), (1, .ref bs), (2, .int v3), (4, .int x4), (5, .int x5), (6, .int x6), (7, .int x7), (8, .int x8), (9, .int x9), (11, .int x11)]) hx hb dL_types_251 hl (k := 3) rfl rfl (by decide) rfl (fun ls hl => ?_)
        refine lv_iload hx hb dL_types_254 (lv_at hl 10 rfl) ?_
        refine lv_bipush (v := (7 : Int32)) hx hb dL_types_256 (by decide) ?_
        refine lv_icmp_ne (tgt := 270) hx hb dL_types_258 (by decide) (fun c12 => ?_) (fun c12 => ?_)
        · have hF := F_neg c12 hF
          refine lv_iload hx hb dL_types_270 (lv_at hl 5 rfl) ?_
          refine lv_iconst (v := (1 : Int32)) hx hb dL_types_272 (by decide) ?_
          refine lv_iload_n hx hb dL_types_273 rfl (lv_at hl 0 rfl) ?_
          refine lv_ishl hx hb dL_types_274 ?_
          refine lv_iconst (v := (-1 : Int32)) hx hb dL_types_275 (by decide) ?_
          refine lv_ixor hx hb dL_types_276 ?_
          refine lv_iand hx hb dL_types_277 ?_
          exact K278 _ _ _ _ _ _ _ _ _ _ hF hP hD hS _ (lv_sub hl [1, 2, 3, 0, 4, 6, 7, 8, 9] rfl)
        · have hF := F_pos c12 hF
          refine lv_iload hx hb dL_types_261 (lv_at hl 5 rfl) ?_
          refine lv_iconst (v := (1 : Int32)) hx hb dL_types_263 (by decide) ?_
          refine lv_iload_n hx hb dL_types_264 rfl (lv_at hl 0 rfl) ?_
          refine lv_ishl hx hb dL_types_265 ?_
          refine lv_ior hx hb dL_types_266 ?_
          refine lv_goto (tgt := 278) hx hb dL_types_267 (by decide) ?_
          exact K278 _ _ _ _ _ _ _ _ _ _ hF hP hD hS _ (lv_sub hl [1, 2, 3, 0, 4, 6, 7, 8, 9] rfl)
      have K210 : ∀ (S : S_LS) (x3 : Int32) (x4 : Int32) (x5 : Int32) (x6 : Int32) (x7 : Int32) (x8 : Int32) (x9 : Int32) (x10 : Int32) (x11 : Int32) (x12 : Int32) (H : Heap) (locs : List Loc), F_L_types_210 L xs v3 (F_L_types_38 L xs v3 n38) S x3 x4 x5 x6 x7 x8 x9 x10 x11 x12 = some (rr, Y) → va_P (dC, dI) vwCl ((W_LS cI a S)) H → va_D A ((W_LS cI a S)) → va_S A s.heap H locs → ∀ ls : Array Slot, lv_has ls 16 [(0, .ref (a 0)), (1, .ref bs), (2, .int v3), (3, .int x3), (4, .int x4), (5, .int x5), (6, .int x6), (7, .int x7), (8, .int x8), (9, .int x9), (10, .int x10), (11, .int x11), (12, .int x12)] → W p l e (headSpec wsL_types ({ frames := 8, cells := 0, slots := 0, locals := 133 } : Room)).room s m ([.ref (a 0), .ref bs, .int v3] : List Value).toArray below meth c H locs 0 0 (MQ below (va_Qi (fun (r' : Int32) (u : S_LS) => rr = r' ∧ Y = u) (fun u : S_LS => jB (dC, dI) [(cI, .int)] A ((W_LS cI a u))) A) ([.ref (a 0), .ref bs, .int v3] : List Value).toArray s 0 0 A) (F0 m 210 ls []) := by
        intro S x3 x4 x5 x6 x7 x8 x9 x10 x11 x12 H locs hF hP hD hS ls hl
        unfold F_L_types_210 at hF
        refine lv_iload hx hb dL_types_210 (lv_at hl 6 rfl) ?_
        refine lv_iload hx hb dL_types_212 (lv_at hl 12 rfl) ?_
        refine lv_ior hx hb dL_types_214 ?_
        refine lv_istore (lv' := [(6, .int (x6 ||| x12)), (0, .ref (a 0)), (1, .ref bs), (2, .int v3), (3, .int x3), (4, .int x4), (5, .int x5), (7, .int x7), (8, .int x8), (9, .int x9), (10, .int x10), (11, .int x11), (12, .int x12)]) hx hb dL_types_215 hl (by decide) rfl (fun ls hl => ?_)
        refine lv_iinc (v := (x7 + (1 : Int32))) (lv' := [(7, .int (x7 + (1 : Int32))), (6, .int (x6 ||| x12)), (0, .ref (a 0)), (1, .ref bs), (2, .int v3), (3, .int x3), (4, .int x4), (5, .int x5), (8, .int x8), (9, .int x9), (10, .int x10), (11, .int x11), (12, .int x12)]) hx hb dL_types_217 hl (k := 7) rfl rfl (by decide) rfl (fun ls hl => ?_)
        refine lv_iload hx hb dL_types_220 (lv_at hl 11 rfl) ?_
        refine lv_bipush (v := (6 : Int32)) hx hb dL_types_222 (by decide) ?_
        refine lv_icmp_le (tgt := 308) hx hb dL_types_224 (by decide) (fun c13 => ?_) (fun c13 => ?_)
        · have hF := F_pos c13 hF
          refine lv_aload_n hx hb dL_types_308 rfl (lv_at hl 2 rfl) ?_
          refine lv_iload hx hb dL_types_309 (lv_at hl 11 rfl) ?_
          refine lv_bipush (v := (6 : Int32)) hx hb dL_types_311 (by decide) ?_
          obtain ⟨r14, h15, hF⟩ := ob1_some hF
          have hPc : va_P (dC, dI) vwCl ([] : va_W) H := fun k q h => by simp at h
          have hDc : va_D A ([] : va_W) := ⟨fun i j p q h => by simp at h, fun k q h => by simp at h⟩
          have hFc := jFreeW (ws := []) hDc hS hA
          refine va_calli (va_runS (As := [.int x11, .int (6 : Int32)]) (rest := [.ref (a 0)]) ⟨hx, hb, hml, hown, hts⟩ (c_L_low l dC dI cI  H.size _ _ _ h15) (va_cwS 2 hts gL_types_L_low rfl rfl rfl (by decide +kernel) ⟨Nat.le_of_ble_eq_true rfl, Nat.le_of_ble_eq_true rfl⟩) (jPreS hK hPc hDc hN) rfl rfl hl.1 rfl (lv_room (Nat.le_of_ble_eq_true rfl)) dL_types_313 ⟨Nat.le_of_ble_eq_true rfl, Nat.le_of_ble_eq_true rfl⟩) hS (fun q _ h => hFc q h) hFc (fun r' u' t H locs ht hvm hw hB hz1 hk1 hS => ?_)
          subst hw
          obtain ⟨hP1, -, hD1⟩ := hB
          rw [ht] at hP1
          have hP : va_P (dC, dI) vwCl ((W_LS cI a S)) H := jNone hP hk1
          refine lv_iload hx hb dL_types_316 (lv_at hl 10 rfl) ?_
          obtain ⟨u16, h17, hF⟩ := ob1_some hF
          have hPc : va_P (dC, dI) vwCl ((W_LS cI a S)) H := hP
          have hDc : va_D A ((W_LS cI a S)) := hD
          have hFc := jFreeW (ws := (W_LS cI a S)) hD hS hA
          refine va_callv (va_runS (As := [.ref (a 0), .int r14, .int x10]) (rest := []) ⟨hx, hb, hml, hown, hts⟩ (c_L_simple l dC dI cI a H.size _ _ _ _ h17) (va_cwS 3 hts gL_types_L_simple rfl rfl rfl (by decide +kernel) ⟨Nat.le_of_ble_eq_true rfl, Nat.le_of_ble_eq_true rfl⟩) (jPreS hK hPc hDc hN) rfl rfl hl.1 rfl (lv_room (Nat.le_of_ble_eq_true rfl)) dL_types_318 ⟨Nat.le_of_ble_eq_true rfl, Nat.le_of_ble_eq_true rfl⟩) hS (fun q _ h => hFc q h) hFc (fun u' t H locs ht hvm hw hB hz1 hk1 hS => ?_)
          subst hw
          obtain ⟨hP1, -, hD1⟩ := hB
          rw [ht] at hP1
          have hP : va_P (dC, dI) vwCl ((W_LS cI a u16)) H := hP1
          have hD : va_D A ((W_LS cI a u16)) := hD1.weaken (fun _ _ _ h => hFc _ h)
          refine lv_iinc (v := (x9 + (1 : Int32))) (lv' := [(9, .int (x9 + (1 : Int32))), (7, .int (x7 + (1 : Int32))), (6, .int (x6 ||| x12)), (0, .ref (a 0)), (1, .ref bs), (2, .int v3), (3, .int x3), (4, .int x4), (5, .int x5), (8, .int x8), (10, .int x10), (11, .int x11), (12, .int x12)]) hx hb dL_types_321 hl (k := 9) rfl rfl (by decide) rfl (fun ls hl => ?_)
          refine lv_goto (tgt := 38) hx hb dL_types_324 (by decide) ?_
          exact ih38 _ _ _ _ _ _ _ _ _ _ hF hP hD hS _ (lv_sub hl [3, 4, 5, 6, 7, 8, 2, 1, 9, 0] rfl)
        · have hF := F_neg c13 hF
          refine lv_iload_n hx hb dL_types_227 rfl (lv_at hl 5 rfl) ?_
          refine lv_iconst (v := (4 : Int32)) hx hb dL_types_228 (by decide) ?_
          refine lv_icmp_ge (tgt := 308) hx hb dL_types_229 (by decide) (fun c18 => ?_) (fun c18 => ?_)
          · have hF := F_pos c18 hF
            refine lv_aload_n hx hb dL_types_308 rfl (lv_at hl 2 rfl) ?_
            refine lv_iload hx hb dL_types_309 (lv_at hl 11 rfl) ?_
            refine lv_bipush (v := (6 : Int32)) hx hb dL_types_311 (by decide) ?_
            obtain ⟨r19, h20, hF⟩ := ob1_some hF
            have hPc : va_P (dC, dI) vwCl ([] : va_W) H := fun k q h => by simp at h
            have hDc : va_D A ([] : va_W) := ⟨fun i j p q h => by simp at h, fun k q h => by simp at h⟩
            have hFc := jFreeW (ws := []) hDc hS hA
            refine va_calli (va_runS (As := [.int x11, .int (6 : Int32)]) (rest := [.ref (a 0)]) ⟨hx, hb, hml, hown, hts⟩ (c_L_low l dC dI cI  H.size _ _ _ h20) (va_cwS 2 hts gL_types_L_low rfl rfl rfl (by decide +kernel) ⟨Nat.le_of_ble_eq_true rfl, Nat.le_of_ble_eq_true rfl⟩) (jPreS hK hPc hDc hN) rfl rfl hl.1 rfl (lv_room (Nat.le_of_ble_eq_true rfl)) dL_types_313 ⟨Nat.le_of_ble_eq_true rfl, Nat.le_of_ble_eq_true rfl⟩) hS (fun q _ h => hFc q h) hFc (fun r' u' t H locs ht hvm hw hB hz1 hk1 hS => ?_)
            subst hw
            obtain ⟨hP1, -, hD1⟩ := hB
            rw [ht] at hP1
            have hP : va_P (dC, dI) vwCl ((W_LS cI a S)) H := jNone hP hk1
            refine lv_iload hx hb dL_types_316 (lv_at hl 10 rfl) ?_
            obtain ⟨u21, h22, hF⟩ := ob1_some hF
            have hPc : va_P (dC, dI) vwCl ((W_LS cI a S)) H := hP
            have hDc : va_D A ((W_LS cI a S)) := hD
            have hFc := jFreeW (ws := (W_LS cI a S)) hD hS hA
            refine va_callv (va_runS (As := [.ref (a 0), .int r19, .int x10]) (rest := []) ⟨hx, hb, hml, hown, hts⟩ (c_L_simple l dC dI cI a H.size _ _ _ _ h22) (va_cwS 3 hts gL_types_L_simple rfl rfl rfl (by decide +kernel) ⟨Nat.le_of_ble_eq_true rfl, Nat.le_of_ble_eq_true rfl⟩) (jPreS hK hPc hDc hN) rfl rfl hl.1 rfl (lv_room (Nat.le_of_ble_eq_true rfl)) dL_types_318 ⟨Nat.le_of_ble_eq_true rfl, Nat.le_of_ble_eq_true rfl⟩) hS (fun q _ h => hFc q h) hFc (fun u' t H locs ht hvm hw hB hz1 hk1 hS => ?_)
            subst hw
            obtain ⟨hP1, -, hD1⟩ := hB
            rw [ht] at hP1
            have hP : va_P (dC, dI) vwCl ((W_LS cI a u21)) H := hP1
            have hD : va_D A ((W_LS cI a u21)) := hD1.weaken (fun _ _ _ h => hFc _ h)
            refine lv_iinc (v := (x9 + (1 : Int32))) (lv' := [(9, .int (x9 + (1 : Int32))), (7, .int (x7 + (1 : Int32))), (6, .int (x6 ||| x12)), (0, .ref (a 0)), (1, .ref bs), (2, .int v3), (3, .int x3), (4, .int x4), (5, .int x5), (8, .int x8), (10, .int x10), (11, .int x11), (12, .int x12)]) hx hb dL_types_321 hl (k := 9) rfl rfl (by decide) rfl (fun ls hl => ?_)
            refine lv_goto (tgt := 38) hx hb dL_types_324 (by decide) ?_
            exact ih38 _ _ _ _ _ _ _ _ _ _ hF hP hD hS _ (lv_sub hl [3, 4, 5, 6, 7, 8, 2, 1, 9, 0] rfl)
          · have hF := F_neg c18 hF
            refine lv_aload_n hx hb dL_types_232 rfl (lv_at hl 2 rfl) ?_
            refine lv_iload hx hb dL_types_233 (lv_at hl 11 rfl) ?_
            refine lv_bipush (v := (7 : Int32)) hx hb dL_types_235 (by decide) ?_
            refine lv_icmp_ne (tgt := 245) hx hb dL_types_237 (by decide) (fun c23 => ?_) (fun c23 => ?_)
            · have hF := F_neg c23 hF
              refine lv_bipush (v := (40 : Int32)) hx hb dL_types_245 (by decide) ?_
              exact K247 _ _ _ _ _ _ _ _ _ _ _ _ hF hP hD hS _ (lv_sub hl [2, 3, 4, 5, 6, 7, 1, 0, 8, 9, 11] rfl)
            · have hF := F_pos c23 hF
              refine lv_bipush (v := (91 : Int32)) hx hb dL_types_240 (by decide) ?_
              refine lv_goto (tgt := 247) hx hb dL_types_242 (by decide) ?_
              exact K247 _ _ _ _ _ _ _ _ _ _ _ _ hF hP hD hS _ (lv_sub hl [2, 3, 4, 5, 6, 7, 1, 0, 8, 9, 11] rfl)
      have K168 : ∀ (S : S_LS) (x3 : Int32) (x4 : Int32) (x5 : Int32) (x6 : Int32) (x7 : Int32) (x8 : Int32) (x9 : Int32) (x10 : Int32) (x11 : Int32) (x12 : Int32) (x13 : Bool) (x14 : Int32) (x15 : Int32) (H : Heap) (locs : List Loc), F_L_types_168 L xs v3 (F_L_types_38 L xs v3 n38) S x3 x4 x5 x6 x7 x8 x9 x10 x11 x12 x13 x14 x15 = some (rr, Y) → va_P (dC, dI) vwCl ((W_LS cI a S)) H → va_D A ((W_LS cI a S)) → va_S A s.heap H locs → ∀ ls : Array Slot, lv_has ls 16 [(0, .ref (a 0)), (1, .ref bs), (2, .int v3), (3, .int x3), (4, .int x4), (5, .int x5), (6, .int x6), (7, .int x7), (8, .int x8), (9, .int x9), (10, .int x10), (11, .int x11), (12, .int x12), (13, .int (b2i x13)), (14, .int x14), (15, .int x15)] → W p l e (headSpec wsL_types ({ frames := 8, cells := 0, slots := 0, locals := 133 } : Room)).room s m ([.ref (a 0), .ref bs, .int v3] : List Value).toArray below meth c H locs 0 0 (MQ below (va_Qi (fun (r' : Int32) (u : S_LS) => rr = r' ∧ Y = u) (fun u : S_LS => jB (dC, dI) [(cI, .int)] A ((W_LS cI a u))) A) ([.ref (a 0), .ref bs, .int v3] : List Value).toArray s 0 0 A) (F0 m 168 ls []) := by
        intro S x3 x4 x5 x6 x7 x8 x9 x10 x11 x12 x13 x14 x15 H locs hF hP hD hS ls hl
        unfold F_L_types_168 at hF
        refine lv_iload hx hb dL_types_168 (lv_at hl 13 rfl) ?_
        refine lv_if_eq (tgt := 188) hx hb dL_types_170 (by decide) (fun c24 => ?_) (fun c24 => ?_)
        · have hF := F_pos c24 hF
          refine lv_iload hx hb dL_types_188 (lv_at hl 13 rfl) ?_
          refine lv_if_ne (tgt := 210) hx hb dL_types_190 (by decide) (fun c25 => ?_) (fun c25 => ?_)
          · have hF := F_neg c25 hF
            exact K210 _ _ _ _ _ _ _ _ _ _ _ _ _ hF hP hD hS _ (lv_sub hl [0, 1, 2, 3, 4, 5, 6, 7, 8, 9, 10, 11, 12] rfl)
          · have hF := F_pos c25 hF
            refine lv_aload_n hx hb dL_types_193 rfl (lv_at hl 0 rfl) ?_
            refine lv_bipush (v := (65 : Int32)) hx hb dL_types_194 (by decide) ?_
            refine lv_iload hx hb dL_types_196 (lv_at hl 14 rfl) ?_
            refine lv_iadd hx hb dL_types_198 ?_
            obtain ⟨r26, u27, h28, hF⟩ := ob2_some hF
            have h28 := okr_some h28
            have hPc : va_P (dC, dI) vwCl ((W_LS cI a S)) H := hP
            have hDc : va_D A ((W_LS cI a S)) := hD
            have hFc := jFreeW (ws := (W_LS cI a S)) hD hS hA
            refine va_calli (va_runV (As := [.int ((65 : Int32) + x14)]) (rest := []) ⟨hx, hb, hml, hown, hts⟩ (c_X4_append_ok l dC dI cI a H.size _ _ _ _ h28) (cwV 1 hts gL_types_X4_append rfl rfl rfl (by decide +kernel) ⟨Nat.le_of_ble_eq_true rfl, Nat.le_of_ble_eq_true rfl⟩) (jPreV hK hPc hDc hN (ci := 4) rfl rfl) rfl rfl hl.1 rfl (lv_room (Nat.le_of_ble_eq_true rfl)) dL_types_199 ⟨Nat.le_of_ble_eq_true rfl, Nat.le_of_ble_eq_true rfl⟩) hS (fun q _ h => hFc q h) hFc (fun r' u' t H locs ht hvm hw hB hz1 hk1 hS => ?_)
            obtain ⟨e1, e2⟩ := hw
            subst e1
            subst e2
            obtain ⟨hP1, -, hD1⟩ := hB
            rw [ht] at hP1
            have hP : va_P (dC, dI) vwCl ((W_LS cI a u27)) H := hP1
            have hD : va_D A ((W_LS cI a u27)) := hD1.weaken (fun _ _ _ h => hFc _ h)
            refine lv_pop hx hb dL_types_202 rfl ?_
            refine lv_iload hx hb dL_types_203 (lv_at hl 4 rfl) ?_
            refine lv_iload hx hb dL_types_205 (lv_at hl 15 rfl) ?_
            refine lv_ior hx hb dL_types_207 ?_
            refine lv_istore (lv' := [(4, .int (x4 ||| x15)), (0, .ref (a 0)), (1, .ref bs), (2, .int v3), (3, .int x3), (5, .int x5), (6, .int x6), (7, .int x7), (8, .int x8), (9, .int x9), (10, .int x10), (11, .int x11), (12, .int x12), (13, .int (b2i x13)), (14, .int x14), (15, .int x15)]) hx hb dL_types_208 hl (by decide) rfl (fun ls hl => ?_)
            exact K210 _ _ _ _ _ _ _ _ _ _ _ _ _ hF hP hD hS _ (lv_sub hl [1, 2, 3, 4, 0, 5, 6, 7, 8, 9, 10, 11, 12] rfl)
        · have hF := F_neg c24 hF
          refine lv_iload hx hb dL_types_173 (lv_at hl 6 rfl) ?_
          refine lv_iload hx hb dL_types_175 (lv_at hl 12 rfl) ?_
          refine lv_iand hx hb dL_types_177 ?_
          refine lv_if_eq (tgt := 188) hx hb dL_types_178 (by decide) (fun c29 => ?_) (fun c29 => ?_)
          · have hF := F_pos c29 hF
            refine lv_iload hx hb dL_types_188 (lv_at hl 13 rfl) ?_
            refine lv_if_ne (tgt := 210) hx hb dL_types_190 (by decide) (fun c30 => ?_) (fun c30 => ?_)
            · have hF := F_neg c30 hF
              exact K210 _ _ _ _ _ _ _ _ _ _ _ _ _ hF hP hD hS _ (lv_sub hl [0, 1, 2, 3, 4, 5, 6, 7, 8, 9, 10, 11, 12] rfl)
            · have hF := F_pos c30 hF
              refine lv_aload_n hx hb dL_types_193 rfl (lv_at hl 0 rfl) ?_
              refine lv_bipush (v := (65 : Int32)) hx hb dL_types_194 (by decide) ?_
              refine lv_iload hx hb dL_types_196 (lv_at hl 14 rfl) ?_
              refine lv_iadd hx hb dL_types_198 ?_
              obtain ⟨r31, u32, h33, hF⟩ := ob2_some hF
              have h33 := okr_some h33
              have hPc : va_P (dC, dI) vwCl ((W_LS cI a S)) H := hP
              have hDc : va_D A ((W_LS cI a S)) := hD
              have hFc := jFreeW (ws := (W_LS cI a S)) hD hS hA
              refine va_calli (va_runV (As := [.int ((65 : Int32) + x14)]) (rest := []) ⟨hx, hb, hml, hown, hts⟩ (c_X4_append_ok l dC dI cI a H.size _ _ _ _ h33) (cwV 1 hts gL_types_X4_append rfl rfl rfl (by decide +kernel) ⟨Nat.le_of_ble_eq_true rfl, Nat.le_of_ble_eq_true rfl⟩) (jPreV hK hPc hDc hN (ci := 4) rfl rfl) rfl rfl hl.1 rfl (lv_room (Nat.le_of_ble_eq_true rfl)) dL_types_199 ⟨Nat.le_of_ble_eq_true rfl, Nat.le_of_ble_eq_true rfl⟩) hS (fun q _ h => hFc q h) hFc (fun r' u' t H locs ht hvm hw hB hz1 hk1 hS => ?_)
              obtain ⟨e1, e2⟩ := hw
              subst e1
              subst e2
              obtain ⟨hP1, -, hD1⟩ := hB
              rw [ht] at hP1
              have hP : va_P (dC, dI) vwCl ((W_LS cI a u32)) H := hP1
              have hD : va_D A ((W_LS cI a u32)) := hD1.weaken (fun _ _ _ h => hFc _ h)
              refine lv_pop hx hb dL_types_202 rfl ?_
              refine lv_iload hx hb dL_types_203 (lv_at hl 4 rfl) ?_
              refine lv_iload hx hb dL_types_205 (lv_at hl 15 rfl) ?_
              refine lv_ior hx hb dL_types_207 ?_
              refine lv_istore (lv' := [(4, .int (x4 ||| x15)), (0, .ref (a 0)), (1, .ref bs), (2, .int v3), (3, .int x3), (5, .int x5), (6, .int x6), (7, .int x7), (8, .int x8), (9, .int x9), (10, .int x10), (11, .int x11), (12, .int x12), (13, .int (b2i x13)), (14, .int x14), (15, .int x15)]) hx hb dL_types_208 hl (by decide) rfl (fun ls hl => ?_)
              exact K210 _ _ _ _ _ _ _ _ _ _ _ _ _ hF hP hD hS _ (lv_sub hl [1, 2, 3, 4, 0, 5, 6, 7, 8, 9, 10, 11, 12] rfl)
          · have hF := F_neg c29 hF
            refine lv_aload_n hx hb dL_types_181 rfl (lv_at hl 0 rfl) ?_
            refine lv_bipush (v := (44 : Int32)) hx hb dL_types_182 (by decide) ?_
            obtain ⟨r34, u35, h36, hF⟩ := ob2_some hF
            have h36 := okr_some h36
            have hPc : va_P (dC, dI) vwCl ((W_LS cI a S)) H := hP
            have hDc : va_D A ((W_LS cI a S)) := hD
            have hFc := jFreeW (ws := (W_LS cI a S)) hD hS hA
            refine va_calli (va_runV (As := [.int (44 : Int32)]) (rest := []) ⟨hx, hb, hml, hown, hts⟩ (c_X4_append_ok l dC dI cI a H.size _ _ _ _ h36) (cwV 1 hts gL_types_X4_append rfl rfl rfl (by decide +kernel) ⟨Nat.le_of_ble_eq_true rfl, Nat.le_of_ble_eq_true rfl⟩) (jPreV hK hPc hDc hN (ci := 4) rfl rfl) rfl rfl hl.1 rfl (lv_room (Nat.le_of_ble_eq_true rfl)) dL_types_184 ⟨Nat.le_of_ble_eq_true rfl, Nat.le_of_ble_eq_true rfl⟩) hS (fun q _ h => hFc q h) hFc (fun r' u' t H locs ht hvm hw hB hz1 hk1 hS => ?_)
            obtain ⟨e1, e2⟩ := hw
            subst e1
            subst e2
            obtain ⟨hP1, -, hD1⟩ := hB
            rw [ht] at hP1
            have hP : va_P (dC, dI) vwCl ((W_LS cI a u35)) H := hP1
            have hD : va_D A ((W_LS cI a u35)) := hD1.weaken (fun _ _ _ h => hFc _ h)
            refine lv_pop hx hb dL_types_187 rfl ?_
            refine lv_iload hx hb dL_types_188 (lv_at hl 13 rfl) ?_
            refine lv_if_ne (tgt := 210) hx hb dL_types_190 (by decide) (fun c37 => ?_) (fun c37 => ?_)
            · have hF := F_neg c37 hF
              exact K210 _ _ _ _ _ _ _ _ _ _ _ _ _ hF hP hD hS _ (lv_sub hl [0, 1, 2, 3, 4, 5, 6, 7, 8, 9, 10, 11, 12] rfl)
            · have hF := F_pos c37 hF
              refine lv_aload_n hx hb dL_types_193 rfl (lv_at hl 0 rfl) ?_
              refine lv_bipush (v := (65 : Int32)) hx hb dL_types_194 (by decide) ?_
              refine lv_iload hx hb dL_types_196 (lv_at hl 14 rfl) ?_
              refine lv_iadd hx hb dL_types_198 ?_
              obtain ⟨r38, u39, h40, hF⟩ := ob2_some hF
              have h40 := okr_some h40
              have hPc : va_P (dC, dI) vwCl ((W_LS cI a u35)) H := hP
              have hDc : va_D A ((W_LS cI a u35)) := hD
              have hFc := jFreeW (ws := (W_LS cI a u35)) hD hS hA
              refine va_calli (va_runV (As := [.int ((65 : Int32) + x14)]) (rest := []) ⟨hx, hb, hml, hown, hts⟩ (c_X4_append_ok l dC dI cI a H.size _ _ _ _ h40) (cwV 1 hts gL_types_X4_append rfl rfl rfl (by decide +kernel) ⟨Nat.le_of_ble_eq_true rfl, Nat.le_of_ble_eq_true rfl⟩) (jPreV hK hPc hDc hN (ci := 4) rfl rfl) rfl rfl hl.1 rfl (lv_room (Nat.le_of_ble_eq_true rfl)) dL_types_199 ⟨Nat.le_of_ble_eq_true rfl, Nat.le_of_ble_eq_true rfl⟩) hS (fun q _ h => hFc q h) hFc (fun r' u' t H locs ht hvm hw hB hz1 hk1 hS => ?_)
              obtain ⟨e1, e2⟩ := hw
              subst e1
              subst e2
              obtain ⟨hP1, -, hD1⟩ := hB
              rw [ht] at hP1
              have hP : va_P (dC, dI) vwCl ((W_LS cI a u39)) H := hP1
              have hD : va_D A ((W_LS cI a u39)) := hD1.weaken (fun _ _ _ h => hFc _ h)
              refine lv_pop hx hb dL_types_202 rfl ?_
              refine lv_iload hx hb dL_types_203 (lv_at hl 4 rfl) ?_
              refine lv_iload hx hb dL_types_205 (lv_at hl 15 rfl) ?_
              refine lv_ior hx hb dL_types_207 ?_
              refine lv_istore (lv' := [(4, .int (x4 ||| x15)), (0, .ref (a 0)), (1, .ref bs), (2, .int v3), (3, .int x3), (5, .int x5), (6, .int x6), (7, .int x7), (8, .int x8), (9, .int x9), (10, .int x10), (11, .int x11), (12, .int x12), (13, .int (b2i x13)), (14, .int x14), (15, .int x15)]) hx hb dL_types_208 hl (by decide) rfl (fun ls hl => ?_)
              exact K210 _ _ _ _ _ _ _ _ _ _ _ _ _ hF hP hD hS _ (lv_sub hl [1, 2, 3, 4, 0, 5, 6, 7, 8, 9, 10, 11, 12] rfl)
      have K96 : ∀ (S : S_LS) (x3 : Int32) (x4 : Int32) (x5 : Int32) (x6 : Int32) (x7 : Int32) (x8 : Int32) (x9 : Int32) (x10 : Int32) (x11 : Int32) (x12 : Int32) (t0 : Bool) (H : Heap) (locs : List Loc), F_L_types_96 L xs v3 (F_L_types_38 L xs v3 n38) S x3 x4 x5 x6 x7 x8 x9 x10 x11 x12 t0 = some (rr, Y) → va_P (dC, dI) vwCl ((W_LS cI a S)) H → va_D A ((W_LS cI a S)) → va_S A s.heap H locs → ∀ ls : Array Slot, lv_has ls 16 [(0, .ref (a 0)), (1, .ref bs), (2, .int v3), (3, .int x3), (4, .int x4), (5, .int x5), (6, .int x6), (7, .int x7), (8, .int x8), (9, .int x9), (10, .int x10), (11, .int x11), (12, .int x12)] → W p l e (headSpec wsL_types ({ frames := 8, cells := 0, slots := 0, locals := 133 } : Room)).room s m ([.ref (a 0), .ref bs, .int v3] : List Value).toArray below meth c H locs 0 0 (MQ below (va_Qi (fun (r' : Int32) (u : S_LS) => rr = r' ∧ Y = u) (fun u : S_LS => jB (dC, dI) [(cI, .int)] A ((W_LS cI a u))) A) ([.ref (a 0), .ref bs, .int v3] : List Value).toArray s 0 0 A) (F0 m 96 ls [.int (b2i t0)]) := by
        intro S x3 x4 x5 x6 x7 x8 x9 x10 x11 x12 t0 H locs hF hP hD hS ls hl
        unfold F_L_types_96 at hF
        refine lv_istore (lv' := [(13, .int (b2i t0)), (0, .ref (a 0)), (1, .ref bs), (2, .int v3), (3, .int x3), (4, .int x4), (5, .int x5), (6, .int x6), (7, .int x7), (8, .int x8), (9, .int x9), (10, .int x10), (11, .int x11), (12, .int x12)]) hx hb dL_types_96 hl (by decide) rfl (fun ls hl => ?_)
        refine lv_iload hx hb dL_types_98 (lv_at hl 11 rfl) ?_
        refine lv_iconst (v := (4 : Int32)) hx hb dL_types_100 (by decide) ?_
        obtain ⟨r41, h42, hF⟩ := ob1_some hF
        have hPc : va_P (dC, dI) vwCl ([] : va_W) H := fun k q h => by simp at h
        have hDc : va_D A ([] : va_W) := ⟨fun i j p q h => by simp at h, fun k q h => by simp at h⟩
        have hFc := jFreeW (ws := []) hDc hS hA
        refine va_calli (va_runS (As := [.int x10, .int (4 : Int32)]) (rest := []) ⟨hx, hb, hml, hown, hts⟩ (c_L_low l dC dI cI  H.size _ _ _ h42) (va_cwS 2 hts gL_types_L_low rfl rfl rfl (by decide +kernel) ⟨Nat.le_of_ble_eq_true rfl, Nat.le_of_ble_eq_true rfl⟩) (jPreS hK hPc hDc hN) rfl rfl hl.1 rfl (lv_room (Nat.le_of_ble_eq_true rfl)) dL_types_101 ⟨Nat.le_of_ble_eq_true rfl, Nat.le_of_ble_eq_true rfl⟩) hS (fun q _ h => hFc q h) hFc (fun r' u' t H locs ht hvm hw hB hz1 hk1 hS => ?_)
        subst hw
        obtain ⟨hP1, -, hD1⟩ := hB
        rw [ht] at hP1
        have hP : va_P (dC, dI) vwCl ((W_LS cI a S)) H := jNone hP hk1
        refine lv_istore (lv' := [(14, .int r41), (13, .int (b2i t0)), (0, .ref (a 0)), (1, .ref bs), (2, .int v3), (3, .int x3), (4, .int x4), (5, .int x5), (6, .int x6), (7, .int x7), (8, .int x8), (9, .int x9), (10, .int x10), (11, .int x11), (12, .int x12)]) hx hb dL_types_104 hl (by decide) rfl (fun ls hl => ?_)
        refine lv_iconst (v := (1 : Int32)) hx hb dL_types_106 (by decide) ?_
        refine lv_iload hx hb dL_types_107 (lv_at hl 0 rfl) ?_
        refine lv_iconst (v := (4 : Int32)) hx hb dL_types_109 (by decide) ?_
        refine lv_iload_n hx hb dL_types_110 rfl (lv_at hl 5 rfl) ?_
        refine lv_iconst (v := (1 : Int32)) hx hb dL_types_111 (by decide) ?_
        refine lv_isub hx hb dL_types_112 ?_
        refine lv_imul hx hb dL_types_113 ?_
        refine lv_iadd hx hb dL_types_114 ?_
        refine lv_ishl hx hb dL_types_115 ?_
        refine lv_istore (lv' := [(15, .int ((1 : Int32) <<< ((r41 + ((4 : Int32) * (x3 - (1 : Int32)))) &&& 31))), (14, .int r41), (13, .int (b2i t0)), (0, .ref (a 0)), (1, .ref bs), (2, .int v3), (3, .int x3), (4, .int x4), (5, .int x5), (6, .int x6), (7, .int x7), (8, .int x8), (9, .int x9), (10, .int x10), (11, .int x11), (12, .int x12)]) hx hb dL_types_116 hl (by decide) rfl (fun ls hl => ?_)
        refine lv_iload_n hx hb dL_types_118 rfl (lv_at hl 6 rfl) ?_
        refine lv_iconst (v := (1 : Int32)) hx hb dL_types_119 (by decide) ?_
        refine lv_icmp_le (tgt := 155) hx hb dL_types_120 (by decide) (fun c43 => ?_) (fun c43 => ?_)
        · have hF := F_pos c43 hF
          refine lv_iload hx hb dL_types_155 (lv_at hl 2 rfl) ?_
          refine lv_if_ne (tgt := 168) hx hb dL_types_157 (by decide) (fun c44 => ?_) (fun c44 => ?_)
          · have hF := F_neg c44 hF
            exact K168 _ _ _ _ _ _ _ _ _ _ _ _ _ _ _ _ hF hP hD hS _ (lv_sub hl [3, 4, 5, 6, 7, 8, 9, 10, 11, 12, 13, 14, 15, 2, 1, 0] rfl)
          · have hF := F_pos c44 hF
            refine lv_iload hx hb dL_types_160 (lv_at hl 7 rfl) ?_
            refine lv_iload hx hb dL_types_162 (lv_at hl 0 rfl) ?_
            refine lv_iand hx hb dL_types_164 ?_
            refine lv_if_ne (tgt := 321) hx hb dL_types_165 (by decide) (fun c45 => ?_) (fun c45 => ?_)
            · have hF := F_neg c45 hF
              refine lv_iinc (v := (x9 + (1 : Int32))) (lv' := [(9, .int (x9 + (1 : Int32))), (15, .int ((1 : Int32) <<< ((r41 + ((4 : Int32) * (x3 - (1 : Int32)))) &&& 31))), (14, .int r41), (13, .int (b2i t0)), (0, .ref (a 0)), (1, .ref bs), (2, .int v3), (3, .int x3), (4, .int x4), (5, .int x5), (6, .int x6), (7, .int x7), (8, .int x8), (10, .int x10), (11, .int x11), (12, .int x12)]) hx hb dL_types_321 hl (k := 12) rfl rfl (by decide) rfl (fun ls hl => ?_)
              refine lv_goto (tgt := 38) hx hb dL_types_324 (by decide) ?_
              exact ih38 _ _ _ _ _ _ _ _ _ _ hF hP hD hS _ (lv_sub hl [4, 5, 6, 7, 8, 9, 10, 11, 12, 0] rfl)
            · have hF := F_pos c45 hF
              exact K168 _ _ _ _ _ _ _ _ _ _ _ _ _ _ _ _ hF hP hD hS _ (lv_sub hl [3, 4, 5, 6, 7, 8, 9, 10, 11, 12, 13, 14, 15, 2, 1, 0] rfl)
        · have hF := F_neg c43 hF
          refine lv_iload hx hb dL_types_123 (lv_at hl 13 rfl) ?_
          refine lv_iconst (v := (5 : Int32)) hx hb dL_types_125 (by decide) ?_
          obtain ⟨r46, h47, hF⟩ := ob1_some hF
          have hPc : va_P (dC, dI) vwCl ([] : va_W) H := fun k q h => by simp at h
          have hDc : va_D A ([] : va_W) := ⟨fun i j p q h => by simp at h, fun k q h => by simp at h⟩
          have hFc := jFreeW (ws := []) hDc hS hA
          refine va_calli (va_runS (As := [.int x10, .int (5 : Int32)]) (rest := []) ⟨hx, hb, hml, hown, hts⟩ (c_L_low l dC dI cI  H.size _ _ _ h47) (va_cwS 2 hts gL_types_L_low rfl rfl rfl (by decide +kernel) ⟨Nat.le_of_ble_eq_true rfl, Nat.le_of_ble_eq_true rfl⟩) (jPreS hK hPc hDc hN) rfl rfl hl.1 rfl (lv_room (Nat.le_of_ble_eq_true rfl)) dL_types_126 ⟨Nat.le_of_ble_eq_true rfl, Nat.le_of_ble_eq_true rfl⟩) hS (fun q _ h => hFc q h) hFc (fun r' u' t H locs ht hvm hw hB hz1 hk1 hS => ?_)
          subst hw
          obtain ⟨hP1, -, hD1⟩ := hB
          rw [ht] at hP1
          have hP : va_P (dC, dI) vwCl ((W_LS cI a S)) H := jNone hP hk1
          refine lv_if_ne (tgt := 155) hx hb dL_types_129 (by decide) (fun c48 => ?_) (fun c48 => ?_)
          · have hF := F_neg c48 hF
            refine lv_iload hx hb dL_types_155 (lv_at hl 2 rfl) ?_
            refine lv_if_ne (tgt := 168) hx hb dL_types_157 (by decide) (fun c49 => ?_) (fun c49 => ?_)
            · have hF := F_neg c49 hF
              exact K168 _ _ _ _ _ _ _ _ _ _ _ _ _ _ _ _ hF hP hD hS _ (lv_sub hl [3, 4, 5, 6, 7, 8, 9, 10, 11, 12, 13, 14, 15, 2, 1, 0] rfl)
            · have hF := F_pos c49 hF
              refine lv_iload hx hb dL_types_160 (lv_at hl 7 rfl) ?_
              refine lv_iload hx hb dL_types_162 (lv_at hl 0 rfl) ?_
              refine lv_iand hx hb dL_types_164 ?_
              refine lv_if_ne (tgt := 321) hx hb dL_types_165 (by decide) (fun c50 => ?_) (fun c50 => ?_)
              · have hF := F_neg c50 hF
                refine lv_iinc (v := (x9 + (1 : Int32))) (lv' := [(9, .int (x9 + (1 : Int32))), (15, .int ((1 : Int32) <<< ((r41 + ((4 : Int32) * (x3 - (1 : Int32)))) &&& 31))), (14, .int r41), (13, .int (b2i t0)), (0, .ref (a 0)), (1, .ref bs), (2, .int v3), (3, .int x3), (4, .int x4), (5, .int x5), (6, .int x6), (7, .int x7), (8, .int x8), (10, .int x10), (11, .int x11), (12, .int x12)]) hx hb dL_types_321 hl (k := 12) rfl rfl (by decide) rfl (fun ls hl => ?_)
                refine lv_goto (tgt := 38) hx hb dL_types_324 (by decide) ?_
                exact ih38 _ _ _ _ _ _ _ _ _ _ hF hP hD hS _ (lv_sub hl [4, 5, 6, 7, 8, 9, 10, 11, 12, 0] rfl)
              · have hF := F_pos c50 hF
                exact K168 _ _ _ _ _ _ _ _ _ _ _ _ _ _ _ _ hF hP hD hS _ (lv_sub hl [3, 4, 5, 6, 7, 8, 9, 10, 11, 12, 13, 14, 15, 2, 1, 0] rfl)
          · have hF := F_pos c48 hF
            refine lv_aload_n hx hb dL_types_132 rfl (lv_at hl 3 rfl) ?_
            refine lv_iload hx hb dL_types_133 (lv_at hl 2 rfl) ?_
            refine lv_if_eq (tgt := 143) hx hb dL_types_135 (by decide) (fun c51 => ?_) (fun c51 => ?_)
            · have hF := F_pos c51 hF
              refine lv_bipush (v := (41 : Int32)) hx hb dL_types_143 (by decide) ?_
              obtain ⟨r52, u53, h54, hF⟩ := ob2_some hF
              have h54 := okr_some h54
              have hPc : va_P (dC, dI) vwCl ((W_LS cI a S)) H := hP
              have hDc : va_D A ((W_LS cI a S)) := hD
              have hFc := jFreeW (ws := (W_LS cI a S)) hD hS hA
              refine va_calli (va_runV (As := [.int (41 : Int32)]) (rest := []) ⟨hx, hb, hml, hown, hts⟩ (c_X4_append_ok l dC dI cI a H.size _ _ _ _ h54) (cwV 1 hts gL_types_X4_append rfl rfl rfl (by decide +kernel) ⟨Nat.le_of_ble_eq_true rfl, Nat.le_of_ble_eq_true rfl⟩) (jPreV hK hPc hDc hN (ci := 4) rfl rfl) rfl rfl hl.1 rfl (lv_room (Nat.le_of_ble_eq_true rfl)) dL_types_145 ⟨Nat.le_of_ble_eq_true rfl, Nat.le_of_ble_eq_true rfl⟩) hS (fun q _ h => hFc q h) hFc (fun r' u' t H locs ht hvm hw hB hz1 hk1 hS => ?_)
              obtain ⟨e1, e2⟩ := hw
              subst e1
              subst e2
              obtain ⟨hP1, -, hD1⟩ := hB
              rw [ht] at hP1
              have hP : va_P (dC, dI) vwCl ((W_LS cI a u53)) H := hP1
              have hD : va_D A ((W_LS cI a u53)) := hD1.weaken (fun _ _ _ h => hFc _ h)
              refine lv_pop hx hb dL_types_148 rfl ?_
              refine lv_iinc (v := (x3 + (-1 : Int32))) (lv' := [(3, .int (x3 + (-1 : Int32))), (15, .int ((1 : Int32) <<< ((r41 + ((4 : Int32) * (x3 - (1 : Int32)))) &&& 31))), (14, .int r41), (13, .int (b2i t0)), (0, .ref (a 0)), (1, .ref bs), (2, .int v3), (4, .int x4), (5, .int x5), (6, .int x6), (7, .int x7), (8, .int x8), (9, .int x9), (10, .int x10), (11, .int x11), (12, .int x12)]) hx hb dL_types_149 hl (k := 6) rfl rfl (by decide) rfl (fun ls hl => ?_)
              refine lv_goto (tgt := 321) hx hb dL_types_152 (by decide) ?_
              refine lv_iinc (v := (x9 + (1 : Int32))) (lv' := [(9, .int (x9 + (1 : Int32))), (3, .int (x3 + (-1 : Int32))), (15, .int ((1 : Int32) <<< ((r41 + ((4 : Int32) * (x3 - (1 : Int32)))) &&& 31))), (14, .int r41), (13, .int (b2i t0)), (0, .ref (a 0)), (1, .ref bs), (2, .int v3), (4, .int x4), (5, .int x5), (6, .int x6), (7, .int x7), (8, .int x8), (10, .int x10), (11, .int x11), (12, .int x12)]) hx hb dL_types_321 hl (k := 12) rfl rfl (by decide) rfl (fun ls hl => ?_)
              refine lv_goto (tgt := 38) hx hb dL_types_324 (by decide) ?_
              exact ih38 _ _ _ _ _ _ _ _ _ _ hF hP hD hS _ (lv_sub hl [5, 6, 7, 1, 8, 9, 10, 11, 12, 0] rfl)
            · have hF := F_neg c51 hF
              refine lv_bipush (v := (93 : Int32)) hx hb dL_types_138 (by decide) ?_
              refine lv_goto (tgt := 145) hx hb dL_types_140 (by decide) ?_
              obtain ⟨r55, u56, h57, hF⟩ := ob2_some hF
              have h57 := okr_some h57
              have hPc : va_P (dC, dI) vwCl ((W_LS cI a S)) H := hP
              have hDc : va_D A ((W_LS cI a S)) := hD
              have hFc := jFreeW (ws := (W_LS cI a S)) hD hS hA
              refine va_calli (va_runV (As := [.int (93 : Int32)]) (rest := []) ⟨hx, hb, hml, hown, hts⟩ (c_X4_append_ok l dC dI cI a H.size _ _ _ _ h57) (cwV 1 hts gL_types_X4_append rfl rfl rfl (by decide +kernel) ⟨Nat.le_of_ble_eq_true rfl, Nat.le_of_ble_eq_true rfl⟩) (jPreV hK hPc hDc hN (ci := 4) rfl rfl) rfl rfl hl.1 rfl (lv_room (Nat.le_of_ble_eq_true rfl)) dL_types_145 ⟨Nat.le_of_ble_eq_true rfl, Nat.le_of_ble_eq_true rfl⟩) hS (fun q _ h => hFc q h) hFc (fun r' u' t H locs ht hvm hw hB hz1 hk1 hS => ?_)
              obtain ⟨e1, e2⟩ := hw
              subst e1
              subst e2
              obtain ⟨hP1, -, hD1⟩ := hB
              rw [ht] at hP1
              have hP : va_P (dC, dI) vwCl ((W_LS cI a u56)) H := hP1
              have hD : va_D A ((W_LS cI a u56)) := hD1.weaken (fun _ _ _ h => hFc _ h)
              refine lv_pop hx hb dL_types_148 rfl ?_
              refine lv_iinc (v := (x3 + (-1 : Int32))) (lv' := [(3, .int (x3 + (-1 : Int32))), (15, .int ((1 : Int32) <<< ((r41 + ((4 : Int32) * (x3 - (1 : Int32)))) &&& 31))), (14, .int r41), (13, .int (b2i t0)), (0, .ref (a 0)), (1, .ref bs), (2, .int v3), (4, .int x4), (5, .int x5), (6, .int x6), (7, .int x7), (8, .int x8), (9, .int x9), (10, .int x10), (11, .int x11), (12, .int x12)]) hx hb dL_types_149 hl (k := 6) rfl rfl (by decide) rfl (fun ls hl => ?_)
              refine lv_goto (tgt := 321) hx hb dL_types_152 (by decide) ?_
              refine lv_iinc (v := (x9 + (1 : Int32))) (lv' := [(9, .int (x9 + (1 : Int32))), (3, .int (x3 + (-1 : Int32))), (15, .int ((1 : Int32) <<< ((r41 + ((4 : Int32) * (x3 - (1 : Int32)))) &&& 31))), (14, .int r41), (13, .int (b2i t0)), (0, .ref (a 0)), (1, .ref bs), (2, .int v3), (4, .int x4), (5, .int x5), (6, .int x6), (7, .int x7), (8, .int x8), (10, .int x10), (11, .int x11), (12, .int x12)]) hx hb dL_types_321 hl (k := 12) rfl rfl (by decide) rfl (fun ls hl => ?_)
              refine lv_goto (tgt := 38) hx hb dL_types_324 (by decide) ?_
              exact ih38 _ _ _ _ _ _ _ _ _ _ hF hP hD hS _ (lv_sub hl [5, 6, 7, 1, 8, 9, 10, 11, 12, 0] rfl)
      refine lv_iload hx hb dL_types_38 (lv_at hl 9 rfl) ?_
      refine lv_iload hx hb dL_types_40 (lv_at hl 8 rfl) ?_
      refine lv_icmp_ge (tgt := 327) hx hb dL_types_42 (by decide) (fun c58 => ?_) (fun c58 => ?_)
      · have hF := F_pos c58 hF
        exact K327 _ _ _ _ _ _ _ hF hP hD hS _ (lv_sub hl [0, 3, 5, 7] rfl)
      · have hF := F_neg c58 hF
        refine lv_aload_n hx hb dL_types_45 rfl (lv_at hl 1 rfl) ?_
        refine lv_iload_n hx hb dL_types_46 rfl (lv_at hl 2 rfl) ?_
        refine lv_iconst (v := (1 : Int32)) hx hb dL_types_47 (by decide) ?_
        refine lv_iadd hx hb dL_types_48 ?_
        refine lv_iconst (v := (2 : Int32)) hx hb dL_types_49 (by decide) ?_
        refine lv_iload hx hb dL_types_50 (lv_at hl 9 rfl) ?_
        refine lv_imul hx hb dL_types_52 ?_
        refine lv_iadd hx hb dL_types_53 ?_
        obtain ⟨r59, h60, hF⟩ := ob1_some hF
        have hPc : va_P (dC, dI) vwCl ([] : va_W) H := fun k q h => by simp at h
        have hDc : va_D A ([] : va_W) := ⟨fun i j p q h => by simp at h, fun k q h => by simp at h⟩
        have hFc := jFreeW (ws := []) hDc hS hA
        refine va_calli (va_runS (As := [.ref bs, .int ((v3 + (1 : Int32)) + ((2 : Int32) * x9))]) (rest := []) ⟨hx, hb, hml, hown, hts⟩ (c_L_cell l dC dI cI bs L xs  H.size _ _ h60 (fun z => hbA (hFc _ z))) (va_cwS 2 hts gL_types_L_cell rfl rfl rfl (by decide +kernel) ⟨Nat.le_of_ble_eq_true rfl, Nat.le_of_ble_eq_true rfl⟩) (jPreYS hK hPc hDc hN hX hbl hbA hS) rfl rfl hl.1 rfl (lv_room (Nat.le_of_ble_eq_true rfl)) dL_types_54 ⟨Nat.le_of_ble_eq_true rfl, Nat.le_of_ble_eq_true rfl⟩) hS (fun q _ h => hFc q h) hFc (fun r' u' t H locs ht hvm hw hB hz1 hk1 hS => ?_)
        subst hw
        obtain ⟨hP1, -, hD1⟩ := hB
        rw [ht] at hP1
        have hP : va_P (dC, dI) vwCl ((W_LS cI a S)) H := jNone hP hk1
        refine lv_istore (lv' := [(10, .int r59), (0, .ref (a 0)), (1, .ref bs), (2, .int v3), (3, .int x3), (4, .int x4), (5, .int x5), (6, .int x6), (7, .int x7), (8, .int x8), (9, .int x9)]) hx hb dL_types_57 hl (by decide) rfl (fun ls hl => ?_)
        refine lv_aload_n hx hb dL_types_59 rfl (lv_at hl 2 rfl) ?_
        refine lv_iload_n hx hb dL_types_60 rfl (lv_at hl 3 rfl) ?_
        refine lv_iconst (v := (2 : Int32)) hx hb dL_types_61 (by decide) ?_
        refine lv_iadd hx hb dL_types_62 ?_
        refine lv_iconst (v := (2 : Int32)) hx hb dL_types_63 (by decide) ?_
        refine lv_iload hx hb dL_types_64 (lv_at hl 10 rfl) ?_
        refine lv_imul hx hb dL_types_66 ?_
        refine lv_iadd hx hb dL_types_67 ?_
        obtain ⟨r61, h62, hF⟩ := ob1_some hF
        have hPc : va_P (dC, dI) vwCl ([] : va_W) H := fun k q h => by simp at h
        have hDc : va_D A ([] : va_W) := ⟨fun i j p q h => by simp at h, fun k q h => by simp at h⟩
        have hFc := jFreeW (ws := []) hDc hS hA
        refine va_calli (va_runS (As := [.ref bs, .int ((v3 + (2 : Int32)) + ((2 : Int32) * x9))]) (rest := []) ⟨hx, hb, hml, hown, hts⟩ (c_L_cell l dC dI cI bs L xs  H.size _ _ h62 (fun z => hbA (hFc _ z))) (va_cwS 2 hts gL_types_L_cell rfl rfl rfl (by decide +kernel) ⟨Nat.le_of_ble_eq_true rfl, Nat.le_of_ble_eq_true rfl⟩) (jPreYS hK hPc hDc hN hX hbl hbA hS) rfl rfl hl.1 rfl (lv_room (Nat.le_of_ble_eq_true rfl)) dL_types_68 ⟨Nat.le_of_ble_eq_true rfl, Nat.le_of_ble_eq_true rfl⟩) hS (fun q _ h => hFc q h) hFc (fun r' u' t H locs ht hvm hw hB hz1 hk1 hS => ?_)
        subst hw
        obtain ⟨hP1, -, hD1⟩ := hB
        rw [ht] at hP1
        have hP : va_P (dC, dI) vwCl ((W_LS cI a S)) H := jNone hP hk1
        refine lv_bipush (v := (9 : Int32)) hx hb dL_types_71 (by decide) ?_
        obtain ⟨r63, h64, hF⟩ := ob1_some hF
        have hPc : va_P (dC, dI) vwCl ([] : va_W) H := fun k q h => by simp at h
        have hDc : va_D A ([] : va_W) := ⟨fun i j p q h => by simp at h, fun k q h => by simp at h⟩
        have hFc := jFreeW (ws := []) hDc hS hA
        refine va_calli (va_runS (As := [.int r61, .int (9 : Int32)]) (rest := []) ⟨hx, hb, hml, hown, hts⟩ (c_L_low l dC dI cI  H.size _ _ _ h64) (va_cwS 2 hts gL_types_L_low rfl rfl rfl (by decide +kernel) ⟨Nat.le_of_ble_eq_true rfl, Nat.le_of_ble_eq_true rfl⟩) (jPreS hK hPc hDc hN) rfl rfl hl.1 rfl (lv_room (Nat.le_of_ble_eq_true rfl)) dL_types_73 ⟨Nat.le_of_ble_eq_true rfl, Nat.le_of_ble_eq_true rfl⟩) hS (fun q _ h => hFc q h) hFc (fun r' u' t H locs ht hvm hw hB hz1 hk1 hS => ?_)
        subst hw
        obtain ⟨hP1, -, hD1⟩ := hB
        rw [ht] at hP1
        have hP : va_P (dC, dI) vwCl ((W_LS cI a S)) H := jNone hP hk1
        refine lv_istore (lv' := [(11, .int r63), (10, .int r59), (0, .ref (a 0)), (1, .ref bs), (2, .int v3), (3, .int x3), (4, .int x4), (5, .int x5), (6, .int x6), (7, .int x7), (8, .int x8), (9, .int x9)]) hx hb dL_types_76 hl (by decide) rfl (fun ls hl => ?_)
        refine lv_iconst (v := (1 : Int32)) hx hb dL_types_78 (by decide) ?_
        refine lv_iload_n hx hb dL_types_79 rfl (lv_at hl 5 rfl) ?_
        refine lv_ishl hx hb dL_types_80 ?_
        refine lv_istore (lv' := [(12, .int ((1 : Int32) <<< (x3 &&& 31))), (11, .int r63), (10, .int r59), (0, .ref (a 0)), (1, .ref bs), (2, .int v3), (3, .int x3), (4, .int x4), (5, .int x5), (6, .int x6), (7, .int x7), (8, .int x8), (9, .int x9)]) hx hb dL_types_81 hl (by decide) rfl (fun ls hl => ?_)
        refine lv_iload hx hb dL_types_83 (lv_at hl 8 rfl) ?_
        refine lv_iload hx hb dL_types_85 (lv_at hl 0 rfl) ?_
        refine lv_iand hx hb dL_types_87 ?_
        refine lv_if_eq (tgt := 95) hx hb dL_types_88 (by decide) (fun c65 => ?_) (fun c65 => ?_)
        · have hF := F_pos c65 hF
          refine lv_iconst (v := (0 : Int32)) hx hb dL_types_95 (by decide) ?_
          exact K96 _ _ _ _ _ _ _ _ _ _ _ _ _ _ hF hP hD hS _ (lv_sub hl [3, 4, 5, 6, 7, 8, 9, 10, 11, 12, 2, 1, 0] rfl)
        · have hF := F_neg c65 hF
          refine lv_iconst (v := (1 : Int32)) hx hb dL_types_91 (by decide) ?_
          refine lv_goto (tgt := 96) hx hb dL_types_92 (by decide) ?_
          exact K96 _ _ _ _ _ _ _ _ _ _ _ _ _ _ hF hP hD hS _ (lv_sub hl [3, 4, 5, 6, 7, 8, 9, 10, 11, 12, 2, 1, 0] rfl)
  have KE : ∀ (H : Heap) (locs : List Loc), va_P (dC, dI) vwCl ((W_LS cI a S)) H → va_D A ((W_LS cI a S)) → va_S A s.heap H locs → W p l e (headSpec wsL_types ({ frames := 8, cells := 0, slots := 0, locals := 133 } : Room)).room s m ([.ref (a 0), .ref bs, .int v3] : List Value).toArray below meth c H locs 0 0 (MQ below (va_Qi (fun (r' : Int32) (u : S_LS) => rr = r' ∧ Y = u) (fun u : S_LS => jB (dC, dI) [(cI, .int)] A ((W_LS cI a u))) A) ([.ref (a 0), .ref bs, .int v3] : List Value).toArray s 0 0 A) (F0 m 0 ls []) := by
    intro H locs hP hD hS
    unfold F_L_types at hF
    refine lv_iconst (v := (1 : Int32)) hx hb dL_types_0 (by decide) ?_
    refine lv_istore_n (lv' := [(3, .int (1 : Int32)), (0, .ref (a 0)), (1, .ref bs), (2, .int v3)]) hx hb dL_types_1 rfl hl (by decide) rfl (fun ls hl => ?_)
    refine lv_iconst (v := (0 : Int32)) hx hb dL_types_2 (by decide) ?_
    refine lv_istore (lv' := [(4, .int (0 : Int32)), (3, .int (1 : Int32)), (0, .ref (a 0)), (1, .ref bs), (2, .int v3)]) hx hb dL_types_3 hl (by decide) rfl (fun ls hl => ?_)
    refine lv_iconst (v := (0 : Int32)) hx hb dL_types_5 (by decide) ?_
    refine lv_istore (lv' := [(5, .int (0 : Int32)), (4, .int (0 : Int32)), (3, .int (1 : Int32)), (0, .ref (a 0)), (1, .ref bs), (2, .int v3)]) hx hb dL_types_6 hl (by decide) rfl (fun ls hl => ?_)
    refine lv_iconst (v := (0 : Int32)) hx hb dL_types_8 (by decide) ?_
    refine lv_istore (lv' := [(6, .int (0 : Int32)), (5, .int (0 : Int32)), (4, .int (0 : Int32)), (3, .int (1 : Int32)), (0, .ref (a 0)), (1, .ref bs), (2, .int v3)]) hx hb dL_types_9 hl (by decide) rfl (fun ls hl => ?_)
    refine lv_iconst (v := (1 : Int32)) hx hb dL_types_11 (by decide) ?_
    refine lv_istore (lv' := [(7, .int (1 : Int32)), (6, .int (0 : Int32)), (5, .int (0 : Int32)), (4, .int (0 : Int32)), (3, .int (1 : Int32)), (0, .ref (a 0)), (1, .ref bs), (2, .int v3)]) hx hb dL_types_12 hl (by decide) rfl (fun ls hl => ?_)
    refine lv_aload_n hx hb dL_types_14 rfl (lv_at hl 5 rfl) ?_
    refine lv_bipush (v := (40 : Int32)) hx hb dL_types_15 (by decide) ?_
    obtain ⟨r66, u67, h68, hF⟩ := ob2_some hF
    have h68 := okr_some h68
    have hPc : va_P (dC, dI) vwCl ((W_LS cI a S)) H := hP
    have hDc : va_D A ((W_LS cI a S)) := hD
    have hFc := jFreeW (ws := (W_LS cI a S)) hD hS hA
    refine va_calli (va_runV (As := [.int (40 : Int32)]) (rest := []) ⟨hx, hb, hml, hown, hts⟩ (c_X4_append_ok l dC dI cI a H.size _ _ _ _ h68) (cwV 1 hts gL_types_X4_append rfl rfl rfl (by decide +kernel) ⟨Nat.le_of_ble_eq_true rfl, Nat.le_of_ble_eq_true rfl⟩) (jPreV hK hPc hDc hN (ci := 4) rfl rfl) rfl rfl hl.1 rfl (lv_room (Nat.le_of_ble_eq_true rfl)) dL_types_17 ⟨Nat.le_of_ble_eq_true rfl, Nat.le_of_ble_eq_true rfl⟩) hS (fun q _ h => hFc q h) hFc (fun r' u' t H locs ht hvm hw hB hz1 hk1 hS => ?_)
    obtain ⟨e1, e2⟩ := hw
    subst e1
    subst e2
    obtain ⟨hP1, -, hD1⟩ := hB
    rw [ht] at hP1
    have hP : va_P (dC, dI) vwCl ((W_LS cI a u67)) H := hP1
    have hD : va_D A ((W_LS cI a u67)) := hD1.weaken (fun _ _ _ h => hFc _ h)
    refine lv_pop hx hb dL_types_20 rfl ?_
    refine lv_iconst (v := (1 : Int32)) hx hb dL_types_21 (by decide) ?_
    refine lv_aload_n hx hb dL_types_22 rfl (lv_at hl 6 rfl) ?_
    refine lv_iload_n hx hb dL_types_23 rfl (lv_at hl 7 rfl) ?_
    obtain ⟨r69, h70, hF⟩ := ob1_some hF
    have hPc : va_P (dC, dI) vwCl ([] : va_W) H := fun k q h => by simp at h
    have hDc : va_D A ([] : va_W) := ⟨fun i j p q h => by simp at h, fun k q h => by simp at h⟩
    have hFc := jFreeW (ws := []) hDc hS hA
    refine va_calli (va_runS (As := [.ref bs, .int v3]) (rest := [.int (1 : Int32)]) ⟨hx, hb, hml, hown, hts⟩ (c_L_cell l dC dI cI bs L xs  H.size _ _ h70 (fun z => hbA (hFc _ z))) (va_cwS 2 hts gL_types_L_cell rfl rfl rfl (by decide +kernel) ⟨Nat.le_of_ble_eq_true rfl, Nat.le_of_ble_eq_true rfl⟩) (jPreYS hK hPc hDc hN hX hbl hbA hS) rfl rfl hl.1 rfl (lv_room (Nat.le_of_ble_eq_true rfl)) dL_types_24 ⟨Nat.le_of_ble_eq_true rfl, Nat.le_of_ble_eq_true rfl⟩) hS (fun q _ h => hFc q h) hFc (fun r' u' t H locs ht hvm hw hB hz1 hk1 hS => ?_)
    subst hw
    obtain ⟨hP1, -, hD1⟩ := hB
    rw [ht] at hP1
    have hP : va_P (dC, dI) vwCl ((W_LS cI a u67)) H := jNone hP hk1
    refine lv_bipush (v := (8 : Int32)) hx hb dL_types_27 (by decide) ?_
    obtain ⟨r71, h72, hF⟩ := ob1_some hF
    have hPc : va_P (dC, dI) vwCl ([] : va_W) H := fun k q h => by simp at h
    have hDc : va_D A ([] : va_W) := ⟨fun i j p q h => by simp at h, fun k q h => by simp at h⟩
    have hFc := jFreeW (ws := []) hDc hS hA
    refine va_calli (va_runS (As := [.int r69, .int (8 : Int32)]) (rest := [.int (1 : Int32)]) ⟨hx, hb, hml, hown, hts⟩ (c_L_low l dC dI cI  H.size _ _ _ h72) (va_cwS 2 hts gL_types_L_low rfl rfl rfl (by decide +kernel) ⟨Nat.le_of_ble_eq_true rfl, Nat.le_of_ble_eq_true rfl⟩) (jPreS hK hPc hDc hN) rfl rfl hl.1 rfl (lv_room (Nat.le_of_ble_eq_true rfl)) dL_types_29 ⟨Nat.le_of_ble_eq_true rfl, Nat.le_of_ble_eq_true rfl⟩) hS (fun q _ h => hFc q h) hFc (fun r' u' t H locs ht hvm hw hB hz1 hk1 hS => ?_)
    subst hw
    obtain ⟨hP1, -, hD1⟩ := hB
    rw [ht] at hP1
    have hP : va_P (dC, dI) vwCl ((W_LS cI a u67)) H := jNone hP hk1
    refine lv_iadd hx hb dL_types_32 ?_
    refine lv_istore (lv' := [(8, .int ((1 : Int32) + r71)), (7, .int (1 : Int32)), (6, .int (0 : Int32)), (5, .int (0 : Int32)), (4, .int (0 : Int32)), (3, .int (1 : Int32)), (0, .ref (a 0)), (1, .ref bs), (2, .int v3)]) hx hb dL_types_33 hl (by decide) rfl (fun ls hl => ?_)
    refine lv_iconst (v := (0 : Int32)) hx hb dL_types_35 (by decide) ?_
    refine lv_istore (lv' := [(9, .int (0 : Int32)), (8, .int ((1 : Int32) + r71)), (7, .int (1 : Int32)), (6, .int (0 : Int32)), (5, .int (0 : Int32)), (4, .int (0 : Int32)), (3, .int (1 : Int32)), (0, .ref (a 0)), (1, .ref bs), (2, .int v3)]) hx hb dL_types_36 hl (by decide) rfl (fun ls hl => ?_)
    exact K38 _ _ _ _ _ _ _ _ _ _ _ hF hP hD hS _ (lv_sub hl [7, 8, 9, 6, 5, 4, 3, 2, 1, 0] rfl)
  exact KE _ _ hP hD hS
