set_option maxHeartbeats 4000000 in
set_option maxRecDepth 100000 in
theorem c_L_shape (l : Launch) (dC : Nat → ClassId) (dI : Nat → Nat → Nat) (cI : ClassId) (a : Nat → Nat) (sz : Nat) (S : S_LS) (v2 : Int32) (rr : Bool) (hF : F_L_shape S v2 = some rr) : Met l yL_shape wsL_shape ({ frames := 8, cells := 0, slots := 0, locals := 147 } : Room) (va_Pc [.ref (a 0), .int v2] (jPre (dC, dI) [(cI, .int)] sz ((W_LS cI a S)))) (va_Qi (fun (r' : Int32) (_ : Unit) => b2i rr = r') (fun _ : Unit => jB (dC, dI) [(cI, .int)] (va_A ((W_LS cI a S)) sz) ((W_LS cI a S))) (va_A ((W_LS cI a S)) sz)) 0 0 (va_A ((W_LS cI a S)) sz) := by
  refine Met.ofW (cc := cL_shape) (maxL := 10) (ret := (some .boolean)) (by decide) rfl ?_
  intro p e s m args below meth c s₁ B hml hv
  obtain ⟨rfl, hsz, hP, hK, hD0, hN⟩ := hv
  have hx := B.exec
  have hb := B.bytes
  have hr := B.returns
  have hts := atoms_spec (ws := wsL_shape) B.pre
  have hown : s.vm.findClass RL = some m.cls := findClass_of_methodNamed B.named
  have hlocks := B.notSynchronized
  subst hsz
  have hD := hD0.self (sz := s.heap.size)
  generalize hAe : (va_A ((W_LS cI a S)) s.heap.size) = A at hD ⊢
  have hA : ∀ q : Nat, s.heap.size ≤ q → A q := fun q h => by rw [← hAe]; exact Or.inr h
  have hS : va_S A s.heap s.heap [] := va_S.rf
  have hl := lv_entry ([.ref (a 0), .int v2]) (n := 10) (Nat.le_of_ble_eq_true rfl)
  rw [lg_entry_eq]
  generalize (lg_sl ([.ref (a 0), .int v2]) ++ List.replicate (10 - (lg_sl ([.ref (a 0), .int v2])).length) Slot.unset).toArray = ls at hl ⊢
  have hl : lv_has ls 10 [(0, .ref (a 0)), (1, .int v2)] := hl
  have K331 : ∀ (x2 : Int32) (x7 : Int32) (t0 : Bool) (H : Heap) (locs : List Loc), F_L_shape_331 v2 S x2 x7 t0 = some rr → va_P (dC, dI) vwCl ((W_LS cI a S)) H → va_D A ((W_LS cI a S)) → va_S A s.heap H locs → ∀ ls : Array Slot, lv_has ls 10 [(0, .ref (a 0)), (1, .int v2), (2, .int x2), (7, .int x7)] → W p l e (headSpec wsL_shape ({ frames := 8, cells := 0, slots := 0, locals := 147 } : Room)).room s m ([.ref (a 0), .int v2] : List Value).toArray below meth c H locs 0 0 (MQ below (va_Qi (fun (r' : Int32) (_ : Unit) => b2i rr = r') (fun _ : Unit => jB (dC, dI) [(cI, .int)] A ((W_LS cI a S))) A) ([.ref (a 0), .int v2] : List Value).toArray s 0 0 A) (F0 m 331 ls [.int (b2i t0)]) := by
    intro x2 x7 t0 H locs hF hP hD hS ls hl
    unfold F_L_shape_331 at hF
    refine lv_istore (lv' := [(8, .int (b2i t0)), (0, .ref (a 0)), (1, .int v2), (2, .int x2), (7, .int x7)]) hx hb dL_shape_331 hl (by decide) rfl (fun ls hl => ?_)
    refine lv_iload hx hb dL_shape_333 (lv_at hl 0 rfl) ?_
    refine lv_if_eq (tgt := 365) hx hb dL_shape_335 (by decide) (fun c1 => ?_) (fun c1 => ?_)
    · have hF := F_pos c1 hF
      refine lv_iconst (v := (0 : Int32)) hx hb dL_shape_365 (by decide) ?_
      have e50 := Option.some.inj hF
      subst e50
      exact W.zret (v := (0 : Int32)) hx hb hr (rfl) (fun t ht hW => ⟨⟨(0 : Int32), (), rfl, rfl, by rw [ht]; exact hP, va_K.moved hW.alike hK, hD⟩, hS.F ht⟩) hS.2.2 dL_shape_366
    · have hF := F_neg c1 hF
      refine lv_aload_n hx hb dL_shape_338 rfl (lv_at hl 1 rfl) ?_
      refine lv_iload_n hx hb dL_shape_339 rfl (lv_at hl 2 rfl) ?_
      obtain ⟨r2, h3, hF⟩ := ob1_some hF
      have h3 := okr_some h3
      have hPc : va_P (dC, dI) vwCl ((W_LS cI a S)) H := hP
      have hDc : va_D A ((W_LS cI a S)) := hD
      have hFc := jFreeW (ws := (W_LS cI a S)) hD hS hA
      refine va_calld (va_runV (As := [.int v2]) (rest := []) ⟨hx, hb, hml, hown, hts⟩ (c_X4_sureShare_ok l dC dI cI a H.size _ _ _ h3) (cwV 1 hts gL_shape_X4_sureShare rfl rfl rfl (by decide +kernel) ⟨Nat.le_of_ble_eq_true rfl, Nat.le_of_ble_eq_true rfl⟩) (jPreV hK hPc hDc hN (ci := 4) rfl rfl) rfl rfl hl.1 rfl (lv_room (Nat.le_of_ble_eq_true rfl)) dL_shape_340 ⟨Nat.le_of_ble_eq_true rfl, Nat.le_of_ble_eq_true rfl⟩) hS (fun q _ h => hFc q h) hFc (fun r' u' t H locs ht hvm hw hB hz1 hk1 hS => ?_)
      subst hw
      obtain ⟨hP1, -, hD1⟩ := hB
      rw [ht] at hP1
      have hP : va_P (dC, dI) vwCl ((W_LS cI a S)) H := hP1
      have hD : va_D A ((W_LS cI a S)) := hD1.weaken (fun _ _ _ h => hFc _ h)
      refine lv_iload_n hx hb dL_shape_343 rfl (lv_at hl 3 rfl) ?_
      refine lv_if_ne (tgt := 351) hx hb dL_shape_344 (by decide) (fun c4 => ?_) (fun c4 => ?_)
      · have hF := F_neg c4 hF
        refine lv_iload hx hb dL_shape_351 (lv_at hl 4 rfl) ?_
        refine lv_i2d hx hb dL_shape_353 ?_
        refine lv_iload_n hx hb dL_shape_354 rfl (lv_at hl 3 rfl) ?_
        refine lv_i2d hx hb dL_shape_355 ?_
        obtain ⟨g5, hF⟩ := og_some hF
        refine lv_ddiv hx hb dL_shape_356 (n64_of g5) ?_
        refine lv_dcmp hx hb dL_shape_357 ?_
        refine lv_if_ne (tgt := 365) hx hb dL_shape_358 (by decide) (fun c6 => ?_) (fun c6 => ?_)
        · have hF := F_neg c6 hF
          refine lv_iconst (v := (0 : Int32)) hx hb dL_shape_365 (by decide) ?_
          have e50 := Option.some.inj hF
          subst e50
          exact W.zret (v := (0 : Int32)) hx hb hr (rfl) (fun t ht hW => ⟨⟨(0 : Int32), (), rfl, rfl, by rw [ht]; exact hP, va_K.moved hW.alike hK, hD⟩, hS.F ht⟩) hS.2.2 dL_shape_366
        · have hF := F_pos c6 hF
          refine lv_iconst (v := (1 : Int32)) hx hb dL_shape_361 (by decide) ?_
          refine lv_goto (tgt := 366) hx hb dL_shape_362 (by decide) ?_
          have e50 := Option.some.inj hF
          subst e50
          exact W.zret (v := (1 : Int32)) hx hb hr (rfl) (fun t ht hW => ⟨⟨(1 : Int32), (), rfl, rfl, by rw [ht]; exact hP, va_K.moved hW.alike hK, hD⟩, hS.F ht⟩) hS.2.2 dL_shape_366
      · have hF := F_pos c4 hF
        refine lv_dconst1 hx hb dL_shape_347 ?_
        refine lv_goto (tgt := 357) hx hb dL_shape_348 (by decide) ?_
        refine lv_dcmp hx hb dL_shape_357 ?_
        refine lv_if_ne (tgt := 365) hx hb dL_shape_358 (by decide) (fun c7 => ?_) (fun c7 => ?_)
        · have hF := F_neg c7 hF
          refine lv_iconst (v := (0 : Int32)) hx hb dL_shape_365 (by decide) ?_
          have e50 := Option.some.inj hF
          subst e50
          exact W.zret (v := (0 : Int32)) hx hb hr (rfl) (fun t ht hW => ⟨⟨(0 : Int32), (), rfl, rfl, by rw [ht]; exact hP, va_K.moved hW.alike hK, hD⟩, hS.F ht⟩) hS.2.2 dL_shape_366
        · have hF := F_pos c7 hF
          refine lv_iconst (v := (1 : Int32)) hx hb dL_shape_361 (by decide) ?_
          refine lv_goto (tgt := 366) hx hb dL_shape_362 (by decide) ?_
          have e50 := Option.some.inj hF
          subst e50
          exact W.zret (v := (1 : Int32)) hx hb hr (rfl) (fun t ht hW => ⟨⟨(1 : Int32), (), rfl, rfl, by rw [ht]; exact hP, va_K.moved hW.alike hK, hD⟩, hS.F ht⟩) hS.2.2 dL_shape_366
  have K270 : ∀ (x2 : Int32) (x7 : Int32) (t0 : Bool) (H : Heap) (locs : List Loc), F_L_shape_270 v2 S x2 x7 t0 = some rr → va_P (dC, dI) vwCl ((W_LS cI a S)) H → va_D A ((W_LS cI a S)) → va_S A s.heap H locs → ∀ ls : Array Slot, lv_has ls 10 [(0, .ref (a 0)), (1, .int v2), (2, .int x2), (7, .int x7)] → W p l e (headSpec wsL_shape ({ frames := 8, cells := 0, slots := 0, locals := 147 } : Room)).room s m ([.ref (a 0), .int v2] : List Value).toArray below meth c H locs 0 0 (MQ below (va_Qi (fun (r' : Int32) (_ : Unit) => b2i rr = r') (fun _ : Unit => jB (dC, dI) [(cI, .int)] A ((W_LS cI a S))) A) ([.ref (a 0), .int v2] : List Value).toArray s 0 0 A) (F0 m 270 ls [.int (b2i t0)]) := by
    intro x2 x7 t0 H locs hF hP hD hS ls hl
    unfold F_L_shape_270 at hF
    refine lv_istore (lv' := [(8, .int (b2i t0)), (0, .ref (a 0)), (1, .int v2), (2, .int x2), (7, .int x7)]) hx hb dL_shape_270 hl (by decide) rfl (fun ls hl => ?_)
    refine lv_iload hx hb dL_shape_272 (lv_at hl 0 rfl) ?_
    refine lv_if_eq (tgt := 330) hx hb dL_shape_274 (by decide) (fun c8 => ?_) (fun c8 => ?_)
    · have hF := F_pos c8 hF
      refine lv_iconst (v := (0 : Int32)) hx hb dL_shape_330 (by decide) ?_
      exact K331 _ _ _ _ _ hF hP hD hS _ (lv_sub hl [1, 2, 3, 4] rfl)
    · have hF := F_neg c8 hF
      refine lv_iload_n hx hb dL_shape_277 rfl (lv_at hl 3 rfl) ?_
      refine lv_if_eq (tgt := 326) hx hb dL_shape_278 (by decide) (fun c9 => ?_) (fun c9 => ?_)
      · have hF := F_pos c9 hF
        refine lv_iconst (v := (1 : Int32)) hx hb dL_shape_326 (by decide) ?_
        refine lv_goto (tgt := 331) hx hb dL_shape_327 (by decide) ?_
        exact K331 _ _ _ _ _ hF hP hD hS _ (lv_sub hl [1, 2, 3, 4] rfl)
      · have hF := F_neg c9 hF
        refine lv_aload_n hx hb dL_shape_281 rfl (lv_at hl 1 rfl) ?_
        refine lv_iload_n hx hb dL_shape_282 rfl (lv_at hl 2 rfl) ?_
        refine lv_iconst (v := (0 : Int32)) hx hb dL_shape_283 (by decide) ?_
        refine lv_iconst (v := (4 : Int32)) hx hb dL_shape_284 (by decide) ?_
        obtain ⟨r10, h11, hF⟩ := ob1_some hF
        have h11 := okr_some h11
        have hPc : va_P (dC, dI) vwCl ((W_LS cI a S)) H := hP
        have hDc : va_D A ((W_LS cI a S)) := hD
        have hFc := jFreeW (ws := (W_LS cI a S)) hD hS hA
        refine va_calli (va_runV (As := [.int v2, .int (0 : Int32), .int (4 : Int32)]) (rest := []) ⟨hx, hb, hml, hown, hts⟩ (c_X4_node_ok l dC dI cI a H.size _ _ _ _ _ h11) (cwV 3 hts gL_shape_X4_node rfl rfl rfl (by decide +kernel) ⟨Nat.le_of_ble_eq_true rfl, Nat.le_of_ble_eq_true rfl⟩) (jPreV hK hPc hDc hN (ci := 4) rfl rfl) rfl rfl hl.1 rfl (lv_room (Nat.le_of_ble_eq_true rfl)) dL_shape_285 ⟨Nat.le_of_ble_eq_true rfl, Nat.le_of_ble_eq_true rfl⟩) hS (fun q _ h => hFc q h) hFc (fun r' u' t H locs ht hvm hw hB hz1 hk1 hS => ?_)
        subst hw
        obtain ⟨hP1, -, hD1⟩ := hB
        rw [ht] at hP1
        have hP : va_P (dC, dI) vwCl ((W_LS cI a S)) H := hP1
        have hD : va_D A ((W_LS cI a S)) := hD1.weaken (fun _ _ _ h => hFc _ h)
        refine lv_aload_n hx hb dL_shape_288 rfl (lv_at hl 1 rfl) ?_
        refine lv_iload_n hx hb dL_shape_289 rfl (lv_at hl 2 rfl) ?_
        refine lv_iconst (v := (0 : Int32)) hx hb dL_shape_290 (by decide) ?_
        obtain ⟨r12, h13, hF⟩ := ob1_some hF
        have h13 := okr_some h13
        have hPc : va_P (dC, dI) vwCl ((W_LS cI a S)) H := hP
        have hDc : va_D A ((W_LS cI a S)) := hD
        have hFc := jFreeW (ws := (W_LS cI a S)) hD hS hA
        refine va_calli (va_runV (As := [.int v2, .int (0 : Int32)]) (rest := [.int r10]) ⟨hx, hb, hml, hown, hts⟩ (c_X4_shape_ok l dC dI cI a H.size _ _ _ _ h13) (cwV 2 hts gL_shape_X4_shape rfl rfl rfl (by decide +kernel) ⟨Nat.le_of_ble_eq_true rfl, Nat.le_of_ble_eq_true rfl⟩) (jPreV hK hPc hDc hN (ci := 4) rfl rfl) rfl rfl hl.1 rfl (lv_room (Nat.le_of_ble_eq_true rfl)) dL_shape_291 ⟨Nat.le_of_ble_eq_true rfl, Nat.le_of_ble_eq_true rfl⟩) hS (fun q _ h => hFc q h) hFc (fun r' u' t H locs ht hvm hw hB hz1 hk1 hS => ?_)
        subst hw
        obtain ⟨hP1, -, hD1⟩ := hB
        rw [ht] at hP1
        have hP : va_P (dC, dI) vwCl ((W_LS cI a S)) H := hP1
        have hD : va_D A ((W_LS cI a S)) := hD1.weaken (fun _ _ _ h => hFc _ h)
        refine lv_icmp_ne (tgt := 330) hx hb dL_shape_294 (by decide) (fun c14 => ?_) (fun c14 => ?_)
        · have hF := F_neg c14 hF
          refine lv_iconst (v := (0 : Int32)) hx hb dL_shape_330 (by decide) ?_
          exact K331 _ _ _ _ _ hF hP hD hS _ (lv_sub hl [1, 2, 3, 4] rfl)
        · have hF := F_pos c14 hF
          refine lv_aload_n hx hb dL_shape_297 rfl (lv_at hl 1 rfl) ?_
          refine lv_iload_n hx hb dL_shape_298 rfl (lv_at hl 2 rfl) ?_
          refine lv_iconst (v := (0 : Int32)) hx hb dL_shape_299 (by decide) ?_
          refine lv_bipush (v := (6 : Int32)) hx hb dL_shape_300 (by decide) ?_
          obtain ⟨r15, h16, hF⟩ := ob1_some hF
          have h16 := okr_some h16
          have hPc : va_P (dC, dI) vwCl ((W_LS cI a S)) H := hP
          have hDc : va_D A ((W_LS cI a S)) := hD
          have hFc := jFreeW (ws := (W_LS cI a S)) hD hS hA
          refine va_calli (va_runV (As := [.int v2, .int (0 : Int32), .int (6 : Int32)]) (rest := []) ⟨hx, hb, hml, hown, hts⟩ (c_X4_node_ok l dC dI cI a H.size _ _ _ _ _ h16) (cwV 3 hts gL_shape_X4_node rfl rfl rfl (by decide +kernel) ⟨Nat.le_of_ble_eq_true rfl, Nat.le_of_ble_eq_true rfl⟩) (jPreV hK hPc hDc hN (ci := 4) rfl rfl) rfl rfl hl.1 rfl (lv_room (Nat.le_of_ble_eq_true rfl)) dL_shape_302 ⟨Nat.le_of_ble_eq_true rfl, Nat.le_of_ble_eq_true rfl⟩) hS (fun q _ h => hFc q h) hFc (fun r' u' t H locs ht hvm hw hB hz1 hk1 hS => ?_)
          subst hw
          obtain ⟨hP1, -, hD1⟩ := hB
          rw [ht] at hP1
          have hP : va_P (dC, dI) vwCl ((W_LS cI a S)) H := hP1
          have hD : va_D A ((W_LS cI a S)) := hD1.weaken (fun _ _ _ h => hFc _ h)
          refine lv_aload_n hx hb dL_shape_305 rfl (lv_at hl 1 rfl) ?_
          refine lv_iload_n hx hb dL_shape_306 rfl (lv_at hl 2 rfl) ?_
          refine lv_iconst (v := (0 : Int32)) hx hb dL_shape_307 (by decide) ?_
          obtain ⟨r17, h18, hF⟩ := ob1_some hF
          have h18 := okr_some h18
          have hPc : va_P (dC, dI) vwCl ((W_LS cI a S)) H := hP
          have hDc : va_D A ((W_LS cI a S)) := hD
          have hFc := jFreeW (ws := (W_LS cI a S)) hD hS hA
          refine va_calli (va_runV (As := [.int v2, .int (0 : Int32)]) (rest := [.int r15]) ⟨hx, hb, hml, hown, hts⟩ (c_X4_shape_ok l dC dI cI a H.size _ _ _ _ h18) (cwV 2 hts gL_shape_X4_shape rfl rfl rfl (by decide +kernel) ⟨Nat.le_of_ble_eq_true rfl, Nat.le_of_ble_eq_true rfl⟩) (jPreV hK hPc hDc hN (ci := 4) rfl rfl) rfl rfl hl.1 rfl (lv_room (Nat.le_of_ble_eq_true rfl)) dL_shape_308 ⟨Nat.le_of_ble_eq_true rfl, Nat.le_of_ble_eq_true rfl⟩) hS (fun q _ h => hFc q h) hFc (fun r' u' t H locs ht hvm hw hB hz1 hk1 hS => ?_)
          subst hw
          obtain ⟨hP1, -, hD1⟩ := hB
          rw [ht] at hP1
          have hP : va_P (dC, dI) vwCl ((W_LS cI a S)) H := hP1
          have hD : va_D A ((W_LS cI a S)) := hD1.weaken (fun _ _ _ h => hFc _ h)
          refine lv_icmp_ne (tgt := 330) hx hb dL_shape_311 (by decide) (fun c19 => ?_) (fun c19 => ?_)
          · have hF := F_neg c19 hF
            refine lv_iconst (v := (0 : Int32)) hx hb dL_shape_330 (by decide) ?_
            exact K331 _ _ _ _ _ hF hP hD hS _ (lv_sub hl [1, 2, 3, 4] rfl)
          · have hF := F_pos c19 hF
            refine lv_aload_n hx hb dL_shape_314 rfl (lv_at hl 1 rfl) ?_
            refine lv_iload_n hx hb dL_shape_315 rfl (lv_at hl 2 rfl) ?_
            refine lv_iconst (v := (0 : Int32)) hx hb dL_shape_316 (by decide) ?_
            refine lv_iconst (v := (0 : Int32)) hx hb dL_shape_317 (by decide) ?_
            obtain ⟨r20, h21, hF⟩ := ob1_some hF
            have h21 := okr_some h21
            have hPc : va_P (dC, dI) vwCl ((W_LS cI a S)) H := hP
            have hDc : va_D A ((W_LS cI a S)) := hD
            have hFc := jFreeW (ws := (W_LS cI a S)) hD hS hA
            refine va_calli (va_runV (As := [.int v2, .int (0 : Int32), .int (0 : Int32)]) (rest := []) ⟨hx, hb, hml, hown, hts⟩ (c_X4_node_ok l dC dI cI a H.size _ _ _ _ _ h21) (cwV 3 hts gL_shape_X4_node rfl rfl rfl (by decide +kernel) ⟨Nat.le_of_ble_eq_true rfl, Nat.le_of_ble_eq_true rfl⟩) (jPreV hK hPc hDc hN (ci := 4) rfl rfl) rfl rfl hl.1 rfl (lv_room (Nat.le_of_ble_eq_true rfl)) dL_shape_318 ⟨Nat.le_of_ble_eq_true rfl, Nat.le_of_ble_eq_true rfl⟩) hS (fun q _ h => hFc q h) hFc (fun r' u' t H locs ht hvm hw hB hz1 hk1 hS => ?_)
            subst hw
            obtain ⟨hP1, -, hD1⟩ := hB
            rw [ht] at hP1
            have hP : va_P (dC, dI) vwCl ((W_LS cI a S)) H := hP1
            have hD : va_D A ((W_LS cI a S)) := hD1.weaken (fun _ _ _ h => hFc _ h)
            refine lv_bipush (v := (6 : Int32)) hx hb dL_shape_321 (by decide) ?_
            refine lv_icmp_ne (tgt := 330) hx hb dL_shape_323 (by decide) (fun c22 => ?_) (fun c22 => ?_)
            · have hF := F_neg c22 hF
              refine lv_iconst (v := (0 : Int32)) hx hb dL_shape_330 (by decide) ?_
              exact K331 _ _ _ _ _ hF hP hD hS _ (lv_sub hl [1, 2, 3, 4] rfl)
            · have hF := F_pos c22 hF
              refine lv_iconst (v := (1 : Int32)) hx hb dL_shape_326 (by decide) ?_
              refine lv_goto (tgt := 331) hx hb dL_shape_327 (by decide) ?_
              exact K331 _ _ _ _ _ hF hP hD hS _ (lv_sub hl [1, 2, 3, 4] rfl)
  have K211 : ∀ (x2 : Int32) (x3 : Int32) (x4 : Int32) (x5 : Int32) (x6 : Int32) (x7 : Int32) (x8 : Bool) (H : Heap) (locs : List Loc), F_L_shape_211 v2 S x2 x3 x4 x5 x6 x7 x8 = some rr → va_P (dC, dI) vwCl ((W_LS cI a S)) H → va_D A ((W_LS cI a S)) → va_S A s.heap H locs → ∀ ls : Array Slot, lv_has ls 10 [(0, .ref (a 0)), (1, .int v2), (2, .int x2), (3, .int x3), (4, .int x4), (5, .int x5), (6, .int x6), (7, .int x7), (8, .int (b2i x8))] → W p l e (headSpec wsL_shape ({ frames := 8, cells := 0, slots := 0, locals := 147 } : Room)).room s m ([.ref (a 0), .int v2] : List Value).toArray below meth c H locs 0 0 (MQ below (va_Qi (fun (r' : Int32) (_ : Unit) => b2i rr = r') (fun _ : Unit => jB (dC, dI) [(cI, .int)] A ((W_LS cI a S))) A) ([.ref (a 0), .int v2] : List Value).toArray s 0 0 A) (F0 m 211 ls []) := by
    intro x2 x3 x4 x5 x6 x7 x8 H locs hF hP hD hS ls hl
    unfold F_L_shape_211 at hF
    refine lv_iload hx hb dL_shape_211 (lv_at hl 8 rfl) ?_
    refine lv_if_eq (tgt := 269) hx hb dL_shape_213 (by decide) (fun c23 => ?_) (fun c23 => ?_)
    · have hF := F_pos c23 hF
      refine lv_iconst (v := (0 : Int32)) hx hb dL_shape_269 (by decide) ?_
      exact K270 _ _ _ _ _ hF hP hD hS _ (lv_sub hl [0, 1, 2, 7] rfl)
    · have hF := F_neg c23 hF
      refine lv_iload_n hx hb dL_shape_216 rfl (lv_at hl 3 rfl) ?_
      refine lv_aload_n hx hb dL_shape_217 rfl (lv_at hl 0 rfl) ?_
      refine lv_iload_n hx hb dL_shape_218 rfl (lv_at hl 1 rfl) ?_
      refine lv_iconst (v := (2 : Int32)) hx hb dL_shape_219 (by decide) ?_
      obtain ⟨r24, h25, hF⟩ := ob1_some hF
      have h25 := okr_some h25
      have hPc : va_P (dC, dI) vwCl ((W_LS cI a S)) H := hP
      have hDc : va_D A ((W_LS cI a S)) := hD
      have hFc := jFreeW (ws := (W_LS cI a S)) hD hS hA
      refine va_calli (va_runV (As := [.int v2, .int (2 : Int32)]) (rest := [.int x3]) ⟨hx, hb, hml, hown, hts⟩ (c_X4_shape_ok l dC dI cI a H.size _ _ _ _ h25) (cwV 2 hts gL_shape_X4_shape rfl rfl rfl (by decide +kernel) ⟨Nat.le_of_ble_eq_true rfl, Nat.le_of_ble_eq_true rfl⟩) (jPreV hK hPc hDc hN (ci := 4) rfl rfl) rfl rfl hl.1 rfl (lv_room (Nat.le_of_ble_eq_true rfl)) dL_shape_220 ⟨Nat.le_of_ble_eq_true rfl, Nat.le_of_ble_eq_true rfl⟩) hS (fun q _ h => hFc q h) hFc (fun r' u' t H locs ht hvm hw hB hz1 hk1 hS => ?_)
      subst hw
      obtain ⟨hP1, -, hD1⟩ := hB
      rw [ht] at hP1
      have hP : va_P (dC, dI) vwCl ((W_LS cI a S)) H := hP1
      have hD : va_D A ((W_LS cI a S)) := hD1.weaken (fun _ _ _ h => hFc _ h)
      refine lv_icmp_ne (tgt := 269) hx hb dL_shape_223 (by decide) (fun c26 => ?_) (fun c26 => ?_)
      · have hF := F_neg c26 hF
        refine lv_iconst (v := (0 : Int32)) hx hb dL_shape_269 (by decide) ?_
        exact K270 _ _ _ _ _ hF hP hD hS _ (lv_sub hl [0, 1, 2, 7] rfl)
      · have hF := F_pos c26 hF
        refine lv_iload hx hb dL_shape_226 (lv_at hl 4 rfl) ?_
        refine lv_aload_n hx hb dL_shape_228 rfl (lv_at hl 0 rfl) ?_
        refine lv_iload_n hx hb dL_shape_229 rfl (lv_at hl 1 rfl) ?_
        refine lv_iconst (v := (3 : Int32)) hx hb dL_shape_230 (by decide) ?_
        obtain ⟨r27, h28, hF⟩ := ob1_some hF
        have h28 := okr_some h28
        have hPc : va_P (dC, dI) vwCl ((W_LS cI a S)) H := hP
        have hDc : va_D A ((W_LS cI a S)) := hD
        have hFc := jFreeW (ws := (W_LS cI a S)) hD hS hA
        refine va_calli (va_runV (As := [.int v2, .int (3 : Int32)]) (rest := [.int x4]) ⟨hx, hb, hml, hown, hts⟩ (c_X4_shape_ok l dC dI cI a H.size _ _ _ _ h28) (cwV 2 hts gL_shape_X4_shape rfl rfl rfl (by decide +kernel) ⟨Nat.le_of_ble_eq_true rfl, Nat.le_of_ble_eq_true rfl⟩) (jPreV hK hPc hDc hN (ci := 4) rfl rfl) rfl rfl hl.1 rfl (lv_room (Nat.le_of_ble_eq_true rfl)) dL_shape_231 ⟨Nat.le_of_ble_eq_true rfl, Nat.le_of_ble_eq_true rfl⟩) hS (fun q _ h => hFc q h) hFc (fun r' u' t H locs ht hvm hw hB hz1 hk1 hS => ?_)
        subst hw
        obtain ⟨hP1, -, hD1⟩ := hB
        rw [ht] at hP1
        have hP : va_P (dC, dI) vwCl ((W_LS cI a S)) H := hP1
        have hD : va_D A ((W_LS cI a S)) := hD1.weaken (fun _ _ _ h => hFc _ h)
        refine lv_icmp_ne (tgt := 269) hx hb dL_shape_234 (by decide) (fun c29 => ?_) (fun c29 => ?_)
        · have hF := F_neg c29 hF
          refine lv_iconst (v := (0 : Int32)) hx hb dL_shape_269 (by decide) ?_
          exact K270 _ _ _ _ _ hF hP hD hS _ (lv_sub hl [0, 1, 2, 7] rfl)
        · have hF := F_pos c29 hF
          refine lv_iload hx hb dL_shape_237 (lv_at hl 5 rfl) ?_
          refine lv_aload_n hx hb dL_shape_239 rfl (lv_at hl 0 rfl) ?_
          refine lv_iload_n hx hb dL_shape_240 rfl (lv_at hl 1 rfl) ?_
          refine lv_iconst (v := (4 : Int32)) hx hb dL_shape_241 (by decide) ?_
          obtain ⟨r30, h31, hF⟩ := ob1_some hF
          have h31 := okr_some h31
          have hPc : va_P (dC, dI) vwCl ((W_LS cI a S)) H := hP
          have hDc : va_D A ((W_LS cI a S)) := hD
          have hFc := jFreeW (ws := (W_LS cI a S)) hD hS hA
          refine va_calli (va_runV (As := [.int v2, .int (4 : Int32)]) (rest := [.int x5]) ⟨hx, hb, hml, hown, hts⟩ (c_X4_shape_ok l dC dI cI a H.size _ _ _ _ h31) (cwV 2 hts gL_shape_X4_shape rfl rfl rfl (by decide +kernel) ⟨Nat.le_of_ble_eq_true rfl, Nat.le_of_ble_eq_true rfl⟩) (jPreV hK hPc hDc hN (ci := 4) rfl rfl) rfl rfl hl.1 rfl (lv_room (Nat.le_of_ble_eq_true rfl)) dL_shape_242 ⟨Nat.le_of_ble_eq_true rfl, Nat.le_of_ble_eq_true rfl⟩) hS (fun q _ h => hFc q h) hFc (fun r' u' t H locs ht hvm hw hB hz1 hk1 hS => ?_)
          subst hw
          obtain ⟨hP1, -, hD1⟩ := hB
          rw [ht] at hP1
          have hP : va_P (dC, dI) vwCl ((W_LS cI a S)) H := hP1
          have hD : va_D A ((W_LS cI a S)) := hD1.weaken (fun _ _ _ h => hFc _ h)
          refine lv_icmp_ne (tgt := 269) hx hb dL_shape_245 (by decide) (fun c32 => ?_) (fun c32 => ?_)
          · have hF := F_neg c32 hF
            refine lv_iconst (v := (0 : Int32)) hx hb dL_shape_269 (by decide) ?_
            exact K270 _ _ _ _ _ hF hP hD hS _ (lv_sub hl [0, 1, 2, 7] rfl)
          · have hF := F_pos c32 hF
            refine lv_iload hx hb dL_shape_248 (lv_at hl 6 rfl) ?_
            refine lv_aload_n hx hb dL_shape_250 rfl (lv_at hl 0 rfl) ?_
            refine lv_iload_n hx hb dL_shape_251 rfl (lv_at hl 1 rfl) ?_
            refine lv_iconst (v := (5 : Int32)) hx hb dL_shape_252 (by decide) ?_
            obtain ⟨r33, h34, hF⟩ := ob1_some hF
            have h34 := okr_some h34
            have hPc : va_P (dC, dI) vwCl ((W_LS cI a S)) H := hP
            have hDc : va_D A ((W_LS cI a S)) := hD
            have hFc := jFreeW (ws := (W_LS cI a S)) hD hS hA
            refine va_calli (va_runV (As := [.int v2, .int (5 : Int32)]) (rest := [.int x6]) ⟨hx, hb, hml, hown, hts⟩ (c_X4_shape_ok l dC dI cI a H.size _ _ _ _ h34) (cwV 2 hts gL_shape_X4_shape rfl rfl rfl (by decide +kernel) ⟨Nat.le_of_ble_eq_true rfl, Nat.le_of_ble_eq_true rfl⟩) (jPreV hK hPc hDc hN (ci := 4) rfl rfl) rfl rfl hl.1 rfl (lv_room (Nat.le_of_ble_eq_true rfl)) dL_shape_253 ⟨Nat.le_of_ble_eq_true rfl, Nat.le_of_ble_eq_true rfl⟩) hS (fun q _ h => hFc q h) hFc (fun r' u' t H locs ht hvm hw hB hz1 hk1 hS => ?_)
            subst hw
            obtain ⟨hP1, -, hD1⟩ := hB
            rw [ht] at hP1
            have hP : va_P (dC, dI) vwCl ((W_LS cI a S)) H := hP1
            have hD : va_D A ((W_LS cI a S)) := hD1.weaken (fun _ _ _ h => hFc _ h)
            refine lv_icmp_ne (tgt := 269) hx hb dL_shape_256 (by decide) (fun c35 => ?_) (fun c35 => ?_)
            · have hF := F_neg c35 hF
              refine lv_iconst (v := (0 : Int32)) hx hb dL_shape_269 (by decide) ?_
              exact K270 _ _ _ _ _ hF hP hD hS _ (lv_sub hl [0, 1, 2, 7] rfl)
            · have hF := F_pos c35 hF
              refine lv_iload hx hb dL_shape_259 (lv_at hl 6 rfl) ?_
              refine lv_iconst (v := (5 : Int32)) hx hb dL_shape_261 (by decide) ?_
              refine lv_icmp_ge (tgt := 269) hx hb dL_shape_262 (by decide) (fun c36 => ?_) (fun c36 => ?_)
              · have hF := F_pos c36 hF
                refine lv_iconst (v := (0 : Int32)) hx hb dL_shape_269 (by decide) ?_
                exact K270 _ _ _ _ _ hF hP hD hS _ (lv_sub hl [0, 1, 2, 7] rfl)
              · have hF := F_neg c36 hF
                refine lv_iconst (v := (1 : Int32)) hx hb dL_shape_265 (by decide) ?_
                refine lv_goto (tgt := 270) hx hb dL_shape_266 (by decide) ?_
                exact K270 _ _ _ _ _ hF hP hD hS _ (lv_sub hl [0, 1, 2, 7] rfl)
  have K63 : ∀ (n63 : Nat) (x2 : Int32) (x3 : Int32) (x4 : Int32) (x5 : Int32) (x6 : Int32) (x7 : Int32) (x8 : Bool) (x9 : Int32) (H : Heap) (locs : List Loc), F_L_shape_63 v2 S n63 x2 x3 x4 x5 x6 x7 x8 x9 = some rr → va_P (dC, dI) vwCl ((W_LS cI a S)) H → va_D A ((W_LS cI a S)) → va_S A s.heap H locs → ∀ ls : Array Slot, lv_has ls 10 [(0, .ref (a 0)), (1, .int v2), (2, .int x2), (3, .int x3), (4, .int x4), (5, .int x5), (6, .int x6), (7, .int x7), (8, .int (b2i x8)), (9, .int x9)] → W p l e (headSpec wsL_shape ({ frames := 8, cells := 0, slots := 0, locals := 147 } : Room)).room s m ([.ref (a 0), .int v2] : List Value).toArray below meth c H locs 0 0 (MQ below (va_Qi (fun (r' : Int32) (_ : Unit) => b2i rr = r') (fun _ : Unit => jB (dC, dI) [(cI, .int)] A ((W_LS cI a S))) A) ([.ref (a 0), .int v2] : List Value).toArray s 0 0 A) (F0 m 63 ls []) := by
    intro n63
    induction n63 with
    | zero => intro x2 x3 x4 x5 x6 x7 x8 x9 H locs hF; exact nomatch hF
    | succ n63 ih63 =>
      intro x2 x3 x4 x5 x6 x7 x8 x9 H locs hF hP hD hS ls hl
      rw [F_L_shape_63_s] at hF
      have K174 : ∀ (x2 : Int32) (x3 : Int32) (x4 : Int32) (x5 : Int32) (x6 : Int32) (x8 : Bool) (x9 : Int32) (t0 : Int32) (t1 : Bool) (H : Heap) (locs : List Loc), F_L_shape_174 v2 S (F_L_shape_63 v2 S n63) x2 x3 x4 x5 x6 x8 x9 t0 t1 = some rr → va_P (dC, dI) vwCl ((W_LS cI a S)) H → va_D A ((W_LS cI a S)) → va_S A s.heap H locs → ∀ ls : Array Slot, lv_has ls 10 [(0, .ref (a 0)), (1, .int v2), (2, .int x2), (3, .int x3), (4, .int x4), (5, .int x5), (6, .int x6), (8, .int (b2i x8)), (9, .int x9)] → W p l e (headSpec wsL_shape ({ frames := 8, cells := 0, slots := 0, locals := 147 } : Room)).room s m ([.ref (a 0), .int v2] : List Value).toArray below meth c H locs 0 0 (MQ below (va_Qi (fun (r' : Int32) (_ : Unit) => b2i rr = r') (fun _ : Unit => jB (dC, dI) [(cI, .int)] A ((W_LS cI a S))) A) ([.ref (a 0), .int v2] : List Value).toArray s 0 0 A) (F0 m 174 ls [.int (b2i t1), .int t0]) := by
        intro x2 x3 x4 x5 x6 x8 x9 t0 t1 H locs hF hP hD hS ls hl
        unfold F_L_shape_174 at hF
        refine lv_iadd hx hb dL_shape_174 ?_
        refine lv_istore (lv' := [(7, .int (t0 + (b2i t1))), (0, .ref (a 0)), (1, .int v2), (2, .int x2), (3, .int x3), (4, .int x4), (5, .int x5), (6, .int x6), (8, .int (b2i x8)), (9, .int x9)]) hx hb dL_shape_175 hl (by decide) rfl (fun ls hl => ?_)
        refine lv_aload_n hx hb dL_shape_177 rfl (lv_at hl 1 rfl) ?_
        refine lv_iload_n hx hb dL_shape_178 rfl (lv_at hl 2 rfl) ?_
        refine lv_iload hx hb dL_shape_179 (lv_at hl 9 rfl) ?_
        refine lv_iconst (v := (3 : Int32)) hx hb dL_shape_181 (by decide) ?_
        obtain ⟨r37, h38, hF⟩ := ob1_some hF
        have h38 := okr_some h38
        have hPc : va_P (dC, dI) vwCl ((W_LS cI a S)) H := hP
        have hDc : va_D A ((W_LS cI a S)) := hD
        have hFc := jFreeW (ws := (W_LS cI a S)) hD hS hA
        refine va_calli (va_runV (As := [.int v2, .int x9, .int (3 : Int32)]) (rest := []) ⟨hx, hb, hml, hown, hts⟩ (c_X4_node_ok l dC dI cI a H.size _ _ _ _ _ h38) (cwV 3 hts gL_shape_X4_node rfl rfl rfl (by decide +kernel) ⟨Nat.le_of_ble_eq_true rfl, Nat.le_of_ble_eq_true rfl⟩) (jPreV hK hPc hDc hN (ci := 4) rfl rfl) rfl rfl hl.1 rfl (lv_room (Nat.le_of_ble_eq_true rfl)) dL_shape_182 ⟨Nat.le_of_ble_eq_true rfl, Nat.le_of_ble_eq_true rfl⟩) hS (fun q _ h => hFc q h) hFc (fun r' u' t H locs ht hvm hw hB hz1 hk1 hS => ?_)
        subst hw
        obtain ⟨hP1, -, hD1⟩ := hB
        rw [ht] at hP1
        have hP : va_P (dC, dI) vwCl ((W_LS cI a S)) H := hP1
        have hD : va_D A ((W_LS cI a S)) := hD1.weaken (fun _ _ _ h => hFc _ h)
        refine lv_iload hx hb dL_shape_185 (lv_at hl 7 rfl) ?_
        refine lv_icmp_le (tgt := 201) hx hb dL_shape_187 (by decide) (fun c39 => ?_) (fun c39 => ?_)
        · have hF := F_pos c39 hF
          refine lv_iload hx hb dL_shape_201 (lv_at hl 7 rfl) ?_
          refine lv_istore (lv' := [(6, .int x6), (7, .int (t0 + (b2i t1))), (0, .ref (a 0)), (1, .int v2), (2, .int x2), (3, .int x3), (4, .int x4), (5, .int x5), (8, .int (b2i x8)), (9, .int x9)]) hx hb dL_shape_203 hl (by decide) rfl (fun ls hl => ?_)
          refine lv_iinc (v := (x9 + (1 : Int32))) (lv' := [(9, .int (x9 + (1 : Int32))), (6, .int x6), (7, .int (t0 + (b2i t1))), (0, .ref (a 0)), (1, .int v2), (2, .int x2), (3, .int x3), (4, .int x4), (5, .int x5), (8, .int (b2i x8))]) hx hb dL_shape_205 hl (k := 9) rfl rfl (by decide) rfl (fun ls hl => ?_)
          refine lv_goto (tgt := 63) hx hb dL_shape_208 (by decide) ?_
          exact ih63 _ _ _ _ _ _ _ _ _ _ hF hP hD hS _ (lv_sub hl [3, 4, 5, 6, 7, 8, 1, 2, 9, 0] rfl)
        · have hF := F_neg c39 hF
          refine lv_aload_n hx hb dL_shape_190 rfl (lv_at hl 1 rfl) ?_
          refine lv_iload_n hx hb dL_shape_191 rfl (lv_at hl 2 rfl) ?_
          refine lv_iload hx hb dL_shape_192 (lv_at hl 9 rfl) ?_
          refine lv_iconst (v := (3 : Int32)) hx hb dL_shape_194 (by decide) ?_
          obtain ⟨r40, h41, hF⟩ := ob1_some hF
          have h41 := okr_some h41
          have hPc : va_P (dC, dI) vwCl ((W_LS cI a S)) H := hP
          have hDc : va_D A ((W_LS cI a S)) := hD
          have hFc := jFreeW (ws := (W_LS cI a S)) hD hS hA
          refine va_calli (va_runV (As := [.int v2, .int x9, .int (3 : Int32)]) (rest := []) ⟨hx, hb, hml, hown, hts⟩ (c_X4_node_ok l dC dI cI a H.size _ _ _ _ _ h41) (cwV 3 hts gL_shape_X4_node rfl rfl rfl (by decide +kernel) ⟨Nat.le_of_ble_eq_true rfl, Nat.le_of_ble_eq_true rfl⟩) (jPreV hK hPc hDc hN (ci := 4) rfl rfl) rfl rfl hl.1 rfl (lv_room (Nat.le_of_ble_eq_true rfl)) dL_shape_195 ⟨Nat.le_of_ble_eq_true rfl, Nat.le_of_ble_eq_true rfl⟩) hS (fun q _ h => hFc q h) hFc (fun r' u' t H locs ht hvm hw hB hz1 hk1 hS => ?_)
          subst hw
          obtain ⟨hP1, -, hD1⟩ := hB
          rw [ht] at hP1
          have hP : va_P (dC, dI) vwCl ((W_LS cI a S)) H := hP1
          have hD : va_D A ((W_LS cI a S)) := hD1.weaken (fun _ _ _ h => hFc _ h)
          refine lv_goto (tgt := 203) hx hb dL_shape_198 (by decide) ?_
          refine lv_istore (lv' := [(6, .int r40), (7, .int (t0 + (b2i t1))), (0, .ref (a 0)), (1, .int v2), (2, .int x2), (3, .int x3), (4, .int x4), (5, .int x5), (8, .int (b2i x8)), (9, .int x9)]) hx hb dL_shape_203 hl (by decide) rfl (fun ls hl => ?_)
          refine lv_iinc (v := (x9 + (1 : Int32))) (lv' := [(9, .int (x9 + (1 : Int32))), (6, .int r40), (7, .int (t0 + (b2i t1))), (0, .ref (a 0)), (1, .int v2), (2, .int x2), (3, .int x3), (4, .int x4), (5, .int x5), (8, .int (b2i x8))]) hx hb dL_shape_205 hl (k := 9) rfl rfl (by decide) rfl (fun ls hl => ?_)
          refine lv_goto (tgt := 63) hx hb dL_shape_208 (by decide) ?_
          exact ih63 _ _ _ _ _ _ _ _ _ _ hF hP hD hS _ (lv_sub hl [3, 4, 5, 6, 7, 8, 1, 2, 9, 0] rfl)
      have K102 : ∀ (x2 : Int32) (x4 : Int32) (x5 : Int32) (x6 : Int32) (x7 : Int32) (x8 : Bool) (x9 : Int32) (t0 : Int32) (t1 : Bool) (H : Heap) (locs : List Loc), F_L_shape_102 v2 S (F_L_shape_63 v2 S n63) x2 x4 x5 x6 x7 x8 x9 t0 t1 = some rr → va_P (dC, dI) vwCl ((W_LS cI a S)) H → va_D A ((W_LS cI a S)) → va_S A s.heap H locs → ∀ ls : Array Slot, lv_has ls 10 [(0, .ref (a 0)), (1, .int v2), (2, .int x2), (4, .int x4), (5, .int x5), (6, .int x6), (7, .int x7), (8, .int (b2i x8)), (9, .int x9)] → W p l e (headSpec wsL_shape ({ frames := 8, cells := 0, slots := 0, locals := 147 } : Room)).room s m ([.ref (a 0), .int v2] : List Value).toArray below meth c H locs 0 0 (MQ below (va_Qi (fun (r' : Int32) (_ : Unit) => b2i rr = r') (fun _ : Unit => jB (dC, dI) [(cI, .int)] A ((W_LS cI a S))) A) ([.ref (a 0), .int v2] : List Value).toArray s 0 0 A) (F0 m 102 ls [.int (b2i t1), .int t0]) := by
        intro x2 x4 x5 x6 x7 x8 x9 t0 t1 H locs hF hP hD hS ls hl
        unfold F_L_shape_102 at hF
        refine lv_iadd hx hb dL_shape_102 ?_
        refine lv_istore_n (lv' := [(3, .int (t0 + (b2i t1))), (0, .ref (a 0)), (1, .int v2), (2, .int x2), (4, .int x4), (5, .int x5), (6, .int x6), (7, .int x7), (8, .int (b2i x8)), (9, .int x9)]) hx hb dL_shape_103 rfl hl (by decide) rfl (fun ls hl => ?_)
        refine lv_iload hx hb dL_shape_104 (lv_at hl 4 rfl) ?_
        refine lv_aload_n hx hb dL_shape_106 rfl (lv_at hl 1 rfl) ?_
        refine lv_iload_n hx hb dL_shape_107 rfl (lv_at hl 2 rfl) ?_
        refine lv_iload hx hb dL_shape_108 (lv_at hl 9 rfl) ?_
        refine lv_bipush (v := (7 : Int32)) hx hb dL_shape_110 (by decide) ?_
        obtain ⟨r42, h43, hF⟩ := ob1_some hF
        have h43 := okr_some h43
        have hPc : va_P (dC, dI) vwCl ((W_LS cI a S)) H := hP
        have hDc : va_D A ((W_LS cI a S)) := hD
        have hFc := jFreeW (ws := (W_LS cI a S)) hD hS hA
        refine va_calli (va_runV (As := [.int v2, .int x9, .int (7 : Int32)]) (rest := [.int x4]) ⟨hx, hb, hml, hown, hts⟩ (c_X4_node_ok l dC dI cI a H.size _ _ _ _ _ h43) (cwV 3 hts gL_shape_X4_node rfl rfl rfl (by decide +kernel) ⟨Nat.le_of_ble_eq_true rfl, Nat.le_of_ble_eq_true rfl⟩) (jPreV hK hPc hDc hN (ci := 4) rfl rfl) rfl rfl hl.1 rfl (lv_room (Nat.le_of_ble_eq_true rfl)) dL_shape_112 ⟨Nat.le_of_ble_eq_true rfl, Nat.le_of_ble_eq_true rfl⟩) hS (fun q _ h => hFc q h) hFc (fun r' u' t H locs ht hvm hw hB hz1 hk1 hS => ?_)
        subst hw
        obtain ⟨hP1, -, hD1⟩ := hB
        rw [ht] at hP1
        have hP : va_P (dC, dI) vwCl ((W_LS cI a S)) H := hP1
        have hD : va_D A ((W_LS cI a S)) := hD1.weaken (fun _ _ _ h => hFc _ h)
        refine lv_iadd hx hb dL_shape_115 ?_
        refine lv_istore (lv' := [(4, .int (x4 + r42)), (3, .int (t0 + (b2i t1))), (0, .ref (a 0)), (1, .int v2), (2, .int x2), (5, .int x5), (6, .int x6), (7, .int x7), (8, .int (b2i x8)), (9, .int x9)]) hx hb dL_shape_116 hl (by decide) rfl (fun ls hl => ?_)
        refine lv_iload hx hb dL_shape_118 (lv_at hl 5 rfl) ?_
        refine lv_aload_n hx hb dL_shape_120 rfl (lv_at hl 2 rfl) ?_
        refine lv_iload_n hx hb dL_shape_121 rfl (lv_at hl 3 rfl) ?_
        refine lv_iload hx hb dL_shape_122 (lv_at hl 9 rfl) ?_
        refine lv_iconst (v := (5 : Int32)) hx hb dL_shape_124 (by decide) ?_
        obtain ⟨r44, h45, hF⟩ := ob1_some hF
        have h45 := okr_some h45
        have hPc : va_P (dC, dI) vwCl ((W_LS cI a S)) H := hP
        have hDc : va_D A ((W_LS cI a S)) := hD
        have hFc := jFreeW (ws := (W_LS cI a S)) hD hS hA
        refine va_calli (va_runV (As := [.int v2, .int x9, .int (5 : Int32)]) (rest := [.int x5]) ⟨hx, hb, hml, hown, hts⟩ (c_X4_node_ok l dC dI cI a H.size _ _ _ _ _ h45) (cwV 3 hts gL_shape_X4_node rfl rfl rfl (by decide +kernel) ⟨Nat.le_of_ble_eq_true rfl, Nat.le_of_ble_eq_true rfl⟩) (jPreV hK hPc hDc hN (ci := 4) rfl rfl) rfl rfl hl.1 rfl (lv_room (Nat.le_of_ble_eq_true rfl)) dL_shape_125 ⟨Nat.le_of_ble_eq_true rfl, Nat.le_of_ble_eq_true rfl⟩) hS (fun q _ h => hFc q h) hFc (fun r' u' t H locs ht hvm hw hB hz1 hk1 hS => ?_)
        subst hw
        obtain ⟨hP1, -, hD1⟩ := hB
        rw [ht] at hP1
        have hP : va_P (dC, dI) vwCl ((W_LS cI a S)) H := hP1
        have hD : va_D A ((W_LS cI a S)) := hD1.weaken (fun _ _ _ h => hFc _ h)
        refine lv_iadd hx hb dL_shape_128 ?_
        refine lv_istore (lv' := [(5, .int (x5 + r44)), (4, .int (x4 + r42)), (3, .int (t0 + (b2i t1))), (0, .ref (a 0)), (1, .int v2), (2, .int x2), (6, .int x6), (7, .int x7), (8, .int (b2i x8)), (9, .int x9)]) hx hb dL_shape_129 hl (by decide) rfl (fun ls hl => ?_)
        refine lv_iload hx hb dL_shape_131 (lv_at hl 7 rfl) ?_
        refine lv_aload_n hx hb dL_shape_133 rfl (lv_at hl 3 rfl) ?_
        refine lv_iload_n hx hb dL_shape_134 rfl (lv_at hl 4 rfl) ?_
        refine lv_iload hx hb dL_shape_135 (lv_at hl 9 rfl) ?_
        refine lv_iconst (v := (0 : Int32)) hx hb dL_shape_137 (by decide) ?_
        obtain ⟨r46, h47, hF⟩ := ob1_some hF
        have h47 := okr_some h47
        have hPc : va_P (dC, dI) vwCl ((W_LS cI a S)) H := hP
        have hDc : va_D A ((W_LS cI a S)) := hD
        have hFc := jFreeW (ws := (W_LS cI a S)) hD hS hA
        refine va_calli (va_runV (As := [.int v2, .int x9, .int (0 : Int32)]) (rest := [.int x7]) ⟨hx, hb, hml, hown, hts⟩ (c_X4_node_ok l dC dI cI a H.size _ _ _ _ _ h47) (cwV 3 hts gL_shape_X4_node rfl rfl rfl (by decide +kernel) ⟨Nat.le_of_ble_eq_true rfl, Nat.le_of_ble_eq_true rfl⟩) (jPreV hK hPc hDc hN (ci := 4) rfl rfl) rfl rfl hl.1 rfl (lv_room (Nat.le_of_ble_eq_true rfl)) dL_shape_138 ⟨Nat.le_of_ble_eq_true rfl, Nat.le_of_ble_eq_true rfl⟩) hS (fun q _ h => hFc q h) hFc (fun r' u' t H locs ht hvm hw hB hz1 hk1 hS => ?_)
        subst hw
        obtain ⟨hP1, -, hD1⟩ := hB
        rw [ht] at hP1
        have hP : va_P (dC, dI) vwCl ((W_LS cI a S)) H := hP1
        have hD : va_D A ((W_LS cI a S)) := hD1.weaken (fun _ _ _ h => hFc _ h)
        refine lv_bipush (v := (7 : Int32)) hx hb dL_shape_141 (by decide) ?_
        refine lv_icmp_ge (tgt := 173) hx hb dL_shape_143 (by decide) (fun c48 => ?_) (fun c48 => ?_)
        · have hF := F_pos c48 hF
          refine lv_iconst (v := (0 : Int32)) hx hb dL_shape_173 (by decide) ?_
          exact K174 _ _ _ _ _ _ _ _ _ _ _ hF hP hD hS _ (lv_sub hl [3, 4, 5, 2, 1, 0, 6, 8, 9] rfl)
        · have hF := F_neg c48 hF
          refine lv_aload_n hx hb dL_shape_146 rfl (lv_at hl 3 rfl) ?_
          refine lv_iload_n hx hb dL_shape_147 rfl (lv_at hl 4 rfl) ?_
          refine lv_iload hx hb dL_shape_148 (lv_at hl 9 rfl) ?_
          refine lv_bipush (v := (7 : Int32)) hx hb dL_shape_150 (by decide) ?_
          obtain ⟨r49, h50, hF⟩ := ob1_some hF
          have h50 := okr_some h50
          have hPc : va_P (dC, dI) vwCl ((W_LS cI a S)) H := hP
          have hDc : va_D A ((W_LS cI a S)) := hD
          have hFc := jFreeW (ws := (W_LS cI a S)) hD hS hA
          refine va_calli (va_runV (As := [.int v2, .int x9, .int (7 : Int32)]) (rest := [.int x7]) ⟨hx, hb, hml, hown, hts⟩ (c_X4_node_ok l dC dI cI a H.size _ _ _ _ _ h50) (cwV 3 hts gL_shape_X4_node rfl rfl rfl (by decide +kernel) ⟨Nat.le_of_ble_eq_true rfl, Nat.le_of_ble_eq_true rfl⟩) (jPreV hK hPc hDc hN (ci := 4) rfl rfl) rfl rfl hl.1 rfl (lv_room (Nat.le_of_ble_eq_true rfl)) dL_shape_152 ⟨Nat.le_of_ble_eq_true rfl, Nat.le_of_ble_eq_true rfl⟩) hS (fun q _ h => hFc q h) hFc (fun r' u' t H locs ht hvm hw hB hz1 hk1 hS => ?_)
          subst hw
          obtain ⟨hP1, -, hD1⟩ := hB
          rw [ht] at hP1
          have hP : va_P (dC, dI) vwCl ((W_LS cI a S)) H := hP1
          have hD : va_D A ((W_LS cI a S)) := hD1.weaken (fun _ _ _ h => hFc _ h)
          refine lv_if_ne (tgt := 173) hx hb dL_shape_155 (by decide) (fun c51 => ?_) (fun c51 => ?_)
          · have hF := F_neg c51 hF
            refine lv_iconst (v := (0 : Int32)) hx hb dL_shape_173 (by decide) ?_
            exact K174 _ _ _ _ _ _ _ _ _ _ _ hF hP hD hS _ (lv_sub hl [3, 4, 5, 2, 1, 0, 6, 8, 9] rfl)
          · have hF := F_pos c51 hF
            refine lv_aload_n hx hb dL_shape_158 rfl (lv_at hl 3 rfl) ?_
            refine lv_iload_n hx hb dL_shape_159 rfl (lv_at hl 4 rfl) ?_
            refine lv_iload hx hb dL_shape_160 (lv_at hl 9 rfl) ?_
            refine lv_iconst (v := (5 : Int32)) hx hb dL_shape_162 (by decide) ?_
            obtain ⟨r52, h53, hF⟩ := ob1_some hF
            have h53 := okr_some h53
            have hPc : va_P (dC, dI) vwCl ((W_LS cI a S)) H := hP
            have hDc : va_D A ((W_LS cI a S)) := hD
            have hFc := jFreeW (ws := (W_LS cI a S)) hD hS hA
            refine va_calli (va_runV (As := [.int v2, .int x9, .int (5 : Int32)]) (rest := [.int x7]) ⟨hx, hb, hml, hown, hts⟩ (c_X4_node_ok l dC dI cI a H.size _ _ _ _ _ h53) (cwV 3 hts gL_shape_X4_node rfl rfl rfl (by decide +kernel) ⟨Nat.le_of_ble_eq_true rfl, Nat.le_of_ble_eq_true rfl⟩) (jPreV hK hPc hDc hN (ci := 4) rfl rfl) rfl rfl hl.1 rfl (lv_room (Nat.le_of_ble_eq_true rfl)) dL_shape_163 ⟨Nat.le_of_ble_eq_true rfl, Nat.le_of_ble_eq_true rfl⟩) hS (fun q _ h => hFc q h) hFc (fun r' u' t H locs ht hvm hw hB hz1 hk1 hS => ?_)
            subst hw
            obtain ⟨hP1, -, hD1⟩ := hB
            rw [ht] at hP1
            have hP : va_P (dC, dI) vwCl ((W_LS cI a S)) H := hP1
            have hD : va_D A ((W_LS cI a S)) := hD1.weaken (fun _ _ _ h => hFc _ h)
            refine lv_if_ne (tgt := 173) hx hb dL_shape_166 (by decide) (fun c54 => ?_) (fun c54 => ?_)
            · have hF := F_neg c54 hF
              refine lv_iconst (v := (0 : Int32)) hx hb dL_shape_173 (by decide) ?_
              exact K174 _ _ _ _ _ _ _ _ _ _ _ hF hP hD hS _ (lv_sub hl [3, 4, 5, 2, 1, 0, 6, 8, 9] rfl)
            · have hF := F_pos c54 hF
              refine lv_iconst (v := (1 : Int32)) hx hb dL_shape_169 (by decide) ?_
              refine lv_goto (tgt := 174) hx hb dL_shape_170 (by decide) ?_
              exact K174 _ _ _ _ _ _ _ _ _ _ _ hF hP hD hS _ (lv_sub hl [3, 4, 5, 2, 1, 0, 6, 8, 9] rfl)
      refine lv_iload hx hb dL_shape_63 (lv_at hl 9 rfl) ?_
      refine lv_iload_n hx hb dL_shape_65 rfl (lv_at hl 2 rfl) ?_
      refine lv_icmp_ge (tgt := 211) hx hb dL_shape_66 (by decide) (fun c55 => ?_) (fun c55 => ?_)
      · have hF := F_pos c55 hF
        exact K211 _ _ _ _ _ _ _ _ _ hF hP hD hS _ (lv_sub hl [0, 1, 2, 3, 4, 5, 6, 7, 8] rfl)
      · have hF := F_neg c55 hF
        refine lv_iload hx hb dL_shape_69 (lv_at hl 8 rfl) ?_
        refine lv_if_eq (tgt := 211) hx hb dL_shape_71 (by decide) (fun c56 => ?_) (fun c56 => ?_)
        · have hF := F_pos c56 hF
          exact K211 _ _ _ _ _ _ _ _ _ hF hP hD hS _ (lv_sub hl [0, 1, 2, 3, 4, 5, 6, 7, 8] rfl)
        · have hF := F_neg c56 hF
          refine lv_aload_n hx hb dL_shape_74 rfl (lv_at hl 0 rfl) ?_
          refine lv_iload_n hx hb dL_shape_75 rfl (lv_at hl 1 rfl) ?_
          refine lv_iload hx hb dL_shape_76 (lv_at hl 9 rfl) ?_
          obtain ⟨r57, h58, hF⟩ := ob1_some hF
          have hPc : va_P (dC, dI) vwCl ((W_LS cI a S)) H := hP
          have hDc : va_D A ((W_LS cI a S)) := hD
          have hFc := jFreeW (ws := (W_LS cI a S)) hD hS hA
          refine va_calli (va_runS (As := [.ref (a 0), .int v2, .int x9]) (rest := []) ⟨hx, hb, hml, hown, hts⟩ (c_L_node l dC dI cI a H.size _ _ _ _ h58) (va_cwS 3 hts gL_shape_L_node rfl rfl rfl (by decide +kernel) ⟨Nat.le_of_ble_eq_true rfl, Nat.le_of_ble_eq_true rfl⟩) (jPreS hK hPc hDc hN) rfl rfl hl.1 rfl (lv_room (Nat.le_of_ble_eq_true rfl)) dL_shape_78 ⟨Nat.le_of_ble_eq_true rfl, Nat.le_of_ble_eq_true rfl⟩) hS (fun q _ h => hFc q h) hFc (fun r' u' t H locs ht hvm hw hB hz1 hk1 hS => ?_)
          subst hw
          obtain ⟨hP1, -, hD1⟩ := hB
          rw [ht] at hP1
          have hP : va_P (dC, dI) vwCl ((W_LS cI a S)) H := hP1
          have hD : va_D A ((W_LS cI a S)) := hD1.weaken (fun _ _ _ h => hFc _ h)
          refine lv_istore (lv' := [(8, .int (b2i r57)), (0, .ref (a 0)), (1, .int v2), (2, .int x2), (3, .int x3), (4, .int x4), (5, .int x5), (6, .int x6), (7, .int x7), (9, .int x9)]) hx hb dL_shape_81 hl (by decide) rfl (fun ls hl => ?_)
          refine lv_iload_n hx hb dL_shape_83 rfl (lv_at hl 4 rfl) ?_
          refine lv_aload_n hx hb dL_shape_84 rfl (lv_at hl 1 rfl) ?_
          refine lv_iload_n hx hb dL_shape_85 rfl (lv_at hl 2 rfl) ?_
          refine lv_iload hx hb dL_shape_86 (lv_at hl 9 rfl) ?_
          refine lv_iconst (v := (0 : Int32)) hx hb dL_shape_88 (by decide) ?_
          obtain ⟨r59, h60, hF⟩ := ob1_some hF
          have h60 := okr_some h60
          have hPc : va_P (dC, dI) vwCl ((W_LS cI a S)) H := hP
          have hDc : va_D A ((W_LS cI a S)) := hD
          have hFc := jFreeW (ws := (W_LS cI a S)) hD hS hA
          refine va_calli (va_runV (As := [.int v2, .int x9, .int (0 : Int32)]) (rest := [.int x3]) ⟨hx, hb, hml, hown, hts⟩ (c_X4_node_ok l dC dI cI a H.size _ _ _ _ _ h60) (cwV 3 hts gL_shape_X4_node rfl rfl rfl (by decide +kernel) ⟨Nat.le_of_ble_eq_true rfl, Nat.le_of_ble_eq_true rfl⟩) (jPreV hK hPc hDc hN (ci := 4) rfl rfl) rfl rfl hl.1 rfl (lv_room (Nat.le_of_ble_eq_true rfl)) dL_shape_89 ⟨Nat.le_of_ble_eq_true rfl, Nat.le_of_ble_eq_true rfl⟩) hS (fun q _ h => hFc q h) hFc (fun r' u' t H locs ht hvm hw hB hz1 hk1 hS => ?_)
          subst hw
          obtain ⟨hP1, -, hD1⟩ := hB
          rw [ht] at hP1
          have hP : va_P (dC, dI) vwCl ((W_LS cI a S)) H := hP1
          have hD : va_D A ((W_LS cI a S)) := hD1.weaken (fun _ _ _ h => hFc _ h)
          refine lv_bipush (v := (7 : Int32)) hx hb dL_shape_92 (by decide) ?_
          refine lv_icmp_ne (tgt := 101) hx hb dL_shape_94 (by decide) (fun c61 => ?_) (fun c61 => ?_)
          · have hF := F_neg c61 hF
            refine lv_iconst (v := (0 : Int32)) hx hb dL_shape_101 (by decide) ?_
            exact K102 _ _ _ _ _ _ _ _ _ _ _ hF hP hD hS _ (lv_sub hl [1, 2, 3, 5, 6, 7, 8, 0, 9] rfl)
          · have hF := F_pos c61 hF
            refine lv_iconst (v := (1 : Int32)) hx hb dL_shape_97 (by decide) ?_
            refine lv_goto (tgt := 102) hx hb dL_shape_98 (by decide) ?_
            exact K102 _ _ _ _ _ _ _ _ _ _ _ hF hP hD hS _ (lv_sub hl [1, 2, 3, 5, 6, 7, 8, 0, 9] rfl)
  have K36 : ∀ (x2 : Int32) (x3 : Bool) (x4 : Bool) (x5 : Bool) (x6 : Int32) (x7 : Bool) (t0 : Bool) (H : Heap) (locs : List Loc), F_L_shape_36 v2 S x2 x3 x4 x5 x6 x7 t0 = some rr → va_P (dC, dI) vwCl ((W_LS cI a S)) H → va_D A ((W_LS cI a S)) → va_S A s.heap H locs → ∀ ls : Array Slot, lv_has ls 10 [(0, .ref (a 0)), (1, .int v2), (2, .int x2), (3, .int (b2i x3)), (4, .int (b2i x4)), (5, .int (b2i x5)), (6, .int x6), (7, .int (b2i x7))] → W p l e (headSpec wsL_shape ({ frames := 8, cells := 0, slots := 0, locals := 147 } : Room)).room s m ([.ref (a 0), .int v2] : List Value).toArray below meth c H locs 0 0 (MQ below (va_Qi (fun (r' : Int32) (_ : Unit) => b2i rr = r') (fun _ : Unit => jB (dC, dI) [(cI, .int)] A ((W_LS cI a S))) A) ([.ref (a 0), .int v2] : List Value).toArray s 0 0 A) (F0 m 36 ls [.int (b2i t0)]) := by
    intro x2 x3 x4 x5 x6 x7 t0 H locs hF hP hD hS ls hl
    unfold F_L_shape_36 at hF
    refine lv_aload_n hx hb dL_shape_36 rfl (lv_at hl 0 rfl) ?_
    refine lv_iload_n hx hb dL_shape_37 rfl (lv_at hl 1 rfl) ?_
    refine lv_iconst (v := (0 : Int32)) hx hb dL_shape_38 (by decide) ?_
    obtain ⟨r62, h63, hF⟩ := ob1_some hF
    have h63 := okr_some h63
    have hPc : va_P (dC, dI) vwCl ((W_LS cI a S)) H := hP
    have hDc : va_D A ((W_LS cI a S)) := hD
    have hFc := jFreeW (ws := (W_LS cI a S)) hD hS hA
    refine va_calli (va_runV (As := [.int v2, .int (0 : Int32)]) (rest := [.int (b2i t0)]) ⟨hx, hb, hml, hown, hts⟩ (c_X4_shape_ok l dC dI cI a H.size _ _ _ _ h63) (cwV 2 hts gL_shape_X4_shape rfl rfl rfl (by decide +kernel) ⟨Nat.le_of_ble_eq_true rfl, Nat.le_of_ble_eq_true rfl⟩) (jPreV hK hPc hDc hN (ci := 4) rfl rfl) rfl rfl hl.1 rfl (lv_room (Nat.le_of_ble_eq_true rfl)) dL_shape_39 ⟨Nat.le_of_ble_eq_true rfl, Nat.le_of_ble_eq_true rfl⟩) hS (fun q _ h => hFc q h) hFc (fun r' u' t H locs ht hvm hw hB hz1 hk1 hS => ?_)
    subst hw
    obtain ⟨hP1, -, hD1⟩ := hB
    rw [ht] at hP1
    have hP : va_P (dC, dI) vwCl ((W_LS cI a S)) H := hP1
    have hD : va_D A ((W_LS cI a S)) := hD1.weaken (fun _ _ _ h => hFc _ h)
    refine lv_if_ne (tgt := 49) hx hb dL_shape_42 (by decide) (fun c64 => ?_) (fun c64 => ?_)
    · have hF := F_neg c64 hF
      refine lv_iconst (v := (0 : Int32)) hx hb dL_shape_49 (by decide) ?_
      refine lv_icmp_ne (tgt := 57) hx hb dL_shape_50 (by decide) (fun c65 => ?_) (fun c65 => ?_)
      · have hF := F_neg c65 hF
        refine lv_iconst (v := (0 : Int32)) hx hb dL_shape_57 (by decide) ?_
        refine lv_istore (lv' := [(8, .int (0 : Int32)), (0, .ref (a 0)), (1, .int v2), (2, .int x2), (3, .int (b2i x3)), (4, .int (b2i x4)), (5, .int (b2i x5)), (6, .int x6), (7, .int (b2i x7))]) hx hb dL_shape_58 hl (by decide) rfl (fun ls hl => ?_)
        refine lv_iconst (v := (0 : Int32)) hx hb dL_shape_60 (by decide) ?_
        refine lv_istore (lv' := [(9, .int (0 : Int32)), (8, .int (0 : Int32)), (0, .ref (a 0)), (1, .int v2), (2, .int x2), (3, .int (b2i x3)), (4, .int (b2i x4)), (5, .int (b2i x5)), (6, .int x6), (7, .int (b2i x7))]) hx hb dL_shape_61 hl (by decide) rfl (fun ls hl => ?_)
        exact K63 _ _ _ _ _ _ _ _ _ _ _ hF hP hD hS _ (lv_sub hl [2, 3, 4, 5, 6, 7, 8, 9, 1, 0] rfl)
      · have hF := F_pos c65 hF
        refine lv_iconst (v := (1 : Int32)) hx hb dL_shape_53 (by decide) ?_
        refine lv_goto (tgt := 58) hx hb dL_shape_54 (by decide) ?_
        refine lv_istore (lv' := [(8, .int (1 : Int32)), (0, .ref (a 0)), (1, .int v2), (2, .int x2), (3, .int (b2i x3)), (4, .int (b2i x4)), (5, .int (b2i x5)), (6, .int x6), (7, .int (b2i x7))]) hx hb dL_shape_58 hl (by decide) rfl (fun ls hl => ?_)
        refine lv_iconst (v := (0 : Int32)) hx hb dL_shape_60 (by decide) ?_
        refine lv_istore (lv' := [(9, .int (0 : Int32)), (8, .int (1 : Int32)), (0, .ref (a 0)), (1, .int v2), (2, .int x2), (3, .int (b2i x3)), (4, .int (b2i x4)), (5, .int (b2i x5)), (6, .int x6), (7, .int (b2i x7))]) hx hb dL_shape_61 hl (by decide) rfl (fun ls hl => ?_)
        exact K63 _ _ _ _ _ _ _ _ _ _ _ hF hP hD hS _ (lv_sub hl [2, 3, 4, 5, 6, 7, 8, 9, 1, 0] rfl)
    · have hF := F_pos c64 hF
      refine lv_iconst (v := (1 : Int32)) hx hb dL_shape_45 (by decide) ?_
      refine lv_goto (tgt := 50) hx hb dL_shape_46 (by decide) ?_
      refine lv_icmp_ne (tgt := 57) hx hb dL_shape_50 (by decide) (fun c66 => ?_) (fun c66 => ?_)
      · have hF := F_neg c66 hF
        refine lv_iconst (v := (0 : Int32)) hx hb dL_shape_57 (by decide) ?_
        refine lv_istore (lv' := [(8, .int (0 : Int32)), (0, .ref (a 0)), (1, .int v2), (2, .int x2), (3, .int (b2i x3)), (4, .int (b2i x4)), (5, .int (b2i x5)), (6, .int x6), (7, .int (b2i x7))]) hx hb dL_shape_58 hl (by decide) rfl (fun ls hl => ?_)
        refine lv_iconst (v := (0 : Int32)) hx hb dL_shape_60 (by decide) ?_
        refine lv_istore (lv' := [(9, .int (0 : Int32)), (8, .int (0 : Int32)), (0, .ref (a 0)), (1, .int v2), (2, .int x2), (3, .int (b2i x3)), (4, .int (b2i x4)), (5, .int (b2i x5)), (6, .int x6), (7, .int (b2i x7))]) hx hb dL_shape_61 hl (by decide) rfl (fun ls hl => ?_)
        exact K63 _ _ _ _ _ _ _ _ _ _ _ hF hP hD hS _ (lv_sub hl [2, 3, 4, 5, 6, 7, 8, 9, 1, 0] rfl)
      · have hF := F_pos c66 hF
        refine lv_iconst (v := (1 : Int32)) hx hb dL_shape_53 (by decide) ?_
        refine lv_goto (tgt := 58) hx hb dL_shape_54 (by decide) ?_
        refine lv_istore (lv' := [(8, .int (1 : Int32)), (0, .ref (a 0)), (1, .int v2), (2, .int x2), (3, .int (b2i x3)), (4, .int (b2i x4)), (5, .int (b2i x5)), (6, .int x6), (7, .int (b2i x7))]) hx hb dL_shape_58 hl (by decide) rfl (fun ls hl => ?_)
        refine lv_iconst (v := (0 : Int32)) hx hb dL_shape_60 (by decide) ?_
        refine lv_istore (lv' := [(9, .int (0 : Int32)), (8, .int (1 : Int32)), (0, .ref (a 0)), (1, .int v2), (2, .int x2), (3, .int (b2i x3)), (4, .int (b2i x4)), (5, .int (b2i x5)), (6, .int x6), (7, .int (b2i x7))]) hx hb dL_shape_61 hl (by decide) rfl (fun ls hl => ?_)
        exact K63 _ _ _ _ _ _ _ _ _ _ _ hF hP hD hS _ (lv_sub hl [2, 3, 4, 5, 6, 7, 8, 9, 1, 0] rfl)
  have KE : ∀ (H : Heap) (locs : List Loc), va_P (dC, dI) vwCl ((W_LS cI a S)) H → va_D A ((W_LS cI a S)) → va_S A s.heap H locs → W p l e (headSpec wsL_shape ({ frames := 8, cells := 0, slots := 0, locals := 147 } : Room)).room s m ([.ref (a 0), .int v2] : List Value).toArray below meth c H locs 0 0 (MQ below (va_Qi (fun (r' : Int32) (_ : Unit) => b2i rr = r') (fun _ : Unit => jB (dC, dI) [(cI, .int)] A ((W_LS cI a S))) A) ([.ref (a 0), .int v2] : List Value).toArray s 0 0 A) (F0 m 0 ls []) := by
    intro H locs hP hD hS
    unfold F_L_shape at hF
    refine lv_aload_n hx hb dL_shape_0 rfl (lv_at hl 0 rfl) ?_
    refine lv_iload_n hx hb dL_shape_1 rfl (lv_at hl 1 rfl) ?_
    refine lv_iconst (v := (1 : Int32)) hx hb dL_shape_2 (by decide) ?_
    obtain ⟨r67, h68, hF⟩ := ob1_some hF
    have h68 := okr_some h68
    have hPc : va_P (dC, dI) vwCl ((W_LS cI a S)) H := hP
    have hDc : va_D A ((W_LS cI a S)) := hD
    have hFc := jFreeW (ws := (W_LS cI a S)) hD hS hA
    refine va_calli (va_runV (As := [.int v2, .int (1 : Int32)]) (rest := []) ⟨hx, hb, hml, hown, hts⟩ (c_X4_shape_ok l dC dI cI a H.size _ _ _ _ h68) (cwV 2 hts gL_shape_X4_shape rfl rfl rfl (by decide +kernel) ⟨Nat.le_of_ble_eq_true rfl, Nat.le_of_ble_eq_true rfl⟩) (jPreV hK hPc hDc hN (ci := 4) rfl rfl) rfl rfl hl.1 rfl (lv_room (Nat.le_of_ble_eq_true rfl)) dL_shape_3 ⟨Nat.le_of_ble_eq_true rfl, Nat.le_of_ble_eq_true rfl⟩) hS (fun q _ h => hFc q h) hFc (fun r' u' t H locs ht hvm hw hB hz1 hk1 hS => ?_)
    subst hw
    obtain ⟨hP1, -, hD1⟩ := hB
    rw [ht] at hP1
    have hP : va_P (dC, dI) vwCl ((W_LS cI a S)) H := hP1
    have hD : va_D A ((W_LS cI a S)) := hD1.weaken (fun _ _ _ h => hFc _ h)
    refine lv_istore_n (lv' := [(2, .int r67), (0, .ref (a 0)), (1, .int v2)]) hx hb dL_shape_6 rfl hl (by decide) rfl (fun ls hl => ?_)
    refine lv_iconst (v := (0 : Int32)) hx hb dL_shape_7 (by decide) ?_
    refine lv_istore_n (lv' := [(3, .int (0 : Int32)), (2, .int r67), (0, .ref (a 0)), (1, .int v2)]) hx hb dL_shape_8 rfl hl (by decide) rfl (fun ls hl => ?_)
    refine lv_iconst (v := (0 : Int32)) hx hb dL_shape_9 (by decide) ?_
    refine lv_istore (lv' := [(4, .int (0 : Int32)), (3, .int (0 : Int32)), (2, .int r67), (0, .ref (a 0)), (1, .int v2)]) hx hb dL_shape_10 hl (by decide) rfl (fun ls hl => ?_)
    refine lv_iconst (v := (0 : Int32)) hx hb dL_shape_12 (by decide) ?_
    refine lv_istore (lv' := [(5, .int (0 : Int32)), (4, .int (0 : Int32)), (3, .int (0 : Int32)), (2, .int r67), (0, .ref (a 0)), (1, .int v2)]) hx hb dL_shape_13 hl (by decide) rfl (fun ls hl => ?_)
    refine lv_iconst (v := (-1 : Int32)) hx hb dL_shape_15 (by decide) ?_
    refine lv_istore (lv' := [(6, .int (-1 : Int32)), (5, .int (0 : Int32)), (4, .int (0 : Int32)), (3, .int (0 : Int32)), (2, .int r67), (0, .ref (a 0)), (1, .int v2)]) hx hb dL_shape_16 hl (by decide) rfl (fun ls hl => ?_)
    refine lv_iconst (v := (0 : Int32)) hx hb dL_shape_18 (by decide) ?_
    refine lv_istore (lv' := [(7, .int (0 : Int32)), (6, .int (-1 : Int32)), (5, .int (0 : Int32)), (4, .int (0 : Int32)), (3, .int (0 : Int32)), (2, .int r67), (0, .ref (a 0)), (1, .int v2)]) hx hb dL_shape_19 hl (by decide) rfl (fun ls hl => ?_)
    refine lv_iload_n hx hb dL_shape_21 rfl (lv_at hl 5 rfl) ?_
    refine lv_bipush (v := (30 : Int32)) hx hb dL_shape_22 (by decide) ?_
    refine lv_icmp_gt (tgt := 57) hx hb dL_shape_24 (by decide) (fun c69 => ?_) (fun c69 => ?_)
    · have hF := F_pos c69 hF
      refine lv_iconst (v := (0 : Int32)) hx hb dL_shape_57 (by decide) ?_
      refine lv_istore (lv' := [(8, .int (0 : Int32)), (7, .int (0 : Int32)), (6, .int (-1 : Int32)), (5, .int (0 : Int32)), (4, .int (0 : Int32)), (3, .int (0 : Int32)), (2, .int r67), (0, .ref (a 0)), (1, .int v2)]) hx hb dL_shape_58 hl (by decide) rfl (fun ls hl => ?_)
      refine lv_iconst (v := (0 : Int32)) hx hb dL_shape_60 (by decide) ?_
      refine lv_istore (lv' := [(9, .int (0 : Int32)), (8, .int (0 : Int32)), (7, .int (0 : Int32)), (6, .int (-1 : Int32)), (5, .int (0 : Int32)), (4, .int (0 : Int32)), (3, .int (0 : Int32)), (2, .int r67), (0, .ref (a 0)), (1, .int v2)]) hx hb dL_shape_61 hl (by decide) rfl (fun ls hl => ?_)
      exact K63 _ _ _ _ _ _ _ _ _ _ _ hF hP hD hS _ (lv_sub hl [8, 9, 7, 6, 5, 4, 3, 2, 1, 0] rfl)
    · have hF := F_neg c69 hF
      refine lv_iload_n hx hb dL_shape_27 rfl (lv_at hl 5 rfl) ?_
      refine lv_if_ne (tgt := 35) hx hb dL_shape_28 (by decide) (fun c70 => ?_) (fun c70 => ?_)
      · have hF := F_neg c70 hF
        refine lv_iconst (v := (0 : Int32)) hx hb dL_shape_35 (by decide) ?_
        exact K36 _ _ _ _ _ _ _ _ _ hF hP hD hS _ (lv_sub hl [6, 7, 5, 4, 3, 2, 1, 0] rfl)
      · have hF := F_pos c70 hF
        refine lv_iconst (v := (1 : Int32)) hx hb dL_shape_31 (by decide) ?_
        refine lv_goto (tgt := 36) hx hb dL_shape_32 (by decide) ?_
        exact K36 _ _ _ _ _ _ _ _ _ hF hP hD hS _ (lv_sub hl [6, 7, 5, 4, 3, 2, 1, 0] rfl)
  exact KE _ _ hP hD hS
