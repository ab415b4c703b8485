set_option maxHeartbeats 4000000 in
set_option maxRecDepth 100000 in
theorem c_L_node (l : Launch) (dC : Nat → ClassId) (dI : Nat → Nat → Nat) (cI : ClassId) (a : Nat → Nat) (sz : Nat) (S : S_LS) (v2 : Int32) (v3 : Int32) (rr : Bool) (hF : F_L_node S v2 v3 = some rr) : Met l yL_node wsL_node ({ frames := 7, cells := 0, slots := 0, locals := 117 } : Room) (va_Pc [.ref (a 0), .int v2, .int v3] (jPre (dC, dI) [(cI, .int)] sz ((W_LS cI a S)))) (va_Qi (fun (r' : Int32) (_ : Unit) => b2i rr = r') (fun _ : Unit => jB (dC, dI) [(cI, .int)] (va_A ((W_LS cI a S)) sz) ((W_LS cI a S))) (va_A ((W_LS cI a S)) sz)) 0 0 (va_A ((W_LS cI a S)) sz) := by
  refine Met.ofW (cc := cL_node) (maxL := 11) (ret := (some .boolean)) (by decide) rfl ?_
  intro p e s m args below meth c s₁ B hml hv
  obtain ⟨rfl, hsz, hP, hK, hD0, hN⟩ := hv
  have hx := B.exec
  have hb := B.bytes
  have hr := B.returns
  have hts := atoms_spec (ws := wsL_node) B.pre
  have hown : s.vm.findClass RL = some m.cls := findClass_of_methodNamed B.named
  have hlocks := B.notSynchronized
  subst hsz
  have hD := hD0.self (sz := s.heap.size)
  generalize hAe : (va_A ((W_LS cI a S)) s.heap.size) = A at hD ⊢
  have hA : ∀ q : Nat, s.heap.size ≤ q → A q := fun q h => by rw [← hAe]; exact Or.inr h
  have hS : va_S A s.heap s.heap [] := va_S.rf
  have hl := lv_entry ([.ref (a 0), .int v2, .int v3]) (n := 11) (Nat.le_of_ble_eq_true rfl)
  rw [lg_entry_eq]
  generalize (lg_sl ([.ref (a 0), .int v2, .int v3]) ++ List.replicate (11 - (lg_sl ([.ref (a 0), .int v2, .int v3])).length) Slot.unset).toArray = ls at hl ⊢
  have hl : lv_has ls 11 [(0, .ref (a 0)), (1, .int v2), (2, .int v3)] := hl
  have K433 : ∀ (x3 : Int32) (x6 : Bool) (x7 : Int32) (H : Heap) (locs : List Loc), F_L_node_433 v2 v3 S x3 x6 x7 = some rr → va_P (dC, dI) vwCl ((W_LS cI a S)) H → va_D A ((W_LS cI a S)) → va_S A s.heap H locs → ∀ ls : Array Slot, lv_has ls 11 [(0, .ref (a 0)), (1, .int v2), (2, .int v3), (3, .int x3), (6, .int (b2i x6)), (7, .int x7)] → W p l e (headSpec wsL_node ({ frames := 7, cells := 0, slots := 0, locals := 117 } : Room)).room s m ([.ref (a 0), .int v2, .int v3] : List Value).toArray below meth c H locs 0 0 (MQ below (va_Qi (fun (r' : Int32) (_ : Unit) => b2i rr = r') (fun _ : Unit => jB (dC, dI) [(cI, .int)] A ((W_LS cI a S))) A) ([.ref (a 0), .int v2, .int v3] : List Value).toArray s 0 0 A) (F0 m 433 ls []) := by
    intro x3 x6 x7 H locs hF hP hD hS ls hl
    unfold F_L_node_433 at hF
    refine lv_iload hx hb dL_node_433 (lv_at hl 4 rfl) ?_
    refine lv_if_eq (tgt := 486) hx hb dL_node_435 (by decide) (fun c1 => ?_) (fun c1 => ?_)
    · have hF := F_pos c1 hF
      refine lv_iconst (v := (0 : Int32)) hx hb dL_node_486 (by decide) ?_
      have e50 := Option.some.inj hF
      subst e50
      exact W.zret (v := (0 : Int32)) hx hb hr (rfl) (fun t ht hW => ⟨⟨(0 : Int32), (), rfl, rfl, by rw [ht]; exact hP, va_K.moved hW.alike hK, hD⟩, hS.F ht⟩) hS.2.2 dL_node_487
    · have hF := F_neg c1 hF
      refine lv_aload_n hx hb dL_node_438 rfl (lv_at hl 0 rfl) ?_
      refine lv_iload_n hx hb dL_node_439 rfl (lv_at hl 1 rfl) ?_
      refine lv_iload_n hx hb dL_node_440 rfl (lv_at hl 2 rfl) ?_
      refine lv_bipush (v := (9 : Int32)) hx hb dL_node_441 (by decide) ?_
      obtain ⟨r2, h3, hF⟩ := ob1_some hF
      have h3 := okr_some h3
      have hPc : va_P (dC, dI) vwCl ((W_LS cI a S)) H := hP
      have hDc : va_D A ((W_LS cI a S)) := hD
      have hFc := jFreeW (ws := (W_LS cI a S)) hD hS hA
      refine va_calli (va_runV (As := [.int v2, .int v3, .int (9 : Int32)]) (rest := []) ⟨hx, hb, hml, hown, hts⟩ (c_X4_node_ok l dC dI cI a H.size _ _ _ _ _ h3) (cwV 3 hts gL_node_X4_node rfl rfl rfl (by decide +kernel) ⟨Nat.le_of_ble_eq_true rfl, Nat.le_of_ble_eq_true rfl⟩) (jPreV hK hPc hDc hN (ci := 4) rfl rfl) rfl rfl hl.1 rfl (lv_room (Nat.le_of_ble_eq_true rfl)) dL_node_443 ⟨Nat.le_of_ble_eq_true rfl, Nat.le_of_ble_eq_true rfl⟩) hS (fun q _ h => hFc q h) hFc (fun r' u' t H locs ht hvm hw hB hz1 hk1 hS => ?_)
      subst hw
      obtain ⟨hP1, -, hD1⟩ := hB
      rw [ht] at hP1
      have hP : va_P (dC, dI) vwCl ((W_LS cI a S)) H := hP1
      have hD : va_D A ((W_LS cI a S)) := hD1.weaken (fun _ _ _ h => hFc _ h)
      refine lv_iload hx hb dL_node_446 (lv_at hl 5 rfl) ?_
      refine lv_icmp_ne (tgt := 486) hx hb dL_node_448 (by decide) (fun c4 => ?_) (fun c4 => ?_)
      · have hF := F_neg c4 hF
        refine lv_iconst (v := (0 : Int32)) hx hb dL_node_486 (by decide) ?_
        have e50 := Option.some.inj hF
        subst e50
        exact W.zret (v := (0 : Int32)) hx hb hr (rfl) (fun t ht hW => ⟨⟨(0 : Int32), (), rfl, rfl, by rw [ht]; exact hP, va_K.moved hW.alike hK, hD⟩, hS.F ht⟩) hS.2.2 dL_node_487
      · have hF := F_pos c4 hF
        refine lv_iload hx hb dL_node_451 (lv_at hl 5 rfl) ?_
        refine lv_if_eq (tgt := 467) hx hb dL_node_453 (by decide) (fun c5 => ?_) (fun c5 => ?_)
        · have hF := F_pos c5 hF
          refine lv_iload_n hx hb dL_node_467 rfl (lv_at hl 3 rfl) ?_
          refine lv_if_ne (tgt := 482) hx hb dL_node_468 (by decide) (fun c6 => ?_) (fun c6 => ?_)
          · have hF := F_neg c6 hF
            refine lv_iconst (v := (1 : Int32)) hx hb dL_node_482 (by decide) ?_
            refine lv_goto (tgt := 487) hx hb dL_node_483 (by decide) ?_
            have e50 := Option.some.inj hF
            subst e50
            exact W.zret (v := (1 : Int32)) hx hb hr (rfl) (fun t ht hW => ⟨⟨(1 : Int32), (), rfl, rfl, by rw [ht]; exact hP, va_K.moved hW.alike hK, hD⟩, hS.F ht⟩) hS.2.2 dL_node_487
          · have hF := F_pos c6 hF
            refine lv_aload_n hx hb dL_node_471 rfl (lv_at hl 0 rfl) ?_
            refine lv_iload_n hx hb dL_node_472 rfl (lv_at hl 1 rfl) ?_
            refine lv_iload_n hx hb dL_node_473 rfl (lv_at hl 2 rfl) ?_
            refine lv_iconst (v := (5 : Int32)) hx hb dL_node_474 (by decide) ?_
            obtain ⟨r7, h8, hF⟩ := ob1_some hF
            have h8 := okr_some h8
            have hPc : va_P (dC, dI) vwCl ((W_LS cI a S)) H := hP
            have hDc : va_D A ((W_LS cI a S)) := hD
            have hFc := jFreeW (ws := (W_LS cI a S)) hD hS hA
            refine va_calli (va_runV (As := [.int v2, .int v3, .int (5 : Int32)]) (rest := []) ⟨hx, hb, hml, hown, hts⟩ (c_X4_node_ok l dC dI cI a H.size _ _ _ _ _ h8) (cwV 3 hts gL_node_X4_node rfl rfl rfl (by decide +kernel) ⟨Nat.le_of_ble_eq_true rfl, Nat.le_of_ble_eq_true rfl⟩) (jPreV hK hPc hDc hN (ci := 4) rfl rfl) rfl rfl hl.1 rfl (lv_room (Nat.le_of_ble_eq_true rfl)) dL_node_475 ⟨Nat.le_of_ble_eq_true rfl, Nat.le_of_ble_eq_true rfl⟩) hS (fun q _ h => hFc q h) hFc (fun r' u' t H locs ht hvm hw hB hz1 hk1 hS => ?_)
            subst hw
            obtain ⟨hP1, -, hD1⟩ := hB
            rw [ht] at hP1
            have hP : va_P (dC, dI) vwCl ((W_LS cI a S)) H := hP1
            have hD : va_D A ((W_LS cI a S)) := hD1.weaken (fun _ _ _ h => hFc _ h)
            refine lv_iconst (v := (1 : Int32)) hx hb dL_node_478 (by decide) ?_
            refine lv_icmp_ne (tgt := 486) hx hb dL_node_479 (by decide) (fun c9 => ?_) (fun c9 => ?_)
            · have hF := F_neg c9 hF
              refine lv_iconst (v := (0 : Int32)) hx hb dL_node_486 (by decide) ?_
              have e50 := Option.some.inj hF
              subst e50
              exact W.zret (v := (0 : Int32)) hx hb hr (rfl) (fun t ht hW => ⟨⟨(0 : Int32), (), rfl, rfl, by rw [ht]; exact hP, va_K.moved hW.alike hK, hD⟩, hS.F ht⟩) hS.2.2 dL_node_487
            · have hF := F_pos c9 hF
              refine lv_iconst (v := (1 : Int32)) hx hb dL_node_482 (by decide) ?_
              refine lv_goto (tgt := 487) hx hb dL_node_483 (by decide) ?_
              have e50 := Option.some.inj hF
              subst e50
              exact W.zret (v := (1 : Int32)) hx hb hr (rfl) (fun t ht hW => ⟨⟨(1 : Int32), (), rfl, rfl, by rw [ht]; exact hP, va_K.moved hW.alike hK, hD⟩, hS.F ht⟩) hS.2.2 dL_node_487
        · have hF := F_neg c5 hF
          refine lv_iload_n hx hb dL_node_456 rfl (lv_at hl 3 rfl) ?_
          refine lv_iconst (v := (5 : Int32)) hx hb dL_node_457 (by decide) ?_
          refine lv_icmp_eq (tgt := 467) hx hb dL_node_458 (by decide) (fun c10 => ?_) (fun c10 => ?_)
          · have hF := F_pos c10 hF
            refine lv_iload_n hx hb dL_node_467 rfl (lv_at hl 3 rfl) ?_
            refine lv_if_ne (tgt := 482) hx hb dL_node_468 (by decide) (fun c11 => ?_) (fun c11 => ?_)
            · have hF := F_neg c11 hF
              refine lv_iconst (v := (1 : Int32)) hx hb dL_node_482 (by decide) ?_
              refine lv_goto (tgt := 487) hx hb dL_node_483 (by decide) ?_
              have e50 := Option.some.inj hF
              subst e50
              exact W.zret (v := (1 : Int32)) hx hb hr (rfl) (fun t ht hW => ⟨⟨(1 : Int32), (), rfl, rfl, by rw [ht]; exact hP, va_K.moved hW.alike hK, hD⟩, hS.F ht⟩) hS.2.2 dL_node_487
            · have hF := F_pos c11 hF
              refine lv_aload_n hx hb dL_node_471 rfl (lv_at hl 0 rfl) ?_
              refine lv_iload_n hx hb dL_node_472 rfl (lv_at hl 1 rfl) ?_
              refine lv_iload_n hx hb dL_node_473 rfl (lv_at hl 2 rfl) ?_
              refine lv_iconst (v := (5 : Int32)) hx hb dL_node_474 (by decide) ?_
              obtain ⟨r12, h13, hF⟩ := ob1_some hF
              have h13 := okr_some h13
              have hPc : va_P (dC, dI) vwCl ((W_LS cI a S)) H := hP
              have hDc : va_D A ((W_LS cI a S)) := hD
              have hFc := jFreeW (ws := (W_LS cI a S)) hD hS hA
              refine va_calli (va_runV (As := [.int v2, .int v3, .int (5 : Int32)]) (rest := []) ⟨hx, hb, hml, hown, hts⟩ (c_X4_node_ok l dC dI cI a H.size _ _ _ _ _ h13) (cwV 3 hts gL_node_X4_node rfl rfl rfl (by decide +kernel) ⟨Nat.le_of_ble_eq_true rfl, Nat.le_of_ble_eq_true rfl⟩) (jPreV hK hPc hDc hN (ci := 4) rfl rfl) rfl rfl hl.1 rfl (lv_room (Nat.le_of_ble_eq_true rfl)) dL_node_475 ⟨Nat.le_of_ble_eq_true rfl, Nat.le_of_ble_eq_true rfl⟩) hS (fun q _ h => hFc q h) hFc (fun r' u' t H locs ht hvm hw hB hz1 hk1 hS => ?_)
              subst hw
              obtain ⟨hP1, -, hD1⟩ := hB
              rw [ht] at hP1
              have hP : va_P (dC, dI) vwCl ((W_LS cI a S)) H := hP1
              have hD : va_D A ((W_LS cI a S)) := hD1.weaken (fun _ _ _ h => hFc _ h)
              refine lv_iconst (v := (1 : Int32)) hx hb dL_node_478 (by decide) ?_
              refine lv_icmp_ne (tgt := 486) hx hb dL_node_479 (by decide) (fun c14 => ?_) (fun c14 => ?_)
              · have hF := F_neg c14 hF
                refine lv_iconst (v := (0 : Int32)) hx hb dL_node_486 (by decide) ?_
                have e50 := Option.some.inj hF
                subst e50
                exact W.zret (v := (0 : Int32)) hx hb hr (rfl) (fun t ht hW => ⟨⟨(0 : Int32), (), rfl, rfl, by rw [ht]; exact hP, va_K.moved hW.alike hK, hD⟩, hS.F ht⟩) hS.2.2 dL_node_487
              · have hF := F_pos c14 hF
                refine lv_iconst (v := (1 : Int32)) hx hb dL_node_482 (by decide) ?_
                refine lv_goto (tgt := 487) hx hb dL_node_483 (by decide) ?_
                have e50 := Option.some.inj hF
                subst e50
                exact W.zret (v := (1 : Int32)) hx hb hr (rfl) (fun t ht hW => ⟨⟨(1 : Int32), (), rfl, rfl, by rw [ht]; exact hP, va_K.moved hW.alike hK, hD⟩, hS.F ht⟩) hS.2.2 dL_node_487
          · have hF := F_neg c10 hF
            refine lv_iload_n hx hb dL_node_461 rfl (lv_at hl 3 rfl) ?_
            refine lv_bipush (v := (6 : Int32)) hx hb dL_node_462 (by decide) ?_
            refine lv_icmp_ne (tgt := 486) hx hb dL_node_464 (by decide) (fun c15 => ?_) (fun c15 => ?_)
            · have hF := F_neg c15 hF
              refine lv_iconst (v := (0 : Int32)) hx hb dL_node_486 (by decide) ?_
              have e50 := Option.some.inj hF
              subst e50
              exact W.zret (v := (0 : Int32)) hx hb hr (rfl) (fun t ht hW => ⟨⟨(0 : Int32), (), rfl, rfl, by rw [ht]; exact hP, va_K.moved hW.alike hK, hD⟩, hS.F ht⟩) hS.2.2 dL_node_487
            · have hF := F_pos c15 hF
              refine lv_iload_n hx hb dL_node_467 rfl (lv_at hl 3 rfl) ?_
              refine lv_if_ne (tgt := 482) hx hb dL_node_468 (by decide) (fun c16 => ?_) (fun c16 => ?_)
              · have hF := F_neg c16 hF
                refine lv_iconst (v := (1 : Int32)) hx hb dL_node_482 (by decide) ?_
                refine lv_goto (tgt := 487) hx hb dL_node_483 (by decide) ?_
                have e50 := Option.some.inj hF
                subst e50
                exact W.zret (v := (1 : Int32)) hx hb hr (rfl) (fun t ht hW => ⟨⟨(1 : Int32), (), rfl, rfl, by rw [ht]; exact hP, va_K.moved hW.alike hK, hD⟩, hS.F ht⟩) hS.2.2 dL_node_487
              · have hF := F_pos c16 hF
                refine lv_aload_n hx hb dL_node_471 rfl (lv_at hl 0 rfl) ?_
                refine lv_iload_n hx hb dL_node_472 rfl (lv_at hl 1 rfl) ?_
                refine lv_iload_n hx hb dL_node_473 rfl (lv_at hl 2 rfl) ?_
                refine lv_iconst (v := (5 : Int32)) hx hb dL_node_474 (by decide) ?_
                obtain ⟨r17, h18, hF⟩ := ob1_some hF
                have h18 := okr_some h18
                have hPc : va_P (dC, dI) vwCl ((W_LS cI a S)) H := hP
                have hDc : va_D A ((W_LS cI a S)) := hD
                have hFc := jFreeW (ws := (W_LS cI a S)) hD hS hA
                refine va_calli (va_runV (As := [.int v2, .int v3, .int (5 : Int32)]) (rest := []) ⟨hx, hb, hml, hown, hts⟩ (c_X4_node_ok l dC dI cI a H.size _ _ _ _ _ h18) (cwV 3 hts gL_node_X4_node rfl rfl rfl (by decide +kernel) ⟨Nat.le_of_ble_eq_true rfl, Nat.le_of_ble_eq_true rfl⟩) (jPreV hK hPc hDc hN (ci := 4) rfl rfl) rfl rfl hl.1 rfl (lv_room (Nat.le_of_ble_eq_true rfl)) dL_node_475 ⟨Nat.le_of_ble_eq_true rfl, Nat.le_of_ble_eq_true rfl⟩) hS (fun q _ h => hFc q h) hFc (fun r' u' t H locs ht hvm hw hB hz1 hk1 hS => ?_)
                subst hw
                obtain ⟨hP1, -, hD1⟩ := hB
                rw [ht] at hP1
                have hP : va_P (dC, dI) vwCl ((W_LS cI a S)) H := hP1
                have hD : va_D A ((W_LS cI a S)) := hD1.weaken (fun _ _ _ h => hFc _ h)
                refine lv_iconst (v := (1 : Int32)) hx hb dL_node_478 (by decide) ?_
                refine lv_icmp_ne (tgt := 486) hx hb dL_node_479 (by decide) (fun c19 => ?_) (fun c19 => ?_)
                · have hF := F_neg c19 hF
                  refine lv_iconst (v := (0 : Int32)) hx hb dL_node_486 (by decide) ?_
                  have e50 := Option.some.inj hF
                  subst e50
                  exact W.zret (v := (0 : Int32)) hx hb hr (rfl) (fun t ht hW => ⟨⟨(0 : Int32), (), rfl, rfl, by rw [ht]; exact hP, va_K.moved hW.alike hK, hD⟩, hS.F ht⟩) hS.2.2 dL_node_487
                · have hF := F_pos c19 hF
                  refine lv_iconst (v := (1 : Int32)) hx hb dL_node_482 (by decide) ?_
                  refine lv_goto (tgt := 487) hx hb dL_node_483 (by decide) ?_
                  have e50 := Option.some.inj hF
                  subst e50
                  exact W.zret (v := (1 : Int32)) hx hb hr (rfl) (fun t ht hW => ⟨⟨(1 : Int32), (), rfl, rfl, by rw [ht]; exact hP, va_K.moved hW.alike hK, hD⟩, hS.F ht⟩) hS.2.2 dL_node_487
  have K342 : ∀ (n342 : Nat) (x3 : Int32) (x6 : Bool) (x7 : Int32) (x8 : Int32) (x9 : Int32) (H : Heap) (locs : List Loc), F_L_node_342 v2 v3 S n342 x3 x6 x7 x8 x9 = some rr → va_P (dC, dI) vwCl ((W_LS cI a S)) H → va_D A ((W_LS cI a S)) → va_S A s.heap H locs → ∀ ls : Array Slot, lv_has ls 11 [(0, .ref (a 0)), (1, .int v2), (2, .int v3), (3, .int x3), (6, .int (b2i x6)), (7, .int x7), (8, .int x8), (9, .int x9)] → W p l e (headSpec wsL_node ({ frames := 7, cells := 0, slots := 0, locals := 117 } : Room)).room s m ([.ref (a 0), .int v2, .int v3] : List Value).toArray below meth c H locs 0 0 (MQ below (va_Qi (fun (r' : Int32) (_ : Unit) => b2i rr = r') (fun _ : Unit => jB (dC, dI) [(cI, .int)] A ((W_LS cI a S))) A) ([.ref (a 0), .int v2, .int v3] : List Value).toArray s 0 0 A) (F0 m 342 ls []) := by
    intro n342
    induction n342 with
    | zero => intro x3 x6 x7 x8 x9 H locs hF; exact nomatch hF
    | succ n342 ih342 =>
      intro x3 x6 x7 x8 x9 H locs hF hP hD hS ls hl
      rw [F_L_node_342_s] at hF
      have K394 : ∀ (x3 : Int32) (x7 : Int32) (x8 : Int32) (x9 : Int32) (x10 : Int32) (t0 : Bool) (H : Heap) (locs : List Loc), F_L_node_394 v2 v3 S (F_L_node_342 v2 v3 S n342) x3 x7 x8 x9 x10 t0 = some rr → va_P (dC, dI) vwCl ((W_LS cI a S)) H → va_D A ((W_LS cI a S)) → va_S A s.heap H locs → ∀ ls : Array Slot, lv_has ls 11 [(0, .ref (a 0)), (1, .int v2), (2, .int v3), (3, .int x3), (7, .int x7), (8, .int x8), (9, .int x9), (10, .int x10)] → W p l e (headSpec wsL_node ({ frames := 7, cells := 0, slots := 0, locals := 117 } : Room)).room s m ([.ref (a 0), .int v2, .int v3] : List Value).toArray below meth c H locs 0 0 (MQ below (va_Qi (fun (r' : Int32) (_ : Unit) => b2i rr = r') (fun _ : Unit => jB (dC, dI) [(cI, .int)] A ((W_LS cI a S))) A) ([.ref (a 0), .int v2, .int v3] : List Value).toArray s 0 0 A) (F0 m 394 ls [.int (b2i t0)]) := by
        intro x3 x7 x8 x9 x10 t0 H locs hF hP hD hS ls hl
        unfold F_L_node_394 at hF
        refine lv_istore (lv' := [(6, .int (b2i t0)), (0, .ref (a 0)), (1, .int v2), (2, .int v3), (3, .int x3), (7, .int x7), (8, .int x8), (9, .int x9), (10, .int x10)]) hx hb dL_node_394 hl (by decide) rfl (fun ls hl => ?_)
        refine lv_iload hx hb dL_node_396 (lv_at hl 5 rfl) ?_
        refine lv_iload hx hb dL_node_398 (lv_at hl 8 rfl) ?_
        refine lv_iconst (v := (-1 : Int32)) hx hb dL_node_400 (by decide) ?_
        refine lv_icmp_ne (tgt := 408) hx hb dL_node_401 (by decide) (fun c20 => ?_) (fun c20 => ?_)
        · have hF := F_neg c20 hF
          refine lv_iconst (v := (1 : Int32)) hx hb dL_node_408 (by decide) ?_
          refine lv_iadd hx hb dL_node_409 ?_
          refine lv_istore (lv' := [(7, .int (x7 + (1 : Int32))), (6, .int (b2i t0)), (0, .ref (a 0)), (1, .int v2), (2, .int v3), (3, .int x3), (8, .int x8), (9, .int x9), (10, .int x10)]) hx hb dL_node_410 hl (by decide) rfl (fun ls hl => ?_)
          refine lv_iload hx hb dL_node_412 (lv_at hl 8 rfl) ?_
          refine lv_iconst (v := (-1 : Int32)) hx hb dL_node_414 (by decide) ?_
          refine lv_icmp_ne (tgt := 423) hx hb dL_node_415 (by decide) (fun c21 => ?_) (fun c21 => ?_)
          · have hF := F_neg c21 hF
            refine lv_iload hx hb dL_node_423 (lv_at hl 8 rfl) ?_
            refine lv_istore (lv' := [(8, .int x10), (7, .int (x7 + (1 : Int32))), (6, .int (b2i t0)), (0, .ref (a 0)), (1, .int v2), (2, .int v3), (3, .int x3), (9, .int x9), (10, .int x10)]) hx hb dL_node_425 hl (by decide) rfl (fun ls hl => ?_)
            refine lv_iinc (v := (x9 + (1 : Int32))) (lv' := [(9, .int (x9 + (1 : Int32))), (8, .int x10), (7, .int (x7 + (1 : Int32))), (6, .int (b2i t0)), (0, .ref (a 0)), (1, .int v2), (2, .int v3), (3, .int x3), (10, .int x10)]) hx hb dL_node_427 hl (k := 7) rfl rfl (by decide) rfl (fun ls hl => ?_)
            refine lv_goto (tgt := 342) hx hb dL_node_430 (by decide) ?_
            exact ih342 _ _ _ _ _ _ _ hF hP hD hS _ (lv_sub hl [4, 5, 6, 7, 3, 2, 1, 0] rfl)
          · have hF := F_pos c21 hF
            refine lv_iload hx hb dL_node_418 (lv_at hl 6 rfl) ?_
            refine lv_goto (tgt := 425) hx hb dL_node_420 (by decide) ?_
            refine lv_istore (lv' := [(8, .int x8), (7, .int (x7 + (1 : Int32))), (6, .int (b2i t0)), (0, .ref (a 0)), (1, .int v2), (2, .int v3), (3, .int x3), (9, .int x9), (10, .int x10)]) hx hb dL_node_425 hl (by decide) rfl (fun ls hl => ?_)
            refine lv_iinc (v := (x9 + (1 : Int32))) (lv' := [(9, .int (x9 + (1 : Int32))), (8, .int x8), (7, .int (x7 + (1 : Int32))), (6, .int (b2i t0)), (0, .ref (a 0)), (1, .int v2), (2, .int v3), (3, .int x3), (10, .int x10)]) hx hb dL_node_427 hl (k := 7) rfl rfl (by decide) rfl (fun ls hl => ?_)
            refine lv_goto (tgt := 342) hx hb dL_node_430 (by decide) ?_
            exact ih342 _ _ _ _ _ _ _ hF hP hD hS _ (lv_sub hl [4, 5, 6, 7, 3, 2, 1, 0] rfl)
        · have hF := F_pos c20 hF
          refine lv_iconst (v := (0 : Int32)) hx hb dL_node_404 (by decide) ?_
          refine lv_goto (tgt := 409) hx hb dL_node_405 (by decide) ?_
          refine lv_iadd hx hb dL_node_409 ?_
          refine lv_istore (lv' := [(7, .int (x7 + (0 : Int32))), (6, .int (b2i t0)), (0, .ref (a 0)), (1, .int v2), (2, .int v3), (3, .int x3), (8, .int x8), (9, .int x9), (10, .int x10)]) hx hb dL_node_410 hl (by decide) rfl (fun ls hl => ?_)
          refine lv_iload hx hb dL_node_412 (lv_at hl 8 rfl) ?_
          refine lv_iconst (v := (-1 : Int32)) hx hb dL_node_414 (by decide) ?_
          refine lv_icmp_ne (tgt := 423) hx hb dL_node_415 (by decide) (fun c22 => ?_) (fun c22 => ?_)
          · have hF := F_neg c22 hF
            refine lv_iload hx hb dL_node_423 (lv_at hl 8 rfl) ?_
            refine lv_istore (lv' := [(8, .int x10), (7, .int (x7 + (0 : Int32))), (6, .int (b2i t0)), (0, .ref (a 0)), (1, .int v2), (2, .int v3), (3, .int x3), (9, .int x9), (10, .int x10)]) hx hb dL_node_425 hl (by decide) rfl (fun ls hl => ?_)
            refine lv_iinc (v := (x9 + (1 : Int32))) (lv' := [(9, .int (x9 + (1 : Int32))), (8, .int x10), (7, .int (x7 + (0 : Int32))), (6, .int (b2i t0)), (0, .ref (a 0)), (1, .int v2), (2, .int v3), (3, .int x3), (10, .int x10)]) hx hb dL_node_427 hl (k := 7) rfl rfl (by decide) rfl (fun ls hl => ?_)
            refine lv_goto (tgt := 342) hx hb dL_node_430 (by decide) ?_
            exact ih342 _ _ _ _ _ _ _ hF hP hD hS _ (lv_sub hl [4, 5, 6, 7, 3, 2, 1, 0] rfl)
          · have hF := F_pos c22 hF
            refine lv_iload hx hb dL_node_418 (lv_at hl 6 rfl) ?_
            refine lv_goto (tgt := 425) hx hb dL_node_420 (by decide) ?_
            refine lv_istore (lv' := [(8, .int x8), (7, .int (x7 + (0 : Int32))), (6, .int (b2i t0)), (0, .ref (a 0)), (1, .int v2), (2, .int v3), (3, .int x3), (9, .int x9), (10, .int x10)]) hx hb dL_node_425 hl (by decide) rfl (fun ls hl => ?_)
            refine lv_iinc (v := (x9 + (1 : Int32))) (lv' := [(9, .int (x9 + (1 : Int32))), (8, .int x8), (7, .int (x7 + (0 : Int32))), (6, .int (b2i t0)), (0, .ref (a 0)), (1, .int v2), (2, .int v3), (3, .int x3), (10, .int x10)]) hx hb dL_node_427 hl (k := 7) rfl rfl (by decide) rfl (fun ls hl => ?_)
            refine lv_goto (tgt := 342) hx hb dL_node_430 (by decide) ?_
            exact ih342 _ _ _ _ _ _ _ hF hP hD hS _ (lv_sub hl [4, 5, 6, 7, 3, 2, 1, 0] rfl)
      refine lv_iload hx hb dL_node_342 (lv_at hl 7 rfl) ?_
      refine lv_bipush (v := (9 : Int32)) hx hb dL_node_344 (by decide) ?_
      refine lv_icmp_ge (tgt := 433) hx hb dL_node_346 (by decide) (fun c23 => ?_) (fun c23 => ?_)
      · have hF := F_pos c23 hF
        exact K433 _ _ _ _ _ hF hP hD hS _ (lv_sub hl [0, 1, 2, 3, 4, 5] rfl)
      · have hF := F_neg c23 hF
        refine lv_iload hx hb dL_node_349 (lv_at hl 4 rfl) ?_
        refine lv_if_eq (tgt := 433) hx hb dL_node_351 (by decide) (fun c24 => ?_) (fun c24 => ?_)
        · have hF := F_pos c24 hF
          exact K433 _ _ _ _ _ hF hP hD hS _ (lv_sub hl [0, 1, 2, 3, 4, 5] rfl)
        · have hF := F_neg c24 hF
          refine lv_aload_n hx hb dL_node_354 rfl (lv_at hl 0 rfl) ?_
          refine lv_iload_n hx hb dL_node_355 rfl (lv_at hl 1 rfl) ?_
          refine lv_iload_n hx hb dL_node_356 rfl (lv_at hl 2 rfl) ?_
          refine lv_iload hx hb dL_node_357 (lv_at hl 7 rfl) ?_
          obtain ⟨r25, h26, hF⟩ := ob1_some hF
          have h26 := okr_some h26
          have hPc : va_P (dC, dI) vwCl ((W_LS cI a S)) H := hP
          have hDc : va_D A ((W_LS cI a S)) := hD
          have hFc := jFreeW (ws := (W_LS cI a S)) hD hS hA
          refine va_calli (va_runV (As := [.int v2, .int v3, .int x9]) (rest := []) ⟨hx, hb, hml, hown, hts⟩ (c_X4_child_ok l dC dI cI a H.size _ _ _ _ _ h26) (cwV 3 hts gL_node_X4_child rfl rfl rfl (by decide +kernel) ⟨Nat.le_of_ble_eq_true rfl, Nat.le_of_ble_eq_true rfl⟩) (jPreV hK hPc hDc hN (ci := 4) rfl rfl) rfl rfl hl.1 rfl (lv_room (Nat.le_of_ble_eq_true rfl)) dL_node_359 ⟨Nat.le_of_ble_eq_true rfl, Nat.le_of_ble_eq_true rfl⟩) hS (fun q _ h => hFc q h) hFc (fun r' u' t H locs ht hvm hw hB hz1 hk1 hS => ?_)
          subst hw
          obtain ⟨hP1, -, hD1⟩ := hB
          rw [ht] at hP1
          have hP : va_P (dC, dI) vwCl ((W_LS cI a S)) H := hP1
          have hD : va_D A ((W_LS cI a S)) := hD1.weaken (fun _ _ _ h => hFc _ h)
          refine lv_istore (lv' := [(10, .int r25), (0, .ref (a 0)), (1, .int v2), (2, .int v3), (3, .int x3), (6, .int (b2i x6)), (7, .int x7), (8, .int x8), (9, .int x9)]) hx hb dL_node_362 hl (by decide) rfl (fun ls hl => ?_)
          refine lv_iload hx hb dL_node_364 (lv_at hl 0 rfl) ?_
          refine lv_iconst (v := (-1 : Int32)) hx hb dL_node_366 (by decide) ?_
          refine lv_icmp_eq (tgt := 389) hx hb dL_node_367 (by decide) (fun c27 => ?_) (fun c27 => ?_)
          · have hF := F_pos c27 hF
            refine lv_iconst (v := (1 : Int32)) hx hb dL_node_389 (by decide) ?_
            refine lv_goto (tgt := 394) hx hb dL_node_390 (by decide) ?_
            exact K394 _ _ _ _ _ _ _ _ hF hP hD hS _ (lv_sub hl [1, 2, 3, 4, 6, 7, 8, 0] rfl)
          · have hF := F_neg c27 hF
            refine lv_iload hx hb dL_node_370 (lv_at hl 0 rfl) ?_
            refine lv_iload hx hb dL_node_372 (lv_at hl 7 rfl) ?_
            refine lv_icmp_le (tgt := 393) hx hb dL_node_374 (by decide) (fun c28 => ?_) (fun c28 => ?_)
            · have hF := F_pos c28 hF
              refine lv_iconst (v := (0 : Int32)) hx hb dL_node_393 (by decide) ?_
              exact K394 _ _ _ _ _ _ _ _ hF hP hD hS _ (lv_sub hl [1, 2, 3, 4, 6, 7, 8, 0] rfl)
            · have hF := F_neg c28 hF
              refine lv_aload_n hx hb dL_node_377 rfl (lv_at hl 1 rfl) ?_
              refine lv_iload_n hx hb dL_node_378 rfl (lv_at hl 2 rfl) ?_
              refine lv_iload hx hb dL_node_379 (lv_at hl 0 rfl) ?_
              refine lv_iconst (v := (2 : Int32)) hx hb dL_node_381 (by decide) ?_
              obtain ⟨r29, h30, hF⟩ := ob1_some hF
              have h30 := okr_some h30
              have hPc : va_P (dC, dI) vwCl ((W_LS cI a S)) H := hP
              have hDc : va_D A ((W_LS cI a S)) := hD
              have hFc := jFreeW (ws := (W_LS cI a S)) hD hS hA
              refine va_calli (va_runV (As := [.int v2, .int r25, .int (2 : Int32)]) (rest := []) ⟨hx, hb, hml, hown, hts⟩ (c_X4_node_ok l dC dI cI a H.size _ _ _ _ _ h30) (cwV 3 hts gL_node_X4_node rfl rfl rfl (by decide +kernel) ⟨Nat.le_of_ble_eq_true rfl, Nat.le_of_ble_eq_true rfl⟩) (jPreV hK hPc hDc hN (ci := 4) rfl rfl) rfl rfl hl.1 rfl (lv_room (Nat.le_of_ble_eq_true rfl)) dL_node_382 ⟨Nat.le_of_ble_eq_true rfl, Nat.le_of_ble_eq_true rfl⟩) hS (fun q _ h => hFc q h) hFc (fun r' u' t H locs ht hvm hw hB hz1 hk1 hS => ?_)
              subst hw
              obtain ⟨hP1, -, hD1⟩ := hB
              rw [ht] at hP1
              have hP : va_P (dC, dI) vwCl ((W_LS cI a S)) H := hP1
              have hD : va_D A ((W_LS cI a S)) := hD1.weaken (fun _ _ _ h => hFc _ h)
              refine lv_iload_n hx hb dL_node_385 rfl (lv_at hl 3 rfl) ?_
              refine lv_icmp_ne (tgt := 393) hx hb dL_node_386 (by decide) (fun c31 => ?_) (fun c31 => ?_)
              · have hF := F_neg c31 hF
                refine lv_iconst (v := (0 : Int32)) hx hb dL_node_393 (by decide) ?_
                exact K394 _ _ _ _ _ _ _ _ hF hP hD hS _ (lv_sub hl [1, 2, 3, 4, 6, 7, 8, 0] rfl)
              · have hF := F_pos c31 hF
                refine lv_iconst (v := (1 : Int32)) hx hb dL_node_389 (by decide) ?_
                refine lv_goto (tgt := 394) hx hb dL_node_390 (by decide) ?_
                exact K394 _ _ _ _ _ _ _ _ hF hP hD hS _ (lv_sub hl [1, 2, 3, 4, 6, 7, 8, 0] rfl)
  have K307 : ∀ (x3 : Int32) (x4 : Int32) (x5 : Int32) (H : Heap) (locs : List Loc), F_L_node_307 v2 v3 S x3 x4 x5 = some rr → va_P (dC, dI) vwCl ((W_LS cI a S)) H → va_D A ((W_LS cI a S)) → va_S A s.heap H locs → ∀ ls : Array Slot, lv_has ls 11 [(0, .ref (a 0)), (1, .int v2), (2, .int v3), (3, .int x3), (4, .int x4), (5, .int x5)] → W p l e (headSpec wsL_node ({ frames := 7, cells := 0, slots := 0, locals := 117 } : Room)).room s m ([.ref (a 0), .int v2, .int v3] : List Value).toArray below meth c H locs 0 0 (MQ below (va_Qi (fun (r' : Int32) (_ : Unit) => b2i rr = r') (fun _ : Unit => jB (dC, dI) [(cI, .int)] A ((W_LS cI a S))) A) ([.ref (a 0), .int v2, .int v3] : List Value).toArray s 0 0 A) (F0 m 307 ls []) := by
    intro x3 x4 x5 H locs hF hP hD hS ls hl
    unfold F_L_node_307 at hF
    refine lv_aload_n hx hb dL_node_307 rfl (lv_at hl 0 rfl) ?_
    refine lv_iload_n hx hb dL_node_308 rfl (lv_at hl 1 rfl) ?_
    refine lv_iload hx hb dL_node_309 (lv_at hl 4 rfl) ?_
    refine lv_iconst (v := (0 : Int32)) hx hb dL_node_311 (by decide) ?_
    obtain ⟨r32, h33, hF⟩ := ob1_some hF
    have h33 := okr_some h33
    have hPc : va_P (dC, dI) vwCl ((W_LS cI a S)) H := hP
    have hDc : va_D A ((W_LS cI a S)) := hD
    have hFc := jFreeW (ws := (W_LS cI a S)) hD hS hA
    refine va_calli (va_runV (As := [.int v2, .int x4, .int (0 : Int32)]) (rest := []) ⟨hx, hb, hml, hown, hts⟩ (c_X4_node_ok l dC dI cI a H.size _ _ _ _ _ h33) (cwV 3 hts gL_node_X4_node rfl rfl rfl (by decide +kernel) ⟨Nat.le_of_ble_eq_true rfl, Nat.le_of_ble_eq_true rfl⟩) (jPreV hK hPc hDc hN (ci := 4) rfl rfl) rfl rfl hl.1 rfl (lv_room (Nat.le_of_ble_eq_true rfl)) dL_node_312 ⟨Nat.le_of_ble_eq_true rfl, Nat.le_of_ble_eq_true rfl⟩) hS (fun q _ h => hFc q h) hFc (fun r' u' t H locs ht hvm hw hB hz1 hk1 hS => ?_)
    subst hw
    obtain ⟨hP1, -, hD1⟩ := hB
    rw [ht] at hP1
    have hP : va_P (dC, dI) vwCl ((W_LS cI a S)) H := hP1
    have hD : va_D A ((W_LS cI a S)) := hD1.weaken (fun _ _ _ h => hFc _ h)
    refine lv_iconst (v := (5 : Int32)) hx hb dL_node_315 (by decide) ?_
    refine lv_icmp_ne (tgt := 330) hx hb dL_node_316 (by decide) (fun c34 => ?_) (fun c34 => ?_)
    · have hF := F_neg c34 hF
      refine lv_iconst (v := (0 : Int32)) hx hb dL_node_330 (by decide) ?_
      refine lv_istore (lv' := [(6, .int (0 : Int32)), (0, .ref (a 0)), (1, .int v2), (2, .int v3), (3, .int x3), (4, .int x4), (5, .int x5)]) hx hb dL_node_331 hl (by decide) rfl (fun ls hl => ?_)
      refine lv_iconst (v := (0 : Int32)) hx hb dL_node_333 (by decide) ?_
      refine lv_istore (lv' := [(7, .int (0 : Int32)), (6, .int (0 : Int32)), (0, .ref (a 0)), (1, .int v2), (2, .int v3), (3, .int x3), (4, .int x4), (5, .int x5)]) hx hb dL_node_334 hl (by decide) rfl (fun ls hl => ?_)
      refine lv_iload_n hx hb dL_node_336 rfl (lv_at hl 4 rfl) ?_
      refine lv_istore (lv' := [(8, .int v3), (7, .int (0 : Int32)), (6, .int (0 : Int32)), (0, .ref (a 0)), (1, .int v2), (2, .int v3), (3, .int x3), (4, .int x4), (5, .int x5)]) hx hb dL_node_337 hl (by decide) rfl (fun ls hl => ?_)
      refine lv_iconst (v := (0 : Int32)) hx hb dL_node_339 (by decide) ?_
      refine lv_istore (lv' := [(9, .int (0 : Int32)), (8, .int v3), (7, .int (0 : Int32)), (6, .int (0 : Int32)), (0, .ref (a 0)), (1, .int v2), (2, .int v3), (3, .int x3), (4, .int x4), (5, .int x5)]) hx hb dL_node_340 hl (by decide) rfl (fun ls hl => ?_)
      exact K342 _ _ _ _ _ _ _ _ hF hP hD hS _ (lv_sub hl [4, 5, 6, 7, 3, 2, 1, 0] rfl)
    · have hF := F_pos c34 hF
      refine lv_iload hx hb dL_node_319 (lv_at hl 5 rfl) ?_
      refine lv_bipush (v := (8 : Int32)) hx hb dL_node_321 (by decide) ?_
      refine lv_icmp_ne (tgt := 330) hx hb dL_node_323 (by decide) (fun c35 => ?_) (fun c35 => ?_)
      · have hF := F_neg c35 hF
        refine lv_iconst (v := (0 : Int32)) hx hb dL_node_330 (by decide) ?_
        refine lv_istore (lv' := [(6, .int (0 : Int32)), (0, .ref (a 0)), (1, .int v2), (2, .int v3), (3, .int x3), (4, .int x4), (5, .int x5)]) hx hb dL_node_331 hl (by decide) rfl (fun ls hl => ?_)
        refine lv_iconst (v := (0 : Int32)) hx hb dL_node_333 (by decide) ?_
        refine lv_istore (lv' := [(7, .int (0 : Int32)), (6, .int (0 : Int32)), (0, .ref (a 0)), (1, .int v2), (2, .int v3), (3, .int x3), (4, .int x4), (5, .int x5)]) hx hb dL_node_334 hl (by decide) rfl (fun ls hl => ?_)
        refine lv_iload_n hx hb dL_node_336 rfl (lv_at hl 4 rfl) ?_
        refine lv_istore (lv' := [(8, .int v3), (7, .int (0 : Int32)), (6, .int (0 : Int32)), (0, .ref (a 0)), (1, .int v2), (2, .int v3), (3, .int x3), (4, .int x4), (5, .int x5)]) hx hb dL_node_337 hl (by decide) rfl (fun ls hl => ?_)
        refine lv_iconst (v := (0 : Int32)) hx hb dL_node_339 (by decide) ?_
        refine lv_istore (lv' := [(9, .int (0 : Int32)), (8, .int v3), (7, .int (0 : Int32)), (6, .int (0 : Int32)), (0, .ref (a 0)), (1, .int v2), (2, .int v3), (3, .int x3), (4, .int x4), (5, .int x5)]) hx hb dL_node_340 hl (by decide) rfl (fun ls hl => ?_)
        exact K342 _ _ _ _ _ _ _ _ hF hP hD hS _ (lv_sub hl [4, 5, 6, 7, 3, 2, 1, 0] rfl)
      · have hF := F_pos c35 hF
        refine lv_iconst (v := (1 : Int32)) hx hb dL_node_326 (by decide) ?_
        refine lv_goto (tgt := 331) hx hb dL_node_327 (by decide) ?_
        refine lv_istore (lv' := [(6, .int (1 : Int32)), (0, .ref (a 0)), (1, .int v2), (2, .int v3), (3, .int x3), (4, .int x4), (5, .int x5)]) hx hb dL_node_331 hl (by decide) rfl (fun ls hl => ?_)
        refine lv_iconst (v := (0 : Int32)) hx hb dL_node_333 (by decide) ?_
        refine lv_istore (lv' := [(7, .int (0 : Int32)), (6, .int (1 : Int32)), (0, .ref (a 0)), (1, .int v2), (2, .int v3), (3, .int x3), (4, .int x4), (5, .int x5)]) hx hb dL_node_334 hl (by decide) rfl (fun ls hl => ?_)
        refine lv_iload_n hx hb dL_node_336 rfl (lv_at hl 4 rfl) ?_
        refine lv_istore (lv' := [(8, .int v3), (7, .int (0 : Int32)), (6, .int (1 : Int32)), (0, .ref (a 0)), (1, .int v2), (2, .int v3), (3, .int x3), (4, .int x4), (5, .int x5)]) hx hb dL_node_337 hl (by decide) rfl (fun ls hl => ?_)
        refine lv_iconst (v := (0 : Int32)) hx hb dL_node_339 (by decide) ?_
        refine lv_istore (lv' := [(9, .int (0 : Int32)), (8, .int v3), (7, .int (0 : Int32)), (6, .int (1 : Int32)), (0, .ref (a 0)), (1, .int v2), (2, .int v3), (3, .int x3), (4, .int x4), (5, .int x5)]) hx hb dL_node_340 hl (by decide) rfl (fun ls hl => ?_)
        exact K342 _ _ _ _ _ _ _ _ hF hP hD hS _ (lv_sub hl [4, 5, 6, 7, 3, 2, 1, 0] rfl)
  have K280 : ∀ (x3 : Int32) (x4 : Int32) (x5 : Int32) (t0 : Bool) (H : Heap) (locs : List Loc), F_L_node_280 v2 v3 S x3 x4 x5 t0 = some rr → va_P (dC, dI) vwCl ((W_LS cI a S)) H → va_D A ((W_LS cI a S)) → va_S A s.heap H locs → ∀ ls : Array Slot, lv_has ls 11 [(0, .ref (a 0)), (1, .int v2), (2, .int v3), (3, .int x3), (4, .int x4), (5, .int x5)] → W p l e (headSpec wsL_node ({ frames := 7, cells := 0, slots := 0, locals := 117 } : Room)).room s m ([.ref (a 0), .int v2, .int v3] : List Value).toArray below meth c H locs 0 0 (MQ below (va_Qi (fun (r' : Int32) (_ : Unit) => b2i rr = r') (fun _ : Unit => jB (dC, dI) [(cI, .int)] A ((W_LS cI a S))) A) ([.ref (a 0), .int v2, .int v3] : List Value).toArray s 0 0 A) (F0 m 280 ls [.int (b2i t0)]) := by
    intro x3 x4 x5 t0 H locs hF hP hD hS ls hl
    unfold F_L_node_280 at hF
    refine lv_istore (lv' := [(6, .int (b2i t0)), (0, .ref (a 0)), (1, .int v2), (2, .int v3), (3, .int x3), (4, .int x4), (5, .int x5)]) hx hb dL_node_280 hl (by decide) rfl (fun ls hl => ?_)
    refine lv_iload hx hb dL_node_282 (lv_at hl 0 rfl) ?_
    refine lv_if_eq (tgt := 330) hx hb dL_node_284 (by decide) (fun c36 => ?_) (fun c36 => ?_)
    · have hF := F_pos c36 hF
      refine lv_iconst (v := (0 : Int32)) hx hb dL_node_330 (by decide) ?_
      refine lv_istore (lv' := [(6, .int (0 : Int32)), (0, .ref (a 0)), (1, .int v2), (2, .int v3), (3, .int x3), (4, .int x4), (5, .int x5)]) hx hb dL_node_331 hl (by decide) rfl (fun ls hl => ?_)
      refine lv_iconst (v := (0 : Int32)) hx hb dL_node_333 (by decide) ?_
      refine lv_istore (lv' := [(7, .int (0 : Int32)), (6, .int (0 : Int32)), (0, .ref (a 0)), (1, .int v2), (2, .int v3), (3, .int x3), (4, .int x4), (5, .int x5)]) hx hb dL_node_334 hl (by decide) rfl (fun ls hl => ?_)
      refine lv_iload_n hx hb dL_node_336 rfl (lv_at hl 4 rfl) ?_
      refine lv_istore (lv' := [(8, .int v3), (7, .int (0 : Int32)), (6, .int (0 : Int32)), (0, .ref (a 0)), (1, .int v2), (2, .int v3), (3, .int x3), (4, .int x4), (5, .int x5)]) hx hb dL_node_337 hl (by decide) rfl (fun ls hl => ?_)
      refine lv_iconst (v := (0 : Int32)) hx hb dL_node_339 (by decide) ?_
      refine lv_istore (lv' := [(9, .int (0 : Int32)), (8, .int v3), (7, .int (0 : Int32)), (6, .int (0 : Int32)), (0, .ref (a 0)), (1, .int v2), (2, .int v3), (3, .int x3), (4, .int x4), (5, .int x5)]) hx hb dL_node_340 hl (by decide) rfl (fun ls hl => ?_)
      exact K342 _ _ _ _ _ _ _ _ hF hP hD hS _ (lv_sub hl [4, 5, 6, 7, 3, 2, 1, 0] rfl)
    · have hF := F_neg c36 hF
      refine lv_aload_n hx hb dL_node_287 rfl (lv_at hl 1 rfl) ?_
      refine lv_iload_n hx hb dL_node_288 rfl (lv_at hl 2 rfl) ?_
      refine lv_iload hx hb dL_node_289 (lv_at hl 5 rfl) ?_
      refine lv_iconst (v := (0 : Int32)) hx hb dL_node_291 (by decide) ?_
      obtain ⟨r37, h38, hF⟩ := ob1_some hF
      have h38 := okr_some h38
      have hPc : va_P (dC, dI) vwCl ((W_LS cI a S)) H := hP
      have hDc : va_D A ((W_LS cI a S)) := hD
      have hFc := jFreeW (ws := (W_LS cI a S)) hD hS hA
      refine va_calli (va_runV (As := [.int v2, .int x4, .int (0 : Int32)]) (rest := []) ⟨hx, hb, hml, hown, hts⟩ (c_X4_node_ok l dC dI cI a H.size _ _ _ _ _ h38) (cwV 3 hts gL_node_X4_node rfl rfl rfl (by decide +kernel) ⟨Nat.le_of_ble_eq_true rfl, Nat.le_of_ble_eq_true rfl⟩) (jPreV hK hPc hDc hN (ci := 4) rfl rfl) rfl rfl hl.1 rfl (lv_room (Nat.le_of_ble_eq_true rfl)) dL_node_292 ⟨Nat.le_of_ble_eq_true rfl, Nat.le_of_ble_eq_true rfl⟩) hS (fun q _ h => hFc q h) hFc (fun r' u' t H locs ht hvm hw hB hz1 hk1 hS => ?_)
      subst hw
      obtain ⟨hP1, -, hD1⟩ := hB
      rw [ht] at hP1
      have hP : va_P (dC, dI) vwCl ((W_LS cI a S)) H := hP1
      have hD : va_D A ((W_LS cI a S)) := hD1.weaken (fun _ _ _ h => hFc _ h)
      refine lv_bipush (v := (6 : Int32)) hx hb dL_node_295 (by decide) ?_
      refine lv_icmp_ne (tgt := 307) hx hb dL_node_297 (by decide) (fun c39 => ?_) (fun c39 => ?_)
      · have hF := F_neg c39 hF
        exact K307 _ _ _ _ _ hF hP hD hS _ (lv_sub hl [1, 2, 3, 4, 5, 6] rfl)
      · have hF := F_pos c39 hF
        refine lv_iload hx hb dL_node_300 (lv_at hl 6 rfl) ?_
        refine lv_bipush (v := (8 : Int32)) hx hb dL_node_302 (by decide) ?_
        refine lv_icmp_lt (tgt := 326) hx hb dL_node_304 (by decide) (fun c40 => ?_) (fun c40 => ?_)
        · have hF := F_pos c40 hF
          refine lv_iconst (v := (1 : Int32)) hx hb dL_node_326 (by decide) ?_
          refine lv_goto (tgt := 331) hx hb dL_node_327 (by decide) ?_
          refine lv_istore (lv' := [(6, .int (1 : Int32)), (0, .ref (a 0)), (1, .int v2), (2, .int v3), (3, .int x3), (4, .int x4), (5, .int x5)]) hx hb dL_node_331 hl (by decide) rfl (fun ls hl => ?_)
          refine lv_iconst (v := (0 : Int32)) hx hb dL_node_333 (by decide) ?_
          refine lv_istore (lv' := [(7, .int (0 : Int32)), (6, .int (1 : Int32)), (0, .ref (a 0)), (1, .int v2), (2, .int v3), (3, .int x3), (4, .int x4), (5, .int x5)]) hx hb dL_node_334 hl (by decide) rfl (fun ls hl => ?_)
          refine lv_iload_n hx hb dL_node_336 rfl (lv_at hl 4 rfl) ?_
          refine lv_istore (lv' := [(8, .int v3), (7, .int (0 : Int32)), (6, .int (1 : Int32)), (0, .ref (a 0)), (1, .int v2), (2, .int v3), (3, .int x3), (4, .int x4), (5, .int x5)]) hx hb dL_node_337 hl (by decide) rfl (fun ls hl => ?_)
          refine lv_iconst (v := (0 : Int32)) hx hb dL_node_339 (by decide) ?_
          refine lv_istore (lv' := [(9, .int (0 : Int32)), (8, .int v3), (7, .int (0 : Int32)), (6, .int (1 : Int32)), (0, .ref (a 0)), (1, .int v2), (2, .int v3), (3, .int x3), (4, .int x4), (5, .int x5)]) hx hb dL_node_340 hl (by decide) rfl (fun ls hl => ?_)
          exact K342 _ _ _ _ _ _ _ _ hF hP hD hS _ (lv_sub hl [4, 5, 6, 7, 3, 2, 1, 0] rfl)
        · have hF := F_neg c40 hF
          exact K307 _ _ _ _ _ hF hP hD hS _ (lv_sub hl [1, 2, 3, 4, 5, 6] rfl)
  have K246 : ∀ (x3 : Int32) (x4 : Int32) (x5 : Int32) (t0 : Int32) (t1 : Bool) (H : Heap) (locs : List Loc), F_L_node_246 v2 v3 S x3 x4 x5 t0 t1 = some rr → va_P (dC, dI) vwCl ((W_LS cI a S)) H → va_D A ((W_LS cI a S)) → va_S A s.heap H locs → ∀ ls : Array Slot, lv_has ls 11 [(0, .ref (a 0)), (1, .int v2), (2, .int v3), (3, .int x3), (4, .int x4), (5, .int x5)] → W p l e (headSpec wsL_node ({ frames := 7, cells := 0, slots := 0, locals := 117 } : Room)).room s m ([.ref (a 0), .int v2, .int v3] : List Value).toArray below meth c H locs 0 0 (MQ below (va_Qi (fun (r' : Int32) (_ : Unit) => b2i rr = r') (fun _ : Unit => jB (dC, dI) [(cI, .int)] A ((W_LS cI a S))) A) ([.ref (a 0), .int v2, .int v3] : List Value).toArray s 0 0 A) (F0 m 246 ls [.int (b2i t1), .int t0]) := by
    intro x3 x4 x5 t0 t1 H locs hF hP hD hS ls hl
    unfold F_L_node_246 at hF
    refine lv_icmp_ne (tgt := 279) hx hb dL_node_246 (by decide) (fun c41 => ?_) (fun c41 => ?_)
    · have hF := F_neg c41 hF
      refine lv_iconst (v := (0 : Int32)) hx hb dL_node_279 (by decide) ?_
      exact K280 _ _ _ _ _ _ hF hP hD hS _ (lv_sub hl [0, 1, 2, 3, 4, 5] rfl)
    · have hF := F_pos c41 hF
      refine lv_iload hx hb dL_node_249 (lv_at hl 5 rfl) ?_
      refine lv_bipush (v := (8 : Int32)) hx hb dL_node_251 (by decide) ?_
      refine lv_icmp_eq (tgt := 275) hx hb dL_node_253 (by decide) (fun c42 => ?_) (fun c42 => ?_)
      · have hF := F_pos c42 hF
        refine lv_iconst (v := (1 : Int32)) hx hb dL_node_275 (by decide) ?_
        refine lv_goto (tgt := 280) hx hb dL_node_276 (by decide) ?_
        exact K280 _ _ _ _ _ _ hF hP hD hS _ (lv_sub hl [0, 1, 2, 3, 4, 5] rfl)
      · have hF := F_neg c42 hF
        refine lv_aload_n hx hb dL_node_256 rfl (lv_at hl 0 rfl) ?_
        refine lv_iload_n hx hb dL_node_257 rfl (lv_at hl 1 rfl) ?_
        refine lv_iload_n hx hb dL_node_258 rfl (lv_at hl 2 rfl) ?_
        refine lv_iconst (v := (4 : Int32)) hx hb dL_node_259 (by decide) ?_
        obtain ⟨r43, h44, hF⟩ := ob1_some hF
        have h44 := okr_some h44
        have hPc : va_P (dC, dI) vwCl ((W_LS cI a S)) H := hP
        have hDc : va_D A ((W_LS cI a S)) := hD
        have hFc := jFreeW (ws := (W_LS cI a S)) hD hS hA
        refine va_calli (va_runV (As := [.int v2, .int v3, .int (4 : Int32)]) (rest := []) ⟨hx, hb, hml, hown, hts⟩ (c_X4_node_ok l dC dI cI a H.size _ _ _ _ _ h44) (cwV 3 hts gL_node_X4_node rfl rfl rfl (by decide +kernel) ⟨Nat.le_of_ble_eq_true rfl, Nat.le_of_ble_eq_true rfl⟩) (jPreV hK hPc hDc hN (ci := 4) rfl rfl) rfl rfl hl.1 rfl (lv_room (Nat.le_of_ble_eq_true rfl)) dL_node_260 ⟨Nat.le_of_ble_eq_true rfl, Nat.le_of_ble_eq_true rfl⟩) hS (fun q _ h => hFc q h) hFc (fun r' u' t H locs ht hvm hw hB hz1 hk1 hS => ?_)
        subst hw
        obtain ⟨hP1, -, hD1⟩ := hB
        rw [ht] at hP1
        have hP : va_P (dC, dI) vwCl ((W_LS cI a S)) H := hP1
        have hD : va_D A ((W_LS cI a S)) := hD1.weaken (fun _ _ _ h => hFc _ h)
        refine lv_aload_n hx hb dL_node_263 rfl (lv_at hl 0 rfl) ?_
        refine lv_iload_n hx hb dL_node_264 rfl (lv_at hl 1 rfl) ?_
        refine lv_iload hx hb dL_node_265 (lv_at hl 4 rfl) ?_
        refine lv_bipush (v := (6 : Int32)) hx hb dL_node_267 (by decide) ?_
        obtain ⟨r45, h46, hF⟩ := ob1_some hF
        have h46 := okr_some h46
        have hPc : va_P (dC, dI) vwCl ((W_LS cI a S)) H := hP
        have hDc : va_D A ((W_LS cI a S)) := hD
        have hFc := jFreeW (ws := (W_LS cI a S)) hD hS hA
        refine va_calli (va_runV (As := [.int v2, .int x4, .int (6 : Int32)]) (rest := [.int r43]) ⟨hx, hb, hml, hown, hts⟩ (c_X4_node_ok l dC dI cI a H.size _ _ _ _ _ h46) (cwV 3 hts gL_node_X4_node rfl rfl rfl (by decide +kernel) ⟨Nat.le_of_ble_eq_true rfl, Nat.le_of_ble_eq_true rfl⟩) (jPreV hK hPc hDc hN (ci := 4) rfl rfl) rfl rfl hl.1 rfl (lv_room (Nat.le_of_ble_eq_true rfl)) dL_node_269 ⟨Nat.le_of_ble_eq_true rfl, Nat.le_of_ble_eq_true rfl⟩) hS (fun q _ h => hFc q h) hFc (fun r' u' t H locs ht hvm hw hB hz1 hk1 hS => ?_)
        subst hw
        obtain ⟨hP1, -, hD1⟩ := hB
        rw [ht] at hP1
        have hP : va_P (dC, dI) vwCl ((W_LS cI a S)) H := hP1
        have hD : va_D A ((W_LS cI a S)) := hD1.weaken (fun _ _ _ h => hFc _ h)
        refine lv_icmp_gt (tgt := 279) hx hb dL_node_272 (by decide) (fun c47 => ?_) (fun c47 => ?_)
        · have hF := F_pos c47 hF
          refine lv_iconst (v := (0 : Int32)) hx hb dL_node_279 (by decide) ?_
          exact K280 _ _ _ _ _ _ hF hP hD hS _ (lv_sub hl [0, 1, 2, 3, 4, 5] rfl)
        · have hF := F_neg c47 hF
          refine lv_iconst (v := (1 : Int32)) hx hb dL_node_275 (by decide) ?_
          refine lv_goto (tgt := 280) hx hb dL_node_276 (by decide) ?_
          exact K280 _ _ _ _ _ _ hF hP hD hS _ (lv_sub hl [0, 1, 2, 3, 4, 5] rfl)
  have K193 : ∀ (x3 : Int32) (x4 : Int32) (x5 : Int32) (t0 : Bool) (H : Heap) (locs : List Loc), F_L_node_193 v2 v3 S x3 x4 x5 t0 = some rr → va_P (dC, dI) vwCl ((W_LS cI a S)) H → va_D A ((W_LS cI a S)) → va_S A s.heap H locs → ∀ ls : Array Slot, lv_has ls 11 [(0, .ref (a 0)), (1, .int v2), (2, .int v3), (3, .int x3), (4, .int x4), (5, .int x5)] → W p l e (headSpec wsL_node ({ frames := 7, cells := 0, slots := 0, locals := 117 } : Room)).room s m ([.ref (a 0), .int v2, .int v3] : List Value).toArray below meth c H locs 0 0 (MQ below (va_Qi (fun (r' : Int32) (_ : Unit) => b2i rr = r') (fun _ : Unit => jB (dC, dI) [(cI, .int)] A ((W_LS cI a S))) A) ([.ref (a 0), .int v2, .int v3] : List Value).toArray s 0 0 A) (F0 m 193 ls [.int (b2i t0)]) := by
    intro x3 x4 x5 t0 H locs hF hP hD hS ls hl
    unfold F_L_node_193 at hF
    refine lv_istore (lv' := [(7, .int (b2i t0)), (0, .ref (a 0)), (1, .int v2), (2, .int v3), (3, .int x3), (4, .int x4), (5, .int x5)]) hx hb dL_node_193 hl (by decide) rfl (fun ls hl => ?_)
    refine lv_aload_n hx hb dL_node_195 rfl (lv_at hl 1 rfl) ?_
    refine lv_iload_n hx hb dL_node_196 rfl (lv_at hl 2 rfl) ?_
    refine lv_iload hx hb dL_node_197 (lv_at hl 5 rfl) ?_
    refine lv_iload hx hb dL_node_199 (lv_at hl 6 rfl) ?_
    obtain ⟨r48, h49, hF⟩ := ob1_some hF
    have h49 := okr_some h49
    have hPc : va_P (dC, dI) vwCl ((W_LS cI a S)) H := hP
    have hDc : va_D A ((W_LS cI a S)) := hD
    have hFc := jFreeW (ws := (W_LS cI a S)) hD hS hA
    refine va_calli (va_runV (As := [.int v2, .int x4, .int x5]) (rest := []) ⟨hx, hb, hml, hown, hts⟩ (c_X4_child_ok l dC dI cI a H.size _ _ _ _ _ h49) (cwV 3 hts gL_node_X4_child rfl rfl rfl (by decide +kernel) ⟨Nat.le_of_ble_eq_true rfl, Nat.le_of_ble_eq_true rfl⟩) (jPreV hK hPc hDc hN (ci := 4) rfl rfl) rfl rfl hl.1 rfl (lv_room (Nat.le_of_ble_eq_true rfl)) dL_node_201 ⟨Nat.le_of_ble_eq_true rfl, Nat.le_of_ble_eq_true rfl⟩) hS (fun q _ h => hFc q h) hFc (fun r' u' t H locs ht hvm hw hB hz1 hk1 hS => ?_)
    subst hw
    obtain ⟨hP1, -, hD1⟩ := hB
    rw [ht] at hP1
    have hP : va_P (dC, dI) vwCl ((W_LS cI a S)) H := hP1
    have hD : va_D A ((W_LS cI a S)) := hD1.weaken (fun _ _ _ h => hFc _ h)
    refine lv_iload_n hx hb dL_node_204 rfl (lv_at hl 3 rfl) ?_
    refine lv_icmp_ne (tgt := 279) hx hb dL_node_205 (by decide) (fun c50 => ?_) (fun c50 => ?_)
    · have hF := F_neg c50 hF
      refine lv_iconst (v := (0 : Int32)) hx hb dL_node_279 (by decide) ?_
      exact K280 _ _ _ _ _ _ hF hP hD hS _ (lv_sub hl [1, 2, 3, 4, 5, 6] rfl)
    · have hF := F_pos c50 hF
      refine lv_aload_n hx hb dL_node_208 rfl (lv_at hl 1 rfl) ?_
      refine lv_iload_n hx hb dL_node_209 rfl (lv_at hl 2 rfl) ?_
      refine lv_iload_n hx hb dL_node_210 rfl (lv_at hl 3 rfl) ?_
      refine lv_iconst (v := (3 : Int32)) hx hb dL_node_211 (by decide) ?_
      obtain ⟨r51, h52, hF⟩ := ob1_some hF
      have h52 := okr_some h52
      have hPc : va_P (dC, dI) vwCl ((W_LS cI a S)) H := hP
      have hDc : va_D A ((W_LS cI a S)) := hD
      have hFc := jFreeW (ws := (W_LS cI a S)) hD hS hA
      refine va_calli (va_runV (As := [.int v2, .int v3, .int (3 : Int32)]) (rest := []) ⟨hx, hb, hml, hown, hts⟩ (c_X4_node_ok l dC dI cI a H.size _ _ _ _ _ h52) (cwV 3 hts gL_node_X4_node rfl rfl rfl (by decide +kernel) ⟨Nat.le_of_ble_eq_true rfl, Nat.le_of_ble_eq_true rfl⟩) (jPreV hK hPc hDc hN (ci := 4) rfl rfl) rfl rfl hl.1 rfl (lv_room (Nat.le_of_ble_eq_true rfl)) dL_node_212 ⟨Nat.le_of_ble_eq_true rfl, Nat.le_of_ble_eq_true rfl⟩) hS (fun q _ h => hFc q h) hFc (fun r' u' t H locs ht hvm hw hB hz1 hk1 hS => ?_)
      subst hw
      obtain ⟨hP1, -, hD1⟩ := hB
      rw [ht] at hP1
      have hP : va_P (dC, dI) vwCl ((W_LS cI a S)) H := hP1
      have hD : va_D A ((W_LS cI a S)) := hD1.weaken (fun _ _ _ h => hFc _ h)
      refine lv_aload_n hx hb dL_node_215 rfl (lv_at hl 1 rfl) ?_
      refine lv_iload_n hx hb dL_node_216 rfl (lv_at hl 2 rfl) ?_
      refine lv_iload hx hb dL_node_217 (lv_at hl 5 rfl) ?_
      refine lv_iconst (v := (3 : Int32)) hx hb dL_node_219 (by decide) ?_
      obtain ⟨r53, h54, hF⟩ := ob1_some hF
      have h54 := okr_some h54
      have hPc : va_P (dC, dI) vwCl ((W_LS cI a S)) H := hP
      have hDc : va_D A ((W_LS cI a S)) := hD
      have hFc := jFreeW (ws := (W_LS cI a S)) hD hS hA
      refine va_calli (va_runV (As := [.int v2, .int x4, .int (3 : Int32)]) (rest := [.int r51]) ⟨hx, hb, hml, hown, hts⟩ (c_X4_node_ok l dC dI cI a H.size _ _ _ _ _ h54) (cwV 3 hts gL_node_X4_node rfl rfl rfl (by decide +kernel) ⟨Nat.le_of_ble_eq_true rfl, Nat.le_of_ble_eq_true rfl⟩) (jPreV hK hPc hDc hN (ci := 4) rfl rfl) rfl rfl hl.1 rfl (lv_room (Nat.le_of_ble_eq_true rfl)) dL_node_220 ⟨Nat.le_of_ble_eq_true rfl, Nat.le_of_ble_eq_true rfl⟩) hS (fun q _ h => hFc q h) hFc (fun r' u' t H locs ht hvm hw hB hz1 hk1 hS => ?_)
      subst hw
      obtain ⟨hP1, -, hD1⟩ := hB
      rw [ht] at hP1
      have hP : va_P (dC, dI) vwCl ((W_LS cI a S)) H := hP1
      have hD : va_D A ((W_LS cI a S)) := hD1.weaken (fun _ _ _ h => hFc _ h)
      refine lv_iconst (v := (1 : Int32)) hx hb dL_node_223 (by decide) ?_
      refine lv_iadd hx hb dL_node_224 ?_
      refine lv_icmp_ne (tgt := 279) hx hb dL_node_225 (by decide) (fun c55 => ?_) (fun c55 => ?_)
      · have hF := F_neg c55 hF
        refine lv_iconst (v := (0 : Int32)) hx hb dL_node_279 (by decide) ?_
        exact K280 _ _ _ _ _ _ hF hP hD hS _ (lv_sub hl [1, 2, 3, 4, 5, 6] rfl)
      · have hF := F_pos c55 hF
        refine lv_aload_n hx hb dL_node_228 rfl (lv_at hl 1 rfl) ?_
        refine lv_iload_n hx hb dL_node_229 rfl (lv_at hl 2 rfl) ?_
        refine lv_iload_n hx hb dL_node_230 rfl (lv_at hl 3 rfl) ?_
        refine lv_bipush (v := (7 : Int32)) hx hb dL_node_231 (by decide) ?_
        obtain ⟨r56, h57, hF⟩ := ob1_some hF
        have h57 := okr_some h57
        have hPc : va_P (dC, dI) vwCl ((W_LS cI a S)) H := hP
        have hDc : va_D A ((W_LS cI a S)) := hD
        have hFc := jFreeW (ws := (W_LS cI a S)) hD hS hA
        refine va_calli (va_runV (As := [.int v2, .int v3, .int (7 : Int32)]) (rest := []) ⟨hx, hb, hml, hown, hts⟩ (c_X4_node_ok l dC dI cI a H.size _ _ _ _ _ h57) (cwV 3 hts gL_node_X4_node rfl rfl rfl (by decide +kernel) ⟨Nat.le_of_ble_eq_true rfl, Nat.le_of_ble_eq_true rfl⟩) (jPreV hK hPc hDc hN (ci := 4) rfl rfl) rfl rfl hl.1 rfl (lv_room (Nat.le_of_ble_eq_true rfl)) dL_node_233 ⟨Nat.le_of_ble_eq_true rfl, Nat.le_of_ble_eq_true rfl⟩) hS (fun q _ h => hFc q h) hFc (fun r' u' t H locs ht hvm hw hB hz1 hk1 hS => ?_)
        subst hw
        obtain ⟨hP1, -, hD1⟩ := hB
        rw [ht] at hP1
        have hP : va_P (dC, dI) vwCl ((W_LS cI a S)) H := hP1
        have hD : va_D A ((W_LS cI a S)) := hD1.weaken (fun _ _ _ h => hFc _ h)
        refine lv_iload hx hb dL_node_236 (lv_at hl 0 rfl) ?_
        refine lv_if_eq (tgt := 245) hx hb dL_node_238 (by decide) (fun c58 => ?_) (fun c58 => ?_)
        · have hF := F_pos c58 hF
          refine lv_iconst (v := (0 : Int32)) hx hb dL_node_245 (by decide) ?_
          exact K246 _ _ _ _ _ _ _ hF hP hD hS _ (lv_sub hl [1, 2, 3, 4, 5, 6] rfl)
        · have hF := F_neg c58 hF
          refine lv_iconst (v := (1 : Int32)) hx hb dL_node_241 (by decide) ?_
          refine lv_goto (tgt := 246) hx hb dL_node_242 (by decide) ?_
          exact K246 _ _ _ _ _ _ _ hF hP hD hS _ (lv_sub hl [1, 2, 3, 4, 5, 6] rfl)
  have K151 : ∀ (x3 : Int32) (x4 : Int32) (x5 : Int32) (t0 : Bool) (H : Heap) (locs : List Loc), F_L_node_151 v2 v3 S x3 x4 x5 t0 = some rr → va_P (dC, dI) vwCl ((W_LS cI a S)) H → va_D A ((W_LS cI a S)) → va_S A s.heap H locs → ∀ ls : Array Slot, lv_has ls 11 [(0, .ref (a 0)), (1, .int v2), (2, .int v3), (3, .int x3), (4, .int x4), (5, .int x5)] → W p l e (headSpec wsL_node ({ frames := 7, cells := 0, slots := 0, locals := 117 } : Room)).room s m ([.ref (a 0), .int v2, .int v3] : List Value).toArray below meth c H locs 0 0 (MQ below (va_Qi (fun (r' : Int32) (_ : Unit) => b2i rr = r') (fun _ : Unit => jB (dC, dI) [(cI, .int)] A ((W_LS cI a S))) A) ([.ref (a 0), .int v2, .int v3] : List Value).toArray s 0 0 A) (F0 m 151 ls [.int (b2i t0)]) := by
    intro x3 x4 x5 t0 H locs hF hP hD hS ls hl
    unfold F_L_node_151 at hF
    refine lv_istore (lv' := [(6, .int (b2i t0)), (0, .ref (a 0)), (1, .int v2), (2, .int v3), (3, .int x3), (4, .int x4), (5, .int x5)]) hx hb dL_node_151 hl (by decide) rfl (fun ls hl => ?_)
    refine lv_iload hx hb dL_node_153 (lv_at hl 0 rfl) ?_
    refine lv_if_eq (tgt := 333) hx hb dL_node_155 (by decide) (fun c59 => ?_) (fun c59 => ?_)
    · have hF := F_pos c59 hF
      refine lv_iconst (v := (0 : Int32)) hx hb dL_node_333 (by decide) ?_
      refine lv_istore (lv' := [(7, .int (0 : Int32)), (6, .int (b2i t0)), (0, .ref (a 0)), (1, .int v2), (2, .int v3), (3, .int x3), (4, .int x4), (5, .int x5)]) hx hb dL_node_334 hl (by decide) rfl (fun ls hl => ?_)
      refine lv_iload_n hx hb dL_node_336 rfl (lv_at hl 4 rfl) ?_
      refine lv_istore (lv' := [(8, .int v3), (7, .int (0 : Int32)), (6, .int (b2i t0)), (0, .ref (a 0)), (1, .int v2), (2, .int v3), (3, .int x3), (4, .int x4), (5, .int x5)]) hx hb dL_node_337 hl (by decide) rfl (fun ls hl => ?_)
      refine lv_iconst (v := (0 : Int32)) hx hb dL_node_339 (by decide) ?_
      refine lv_istore (lv' := [(9, .int (0 : Int32)), (8, .int v3), (7, .int (0 : Int32)), (6, .int (b2i t0)), (0, .ref (a 0)), (1, .int v2), (2, .int v3), (3, .int x3), (4, .int x4), (5, .int x5)]) hx hb dL_node_340 hl (by decide) rfl (fun ls hl => ?_)
      exact K342 _ _ _ _ _ _ _ _ hF hP hD hS _ (lv_sub hl [4, 5, 6, 7, 3, 2, 1, 0] rfl)
    · have hF := F_neg c59 hF
      refine lv_iload_n hx hb dL_node_158 rfl (lv_at hl 3 rfl) ?_
      refine lv_if_le (tgt := 333) hx hb dL_node_159 (by decide) (fun c60 => ?_) (fun c60 => ?_)
      · have hF := F_pos c60 hF
        refine lv_iconst (v := (0 : Int32)) hx hb dL_node_333 (by decide) ?_
        refine lv_istore (lv' := [(7, .int (0 : Int32)), (6, .int (b2i t0)), (0, .ref (a 0)), (1, .int v2), (2, .int v3), (3, .int x3), (4, .int x4), (5, .int x5)]) hx hb dL_node_334 hl (by decide) rfl (fun ls hl => ?_)
        refine lv_iload_n hx hb dL_node_336 rfl (lv_at hl 4 rfl) ?_
        refine lv_istore (lv' := [(8, .int v3), (7, .int (0 : Int32)), (6, .int (b2i t0)), (0, .ref (a 0)), (1, .int v2), (2, .int v3), (3, .int x3), (4, .int x4), (5, .int x5)]) hx hb dL_node_337 hl (by decide) rfl (fun ls hl => ?_)
        refine lv_iconst (v := (0 : Int32)) hx hb dL_node_339 (by decide) ?_
        refine lv_istore (lv' := [(9, .int (0 : Int32)), (8, .int v3), (7, .int (0 : Int32)), (6, .int (b2i t0)), (0, .ref (a 0)), (1, .int v2), (2, .int v3), (3, .int x3), (4, .int x4), (5, .int x5)]) hx hb dL_node_340 hl (by decide) rfl (fun ls hl => ?_)
        exact K342 _ _ _ _ _ _ _ _ hF hP hD hS _ (lv_sub hl [4, 5, 6, 7, 3, 2, 1, 0] rfl)
      · have hF := F_neg c60 hF
        refine lv_iload hx hb dL_node_162 (lv_at hl 6 rfl) ?_
        refine lv_bipush (v := (8 : Int32)) hx hb dL_node_164 (by decide) ?_
        refine lv_icmp_ge (tgt := 192) hx hb dL_node_166 (by decide) (fun c61 => ?_) (fun c61 => ?_)
        · have hF := F_pos c61 hF
          refine lv_iconst (v := (0 : Int32)) hx hb dL_node_192 (by decide) ?_
          exact K193 _ _ _ _ _ _ hF hP hD hS _ (lv_sub hl [1, 2, 3, 4, 5, 6] rfl)
        · have hF := F_neg c61 hF
          refine lv_aload_n hx hb dL_node_169 rfl (lv_at hl 1 rfl) ?_
          refine lv_iload_n hx hb dL_node_170 rfl (lv_at hl 2 rfl) ?_
          refine lv_iload_n hx hb dL_node_171 rfl (lv_at hl 3 rfl) ?_
          refine lv_iconst (v := (4 : Int32)) hx hb dL_node_172 (by decide) ?_
          obtain ⟨r62, h63, hF⟩ := ob1_some hF
          have h63 := okr_some h63
          have hPc : va_P (dC, dI) vwCl ((W_LS cI a S)) H := hP
          have hDc : va_D A ((W_LS cI a S)) := hD
          have hFc := jFreeW (ws := (W_LS cI a S)) hD hS hA
          refine va_calli (va_runV (As := [.int v2, .int v3, .int (4 : Int32)]) (rest := []) ⟨hx, hb, hml, hown, hts⟩ (c_X4_node_ok l dC dI cI a H.size _ _ _ _ _ h63) (cwV 3 hts gL_node_X4_node rfl rfl rfl (by decide +kernel) ⟨Nat.le_of_ble_eq_true rfl, Nat.le_of_ble_eq_true rfl⟩) (jPreV hK hPc hDc hN (ci := 4) rfl rfl) rfl rfl hl.1 rfl (lv_room (Nat.le_of_ble_eq_true rfl)) dL_node_173 ⟨Nat.le_of_ble_eq_true rfl, Nat.le_of_ble_eq_true rfl⟩) hS (fun q _ h => hFc q h) hFc (fun r' u' t H locs ht hvm hw hB hz1 hk1 hS => ?_)
          subst hw
          obtain ⟨hP1, -, hD1⟩ := hB
          rw [ht] at hP1
          have hP : va_P (dC, dI) vwCl ((W_LS cI a S)) H := hP1
          have hD : va_D A ((W_LS cI a S)) := hD1.weaken (fun _ _ _ h => hFc _ h)
          refine lv_aload_n hx hb dL_node_176 rfl (lv_at hl 1 rfl) ?_
          refine lv_iload_n hx hb dL_node_177 rfl (lv_at hl 2 rfl) ?_
          refine lv_iload hx hb dL_node_178 (lv_at hl 5 rfl) ?_
          refine lv_bipush (v := (6 : Int32)) hx hb dL_node_180 (by decide) ?_
          obtain ⟨r64, h65, hF⟩ := ob1_some hF
          have h65 := okr_some h65
          have hPc : va_P (dC, dI) vwCl ((W_LS cI a S)) H := hP
          have hDc : va_D A ((W_LS cI a S)) := hD
          have hFc := jFreeW (ws := (W_LS cI a S)) hD hS hA
          refine va_calli (va_runV (As := [.int v2, .int x4, .int (6 : Int32)]) (rest := [.int r62]) ⟨hx, hb, hml, hown, hts⟩ (c_X4_node_ok l dC dI cI a H.size _ _ _ _ _ h65) (cwV 3 hts gL_node_X4_node rfl rfl rfl (by decide +kernel) ⟨Nat.le_of_ble_eq_true rfl, Nat.le_of_ble_eq_true rfl⟩) (jPreV hK hPc hDc hN (ci := 4) rfl rfl) rfl rfl hl.1 rfl (lv_room (Nat.le_of_ble_eq_true rfl)) dL_node_182 ⟨Nat.le_of_ble_eq_true rfl, Nat.le_of_ble_eq_true rfl⟩) hS (fun q _ h => hFc q h) hFc (fun r' u' t H locs ht hvm hw hB hz1 hk1 hS => ?_)
          subst hw
          obtain ⟨hP1, -, hD1⟩ := hB
          rw [ht] at hP1
          have hP : va_P (dC, dI) vwCl ((W_LS cI a S)) H := hP1
          have hD : va_D A ((W_LS cI a S)) := hD1.weaken (fun _ _ _ h => hFc _ h)
          refine lv_icmp_ge (tgt := 192) hx hb dL_node_185 (by decide) (fun c66 => ?_) (fun c66 => ?_)
          · have hF := F_pos c66 hF
            refine lv_iconst (v := (0 : Int32)) hx hb dL_node_192 (by decide) ?_
            exact K193 _ _ _ _ _ _ hF hP hD hS _ (lv_sub hl [1, 2, 3, 4, 5, 6] rfl)
          · have hF := F_neg c66 hF
            refine lv_iconst (v := (1 : Int32)) hx hb dL_node_188 (by decide) ?_
            refine lv_goto (tgt := 193) hx hb dL_node_189 (by decide) ?_
            exact K193 _ _ _ _ _ _ hF hP hD hS _ (lv_sub hl [1, 2, 3, 4, 5, 6] rfl)
  have K75 : ∀ (x3 : Int32) (x4 : Int32) (x5 : Int32) (t0 : Bool) (t1 : Bool) (H : Heap) (locs : List Loc), F_L_node_75 v2 v3 S x3 x4 x5 t0 t1 = some rr → va_P (dC, dI) vwCl ((W_LS cI a S)) H → va_D A ((W_LS cI a S)) → va_S A s.heap H locs → ∀ ls : Array Slot, lv_has ls 11 [(0, .ref (a 0)), (1, .int v2), (2, .int v3), (3, .int x3), (4, .int x4), (5, .int x5)] → W p l e (headSpec wsL_node ({ frames := 7, cells := 0, slots := 0, locals := 117 } : Room)).room s m ([.ref (a 0), .int v2, .int v3] : List Value).toArray below meth c H locs 0 0 (MQ below (va_Qi (fun (r' : Int32) (_ : Unit) => b2i rr = r') (fun _ : Unit => jB (dC, dI) [(cI, .int)] A ((W_LS cI a S))) A) ([.ref (a 0), .int v2, .int v3] : List Value).toArray s 0 0 A) (F0 m 75 ls [.int (b2i t1), .int (b2i t0)]) := by
    intro x3 x4 x5 t0 t1 H locs hF hP hD hS ls hl
    unfold F_L_node_75 at hF
    refine lv_icmp_ne (tgt := 150) hx hb dL_node_75 (by decide) (fun c67 => ?_) (fun c67 => ?_)
    · have hF := F_neg c67 hF
      refine lv_iconst (v := (0 : Int32)) hx hb dL_node_150 (by decide) ?_
      exact K151 _ _ _ _ _ _ hF hP hD hS _ (lv_sub hl [0, 1, 2, 3, 4, 5] rfl)
    · have hF := F_pos c67 hF
      refine lv_iload_n hx hb dL_node_78 rfl (lv_at hl 3 rfl) ?_
      refine lv_if_lt (tgt := 150) hx hb dL_node_79 (by decide) (fun c68 => ?_) (fun c68 => ?_)
      · have hF := F_pos c68 hF
        refine lv_iconst (v := (0 : Int32)) hx hb dL_node_150 (by decide) ?_
        exact K151 _ _ _ _ _ _ hF hP hD hS _ (lv_sub hl [0, 1, 2, 3, 4, 5] rfl)
      · have hF := F_neg c68 hF
        refine lv_iload_n hx hb dL_node_82 rfl (lv_at hl 3 rfl) ?_
        refine lv_bipush (v := (8 : Int32)) hx hb dL_node_83 (by decide) ?_
        refine lv_icmp_ge (tgt := 150) hx hb dL_node_85 (by decide) (fun c69 => ?_) (fun c69 => ?_)
        · have hF := F_pos c69 hF
          refine lv_iconst (v := (0 : Int32)) hx hb dL_node_150 (by decide) ?_
          exact K151 _ _ _ _ _ _ hF hP hD hS _ (lv_sub hl [0, 1, 2, 3, 4, 5] rfl)
        · have hF := F_neg c69 hF
          refine lv_aload_n hx hb dL_node_88 rfl (lv_at hl 0 rfl) ?_
          refine lv_iload_n hx hb dL_node_89 rfl (lv_at hl 1 rfl) ?_
          refine lv_iload_n hx hb dL_node_90 rfl (lv_at hl 2 rfl) ?_
          refine lv_bipush (v := (8 : Int32)) hx hb dL_node_91 (by decide) ?_
          obtain ⟨r70, h71, hF⟩ := ob1_some hF
          have h71 := okr_some h71
          have hPc : va_P (dC, dI) vwCl ((W_LS cI a S)) H := hP
          have hDc : va_D A ((W_LS cI a S)) := hD
          have hFc := jFreeW (ws := (W_LS cI a S)) hD hS hA
          refine va_calli (va_runV (As := [.int v2, .int v3, .int (8 : Int32)]) (rest := []) ⟨hx, hb, hml, hown, hts⟩ (c_X4_node_ok l dC dI cI a H.size _ _ _ _ _ h71) (cwV 3 hts gL_node_X4_node rfl rfl rfl (by decide +kernel) ⟨Nat.le_of_ble_eq_true rfl, Nat.le_of_ble_eq_true rfl⟩) (jPreV hK hPc hDc hN (ci := 4) rfl rfl) rfl rfl hl.1 rfl (lv_room (Nat.le_of_ble_eq_true rfl)) dL_node_93 ⟨Nat.le_of_ble_eq_true rfl, Nat.le_of_ble_eq_true rfl⟩) hS (fun q _ h => hFc q h) hFc (fun r' u' t H locs ht hvm hw hB hz1 hk1 hS => ?_)
          subst hw
          obtain ⟨hP1, -, hD1⟩ := hB
          rw [ht] at hP1
          have hP : va_P (dC, dI) vwCl ((W_LS cI a S)) H := hP1
          have hD : va_D A ((W_LS cI a S)) := hD1.weaken (fun _ _ _ h => hFc _ h)
          refine lv_iconst (v := (1 : Int32)) hx hb dL_node_96 (by decide) ?_
          refine lv_icmp_lt (tgt := 150) hx hb dL_node_97 (by decide) (fun c72 => ?_) (fun c72 => ?_)
          · have hF := F_pos c72 hF
            refine lv_iconst (v := (0 : Int32)) hx hb dL_node_150 (by decide) ?_
            exact K151 _ _ _ _ _ _ hF hP hD hS _ (lv_sub hl [0, 1, 2, 3, 4, 5] rfl)
          · have hF := F_neg c72 hF
            refine lv_aload_n hx hb dL_node_100 rfl (lv_at hl 0 rfl) ?_
            refine lv_iload_n hx hb dL_node_101 rfl (lv_at hl 1 rfl) ?_
            refine lv_iload_n hx hb dL_node_102 rfl (lv_at hl 2 rfl) ?_
            refine lv_bipush (v := (8 : Int32)) hx hb dL_node_103 (by decide) ?_
            obtain ⟨r73, h74, hF⟩ := ob1_some hF
            have h74 := okr_some h74
            have hPc : va_P (dC, dI) vwCl ((W_LS cI a S)) H := hP
            have hDc : va_D A ((W_LS cI a S)) := hD
            have hFc := jFreeW (ws := (W_LS cI a S)) hD hS hA
            refine va_calli (va_runV (As := [.int v2, .int v3, .int (8 : Int32)]) (rest := []) ⟨hx, hb, hml, hown, hts⟩ (c_X4_node_ok l dC dI cI a H.size _ _ _ _ _ h74) (cwV 3 hts gL_node_X4_node rfl rfl rfl (by decide +kernel) ⟨Nat.le_of_ble_eq_true rfl, Nat.le_of_ble_eq_true rfl⟩) (jPreV hK hPc hDc hN (ci := 4) rfl rfl) rfl rfl hl.1 rfl (lv_room (Nat.le_of_ble_eq_true rfl)) dL_node_105 ⟨Nat.le_of_ble_eq_true rfl, Nat.le_of_ble_eq_true rfl⟩) hS (fun q _ h => hFc q h) hFc (fun r' u' t H locs ht hvm hw hB hz1 hk1 hS => ?_)
            subst hw
            obtain ⟨hP1, -, hD1⟩ := hB
            rw [ht] at hP1
            have hP : va_P (dC, dI) vwCl ((W_LS cI a S)) H := hP1
            have hD : va_D A ((W_LS cI a S)) := hD1.weaken (fun _ _ _ h => hFc _ h)
            refine lv_aload_n hx hb dL_node_108 rfl (lv_at hl 0 rfl) ?_
            refine lv_iload_n hx hb dL_node_109 rfl (lv_at hl 1 rfl) ?_
            refine lv_iconst (v := (0 : Int32)) hx hb dL_node_110 (by decide) ?_
            obtain ⟨r75, h76, hF⟩ := ob1_some hF
            have h76 := okr_some h76
            have hPc : va_P (dC, dI) vwCl ((W_LS cI a S)) H := hP
            have hDc : va_D A ((W_LS cI a S)) := hD
            have hFc := jFreeW (ws := (W_LS cI a S)) hD hS hA
            refine va_calli (va_runV (As := [.int v2, .int (0 : Int32)]) (rest := [.int r73]) ⟨hx, hb, hml, hown, hts⟩ (c_X4_shape_ok l dC dI cI a H.size _ _ _ _ h76) (cwV 2 hts gL_node_X4_shape rfl rfl rfl (by decide +kernel) ⟨Nat.le_of_ble_eq_true rfl, Nat.le_of_ble_eq_true rfl⟩) (jPreV hK hPc hDc hN (ci := 4) rfl rfl) rfl rfl hl.1 rfl (lv_room (Nat.le_of_ble_eq_true rfl)) dL_node_111 ⟨Nat.le_of_ble_eq_true rfl, Nat.le_of_ble_eq_true rfl⟩) hS (fun q _ h => hFc q h) hFc (fun r' u' t H locs ht hvm hw hB hz1 hk1 hS => ?_)
            subst hw
            obtain ⟨hP1, -, hD1⟩ := hB
            rw [ht] at hP1
            have hP : va_P (dC, dI) vwCl ((W_LS cI a S)) H := hP1
            have hD : va_D A ((W_LS cI a S)) := hD1.weaken (fun _ _ _ h => hFc _ h)
            refine lv_icmp_gt (tgt := 150) hx hb dL_node_114 (by decide) (fun c77 => ?_) (fun c77 => ?_)
            · have hF := F_pos c77 hF
              refine lv_iconst (v := (0 : Int32)) hx hb dL_node_150 (by decide) ?_
              exact K151 _ _ _ _ _ _ hF hP hD hS _ (lv_sub hl [0, 1, 2, 3, 4, 5] rfl)
            · have hF := F_neg c77 hF
              refine lv_aload_n hx hb dL_node_117 rfl (lv_at hl 0 rfl) ?_
              refine lv_iload_n hx hb dL_node_118 rfl (lv_at hl 1 rfl) ?_
              refine lv_iload_n hx hb dL_node_119 rfl (lv_at hl 2 rfl) ?_
              refine lv_iconst (v := (4 : Int32)) hx hb dL_node_120 (by decide) ?_
              obtain ⟨r78, h79, hF⟩ := ob1_some hF
              have h79 := okr_some h79
              have hPc : va_P (dC, dI) vwCl ((W_LS cI a S)) H := hP
              have hDc : va_D A ((W_LS cI a S)) := hD
              have hFc := jFreeW (ws := (W_LS cI a S)) hD hS hA
              refine va_calli (va_runV (As := [.int v2, .int v3, .int (4 : Int32)]) (rest := []) ⟨hx, hb, hml, hown, hts⟩ (c_X4_node_ok l dC dI cI a H.size _ _ _ _ _ h79) (cwV 3 hts gL_node_X4_node rfl rfl rfl (by decide +kernel) ⟨Nat.le_of_ble_eq_true rfl, Nat.le_of_ble_eq_true rfl⟩) (jPreV hK hPc hDc hN (ci := 4) rfl rfl) rfl rfl hl.1 rfl (lv_room (Nat.le_of_ble_eq_true rfl)) dL_node_121 ⟨Nat.le_of_ble_eq_true rfl, Nat.le_of_ble_eq_true rfl⟩) hS (fun q _ h => hFc q h) hFc (fun r' u' t H locs ht hvm hw hB hz1 hk1 hS => ?_)
              subst hw
              obtain ⟨hP1, -, hD1⟩ := hB
              rw [ht] at hP1
              have hP : va_P (dC, dI) vwCl ((W_LS cI a S)) H := hP1
              have hD : va_D A ((W_LS cI a S)) := hD1.weaken (fun _ _ _ h => hFc _ h)
              refine lv_iconst (v := (1 : Int32)) hx hb dL_node_124 (by decide) ?_
              refine lv_icmp_lt (tgt := 150) hx hb dL_node_125 (by decide) (fun c80 => ?_) (fun c80 => ?_)
              · have hF := F_pos c80 hF
                refine lv_iconst (v := (0 : Int32)) hx hb dL_node_150 (by decide) ?_
                exact K151 _ _ _ _ _ _ hF hP hD hS _ (lv_sub hl [0, 1, 2, 3, 4, 5] rfl)
              · have hF := F_neg c80 hF
                refine lv_aload_n hx hb dL_node_128 rfl (lv_at hl 0 rfl) ?_
                refine lv_iload_n hx hb dL_node_129 rfl (lv_at hl 1 rfl) ?_
                refine lv_iload_n hx hb dL_node_130 rfl (lv_at hl 2 rfl) ?_
                refine lv_bipush (v := (6 : Int32)) hx hb dL_node_131 (by decide) ?_
                obtain ⟨r81, h82, hF⟩ := ob1_some hF
                have h82 := okr_some h82
                have hPc : va_P (dC, dI) vwCl ((W_LS cI a S)) H := hP
                have hDc : va_D A ((W_LS cI a S)) := hD
                have hFc := jFreeW (ws := (W_LS cI a S)) hD hS hA
                refine va_calli (va_runV (As := [.int v2, .int v3, .int (6 : Int32)]) (rest := []) ⟨hx, hb, hml, hown, hts⟩ (c_X4_node_ok l dC dI cI a H.size _ _ _ _ _ h82) (cwV 3 hts gL_node_X4_node rfl rfl rfl (by decide +kernel) ⟨Nat.le_of_ble_eq_true rfl, Nat.le_of_ble_eq_true rfl⟩) (jPreV hK hPc hDc hN (ci := 4) rfl rfl) rfl rfl hl.1 rfl (lv_room (Nat.le_of_ble_eq_true rfl)) dL_node_133 ⟨Nat.le_of_ble_eq_true rfl, Nat.le_of_ble_eq_true rfl⟩) hS (fun q _ h => hFc q h) hFc (fun r' u' t H locs ht hvm hw hB hz1 hk1 hS => ?_)
                subst hw
                obtain ⟨hP1, -, hD1⟩ := hB
                rw [ht] at hP1
                have hP : va_P (dC, dI) vwCl ((W_LS cI a S)) H := hP1
                have hD : va_D A ((W_LS cI a S)) := hD1.weaken (fun _ _ _ h => hFc _ h)
                refine lv_aload_n hx hb dL_node_136 rfl (lv_at hl 0 rfl) ?_
                refine lv_iload_n hx hb dL_node_137 rfl (lv_at hl 1 rfl) ?_
                refine lv_iload_n hx hb dL_node_138 rfl (lv_at hl 2 rfl) ?_
                refine lv_iconst (v := (4 : Int32)) hx hb dL_node_139 (by decide) ?_
                obtain ⟨r83, h84, hF⟩ := ob1_some hF
                have h84 := okr_some h84
                have hPc : va_P (dC, dI) vwCl ((W_LS cI a S)) H := hP
                have hDc : va_D A ((W_LS cI a S)) := hD
                have hFc := jFreeW (ws := (W_LS cI a S)) hD hS hA
                refine va_calli (va_runV (As := [.int v2, .int v3, .int (4 : Int32)]) (rest := [.int r81]) ⟨hx, hb, hml, hown, hts⟩ (c_X4_node_ok l dC dI cI a H.size _ _ _ _ _ h84) (cwV 3 hts gL_node_X4_node rfl rfl rfl (by decide +kernel) ⟨Nat.le_of_ble_eq_true rfl, Nat.le_of_ble_eq_true rfl⟩) (jPreV hK hPc hDc hN (ci := 4) rfl rfl) rfl rfl hl.1 rfl (lv_room (Nat.le_of_ble_eq_true rfl)) dL_node_140 ⟨Nat.le_of_ble_eq_true rfl, Nat.le_of_ble_eq_true rfl⟩) hS (fun q _ h => hFc q h) hFc (fun r' u' t H locs ht hvm hw hB hz1 hk1 hS => ?_)
                subst hw
                obtain ⟨hP1, -, hD1⟩ := hB
                rw [ht] at hP1
                have hP : va_P (dC, dI) vwCl ((W_LS cI a S)) H := hP1
                have hD : va_D A ((W_LS cI a S)) := hD1.weaken (fun _ _ _ h => hFc _ h)
                refine lv_icmp_gt (tgt := 150) hx hb dL_node_143 (by decide) (fun c85 => ?_) (fun c85 => ?_)
                · have hF := F_pos c85 hF
                  refine lv_iconst (v := (0 : Int32)) hx hb dL_node_150 (by decide) ?_
                  exact K151 _ _ _ _ _ _ hF hP hD hS _ (lv_sub hl [0, 1, 2, 3, 4, 5] rfl)
                · have hF := F_neg c85 hF
                  refine lv_iconst (v := (1 : Int32)) hx hb dL_node_146 (by decide) ?_
                  refine lv_goto (tgt := 151) hx hb dL_node_147 (by decide) ?_
                  exact K151 _ _ _ _ _ _ hF hP hD hS _ (lv_sub hl [0, 1, 2, 3, 4, 5] rfl)
  have K43 : ∀ (x3 : Int32) (x4 : Int32) (x5 : Int32) (t0 : Bool) (H : Heap) (locs : List Loc), F_L_node_43 v2 v3 S x3 x4 x5 t0 = some rr → va_P (dC, dI) vwCl ((W_LS cI a S)) H → va_D A ((W_LS cI a S)) → va_S A s.heap H locs → ∀ ls : Array Slot, lv_has ls 11 [(0, .ref (a 0)), (1, .int v2), (2, .int v3), (3, .int x3), (4, .int x4), (5, .int x5)] → W p l e (headSpec wsL_node ({ frames := 7, cells := 0, slots := 0, locals := 117 } : Room)).room s m ([.ref (a 0), .int v2, .int v3] : List Value).toArray below meth c H locs 0 0 (MQ below (va_Qi (fun (r' : Int32) (_ : Unit) => b2i rr = r') (fun _ : Unit => jB (dC, dI) [(cI, .int)] A ((W_LS cI a S))) A) ([.ref (a 0), .int v2, .int v3] : List Value).toArray s 0 0 A) (F0 m 43 ls [.int (b2i t0)]) := by
    intro x3 x4 x5 t0 H locs hF hP hD hS ls hl
    unfold F_L_node_43 at hF
    refine lv_iload_n hx hb dL_node_43 rfl (lv_at hl 2 rfl) ?_
    refine lv_if_ne (tgt := 51) hx hb dL_node_44 (by decide) (fun c86 => ?_) (fun c86 => ?_)
    · have hF := F_neg c86 hF
      refine lv_iconst (v := (0 : Int32)) hx hb dL_node_51 (by decide) ?_
      refine lv_icmp_ne (tgt := 150) hx hb dL_node_52 (by decide) (fun c87 => ?_) (fun c87 => ?_)
      · have hF := F_neg c87 hF
        refine lv_iconst (v := (0 : Int32)) hx hb dL_node_150 (by decide) ?_
        exact K151 _ _ _ _ _ _ hF hP hD hS _ (lv_sub hl [0, 1, 2, 3, 4, 5] rfl)
      · have hF := F_pos c87 hF
        refine lv_iload hx hb dL_node_55 (lv_at hl 5 rfl) ?_
        refine lv_iconst (v := (-1 : Int32)) hx hb dL_node_57 (by decide) ?_
        refine lv_icmp_ne (tgt := 65) hx hb dL_node_58 (by decide) (fun c88 => ?_) (fun c88 => ?_)
        · have hF := F_neg c88 hF
          refine lv_iconst (v := (0 : Int32)) hx hb dL_node_65 (by decide) ?_
          refine lv_iload_n hx hb dL_node_66 rfl (lv_at hl 2 rfl) ?_
          refine lv_if_ne (tgt := 74) hx hb dL_node_67 (by decide) (fun c89 => ?_) (fun c89 => ?_)
          · have hF := F_neg c89 hF
            refine lv_iconst (v := (0 : Int32)) hx hb dL_node_74 (by decide) ?_
            exact K75 _ _ _ _ _ _ _ hF hP hD hS _ (lv_sub hl [0, 1, 2, 3, 4, 5] rfl)
          · have hF := F_pos c89 hF
            refine lv_iconst (v := (1 : Int32)) hx hb dL_node_70 (by decide) ?_
            refine lv_goto (tgt := 75) hx hb dL_node_71 (by decide) ?_
            exact K75 _ _ _ _ _ _ _ hF hP hD hS _ (lv_sub hl [0, 1, 2, 3, 4, 5] rfl)
        · have hF := F_pos c88 hF
          refine lv_iconst (v := (1 : Int32)) hx hb dL_node_61 (by decide) ?_
          refine lv_goto (tgt := 66) hx hb dL_node_62 (by decide) ?_
          refine lv_iload_n hx hb dL_node_66 rfl (lv_at hl 2 rfl) ?_
          refine lv_if_ne (tgt := 74) hx hb dL_node_67 (by decide) (fun c90 => ?_) (fun c90 => ?_)
          · have hF := F_neg c90 hF
            refine lv_iconst (v := (0 : Int32)) hx hb dL_node_74 (by decide) ?_
            exact K75 _ _ _ _ _ _ _ hF hP hD hS _ (lv_sub hl [0, 1, 2, 3, 4, 5] rfl)
          · have hF := F_pos c90 hF
            refine lv_iconst (v := (1 : Int32)) hx hb dL_node_70 (by decide) ?_
            refine lv_goto (tgt := 75) hx hb dL_node_71 (by decide) ?_
            exact K75 _ _ _ _ _ _ _ hF hP hD hS _ (lv_sub hl [0, 1, 2, 3, 4, 5] rfl)
    · have hF := F_pos c86 hF
      refine lv_iconst (v := (1 : Int32)) hx hb dL_node_47 (by decide) ?_
      refine lv_goto (tgt := 52) hx hb dL_node_48 (by decide) ?_
      refine lv_icmp_ne (tgt := 150) hx hb dL_node_52 (by decide) (fun c91 => ?_) (fun c91 => ?_)
      · have hF := F_neg c91 hF
        refine lv_iconst (v := (0 : Int32)) hx hb dL_node_150 (by decide) ?_
        exact K151 _ _ _ _ _ _ hF hP hD hS _ (lv_sub hl [0, 1, 2, 3, 4, 5] rfl)
      · have hF := F_pos c91 hF
        refine lv_iload hx hb dL_node_55 (lv_at hl 5 rfl) ?_
        refine lv_iconst (v := (-1 : Int32)) hx hb dL_node_57 (by decide) ?_
        refine lv_icmp_ne (tgt := 65) hx hb dL_node_58 (by decide) (fun c92 => ?_) (fun c92 => ?_)
        · have hF := F_neg c92 hF
          refine lv_iconst (v := (0 : Int32)) hx hb dL_node_65 (by decide) ?_
          refine lv_iload_n hx hb dL_node_66 rfl (lv_at hl 2 rfl) ?_
          refine lv_if_ne (tgt := 74) hx hb dL_node_67 (by decide) (fun c93 => ?_) (fun c93 => ?_)
          · have hF := F_neg c93 hF
            refine lv_iconst (v := (0 : Int32)) hx hb dL_node_74 (by decide) ?_
            exact K75 _ _ _ _ _ _ _ hF hP hD hS _ (lv_sub hl [0, 1, 2, 3, 4, 5] rfl)
          · have hF := F_pos c93 hF
            refine lv_iconst (v := (1 : Int32)) hx hb dL_node_70 (by decide) ?_
            refine lv_goto (tgt := 75) hx hb dL_node_71 (by decide) ?_
            exact K75 _ _ _ _ _ _ _ hF hP hD hS _ (lv_sub hl [0, 1, 2, 3, 4, 5] rfl)
        · have hF := F_pos c92 hF
          refine lv_iconst (v := (1 : Int32)) hx hb dL_node_61 (by decide) ?_
          refine lv_goto (tgt := 66) hx hb dL_node_62 (by decide) ?_
          refine lv_iload_n hx hb dL_node_66 rfl (lv_at hl 2 rfl) ?_
          refine lv_if_ne (tgt := 74) hx hb dL_node_67 (by decide) (fun c94 => ?_) (fun c94 => ?_)
          · have hF := F_neg c94 hF
            refine lv_iconst (v := (0 : Int32)) hx hb dL_node_74 (by decide) ?_
            exact K75 _ _ _ _ _ _ _ hF hP hD hS _ (lv_sub hl [0, 1, 2, 3, 4, 5] rfl)
          · have hF := F_pos c94 hF
            refine lv_iconst (v := (1 : Int32)) hx hb dL_node_70 (by decide) ?_
            refine lv_goto (tgt := 75) hx hb dL_node_71 (by decide) ?_
            exact K75 _ _ _ _ _ _ _ hF hP hD hS _ (lv_sub hl [0, 1, 2, 3, 4, 5] rfl)
  have KE : ∀ (H : Heap) (locs : List Loc), va_P (dC, dI) vwCl ((W_LS cI a S)) H → va_D A ((W_LS cI a S)) → va_S A s.heap H locs → W p l e (headSpec wsL_node ({ frames := 7, cells := 0, slots := 0, locals := 117 } : Room)).room s m ([.ref (a 0), .int v2, .int v3] : List Value).toArray below meth c H locs 0 0 (MQ below (va_Qi (fun (r' : Int32) (_ : Unit) => b2i rr = r') (fun _ : Unit => jB (dC, dI) [(cI, .int)] A ((W_LS cI a S))) A) ([.ref (a 0), .int v2, .int v3] : List Value).toArray s 0 0 A) (F0 m 0 ls []) := by
    intro H locs hP hD hS
    unfold F_L_node at hF
    refine lv_aload_n hx hb dL_node_0 rfl (lv_at hl 0 rfl) ?_
    refine lv_iload_n hx hb dL_node_1 rfl (lv_at hl 1 rfl) ?_
    refine lv_iload_n hx hb dL_node_2 rfl (lv_at hl 2 rfl) ?_
    refine lv_iconst (v := (0 : Int32)) hx hb dL_node_3 (by decide) ?_
    obtain ⟨r95, h96, hF⟩ := ob1_some hF
    have h96 := okr_some h96
    have hPc : va_P (dC, dI) vwCl ((W_LS cI a S)) H := hP
    have hDc : va_D A ((W_LS cI a S)) := hD
    have hFc := jFreeW (ws := (W_LS cI a S)) hD hS hA
    refine va_calli (va_runV (As := [.int v2, .int v3, .int (0 : Int32)]) (rest := []) ⟨hx, hb, hml, hown, hts⟩ (c_X4_node_ok l dC dI cI a H.size _ _ _ _ _ h96) (cwV 3 hts gL_node_X4_node rfl rfl rfl (by decide +kernel) ⟨Nat.le_of_ble_eq_true rfl, Nat.le_of_ble_eq_true rfl⟩) (jPreV hK hPc hDc hN (ci := 4) rfl rfl) rfl rfl hl.1 rfl (lv_room (Nat.le_of_ble_eq_true rfl)) dL_node_4 ⟨Nat.le_of_ble_eq_true rfl, Nat.le_of_ble_eq_true rfl⟩) hS (fun q _ h => hFc q h) hFc (fun r' u' t H locs ht hvm hw hB hz1 hk1 hS => ?_)
    subst hw
    obtain ⟨hP1, -, hD1⟩ := hB
    rw [ht] at hP1
    have hP : va_P (dC, dI) vwCl ((W_LS cI a S)) H := hP1
    have hD : va_D A ((W_LS cI a S)) := hD1.weaken (fun _ _ _ h => hFc _ h)
    refine lv_istore_n (lv' := [(3, .int r95), (0, .ref (a 0)), (1, .int v2), (2, .int v3)]) hx hb dL_node_7 rfl hl (by decide) rfl (fun ls hl => ?_)
    refine lv_aload_n hx hb dL_node_8 rfl (lv_at hl 1 rfl) ?_
    refine lv_iload_n hx hb dL_node_9 rfl (lv_at hl 2 rfl) ?_
    refine lv_iload_n hx hb dL_node_10 rfl (lv_at hl 3 rfl) ?_
    refine lv_iconst (v := (2 : Int32)) hx hb dL_node_11 (by decide) ?_
    obtain ⟨r97, h98, hF⟩ := ob1_some hF
    have h98 := okr_some h98
    have hPc : va_P (dC, dI) vwCl ((W_LS cI a S)) H := hP
    have hDc : va_D A ((W_LS cI a S)) := hD
    have hFc := jFreeW (ws := (W_LS cI a S)) hD hS hA
    refine va_calli (va_runV (As := [.int v2, .int v3, .int (2 : Int32)]) (rest := []) ⟨hx, hb, hml, hown, hts⟩ (c_X4_node_ok l dC dI cI a H.size _ _ _ _ _ h98) (cwV 3 hts gL_node_X4_node rfl rfl rfl (by decide +kernel) ⟨Nat.le_of_ble_eq_true rfl, Nat.le_of_ble_eq_true rfl⟩) (jPreV hK hPc hDc hN (ci := 4) rfl rfl) rfl rfl hl.1 rfl (lv_room (Nat.le_of_ble_eq_true rfl)) dL_node_12 ⟨Nat.le_of_ble_eq_true rfl, Nat.le_of_ble_eq_true rfl⟩) hS (fun q _ h => hFc q h) hFc (fun r' u' t H locs ht hvm hw hB hz1 hk1 hS => ?_)
    subst hw
    obtain ⟨hP1, -, hD1⟩ := hB
    rw [ht] at hP1
    have hP : va_P (dC, dI) vwCl ((W_LS cI a S)) H := hP1
    have hD : va_D A ((W_LS cI a S)) := hD1.weaken (fun _ _ _ h => hFc _ h)
    refine lv_istore (lv' := [(4, .int r97), (3, .int r95), (0, .ref (a 0)), (1, .int v2), (2, .int v3)]) hx hb dL_node_15 hl (by decide) rfl (fun ls hl => ?_)
    refine lv_aload_n hx hb dL_node_17 rfl (lv_at hl 2 rfl) ?_
    refine lv_iload_n hx hb dL_node_18 rfl (lv_at hl 3 rfl) ?_
    refine lv_iload_n hx hb dL_node_19 rfl (lv_at hl 4 rfl) ?_
    refine lv_iconst (v := (1 : Int32)) hx hb dL_node_20 (by decide) ?_
    obtain ⟨r99, h100, hF⟩ := ob1_some hF
    have h100 := okr_some h100
    have hPc : va_P (dC, dI) vwCl ((W_LS cI a S)) H := hP
    have hDc : va_D A ((W_LS cI a S)) := hD
    have hFc := jFreeW (ws := (W_LS cI a S)) hD hS hA
    refine va_calli (va_runV (As := [.int v2, .int v3, .int (1 : Int32)]) (rest := []) ⟨hx, hb, hml, hown, hts⟩ (c_X4_node_ok l dC dI cI a H.size _ _ _ _ _ h100) (cwV 3 hts gL_node_X4_node rfl rfl rfl (by decide +kernel) ⟨Nat.le_of_ble_eq_true rfl, Nat.le_of_ble_eq_true rfl⟩) (jPreV hK hPc hDc hN (ci := 4) rfl rfl) rfl rfl hl.1 rfl (lv_room (Nat.le_of_ble_eq_true rfl)) dL_node_21 ⟨Nat.le_of_ble_eq_true rfl, Nat.le_of_ble_eq_true rfl⟩) hS (fun q _ h => hFc q h) hFc (fun r' u' t H locs ht hvm hw hB hz1 hk1 hS => ?_)
    subst hw
    obtain ⟨hP1, -, hD1⟩ := hB
    rw [ht] at hP1
    have hP : va_P (dC, dI) vwCl ((W_LS cI a S)) H := hP1
    have hD : va_D A ((W_LS cI a S)) := hD1.weaken (fun _ _ _ h => hFc _ h)
    refine lv_istore (lv' := [(5, .int r99), (4, .int r97), (3, .int r95), (0, .ref (a 0)), (1, .int v2), (2, .int v3)]) hx hb dL_node_24 hl (by decide) rfl (fun ls hl => ?_)
    refine lv_iload hx hb dL_node_26 (lv_at hl 1 rfl) ?_
    refine lv_iload_n hx hb dL_node_28 rfl (lv_at hl 5 rfl) ?_
    refine lv_icmp_ge (tgt := 150) hx hb dL_node_29 (by decide) (fun c101 => ?_) (fun c101 => ?_)
    · have hF := F_pos c101 hF
      refine lv_iconst (v := (0 : Int32)) hx hb dL_node_150 (by decide) ?_
      exact K151 _ _ _ _ _ _ hF hP hD hS _ (lv_sub hl [3, 4, 5, 2, 1, 0] rfl)
    · have hF := F_neg c101 hF
      refine lv_iload hx hb dL_node_32 (lv_at hl 1 rfl) ?_
      refine lv_iconst (v := (-1 : Int32)) hx hb dL_node_34 (by decide) ?_
      refine lv_icmp_ne (tgt := 42) hx hb dL_node_35 (by decide) (fun c102 => ?_) (fun c102 => ?_)
      · have hF := F_neg c102 hF
        refine lv_iconst (v := (0 : Int32)) hx hb dL_node_42 (by decide) ?_
        exact K43 _ _ _ _ _ _ hF hP hD hS _ (lv_sub hl [3, 4, 5, 2, 1, 0] rfl)
      · have hF := F_pos c102 hF
        refine lv_iconst (v := (1 : Int32)) hx hb dL_node_38 (by decide) ?_
        refine lv_goto (tgt := 43) hx hb dL_node_39 (by decide) ?_
        exact K43 _ _ _ _ _ _ hF hP hD hS _ (lv_sub hl [3, 4, 5, 2, 1, 0] rfl)
  exact KE _ _ hP hD hS
