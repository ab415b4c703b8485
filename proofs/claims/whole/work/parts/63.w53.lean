set_option maxHeartbeats 4000000 in
set_option maxRecDepth 100000 in
theorem c_X5_ofNode (l : Launch) (dC : Nat → ClassId) (dI : Nat → Nat → Nat) (cI : ClassId) (a : Nat → Nat) (sz : Nat) (S : S_Model) (v1 : Int32) (v2 : Int32) (v3 : Int32) (rr : Int32) (hF : F_X5_ofNode S v1 v2 v3 = some rr) : Met l yX5_ofNode wsX5_ofNode ({ frames := 2, cells := 0, slots := 0, locals := 47 } : Room) (va_Pc [.ref (a 0), .int v1, .int v2, .int v3] (jPre (dC, dI) [(cI, .int)] sz ((W_Model cI a S)))) (va_Qi (fun (r' : Int32) (_ : Unit) => rr = r') (fun _ : Unit => jB (dC, dI) [(cI, .int)] (va_A ((W_Model cI a S)) sz) ((W_Model cI a S))) (va_A ((W_Model cI a S)) sz)) 0 0 (va_A ((W_Model cI a S)) sz) := by
  refine Met.ofW (cc := cX5_ofNode) (maxL := 4) (ret := (some .int)) (by decide) rfl ?_
  intro p e s m args below meth c s₁ B hml hv
  obtain ⟨rfl, hsz, hP, hK, hD0, hN⟩ := hv
  have hx := B.exec
  have hb := B.bytes
  have hr := B.returns
  have hts := atoms_spec (ws := wsX5_ofNode) B.pre
  have hown : s.vm.findClass RX5 = some m.cls := findClass_of_methodNamed B.named
  have hlocks := B.notSynchronized
  subst hsz
  have hD := hD0.self (sz := s.heap.size)
  generalize hAe : (va_A ((W_Model cI a S)) s.heap.size) = A at hD ⊢
  have hA : ∀ q : Nat, s.heap.size ≤ q → A q := fun q h => by rw [← hAe]; exact Or.inr h
  have hS : va_S A s.heap s.heap [] := va_S.rf
  have hl := lv_entry ([.ref (a 0), .int v1, .int v2, .int v3]) (n := 4) (Nat.le_of_ble_eq_true rfl)
  rw [lg_entry_eq]
  generalize (lg_sl ([.ref (a 0), .int v1, .int v2, .int v3]) ++ List.replicate (4 - (lg_sl ([.ref (a 0), .int v1, .int v2, .int v3])).length) Slot.unset).toArray = ls at hl ⊢
  have hl : lv_has ls 4 [(0, .ref (a 0)), (1, .int v1), (2, .int v2), (3, .int v3)] := hl
  have KE : ∀ (H : Heap) (locs : List Loc), va_P (dC, dI) vwCl ((W_Model cI a S)) H → va_D A ((W_Model cI a S)) → va_S A s.heap H locs → W p l e (headSpec wsX5_ofNode ({ frames := 2, cells := 0, slots := 0, locals := 47 } : Room)).room s m ([.ref (a 0), .int v1, .int v2, .int v3] : List Value).toArray below meth c H locs 0 0 (MQ below (va_Qi (fun (r' : Int32) (_ : Unit) => rr = r') (fun _ : Unit => jB (dC, dI) [(cI, .int)] A ((W_Model cI a S))) A) ([.ref (a 0), .int v1, .int v2, .int v3] : List Value).toArray s 0 0 A) (F0 m 0 ls []) := by
    intro H locs hP hD hS
    unfold F_X5_ofNode at hF
    refine lv_iload_n hx hb dX5_ofNode_0 rfl (lv_at hl 3 rfl) ?_
    by_cases c1 : v3 = (0 : Int32)
    · have hF := F_pos c1 hF
      refine lv_tableIn (tgt := 56) hx hb dX5_ofNode_1 (by rw [c1]; decide) (by rw [c1]; decide) (by rw [c1] <;> rfl) (by decide) ?_
      refine lv_aload_n hx hb dX5_ofNode_56 rfl (lv_at hl 0 rfl) ?_
      refine lv_iload_n hx hb dX5_ofNode_57 rfl (lv_at hl 1 rfl) ?_
      refine lv_iload_n hx hb dX5_ofNode_58 rfl (lv_at hl 2 rfl) ?_
      refine lv_iconst (v := (0 : Int32)) hx hb dX5_ofNode_59 (by decide) ?_
      obtain ⟨r2, h3, hF⟩ := ob1_some hF
      have hPc : va_P (dC, dI) vwCl ((W_Model cI a S)) H := hP
      have hDc : va_D A ((W_Model cI a S)) := hD
      have hFc := jFreeW (ws := (W_Model cI a S)) hD hS hA
      refine va_calli (va_runV (As := [.int v1, .int v2, .int (0 : Int32)]) (rest := []) ⟨hx, hb, hml, hown, hts⟩ (c_X5_of l dC dI cI a H.size _ _ _ _ _ h3) (cwV 3 hts gX5_ofNode_X5_of rfl rfl rfl (by decide +kernel) ⟨Nat.le_of_ble_eq_true rfl, Nat.le_of_ble_eq_true rfl⟩) (jPreV hK hPc hDc hN (ci := 5) rfl rfl) rfl rfl hl.1 rfl (lv_room (Nat.le_of_ble_eq_true rfl)) dX5_ofNode_60 ⟨Nat.le_of_ble_eq_true rfl, Nat.le_of_ble_eq_true rfl⟩) hS (fun q _ h => hFc q h) hFc (fun r' u' t H locs ht hvm hw hB hz1 hk1 hS => ?_)
      subst hw
      obtain ⟨hP1, -, hD1⟩ := hB
      rw [ht] at hP1
      have hP : va_P (dC, dI) vwCl ((W_Model cI a S)) H := hP1
      have hD : va_D A ((W_Model cI a S)) := hD1.weaken (fun _ _ _ h => hFc _ h)
      have e50 := Option.some.inj hF
      subst e50
      exact W.iret (v := r2) hx hb hr (fun t ht hW => ⟨⟨r2, (), rfl, rfl, by rw [ht]; exact hP, va_K.moved hW.alike hK, hD⟩, hS.F ht⟩) hS.2.2 dX5_ofNode_63
    · have hF := F_neg c1 hF
      by_cases c4 : v3 = (1 : Int32)
      · have hF := F_pos c4 hF
        refine lv_tableIn (tgt := 64) hx hb dX5_ofNode_1 (by rw [c4]; decide) (by rw [c4]; decide) (by rw [c4] <;> rfl) (by decide) ?_
        refine lv_iload_n hx hb dX5_ofNode_64 rfl (lv_at hl 2 rfl) ?_
        refine lv_if_ne (tgt := 72) hx hb dX5_ofNode_65 (by decide) (fun c5 => ?_) (fun c5 => ?_)
        · have hF := F_neg c5 hF
          refine lv_aload_n hx hb dX5_ofNode_72 rfl (lv_at hl 0 rfl) ?_
          refine lv_iload_n hx hb dX5_ofNode_73 rfl (lv_at hl 1 rfl) ?_
          refine lv_iload_n hx hb dX5_ofNode_74 rfl (lv_at hl 2 rfl) ?_
          refine lv_iconst (v := (2 : Int32)) hx hb dX5_ofNode_75 (by decide) ?_
          obtain ⟨r6, h7, hF⟩ := ob1_some hF
          have hPc : va_P (dC, dI) vwCl ((W_Model cI a S)) H := hP
          have hDc : va_D A ((W_Model cI a S)) := hD
          have hFc := jFreeW (ws := (W_Model cI a S)) hD hS hA
          refine va_calli (va_runV (As := [.int v1, .int v2, .int (2 : Int32)]) (rest := []) ⟨hx, hb, hml, hown, hts⟩ (c_X5_of l dC dI cI a H.size _ _ _ _ _ h7) (cwV 3 hts gX5_ofNode_X5_of rfl rfl rfl (by decide +kernel) ⟨Nat.le_of_ble_eq_true rfl, Nat.le_of_ble_eq_true rfl⟩) (jPreV hK hPc hDc hN (ci := 5) rfl rfl) rfl rfl hl.1 rfl (lv_room (Nat.le_of_ble_eq_true rfl)) dX5_ofNode_76 ⟨Nat.le_of_ble_eq_true rfl, Nat.le_of_ble_eq_true rfl⟩) hS (fun q _ h => hFc q h) hFc (fun r' u' t H locs ht hvm hw hB hz1 hk1 hS => ?_)
          subst hw
          obtain ⟨hP1, -, hD1⟩ := hB
          rw [ht] at hP1
          have hP : va_P (dC, dI) vwCl ((W_Model cI a S)) H := hP1
          have hD : va_D A ((W_Model cI a S)) := hD1.weaken (fun _ _ _ h => hFc _ h)
          have e50 := Option.some.inj hF
          subst e50
          exact W.iret (v := r6) hx hb hr (fun t ht hW => ⟨⟨r6, (), rfl, rfl, by rw [ht]; exact hP, va_K.moved hW.alike hK, hD⟩, hS.F ht⟩) hS.2.2 dX5_ofNode_79
        · have hF := F_pos c5 hF
          refine lv_iconst (v := (-1 : Int32)) hx hb dX5_ofNode_68 (by decide) ?_
          refine lv_goto (tgt := 79) hx hb dX5_ofNode_69 (by decide) ?_
          have e50 := Option.some.inj hF
          subst e50
          exact W.iret (v := (-1 : Int32)) hx hb hr (fun t ht hW => ⟨⟨(-1 : Int32), (), rfl, rfl, by rw [ht]; exact hP, va_K.moved hW.alike hK, hD⟩, hS.F ht⟩) hS.2.2 dX5_ofNode_79
      · have hF := F_neg c4 hF
        by_cases c8 : v3 = (2 : Int32)
        · have hF := F_pos c8 hF
          refine lv_tableIn (tgt := 80) hx hb dX5_ofNode_1 (by rw [c8]; decide) (by rw [c8]; decide) (by rw [c8] <;> rfl) (by decide) ?_
          refine lv_aload_n hx hb dX5_ofNode_80 rfl (lv_at hl 0 rfl) ?_
          refine lv_iload_n hx hb dX5_ofNode_81 rfl (lv_at hl 1 rfl) ?_
          refine lv_iload_n hx hb dX5_ofNode_82 rfl (lv_at hl 2 rfl) ?_
          refine lv_iconst (v := (1 : Int32)) hx hb dX5_ofNode_83 (by decide) ?_
          obtain ⟨r9, h10, hF⟩ := ob1_some hF
          have hPc : va_P (dC, dI) vwCl ((W_Model cI a S)) H := hP
          have hDc : va_D A ((W_Model cI a S)) := hD
          have hFc := jFreeW (ws := (W_Model cI a S)) hD hS hA
          refine va_calli (va_runV (As := [.int v1, .int v2, .int (1 : Int32)]) (rest := []) ⟨hx, hb, hml, hown, hts⟩ (c_X5_of l dC dI cI a H.size _ _ _ _ _ h10) (cwV 3 hts gX5_ofNode_X5_of rfl rfl rfl (by decide +kernel) ⟨Nat.le_of_ble_eq_true rfl, Nat.le_of_ble_eq_true rfl⟩) (jPreV hK hPc hDc hN (ci := 5) rfl rfl) rfl rfl hl.1 rfl (lv_room (Nat.le_of_ble_eq_true rfl)) dX5_ofNode_84 ⟨Nat.le_of_ble_eq_true rfl, Nat.le_of_ble_eq_true rfl⟩) hS (fun q _ h => hFc q h) hFc (fun r' u' t H locs ht hvm hw hB hz1 hk1 hS => ?_)
          subst hw
          obtain ⟨hP1, -, hD1⟩ := hB
          rw [ht] at hP1
          have hP : va_P (dC, dI) vwCl ((W_Model cI a S)) H := hP1
          have hD : va_D A ((W_Model cI a S)) := hD1.weaken (fun _ _ _ h => hFc _ h)
          have e50 := Option.some.inj hF
          subst e50
          exact W.iret (v := r9) hx hb hr (fun t ht hW => ⟨⟨r9, (), rfl, rfl, by rw [ht]; exact hP, va_K.moved hW.alike hK, hD⟩, hS.F ht⟩) hS.2.2 dX5_ofNode_87
        · have hF := F_neg c8 hF
          by_cases c11 : v3 = (3 : Int32)
          · have hF := F_pos c11 hF
            refine lv_tableIn (tgt := 88) hx hb dX5_ofNode_1 (by rw [c11]; decide) (by rw [c11]; decide) (by rw [c11] <;> rfl) (by decide) ?_
            refine lv_aload_n hx hb dX5_ofNode_88 rfl (lv_at hl 0 rfl) ?_
            refine lv_iload_n hx hb dX5_ofNode_89 rfl (lv_at hl 1 rfl) ?_
            refine lv_iload_n hx hb dX5_ofNode_90 rfl (lv_at hl 2 rfl) ?_
            obtain ⟨r12, h13, hF⟩ := ob1_some hF
            have hPc : va_P (dC, dI) vwCl ((W_Model cI a S)) H := hP
            have hDc : va_D A ((W_Model cI a S)) := hD
            have hFc := jFreeW (ws := (W_Model cI a S)) hD hS hA
            refine va_calli (va_runV (As := [.int v1, .int v2]) (rest := []) ⟨hx, hb, hml, hown, hts⟩ (c_X5_depth l dC dI cI a H.size _ _ _ _ h13) (cwV 2 hts gX5_ofNode_X5_depth rfl rfl rfl (by decide +kernel) ⟨Nat.le_of_ble_eq_true rfl, Nat.le_of_ble_eq_true rfl⟩) (jPreV hK hPc hDc hN (ci := 5) rfl rfl) rfl rfl hl.1 rfl (lv_room (Nat.le_of_ble_eq_true rfl)) dX5_ofNode_91 ⟨Nat.le_of_ble_eq_true rfl, Nat.le_of_ble_eq_true rfl⟩) hS (fun q _ h => hFc q h) hFc (fun r' u' t H locs ht hvm hw hB hz1 hk1 hS => ?_)
            subst hw
            obtain ⟨hP1, -, hD1⟩ := hB
            rw [ht] at hP1
            have hP : va_P (dC, dI) vwCl ((W_Model cI a S)) H := hP1
            have hD : va_D A ((W_Model cI a S)) := hD1.weaken (fun _ _ _ h => hFc _ h)
            have e50 := Option.some.inj hF
            subst e50
            exact W.iret (v := r12) hx hb hr (fun t ht hW => ⟨⟨r12, (), rfl, rfl, by rw [ht]; exact hP, va_K.moved hW.alike hK, hD⟩, hS.F ht⟩) hS.2.2 dX5_ofNode_94
          · have hF := F_neg c11 hF
            by_cases c14 : v3 = (4 : Int32)
            · have hF := F_pos c14 hF
              refine lv_tableIn (tgt := 126) hx hb dX5_ofNode_1 (by rw [c14]; decide) (by rw [c14]; decide) (by rw [c14] <;> rfl) (by decide) ?_
              refine lv_aload_n hx hb dX5_ofNode_126 rfl (lv_at hl 0 rfl) ?_
              refine lv_iload_n hx hb dX5_ofNode_127 rfl (lv_at hl 1 rfl) ?_
              refine lv_iload_n hx hb dX5_ofNode_128 rfl (lv_at hl 2 rfl) ?_
              refine lv_iload_n hx hb dX5_ofNode_129 rfl (lv_at hl 3 rfl) ?_
              refine lv_iconst (v := (1 : Int32)) hx hb dX5_ofNode_130 (by decide) ?_
              refine lv_isub hx hb dX5_ofNode_131 ?_
              obtain ⟨r15, h16, hF⟩ := ob1_some hF
              have hPc : va_P (dC, dI) vwCl ((W_Model cI a S)) H := hP
              have hDc : va_D A ((W_Model cI a S)) := hD
              have hFc := jFreeW (ws := (W_Model cI a S)) hD hS hA
              refine va_calli (va_runV (As := [.int v1, .int v2, .int (v3 - (1 : Int32))]) (rest := []) ⟨hx, hb, hml, hown, hts⟩ (c_X5_of l dC dI cI a H.size _ _ _ _ _ h16) (cwV 3 hts gX5_ofNode_X5_of rfl rfl rfl (by decide +kernel) ⟨Nat.le_of_ble_eq_true rfl, Nat.le_of_ble_eq_true rfl⟩) (jPreV hK hPc hDc hN (ci := 5) rfl rfl) rfl rfl hl.1 rfl (lv_room (Nat.le_of_ble_eq_true rfl)) dX5_ofNode_132 ⟨Nat.le_of_ble_eq_true rfl, Nat.le_of_ble_eq_true rfl⟩) hS (fun q _ h => hFc q h) hFc (fun r' u' t H locs ht hvm hw hB hz1 hk1 hS => ?_)
              subst hw
              obtain ⟨hP1, -, hD1⟩ := hB
              rw [ht] at hP1
              have hP : va_P (dC, dI) vwCl ((W_Model cI a S)) H := hP1
              have hD : va_D A ((W_Model cI a S)) := hD1.weaken (fun _ _ _ h => hFc _ h)
              have e50 := Option.some.inj hF
              subst e50
              exact W.iret (v := r15) hx hb hr (fun t ht hW => ⟨⟨r15, (), rfl, rfl, by rw [ht]; exact hP, va_K.moved hW.alike hK, hD⟩, hS.F ht⟩) hS.2.2 dX5_ofNode_135
            · have hF := F_neg c14 hF
              by_cases c17 : v3 = (5 : Int32)
              · have hF := F_pos c17 hF
                refine lv_tableIn (tgt := 126) hx hb dX5_ofNode_1 (by rw [c17]; decide) (by rw [c17]; decide) (by rw [c17] <;> rfl) (by decide) ?_
                refine lv_aload_n hx hb dX5_ofNode_126 rfl (lv_at hl 0 rfl) ?_
                refine lv_iload_n hx hb dX5_ofNode_127 rfl (lv_at hl 1 rfl) ?_
                refine lv_iload_n hx hb dX5_ofNode_128 rfl (lv_at hl 2 rfl) ?_
                refine lv_iload_n hx hb dX5_ofNode_129 rfl (lv_at hl 3 rfl) ?_
                refine lv_iconst (v := (1 : Int32)) hx hb dX5_ofNode_130 (by decide) ?_
                refine lv_isub hx hb dX5_ofNode_131 ?_
                obtain ⟨r18, h19, hF⟩ := ob1_some hF
                have hPc : va_P (dC, dI) vwCl ((W_Model cI a S)) H := hP
                have hDc : va_D A ((W_Model cI a S)) := hD
                have hFc := jFreeW (ws := (W_Model cI a S)) hD hS hA
                refine va_calli (va_runV (As := [.int v1, .int v2, .int (v3 - (1 : Int32))]) (rest := []) ⟨hx, hb, hml, hown, hts⟩ (c_X5_of l dC dI cI a H.size _ _ _ _ _ h19) (cwV 3 hts gX5_ofNode_X5_of rfl rfl rfl (by decide +kernel) ⟨Nat.le_of_ble_eq_true rfl, Nat.le_of_ble_eq_true rfl⟩) (jPreV hK hPc hDc hN (ci := 5) rfl rfl) rfl rfl hl.1 rfl (lv_room (Nat.le_of_ble_eq_true rfl)) dX5_ofNode_132 ⟨Nat.le_of_ble_eq_true rfl, Nat.le_of_ble_eq_true rfl⟩) hS (fun q _ h => hFc q h) hFc (fun r' u' t H locs ht hvm hw hB hz1 hk1 hS => ?_)
                subst hw
                obtain ⟨hP1, -, hD1⟩ := hB
                rw [ht] at hP1
                have hP : va_P (dC, dI) vwCl ((W_Model cI a S)) H := hP1
                have hD : va_D A ((W_Model cI a S)) := hD1.weaken (fun _ _ _ h => hFc _ h)
                have e50 := Option.some.inj hF
                subst e50
                exact W.iret (v := r18) hx hb hr (fun t ht hW => ⟨⟨r18, (), rfl, rfl, by rw [ht]; exact hP, va_K.moved hW.alike hK, hD⟩, hS.F ht⟩) hS.2.2 dX5_ofNode_135
              · have hF := F_neg c17 hF
                by_cases c20 : v3 = (6 : Int32)
                · have hF := F_pos c20 hF
                  refine lv_tableIn (tgt := 126) hx hb dX5_ofNode_1 (by rw [c20]; decide) (by rw [c20]; decide) (by rw [c20] <;> rfl) (by decide) ?_
                  refine lv_aload_n hx hb dX5_ofNode_126 rfl (lv_at hl 0 rfl) ?_
                  refine lv_iload_n hx hb dX5_ofNode_127 rfl (lv_at hl 1 rfl) ?_
                  refine lv_iload_n hx hb dX5_ofNode_128 rfl (lv_at hl 2 rfl) ?_
                  refine lv_iload_n hx hb dX5_ofNode_129 rfl (lv_at hl 3 rfl) ?_
                  refine lv_iconst (v := (1 : Int32)) hx hb dX5_ofNode_130 (by decide) ?_
                  refine lv_isub hx hb dX5_ofNode_131 ?_
                  obtain ⟨r21, h22, hF⟩ := ob1_some hF
                  have hPc : va_P (dC, dI) vwCl ((W_Model cI a S)) H := hP
                  have hDc : va_D A ((W_Model cI a S)) := hD
                  have hFc := jFreeW (ws := (W_Model cI a S)) hD hS hA
                  refine va_calli (va_runV (As := [.int v1, .int v2, .int (v3 - (1 : Int32))]) (rest := []) ⟨hx, hb, hml, hown, hts⟩ (c_X5_of l dC dI cI a H.size _ _ _ _ _ h22) (cwV 3 hts gX5_ofNode_X5_of rfl rfl rfl (by decide +kernel) ⟨Nat.le_of_ble_eq_true rfl, Nat.le_of_ble_eq_true rfl⟩) (jPreV hK hPc hDc hN (ci := 5) rfl rfl) rfl rfl hl.1 rfl (lv_room (Nat.le_of_ble_eq_true rfl)) dX5_ofNode_132 ⟨Nat.le_of_ble_eq_true rfl, Nat.le_of_ble_eq_true rfl⟩) hS (fun q _ h => hFc q h) hFc (fun r' u' t H locs ht hvm hw hB hz1 hk1 hS => ?_)
                  subst hw
                  obtain ⟨hP1, -, hD1⟩ := hB
                  rw [ht] at hP1
                  have hP : va_P (dC, dI) vwCl ((W_Model cI a S)) H := hP1
                  have hD : va_D A ((W_Model cI a S)) := hD1.weaken (fun _ _ _ h => hFc _ h)
                  have e50 := Option.some.inj hF
                  subst e50
                  exact W.iret (v := r21) hx hb hr (fun t ht hW => ⟨⟨r21, (), rfl, rfl, by rw [ht]; exact hP, va_K.moved hW.alike hK, hD⟩, hS.F ht⟩) hS.2.2 dX5_ofNode_135
                · have hF := F_neg c20 hF
                  by_cases c23 : v3 = (7 : Int32)
                  · have hF := F_pos c23 hF
                    refine lv_tableIn (tgt := 95) hx hb dX5_ofNode_1 (by rw [c23]; decide) (by rw [c23]; decide) (by rw [c23] <;> rfl) (by decide) ?_
                    refine lv_aload_n hx hb dX5_ofNode_95 rfl (lv_at hl 0 rfl) ?_
                    refine lv_iload_n hx hb dX5_ofNode_96 rfl (lv_at hl 1 rfl) ?_
                    refine lv_iload_n hx hb dX5_ofNode_97 rfl (lv_at hl 2 rfl) ?_
                    obtain ⟨r24, h25, hF⟩ := ob1_some hF
                    have hPc : va_P (dC, dI) vwCl ((W_Model cI a S)) H := hP
                    have hDc : va_D A ((W_Model cI a S)) := hD
                    have hFc := jFreeW (ws := (W_Model cI a S)) hD hS hA
                    refine va_calli (va_runV (As := [.int v1, .int v2]) (rest := []) ⟨hx, hb, hml, hown, hts⟩ (c_X5_canMiss l dC dI cI a H.size _ _ _ _ h25) (cwV 2 hts gX5_ofNode_X5_canMiss rfl rfl rfl (by decide +kernel) ⟨Nat.le_of_ble_eq_true rfl, Nat.le_of_ble_eq_true rfl⟩) (jPreV hK hPc hDc hN (ci := 5) rfl rfl) rfl rfl hl.1 rfl (lv_room (Nat.le_of_ble_eq_true rfl)) dX5_ofNode_98 ⟨Nat.le_of_ble_eq_true rfl, Nat.le_of_ble_eq_true rfl⟩) hS (fun q _ h => hFc q h) hFc (fun r' u' t H locs ht hvm hw hB hz1 hk1 hS => ?_)
                    subst hw
                    obtain ⟨hP1, -, hD1⟩ := hB
                    rw [ht] at hP1
                    have hP : va_P (dC, dI) vwCl ((W_Model cI a S)) H := hP1
                    have hD : va_D A ((W_Model cI a S)) := hD1.weaken (fun _ _ _ h => hFc _ h)
                    refine lv_if_eq (tgt := 108) hx hb dX5_ofNode_101 (by decide) (fun c26 => ?_) (fun c26 => ?_)
                    · have hF := F_pos c26 hF
                      refine lv_iconst (v := (0 : Int32)) hx hb dX5_ofNode_108 (by decide) ?_
                      have e50 := Option.some.inj hF
                      subst e50
                      exact W.iret (v := (0 : Int32)) hx hb hr (fun t ht hW => ⟨⟨(0 : Int32), (), rfl, rfl, by rw [ht]; exact hP, va_K.moved hW.alike hK, hD⟩, hS.F ht⟩) hS.2.2 dX5_ofNode_109
                    · have hF := F_neg c26 hF
                      refine lv_iconst (v := (1 : Int32)) hx hb dX5_ofNode_104 (by decide) ?_
                      refine lv_goto (tgt := 109) hx hb dX5_ofNode_105 (by decide) ?_
                      have e50 := Option.some.inj hF
                      subst e50
                      exact W.iret (v := (1 : Int32)) hx hb hr (fun t ht hW => ⟨⟨(1 : Int32), (), rfl, rfl, by rw [ht]; exact hP, va_K.moved hW.alike hK, hD⟩, hS.F ht⟩) hS.2.2 dX5_ofNode_109
                  · have hF := F_neg c23 hF
                    by_cases c27 : v3 = (8 : Int32)
                    · have hF := F_pos c27 hF
                      refine lv_tableIn (tgt := 110) hx hb dX5_ofNode_1 (by rw [c27]; decide) (by rw [c27]; decide) (by rw [c27] <;> rfl) (by decide) ?_
                      refine lv_aload_n hx hb dX5_ofNode_110 rfl (lv_at hl 0 rfl) ?_
                      refine lv_iload_n hx hb dX5_ofNode_111 rfl (lv_at hl 1 rfl) ?_
                      refine lv_iload_n hx hb dX5_ofNode_112 rfl (lv_at hl 2 rfl) ?_
                      refine lv_bipush (v := (6 : Int32)) hx hb dX5_ofNode_113 (by decide) ?_
                      obtain ⟨r28, h29, hF⟩ := ob1_some hF
                      have hPc : va_P (dC, dI) vwCl ((W_Model cI a S)) H := hP
                      have hDc : va_D A ((W_Model cI a S)) := hD
                      have hFc := jFreeW (ws := (W_Model cI a S)) hD hS hA
                      refine va_calli (va_runV (As := [.int v1, .int v2, .int (6 : Int32)]) (rest := []) ⟨hx, hb, hml, hown, hts⟩ (c_X5_of l dC dI cI a H.size _ _ _ _ _ h29) (cwV 3 hts gX5_ofNode_X5_of rfl rfl rfl (by decide +kernel) ⟨Nat.le_of_ble_eq_true rfl, Nat.le_of_ble_eq_true rfl⟩) (jPreV hK hPc hDc hN (ci := 5) rfl rfl) rfl rfl hl.1 rfl (lv_room (Nat.le_of_ble_eq_true rfl)) dX5_ofNode_115 ⟨Nat.le_of_ble_eq_true rfl, Nat.le_of_ble_eq_true rfl⟩) hS (fun q _ h => hFc q h) hFc (fun r' u' t H locs ht hvm hw hB hz1 hk1 hS => ?_)
                      subst hw
                      obtain ⟨hP1, -, hD1⟩ := hB
                      rw [ht] at hP1
                      have hP : va_P (dC, dI) vwCl ((W_Model cI a S)) H := hP1
                      have hD : va_D A ((W_Model cI a S)) := hD1.weaken (fun _ _ _ h => hFc _ h)
                      have e50 := Option.some.inj hF
                      subst e50
                      exact W.iret (v := r28) hx hb hr (fun t ht hW => ⟨⟨r28, (), rfl, rfl, by rw [ht]; exact hP, va_K.moved hW.alike hK, hD⟩, hS.F ht⟩) hS.2.2 dX5_ofNode_118
                    · have hF := F_neg c27 hF
                      by_cases c30 : v3 = (9 : Int32)
                      · have hF := F_pos c30 hF
                        refine lv_tableIn (tgt := 119) hx hb dX5_ofNode_1 (by rw [c30]; decide) (by rw [c30]; decide) (by rw [c30] <;> rfl) (by decide) ?_
                        refine lv_aload_n hx hb dX5_ofNode_119 rfl (lv_at hl 0 rfl) ?_
                        refine lv_iload_n hx hb dX5_ofNode_120 rfl (lv_at hl 1 rfl) ?_
                        refine lv_iload_n hx hb dX5_ofNode_121 rfl (lv_at hl 2 rfl) ?_
                        obtain ⟨r31, h32, hF⟩ := ob1_some hF
                        have hPc : va_P (dC, dI) vwCl ((W_Model cI a S)) H := hP
                        have hDc : va_D A ((W_Model cI a S)) := hD
                        have hFc := jFreeW (ws := (W_Model cI a S)) hD hS hA
                        refine va_calli (va_runV (As := [.int v1, .int v2]) (rest := []) ⟨hx, hb, hml, hown, hts⟩ (c_X5_children l dC dI cI a H.size _ _ _ _ h32) (cwV 2 hts gX5_ofNode_X5_children rfl rfl rfl (by decide +kernel) ⟨Nat.le_of_ble_eq_true rfl, Nat.le_of_ble_eq_true rfl⟩) (jPreV hK hPc hDc hN (ci := 5) rfl rfl) rfl rfl hl.1 rfl (lv_room (Nat.le_of_ble_eq_true rfl)) dX5_ofNode_122 ⟨Nat.le_of_ble_eq_true rfl, Nat.le_of_ble_eq_true rfl⟩) hS (fun q _ h => hFc q h) hFc (fun r' u' t H locs ht hvm hw hB hz1 hk1 hS => ?_)
                        subst hw
                        obtain ⟨hP1, -, hD1⟩ := hB
                        rw [ht] at hP1
                        have hP : va_P (dC, dI) vwCl ((W_Model cI a S)) H := hP1
                        have hD : va_D A ((W_Model cI a S)) := hD1.weaken (fun _ _ _ h => hFc _ h)
                        have e50 := Option.some.inj hF
                        subst e50
                        exact W.iret (v := r31) hx hb hr (fun t ht hW => ⟨⟨r31, (), rfl, rfl, by rw [ht]; exact hP, va_K.moved hW.alike hK, hD⟩, hS.F ht⟩) hS.2.2 dX5_ofNode_125
                      · have hF := F_neg c30 hF
                        refine lv_tableOut (tgt := 126) hx hb dX5_ofNode_1 (sw_out 0 9 (by decide) (fun k hk1 hk2 => ?_)) (by decide) ?_
                        · rcases (show k = 0 ∨ k = 1 ∨ k = 2 ∨ k = 3 ∨ k = 4 ∨ k = 5 ∨ k = 6 ∨ k = 7 ∨ k = 8 ∨ k = 9 by omega) with rfl | rfl | rfl | rfl | rfl | rfl | rfl | rfl | rfl | rfl
                          · exact lv_neT c1 rfl
                          · exact lv_neT c4 rfl
                          · exact lv_neT c8 rfl
                          · exact lv_neT c11 rfl
                          · exact lv_neT c14 rfl
                          · exact lv_neT c17 rfl
                          · exact lv_neT c20 rfl
                          · exact lv_neT c23 rfl
                          · exact lv_neT c27 rfl
                          · exact lv_neT c30 rfl
                        refine lv_aload_n hx hb dX5_ofNode_126 rfl (lv_at hl 0 rfl) ?_
                        refine lv_iload_n hx hb dX5_ofNode_127 rfl (lv_at hl 1 rfl) ?_
                        refine lv_iload_n hx hb dX5_ofNode_128 rfl (lv_at hl 2 rfl) ?_
                        refine lv_iload_n hx hb dX5_ofNode_129 rfl (lv_at hl 3 rfl) ?_
                        refine lv_iconst (v := (1 : Int32)) hx hb dX5_ofNode_130 (by decide) ?_
                        refine lv_isub hx hb dX5_ofNode_131 ?_
                        obtain ⟨r33, h34, hF⟩ := ob1_some hF
                        have hPc : va_P (dC, dI) vwCl ((W_Model cI a S)) H := hP
                        have hDc : va_D A ((W_Model cI a S)) := hD
                        have hFc := jFreeW (ws := (W_Model cI a S)) hD hS hA
                        refine va_calli (va_runV (As := [.int v1, .int v2, .int (v3 - (1 : Int32))]) (rest := []) ⟨hx, hb, hml, hown, hts⟩ (c_X5_of l dC dI cI a H.size _ _ _ _ _ h34) (cwV 3 hts gX5_ofNode_X5_of rfl rfl rfl (by decide +kernel) ⟨Nat.le_of_ble_eq_true rfl, Nat.le_of_ble_eq_true rfl⟩) (jPreV hK hPc hDc hN (ci := 5) rfl rfl) rfl rfl hl.1 rfl (lv_room (Nat.le_of_ble_eq_true rfl)) dX5_ofNode_132 ⟨Nat.le_of_ble_eq_true rfl, Nat.le_of_ble_eq_true rfl⟩) hS (fun q _ h => hFc q h) hFc (fun r' u' t H locs ht hvm hw hB hz1 hk1 hS => ?_)
                        subst hw
                        obtain ⟨hP1, -, hD1⟩ := hB
                        rw [ht] at hP1
                        have hP : va_P (dC, dI) vwCl ((W_Model cI a S)) H := hP1
                        have hD : va_D A ((W_Model cI a S)) := hD1.weaken (fun _ _ _ h => hFc _ h)
                        have e50 := Option.some.inj hF
                        subst e50
                        exact W.iret (v := r33) hx hb hr (fun t ht hW => ⟨⟨r33, (), rfl, rfl, by rw [ht]; exact hP, va_K.moved hW.alike hK, hD⟩, hS.F ht⟩) hS.2.2 dX5_ofNode_135
  exact KE _ _ hP hD hS
set_option maxHeartbeats 4000000 in
set_option maxRecDepth 100000 in
theorem c_X5_node (l : Launch) (dC : Nat → ClassId) (dI : Nat → Nat → Nat) (cI : ClassId) (a : Nat → Nat) (sz : Nat) (S : S_Model) (v1 : Int32) (v2 : Int32) (v3 : Int32) (rr : Int32) (Y : S_Model) (hF : F_X5_node S v1 v2 v3 = some (rr, Y)) : Met l yX5_node wsX5_node ({ frames := 3, cells := 0, slots := 0, locals := 70 } : Room) (va_Pc [.ref (a 0), .int v1, .int v2, .int v3] (jPre (dC, dI) [(cI, .int)] sz ((W_Model cI a S)))) (va_Qi (fun (r' : Int32) (u : S_Model) => rr = r' ∧ Y = u) (fun u : S_Model => jB (dC, dI) [(cI, .int)] (va_A ((W_Model cI a S)) sz) ((W_Model cI a u))) (va_A ((W_Model cI a S)) sz)) 0 0 (va_A ((W_Model cI a S)) sz) := by
  refine Met.ofW (cc := cX5_node) (maxL := 4) (ret := (some .int)) (by decide) rfl ?_
  intro p e s m args below meth c s₁ B hml hv
  obtain ⟨rfl, hsz, hP, hK, hD0, hN⟩ := hv
  have hx := B.exec
  have hb := B.bytes
  have hr := B.returns
  have hts := atoms_spec (ws := wsX5_node) B.pre
  have hown : s.vm.findClass RX5 = some m.cls := findClass_of_methodNamed B.named
  have hlocks := B.notSynchronized
  have hinX5 : ∀ w ∈ u_ws RX5 TX5 26, w ∈ wsX5_node := by decide +kernel
  subst hsz
  have hD := hD0.self (sz := s.heap.size)
  generalize hAe : (va_A ((W_Model cI a S)) s.heap.size) = A at hD ⊢
  have hA : ∀ q : Nat, s.heap.size ≤ q → A q := fun q h => by rw [← hAe]; exact Or.inr h
  have hS : va_S A s.heap s.heap [] := va_S.rf
  have hl := lv_entry ([.ref (a 0), .int v1, .int v2, .int v3]) (n := 4) (Nat.le_of_ble_eq_true rfl)
  rw [lg_entry_eq]
  generalize (lg_sl ([.ref (a 0), .int v1, .int v2, .int v3]) ++ List.replicate (4 - (lg_sl ([.ref (a 0), .int v1, .int v2, .int v3])).length) Slot.unset).toArray = ls at hl ⊢
  have hl : lv_has ls 4 [(0, .ref (a 0)), (1, .int v1), (2, .int v2), (3, .int v3)] := hl
  have KE : ∀ (H : Heap) (locs : List Loc), va_P (dC, dI) vwCl ((W_Model cI a S)) H → va_D A ((W_Model cI a S)) → va_S A s.heap H locs → W p l e (headSpec wsX5_node ({ frames := 3, cells := 0, slots := 0, locals := 70 } : Room)).room s m ([.ref (a 0), .int v1, .int v2, .int v3] : List Value).toArray below meth c H locs 0 0 (MQ below (va_Qi (fun (r' : Int32) (u : S_Model) => rr = r' ∧ Y = u) (fun u : S_Model => jB (dC, dI) [(cI, .int)] A ((W_Model cI a u))) A) ([.ref (a 0), .int v1, .int v2, .int v3] : List Value).toArray s 0 0 A) (F0 m 0 ls []) := by
    intro H locs hP hD hS
    unfold F_X5_node at hF
    refine lv_aload_n hx hb dX5_node_0 rfl (lv_at hl 0 rfl) ?_
    refine lv_iconst (v := (0 : Int32)) hx hb dX5_node_1 (by decide) ?_
    refine wp_thrown (v := (0 : Int32)) hx hb hts hinX5 hown hK hP hD hS (hts (Cond.fieldLink RX5 49 "LearnedShapesModel" "thrown" "I") (List.mem_of_getElem? (i := 1) rfl)) (rfl) (rfl) dX5_node_2 (fun H locs hP hD hS => ?_)
    refine lv_aload_n hx hb dX5_node_5 rfl (lv_at hl 0 rfl) ?_
    refine lv_iload_n hx hb dX5_node_6 rfl (lv_at hl 1 rfl) ?_
    refine lv_iload_n hx hb dX5_node_7 rfl (lv_at hl 2 rfl) ?_
    obtain ⟨r1, h2, hF⟩ := ob1_some hF
    have hPc : va_P (dC, dI) vwCl ((W_Model cI a (s_Model_thrown S (0 : Int32)))) H := hP
    have hDc : va_D A ((W_Model cI a (s_Model_thrown S (0 : Int32)))) := hD
    have hFc := jFreeW (ws := (W_Model cI a (s_Model_thrown S (0 : Int32)))) hD hS hA
    refine va_calli (va_runV (As := [.int v1, .int v2]) (rest := []) ⟨hx, hb, hml, hown, hts⟩ (c_X5_isNode l dC dI cI a H.size _ _ _ _ h2) (cwV 2 hts gX5_node_X5_isNode rfl rfl rfl (by decide +kernel) ⟨Nat.le_of_ble_eq_true rfl, Nat.le_of_ble_eq_true rfl⟩) (jPreV hK hPc hDc hN (ci := 5) rfl rfl) rfl rfl hl.1 rfl (lv_room (Nat.le_of_ble_eq_true rfl)) dX5_node_8 ⟨Nat.le_of_ble_eq_true rfl, Nat.le_of_ble_eq_true rfl⟩) hS (fun q _ h => hFc q h) hFc (fun r' u' t H locs ht hvm hw hB hz1 hk1 hS => ?_)
    subst hw
    obtain ⟨hP1, -, hD1⟩ := hB
    rw [ht] at hP1
    have hP : va_P (dC, dI) vwCl ((W_Model cI a (s_Model_thrown S (0 : Int32)))) H := hP1
    have hD : va_D A ((W_Model cI a (s_Model_thrown S (0 : Int32)))) := hD1.weaken (fun _ _ _ h => hFc _ h)
    refine lv_if_ne (tgt := 20) hx hb dX5_node_11 (by decide) (fun c3 => ?_) (fun c3 => ?_)
    · have hF := F_neg c3 hF
      refine lv_iload_n hx hb dX5_node_20 rfl (lv_at hl 3 rfl) ?_
      refine lv_iconst (v := (0 : Int32)) hx hb dX5_node_21 (by decide) ?_
      refine lv_bipush (v := (9 : Int32)) hx hb dX5_node_22 (by decide) ?_
      obtain ⟨r4, h5, hF⟩ := ob1_some hF
      have hPc : va_P (dC, dI) vwCl ([] : va_W) H := fun k q h => by simp at h
      have hDc : va_D A ([] : va_W) := ⟨fun i j p q h => by simp at h, fun k q h => by simp at h⟩
      have hFc := jFreeW (ws := []) hDc hS hA
      refine va_calli (va_runS (As := [.int v3, .int (0 : Int32), .int (9 : Int32)]) (rest := []) ⟨hx, hb, hml, hown, hts⟩ (c_X5_in l dC dI cI  H.size _ _ _ _ h5) (va_cwS 3 hts gX5_node_X5_in rfl rfl rfl (by decide +kernel) ⟨Nat.le_of_ble_eq_true rfl, Nat.le_of_ble_eq_true rfl⟩) (jPreS hK hPc hDc hN) rfl rfl hl.1 rfl (lv_room (Nat.le_of_ble_eq_true rfl)) dX5_node_24 ⟨Nat.le_of_ble_eq_true rfl, Nat.le_of_ble_eq_true rfl⟩) hS (fun q _ h => hFc q h) hFc (fun r' u' t H locs ht hvm hw hB hz1 hk1 hS => ?_)
      subst hw
      obtain ⟨hP1, -, hD1⟩ := hB
      rw [ht] at hP1
      have hP : va_P (dC, dI) vwCl ((W_Model cI a (s_Model_thrown S (0 : Int32)))) H := jNone hP hk1
      refine lv_if_eq (tgt := 40) hx hb dX5_node_27 (by decide) (fun c6 => ?_) (fun c6 => ?_)
      · have hF := F_pos c6 hF
        refine lv_aload_n hx hb dX5_node_40 rfl (lv_at hl 0 rfl) ?_
        refine lv_iconst (v := (2 : Int32)) hx hb dX5_node_41 (by decide) ?_
        obtain ⟨r7, u8, h9, hF⟩ := ob2_some hF
        have hPc : va_P (dC, dI) vwCl ((W_Model cI a (s_Model_thrown S (0 : Int32)))) H := hP
        have hDc : va_D A ((W_Model cI a (s_Model_thrown S (0 : Int32)))) := hD
        have hFc := jFreeW (ws := (W_Model cI a (s_Model_thrown S (0 : Int32)))) hD hS hA
        refine va_calli (va_runV (As := [.int (2 : Int32)]) (rest := []) ⟨hx, hb, hml, hown, hts⟩ (c_X5_fails l dC dI cI a H.size _ _ _ _ h9) (cwV 1 hts gX5_node_X5_fails rfl rfl rfl (by decide +kernel) ⟨Nat.le_of_ble_eq_true rfl, Nat.le_of_ble_eq_true rfl⟩) (jPreV hK hPc hDc hN (ci := 5) rfl rfl) rfl rfl hl.1 rfl (lv_room (Nat.le_of_ble_eq_true rfl)) dX5_node_42 ⟨Nat.le_of_ble_eq_true rfl, Nat.le_of_ble_eq_true rfl⟩) hS (fun q _ h => hFc q h) hFc (fun r' u' t H locs ht hvm hw hB hz1 hk1 hS => ?_)
        obtain ⟨e1, e2⟩ := hw
        subst e1
        subst e2
        obtain ⟨hP1, -, hD1⟩ := hB
        rw [ht] at hP1
        have hP : va_P (dC, dI) vwCl ((W_Model cI a u8)) H := hP1
        have hD : va_D A ((W_Model cI a u8)) := hD1.weaken (fun _ _ _ h => hFc _ h)
        have e50 := Option.some.inj hF
        obtain ⟨e60, e51⟩ := Prod.mk.inj e50
        subst e60
        subst e51
        exact W.iret (v := r7) hx hb hr (fun t ht hW => ⟨⟨r7, u8, rfl, ⟨rfl, rfl⟩, by rw [ht]; exact hP, va_K.moved hW.alike hK, hD⟩, hS.F ht⟩) hS.2.2 dX5_node_45
      · have hF := F_neg c6 hF
        refine lv_aload_n hx hb dX5_node_30 rfl (lv_at hl 0 rfl) ?_
        refine lv_iload_n hx hb dX5_node_31 rfl (lv_at hl 1 rfl) ?_
        refine lv_iload_n hx hb dX5_node_32 rfl (lv_at hl 2 rfl) ?_
        refine lv_iload_n hx hb dX5_node_33 rfl (lv_at hl 3 rfl) ?_
        obtain ⟨r10, h11, hF⟩ := ob1_some hF
        have hPc : va_P (dC, dI) vwCl ((W_Model cI a (s_Model_thrown S (0 : Int32)))) H := hP
        have hDc : va_D A ((W_Model cI a (s_Model_thrown S (0 : Int32)))) := hD
        have hFc := jFreeW (ws := (W_Model cI a (s_Model_thrown S (0 : Int32)))) hD hS hA
        refine va_calli (va_runV (As := [.int v1, .int v2, .int v3]) (rest := []) ⟨hx, hb, hml, hown, hts⟩ (c_X5_ofNode l dC dI cI a H.size _ _ _ _ _ h11) (cwV 3 hts gX5_node_X5_ofNode rfl rfl rfl (by decide +kernel) ⟨Nat.le_of_ble_eq_true rfl, Nat.le_of_ble_eq_true rfl⟩) (jPreV hK hPc hDc hN (ci := 5) rfl rfl) rfl rfl hl.1 rfl (lv_room (Nat.le_of_ble_eq_true rfl)) dX5_node_34 ⟨Nat.le_of_ble_eq_true rfl, Nat.le_of_ble_eq_true rfl⟩) hS (fun q _ h => hFc q h) hFc (fun r' u' t H locs ht hvm hw hB hz1 hk1 hS => ?_)
        subst hw
        obtain ⟨hP1, -, hD1⟩ := hB
        rw [ht] at hP1
        have hP : va_P (dC, dI) vwCl ((W_Model cI a (s_Model_thrown S (0 : Int32)))) H := hP1
        have hD : va_D A ((W_Model cI a (s_Model_thrown S (0 : Int32)))) := hD1.weaken (fun _ _ _ h => hFc _ h)
        refine lv_goto (tgt := 45) hx hb dX5_node_37 (by decide) ?_
        have e50 := Option.some.inj hF
        obtain ⟨e60, e51⟩ := Prod.mk.inj e50
        subst e60
        subst e51
        exact W.iret (v := r10) hx hb hr (fun t ht hW => ⟨⟨r10, (s_Model_thrown S (0 : Int32)), rfl, ⟨rfl, rfl⟩, by rw [ht]; exact hP, va_K.moved hW.alike hK, hD⟩, hS.F ht⟩) hS.2.2 dX5_node_45
    · have hF := F_pos c3 hF
      refine lv_aload_n hx hb dX5_node_14 rfl (lv_at hl 0 rfl) ?_
      refine lv_iconst (v := (1 : Int32)) hx hb dX5_node_15 (by decide) ?_
      obtain ⟨r12, u13, h14, hF⟩ := ob2_some hF
      have hPc : va_P (dC, dI) vwCl ((W_Model cI a (s_Model_thrown S (0 : Int32)))) H := hP
      have hDc : va_D A ((W_Model cI a (s_Model_thrown S (0 : Int32)))) := hD
      have hFc := jFreeW (ws := (W_Model cI a (s_Model_thrown S (0 : Int32)))) hD hS hA
      refine va_calli (va_runV (As := [.int (1 : Int32)]) (rest := []) ⟨hx, hb, hml, hown, hts⟩ (c_X5_fails l dC dI cI a H.size _ _ _ _ h14) (cwV 1 hts gX5_node_X5_fails rfl rfl rfl (by decide +kernel) ⟨Nat.le_of_ble_eq_true rfl, Nat.le_of_ble_eq_true rfl⟩) (jPreV hK hPc hDc hN (ci := 5) rfl rfl) rfl rfl hl.1 rfl (lv_room (Nat.le_of_ble_eq_true rfl)) dX5_node_16 ⟨Nat.le_of_ble_eq_true rfl, Nat.le_of_ble_eq_true rfl⟩) hS (fun q _ h => hFc q h) hFc (fun r' u' t H locs ht hvm hw hB hz1 hk1 hS => ?_)
      obtain ⟨e1, e2⟩ := hw
      subst e1
      subst e2
      obtain ⟨hP1, -, hD1⟩ := hB
      rw [ht] at hP1
      have hP : va_P (dC, dI) vwCl ((W_Model cI a u13)) H := hP1
      have hD : va_D A ((W_Model cI a u13)) := hD1.weaken (fun _ _ _ h => hFc _ h)
      have e50 := Option.some.inj hF
      obtain ⟨e60, e51⟩ := Prod.mk.inj e50
      subst e60
      subst e51
      exact W.iret (v := r12) hx hb hr (fun t ht hW => ⟨⟨r12, u13, rfl, ⟨rfl, rfl⟩, by rw [ht]; exact hP, va_K.moved hW.alike hK, hD⟩, hS.F ht⟩) hS.2.2 dX5_node_19
  exact KE _ _ hP hD hS
set_option maxHeartbeats 4000000 in
set_option maxRecDepth 100000 in
theorem c_X5_child (l : Launch) (dC : Nat → ClassId) (dI : Nat → Nat → Nat) (cI : ClassId) (a : Nat → Nat) (sz : Nat) (S : S_Model) (v1 : Int32) (v2 : Int32) (v3 : Int32) (rr : Int32) (Y : S_Model) (hF : F_X5_child S v1 v2 v3 = some (rr, Y)) : Met l yX5_child wsX5_child ({ frames := 3, cells := 0, slots := 0, locals := 64 } : Room) (va_Pc [.ref (a 0), .int v1, .int v2, .int v3] (jPre (dC, dI) [(cI, .int)] sz ((W_Model cI a S)))) (va_Qi (fun (r' : Int32) (u : S_Model) => rr = r' ∧ Y = u) (fun u : S_Model => jB (dC, dI) [(cI, .int)] (va_A ((W_Model cI a S)) sz) ((W_Model cI a u))) (va_A ((W_Model cI a S)) sz)) 0 0 (va_A ((W_Model cI a S)) sz) := by
  refine Met.ofW (cc := cX5_child) (maxL := 4) (ret := (some .int)) (by decide) rfl ?_
  intro p e s m args below meth c s₁ B hml hv
  obtain ⟨rfl, hsz, hP, hK, hD0, hN⟩ := hv
  have hx := B.exec
  have hb := B.bytes
  have hr := B.returns
  have hts := atoms_spec (ws := wsX5_child) B.pre
  have hown : s.vm.findClass RX5 = some m.cls := findClass_of_methodNamed B.named
  have hlocks := B.notSynchronized
  have hinX5 : ∀ w ∈ u_ws RX5 TX5 26, w ∈ wsX5_child := by decide +kernel
  subst hsz
  have hD := hD0.self (sz := s.heap.size)
  generalize hAe : (va_A ((W_Model cI a S)) s.heap.size) = A at hD ⊢
  have hA : ∀ q : Nat, s.heap.size ≤ q → A q := fun q h => by rw [← hAe]; exact Or.inr h
  have hS : va_S A s.heap s.heap [] := va_S.rf
  have hl := lv_entry ([.ref (a 0), .int v1, .int v2, .int v3]) (n := 4) (Nat.le_of_ble_eq_true rfl)
  rw [lg_entry_eq]
  generalize (lg_sl ([.ref (a 0), .int v1, .int v2, .int v3]) ++ List.replicate (4 - (lg_sl ([.ref (a 0), .int v1, .int v2, .int v3])).length) Slot.unset).toArray = ls at hl ⊢
  have hl : lv_has ls 4 [(0, .ref (a 0)), (1, .int v1), (2, .int v2), (3, .int v3)] := hl
  have KE : ∀ (H : Heap) (locs : List Loc), va_P (dC, dI) vwCl ((W_Model cI a S)) H → va_D A ((W_Model cI a S)) → va_S A s.heap H locs → W p l e (headSpec wsX5_child ({ frames := 3, cells := 0, slots := 0, locals := 64 } : Room)).room s m ([.ref (a 0), .int v1, .int v2, .int v3] : List Value).toArray below meth c H locs 0 0 (MQ below (va_Qi (fun (r' : Int32) (u : S_Model) => rr = r' ∧ Y = u) (fun u : S_Model => jB (dC, dI) [(cI, .int)] A ((W_Model cI a u))) A) ([.ref (a 0), .int v1, .int v2, .int v3] : List Value).toArray s 0 0 A) (F0 m 0 ls []) := by
    intro H locs hP hD hS
    unfold F_X5_child at hF
    refine lv_aload_n hx hb dX5_child_0 rfl (lv_at hl 0 rfl) ?_
    refine lv_iconst (v := (0 : Int32)) hx hb dX5_child_1 (by decide) ?_
    refine wp_thrown (v := (0 : Int32)) hx hb hts hinX5 hown hK hP hD hS (hts (Cond.fieldLink RX5 49 "LearnedShapesModel" "thrown" "I") (List.mem_of_getElem? (i := 1) rfl)) (rfl) (rfl) dX5_child_2 (fun H locs hP hD hS => ?_)
    refine lv_aload_n hx hb dX5_child_5 rfl (lv_at hl 0 rfl) ?_
    refine lv_iload_n hx hb dX5_child_6 rfl (lv_at hl 1 rfl) ?_
    refine lv_iload_n hx hb dX5_child_7 rfl (lv_at hl 2 rfl) ?_
    obtain ⟨r1, h2, hF⟩ := ob1_some hF
    have hPc : va_P (dC, dI) vwCl ((W_Model cI a (s_Model_thrown S (0 : Int32)))) H := hP
    have hDc : va_D A ((W_Model cI a (s_Model_thrown S (0 : Int32)))) := hD
    have hFc := jFreeW (ws := (W_Model cI a (s_Model_thrown S (0 : Int32)))) hD hS hA
    refine va_calli (va_runV (As := [.int v1, .int v2]) (rest := []) ⟨hx, hb, hml, hown, hts⟩ (c_X5_isNode l dC dI cI a H.size _ _ _ _ h2) (cwV 2 hts gX5_child_X5_isNode rfl rfl rfl (by decide +kernel) ⟨Nat.le_of_ble_eq_true rfl, Nat.le_of_ble_eq_true rfl⟩) (jPreV hK hPc hDc hN (ci := 5) rfl rfl) rfl rfl hl.1 rfl (lv_room (Nat.le_of_ble_eq_true rfl)) dX5_child_8 ⟨Nat.le_of_ble_eq_true rfl, Nat.le_of_ble_eq_true rfl⟩) hS (fun q _ h => hFc q h) hFc (fun r' u' t H locs ht hvm hw hB hz1 hk1 hS => ?_)
    subst hw
    obtain ⟨hP1, -, hD1⟩ := hB
    rw [ht] at hP1
    have hP : va_P (dC, dI) vwCl ((W_Model cI a (s_Model_thrown S (0 : Int32)))) H := hP1
    have hD : va_D A ((W_Model cI a (s_Model_thrown S (0 : Int32)))) := hD1.weaken (fun _ _ _ h => hFc _ h)
    refine lv_if_ne (tgt := 20) hx hb dX5_child_11 (by decide) (fun c3 => ?_) (fun c3 => ?_)
    · have hF := F_neg c3 hF
      refine lv_iload_n hx hb dX5_child_20 rfl (lv_at hl 3 rfl) ?_
      refine lv_iconst (v := (0 : Int32)) hx hb dX5_child_21 (by decide) ?_
      refine lv_bipush (v := (8 : Int32)) hx hb dX5_child_22 (by decide) ?_
      obtain ⟨r4, h5, hF⟩ := ob1_some hF
      have hPc : va_P (dC, dI) vwCl ([] : va_W) H := fun k q h => by simp at h
      have hDc : va_D A ([] : va_W) := ⟨fun i j p q h => by simp at h, fun k q h => by simp at h⟩
      have hFc := jFreeW (ws := []) hDc hS hA
      refine va_calli (va_runS (As := [.int v3, .int (0 : Int32), .int (8 : Int32)]) (rest := []) ⟨hx, hb, hml, hown, hts⟩ (c_X5_in l dC dI cI  H.size _ _ _ _ h5) (va_cwS 3 hts gX5_child_X5_in rfl rfl rfl (by decide +kernel) ⟨Nat.le_of_ble_eq_true rfl, Nat.le_of_ble_eq_true rfl⟩) (jPreS hK hPc hDc hN) rfl rfl hl.1 rfl (lv_room (Nat.le_of_ble_eq_true rfl)) dX5_child_24 ⟨Nat.le_of_ble_eq_true rfl, Nat.le_of_ble_eq_true rfl⟩) hS (fun q _ h => hFc q h) hFc (fun r' u' t H locs ht hvm hw hB hz1 hk1 hS => ?_)
      subst hw
      obtain ⟨hP1, -, hD1⟩ := hB
      rw [ht] at hP1
      have hP : va_P (dC, dI) vwCl ((W_Model cI a (s_Model_thrown S (0 : Int32)))) H := jNone hP hk1
      refine lv_if_eq (tgt := 40) hx hb dX5_child_27 (by decide) (fun c6 => ?_) (fun c6 => ?_)
      · have hF := F_pos c6 hF
        refine lv_aload_n hx hb dX5_child_40 rfl (lv_at hl 0 rfl) ?_
        refine lv_iconst (v := (2 : Int32)) hx hb dX5_child_41 (by decide) ?_
        obtain ⟨r7, u8, h9, hF⟩ := ob2_some hF
        have hPc : va_P (dC, dI) vwCl ((W_Model cI a (s_Model_thrown S (0 : Int32)))) H := hP
        have hDc : va_D A ((W_Model cI a (s_Model_thrown S (0 : Int32)))) := hD
        have hFc := jFreeW (ws := (W_Model cI a (s_Model_thrown S (0 : Int32)))) hD hS hA
        refine va_calli (va_runV (As := [.int (2 : Int32)]) (rest := []) ⟨hx, hb, hml, hown, hts⟩ (c_X5_fails l dC dI cI a H.size _ _ _ _ h9) (cwV 1 hts gX5_child_X5_fails rfl rfl rfl (by decide +kernel) ⟨Nat.le_of_ble_eq_true rfl, Nat.le_of_ble_eq_true rfl⟩) (jPreV hK hPc hDc hN (ci := 5) rfl rfl) rfl rfl hl.1 rfl (lv_room (Nat.le_of_ble_eq_true rfl)) dX5_child_42 ⟨Nat.le_of_ble_eq_true rfl, Nat.le_of_ble_eq_true rfl⟩) hS (fun q _ h => hFc q h) hFc (fun r' u' t H locs ht hvm hw hB hz1 hk1 hS => ?_)
        obtain ⟨e1, e2⟩ := hw
        subst e1
        subst e2
        obtain ⟨hP1, -, hD1⟩ := hB
        rw [ht] at hP1
        have hP : va_P (dC, dI) vwCl ((W_Model cI a u8)) H := hP1
        have hD : va_D A ((W_Model cI a u8)) := hD1.weaken (fun _ _ _ h => hFc _ h)
        have e50 := Option.some.inj hF
        obtain ⟨e60, e51⟩ := Prod.mk.inj e50
        subst e60
        subst e51
        exact W.iret (v := r7) hx hb hr (fun t ht hW => ⟨⟨r7, u8, rfl, ⟨rfl, rfl⟩, by rw [ht]; exact hP, va_K.moved hW.alike hK, hD⟩, hS.F ht⟩) hS.2.2 dX5_child_45
      · have hF := F_neg c6 hF
        refine lv_aload_n hx hb dX5_child_30 rfl (lv_at hl 0 rfl) ?_
        refine lv_iload_n hx hb dX5_child_31 rfl (lv_at hl 1 rfl) ?_
        refine lv_iload_n hx hb dX5_child_32 rfl (lv_at hl 2 rfl) ?_
        refine lv_iload_n hx hb dX5_child_33 rfl (lv_at hl 3 rfl) ?_
        obtain ⟨r10, h11, hF⟩ := ob1_some hF
        have hPc : va_P (dC, dI) vwCl ((W_Model cI a (s_Model_thrown S (0 : Int32)))) H := hP
        have hDc : va_D A ((W_Model cI a (s_Model_thrown S (0 : Int32)))) := hD
        have hFc := jFreeW (ws := (W_Model cI a (s_Model_thrown S (0 : Int32)))) hD hS hA
        refine va_calli (va_runV (As := [.int v1, .int v2, .int v3]) (rest := []) ⟨hx, hb, hml, hown, hts⟩ (c_X5_childOf l dC dI cI a H.size _ _ _ _ _ h11) (cwV 3 hts gX5_child_X5_childOf rfl rfl rfl (by decide +kernel) ⟨Nat.le_of_ble_eq_true rfl, Nat.le_of_ble_eq_true rfl⟩) (jPreV hK hPc hDc hN (ci := 5) rfl rfl) rfl rfl hl.1 rfl (lv_room (Nat.le_of_ble_eq_true rfl)) dX5_child_34 ⟨Nat.le_of_ble_eq_true rfl, Nat.le_of_ble_eq_true rfl⟩) hS (fun q _ h => hFc q h) hFc (fun r' u' t H locs ht hvm hw hB hz1 hk1 hS => ?_)
        subst hw
        obtain ⟨hP1, -, hD1⟩ := hB
        rw [ht] at hP1
        have hP : va_P (dC, dI) vwCl ((W_Model cI a (s_Model_thrown S (0 : Int32)))) H := hP1
        have hD : va_D A ((W_Model cI a (s_Model_thrown S (0 : Int32)))) := hD1.weaken (fun _ _ _ h => hFc _ h)
        refine lv_goto (tgt := 45) hx hb dX5_child_37 (by decide) ?_
        have e50 := Option.some.inj hF
        obtain ⟨e60, e51⟩ := Prod.mk.inj e50
        subst e60
        subst e51
        exact W.iret (v := r10) hx hb hr (fun t ht hW => ⟨⟨r10, (s_Model_thrown S (0 : Int32)), rfl, ⟨rfl, rfl⟩, by rw [ht]; exact hP, va_K.moved hW.alike hK, hD⟩, hS.F ht⟩) hS.2.2 dX5_child_45
    · have hF := F_pos c3 hF
      refine lv_aload_n hx hb dX5_child_14 rfl (lv_at hl 0 rfl) ?_
      refine lv_iconst (v := (1 : Int32)) hx hb dX5_child_15 (by decide) ?_
      obtain ⟨r12, u13, h14, hF⟩ := ob2_some hF
      have hPc : va_P (dC, dI) vwCl ((W_Model cI a (s_Model_thrown S (0 : Int32)))) H := hP
      have hDc : va_D A ((W_Model cI a (s_Model_thrown S (0 : Int32)))) := hD
      have hFc := jFreeW (ws := (W_Model cI a (s_Model_thrown S (0 : Int32)))) hD hS hA
      refine va_calli (va_runV (As := [.int (1 : Int32)]) (rest := []) ⟨hx, hb, hml, hown, hts⟩ (c_X5_fails l dC dI cI a H.size _ _ _ _ h14) (cwV 1 hts gX5_child_X5_fails rfl rfl rfl (by decide +kernel) ⟨Nat.le_of_ble_eq_true rfl, Nat.le_of_ble_eq_true rfl⟩) (jPreV hK hPc hDc hN (ci := 5) rfl rfl) rfl rfl hl.1 rfl (lv_room (Nat.le_of_ble_eq_true rfl)) dX5_child_16 ⟨Nat.le_of_ble_eq_true rfl, Nat.le_of_ble_eq_true rfl⟩) hS (fun q _ h => hFc q h) hFc (fun r' u' t H locs ht hvm hw hB hz1 hk1 hS => ?_)
      obtain ⟨e1, e2⟩ := hw
      subst e1
      subst e2
      obtain ⟨hP1, -, hD1⟩ := hB
      rw [ht] at hP1
      have hP : va_P (dC, dI) vwCl ((W_Model cI a u13)) H := hP1
      have hD : va_D A ((W_Model cI a u13)) := hD1.weaken (fun _ _ _ h => hFc _ h)
      have e50 := Option.some.inj hF
      obtain ⟨e60, e51⟩ := Prod.mk.inj e50
      subst e60
      subst e51
      exact W.iret (v := r12) hx hb hr (fun t ht hW => ⟨⟨r12, u13, rfl, ⟨rfl, rfl⟩, by rw [ht]; exact hP, va_K.moved hW.alike hK, hD⟩, hS.F ht⟩) hS.2.2 dX5_child_19
  exact KE _ _ hP hD hS
set_option maxHeartbeats 4000000 in
set_option maxRecDepth 100000 in
theorem c_X5_ofShape (l : Launch) (dC : Nat → ClassId) (dI : Nat → Nat → Nat) (cI : ClassId) (a : Nat → Nat) (sz : Nat) (S : S_Model) (v1 : Int32) (v2 : Int32) (rr : Int32) (hF : F_X5_ofShape S v1 v2 = some rr) : Met l yX5_ofShape wsX5_ofShape ({ frames := 2, cells := 0, slots := 0, locals := 47 } : Room) (va_Pc [.ref (a 0), .int v1, .int v2] (jPre (dC, dI) [(cI, .int)] sz ((W_Model cI a S)))) (va_Qi (fun (r' : Int32) (_ : Unit) => rr = r') (fun _ : Unit => jB (dC, dI) [(cI, .int)] (va_A ((W_Model cI a S)) sz) ((W_Model cI a S))) (va_A ((W_Model cI a S)) sz)) 0 0 (va_A ((W_Model cI a S)) sz) := by
  refine Met.ofW (cc := cX5_ofShape) (maxL := 6) (ret := (some .int)) (by decide) rfl ?_
  intro p e s m args below meth c s₁ B hml hv
  obtain ⟨rfl, hsz, hP, hK, hD0, hN⟩ := hv
  have hx := B.exec
  have hb := B.bytes
  have hr := B.returns
  have hts := atoms_spec (ws := wsX5_ofShape) B.pre
  have hown : s.vm.findClass RX5 = some m.cls := findClass_of_methodNamed B.named
  have hlocks := B.notSynchronized
  have hinX5 : ∀ w ∈ u_ws RX5 TX5 26, w ∈ wsX5_ofShape := by decide +kernel
  subst hsz
  have hD := hD0.self (sz := s.heap.size)
  generalize hAe : (va_A ((W_Model cI a S)) s.heap.size) = A at hD ⊢
  have hA : ∀ q : Nat, s.heap.size ≤ q → A q := fun q h => by rw [← hAe]; exact Or.inr h
  have hS : va_S A s.heap s.heap [] := va_S.rf
  have hl := lv_entry ([.ref (a 0), .int v1, .int v2]) (n := 6) (Nat.le_of_ble_eq_true rfl)
  rw [lg_entry_eq]
  generalize (lg_sl ([.ref (a 0), .int v1, .int v2]) ++ List.replicate (6 - (lg_sl ([.ref (a 0), .int v1, .int v2])).length) Slot.unset).toArray = ls at hl ⊢
  have hl : lv_has ls 6 [(0, .ref (a 0)), (1, .int v1), (2, .int v2)] := hl
  have K43 : ∀ (n43 : Nat) (x3 : Int32) (x4 : Int32) (H : Heap) (locs : List Loc), F_X5_ofShape_43 v1 v2 S n43 x3 x4 = some rr → va_P (dC, dI) vwCl ((W_Model cI a S)) H → va_D A ((W_Model cI a S)) → va_S A s.heap H locs → ∀ ls : Array Slot, lv_has ls 6 [(0, .ref (a 0)), (1, .int v1), (2, .int v2), (3, .int x3), (4, .int x4)] → W p l e (headSpec wsX5_ofShape ({ frames := 2, cells := 0, slots := 0, locals := 47 } : Room)).room s m ([.ref (a 0), .int v1, .int v2] : List Value).toArray below meth c H locs 0 0 (MQ below (va_Qi (fun (r' : Int32) (_ : Unit) => rr = r') (fun _ : Unit => jB (dC, dI) [(cI, .int)] A ((W_Model cI a S))) A) ([.ref (a 0), .int v1, .int v2] : List Value).toArray s 0 0 A) (F0 m 43 ls []) := by
    intro n43
    induction n43 with
    | zero => intro x3 x4 H locs hF; exact nomatch hF
    | succ n43 ih43 =>
      intro x3 x4 H locs hF hP hD hS ls hl
      rw [F_X5_ofShape_43_s] at hF
      refine lv_iload hx hb dX5_ofShape_43 (lv_at hl 4 rfl) ?_
      refine lv_aload_n hx hb dX5_ofShape_45 rfl (lv_at hl 0 rfl) ?_
      refine wg_now (v := .ref (a 1)) hx hb hts hinX5 hown hK hP rfl (hts (Cond.fieldLink RX5 7 "LearnedShapesModel" "now" "[I") (List.mem_of_getElem? (i := 1) rfl)) dX5_ofShape_46 ?_
      refine lv_iconst (v := (3 : Int32)) hx hb dX5_ofShape_49 (by decide) ?_
      refine lv_iload_n hx hb dX5_ofShape_50 rfl (lv_at hl 1 rfl) ?_
      refine lv_iadd hx hb dX5_ofShape_51 ?_
      obtain ⟨g1, hF⟩ := og_some hF
      refine wl_now (f := (g_Model_now S)) hx hb hK hP rfl (inb_in g1) dX5_ofShape_52 ?_
      refine lv_icmp_ge (tgt := 166) hx hb dX5_ofShape_53 (by decide) (fun c2 => ?_) (fun c2 => ?_)
      · have hF := F_pos c2 hF
        refine lv_iload_n hx hb dX5_ofShape_166 rfl (lv_at hl 3 rfl) ?_
        have e50 := Option.some.inj hF
        subst e50
        exact W.iret (v := x3) hx hb hr (fun t ht hW => ⟨⟨x3, (), rfl, rfl, by rw [ht]; exact hP, va_K.moved hW.alike hK, hD⟩, hS.F ht⟩) hS.2.2 dX5_ofShape_167
      · have hF := F_neg c2 hF
        refine lv_iload_n hx hb dX5_ofShape_56 rfl (lv_at hl 2 rfl) ?_
        refine lv_iconst (v := (5 : Int32)) hx hb dX5_ofShape_57 (by decide) ?_
        refine lv_icmp_ne (tgt := 87) hx hb dX5_ofShape_58 (by decide) (fun c3 => ?_) (fun c3 => ?_)
        · have hF := F_neg c3 hF
          refine lv_iload_n hx hb dX5_ofShape_87 rfl (lv_at hl 2 rfl) ?_
          refine lv_iconst (v := (2 : Int32)) hx hb dX5_ofShape_88 (by decide) ?_
          refine lv_icmp_ne (tgt := 113) hx hb dX5_ofShape_89 (by decide) (fun c4 => ?_) (fun c4 => ?_)
          · have hF := F_neg c4 hF
            refine lv_iload_n hx hb dX5_ofShape_113 rfl (lv_at hl 2 rfl) ?_
            refine lv_iconst (v := (3 : Int32)) hx hb dX5_ofShape_114 (by decide) ?_
            refine lv_icmp_ne (tgt := 128) hx hb dX5_ofShape_115 (by decide) (fun c5 => ?_) (fun c5 => ?_)
            · have hF := F_neg c5 hF
              refine lv_aload_n hx hb dX5_ofShape_128 rfl (lv_at hl 0 rfl) ?_
              refine lv_iload_n hx hb dX5_ofShape_129 rfl (lv_at hl 1 rfl) ?_
              refine lv_iload hx hb dX5_ofShape_130 (lv_at hl 4 rfl) ?_
              refine lv_iconst (v := (4 : Int32)) hx hb dX5_ofShape_132 (by decide) ?_
              obtain ⟨r6, h7, hF⟩ := ob1_some hF
              have hPc : va_P (dC, dI) vwCl ((W_Model cI a S)) H := hP
              have hDc : va_D A ((W_Model cI a S)) := hD
              have hFc := jFreeW (ws := (W_Model cI a S)) hD hS hA
              refine va_calli (va_runV (As := [.int v1, .int x4, .int (4 : Int32)]) (rest := []) ⟨hx, hb, hml, hown, hts⟩ (c_X5_of l dC dI cI a H.size _ _ _ _ _ h7) (cwV 3 hts gX5_ofShape_X5_of rfl rfl rfl (by decide +kernel) ⟨Nat.le_of_ble_eq_true rfl, Nat.le_of_ble_eq_true rfl⟩) (jPreV hK hPc hDc hN (ci := 5) rfl rfl) rfl rfl hl.1 rfl (lv_room (Nat.le_of_ble_eq_true rfl)) dX5_ofShape_133 ⟨Nat.le_of_ble_eq_true rfl, Nat.le_of_ble_eq_true rfl⟩) hS (fun q _ h => hFc q h) hFc (fun r' u' t H locs ht hvm hw hB hz1 hk1 hS => ?_)
              subst hw
              obtain ⟨hP1, -, hD1⟩ := hB
              rw [ht] at hP1
              have hP : va_P (dC, dI) vwCl ((W_Model cI a S)) H := hP1
              have hD : va_D A ((W_Model cI a S)) := hD1.weaken (fun _ _ _ h => hFc _ h)
              refine lv_iconst (v := (1 : Int32)) hx hb dX5_ofShape_136 (by decide) ?_
              refine lv_icmp_ne (tgt := 144) hx hb dX5_ofShape_137 (by decide) (fun c8 => ?_) (fun c8 => ?_)
              · have hF := F_neg c8 hF
                refine lv_iconst (v := (0 : Int32)) hx hb dX5_ofShape_144 (by decide) ?_
                refine lv_istore (lv' := [(5, .int (0 : Int32)), (0, .ref (a 0)), (1, .int v1), (2, .int v2), (3, .int x3), (4, .int x4)]) hx hb dX5_ofShape_145 hl (by decide) rfl (fun ls hl => ?_)
                refine lv_iload_n hx hb dX5_ofShape_147 rfl (lv_at hl 4 rfl) ?_
                refine lv_iload hx hb dX5_ofShape_148 (lv_at hl 0 rfl) ?_
                refine lv_if_eq (tgt := 157) hx hb dX5_ofShape_150 (by decide) (fun _ => ?_) (fun c => absurd c (by decide))
                refine lv_iconst (v := (0 : Int32)) hx hb dX5_ofShape_157 (by decide) ?_
                refine lv_iadd hx hb dX5_ofShape_158 ?_
                refine lv_istore_n (lv' := [(3, .int (x3 + (0 : Int32))), (5, .int (0 : Int32)), (0, .ref (a 0)), (1, .int v1), (2, .int v2), (4, .int x4)]) hx hb dX5_ofShape_159 rfl hl (by decide) rfl (fun ls hl => ?_)
                refine lv_iinc (v := (x4 + (1 : Int32))) (lv' := [(4, .int (x4 + (1 : Int32))), (3, .int (x3 + (0 : Int32))), (5, .int (0 : Int32)), (0, .ref (a 0)), (1, .int v1), (2, .int v2)]) hx hb dX5_ofShape_160 hl (k := 5) rfl rfl (by decide) rfl (fun ls hl => ?_)
                refine lv_goto (tgt := 43) hx hb dX5_ofShape_163 (by decide) ?_
                exact ih43 _ _ _ _ hF hP hD hS _ (lv_sub hl [3, 4, 5, 1, 0] rfl)
              · have hF := F_pos c8 hF
                refine lv_iconst (v := (1 : Int32)) hx hb dX5_ofShape_140 (by decide) ?_
                refine lv_goto (tgt := 145) hx hb dX5_ofShape_141 (by decide) ?_
                refine lv_istore (lv' := [(5, .int (1 : Int32)), (0, .ref (a 0)), (1, .int v1), (2, .int v2), (3, .int x3), (4, .int x4)]) hx hb dX5_ofShape_145 hl (by decide) rfl (fun ls hl => ?_)
                refine lv_iload_n hx hb dX5_ofShape_147 rfl (lv_at hl 4 rfl) ?_
                refine lv_iload hx hb dX5_ofShape_148 (lv_at hl 0 rfl) ?_
                refine lv_if_eq (tgt := 157) hx hb dX5_ofShape_150 (by decide) (fun c => absurd c (by decide)) (fun _ => ?_)
                refine lv_iconst (v := (1 : Int32)) hx hb dX5_ofShape_153 (by decide) ?_
                refine lv_goto (tgt := 158) hx hb dX5_ofShape_154 (by decide) ?_
                refine lv_iadd hx hb dX5_ofShape_158 ?_
                refine lv_istore_n (lv' := [(3, .int (x3 + (1 : Int32))), (5, .int (1 : Int32)), (0, .ref (a 0)), (1, .int v1), (2, .int v2), (4, .int x4)]) hx hb dX5_ofShape_159 rfl hl (by decide) rfl (fun ls hl => ?_)
                refine lv_iinc (v := (x4 + (1 : Int32))) (lv' := [(4, .int (x4 + (1 : Int32))), (3, .int (x3 + (1 : Int32))), (5, .int (1 : Int32)), (0, .ref (a 0)), (1, .int v1), (2, .int v2)]) hx hb dX5_ofShape_160 hl (k := 5) rfl rfl (by decide) rfl (fun ls hl => ?_)
                refine lv_goto (tgt := 43) hx hb dX5_ofShape_163 (by decide) ?_
                exact ih43 _ _ _ _ hF hP hD hS _ (lv_sub hl [3, 4, 5, 1, 0] rfl)
            · have hF := F_pos c5 hF
              refine lv_aload_n hx hb dX5_ofShape_118 rfl (lv_at hl 0 rfl) ?_
              refine lv_iload_n hx hb dX5_ofShape_119 rfl (lv_at hl 1 rfl) ?_
              refine lv_iload hx hb dX5_ofShape_120 (lv_at hl 4 rfl) ?_
              obtain ⟨r9, h10, hF⟩ := ob1_some hF
              have hPc : va_P (dC, dI) vwCl ((W_Model cI a S)) H := hP
              have hDc : va_D A ((W_Model cI a S)) := hD
              have hFc := jFreeW (ws := (W_Model cI a S)) hD hS hA
              refine va_calli (va_runV (As := [.int v1, .int x4]) (rest := []) ⟨hx, hb, hml, hown, hts⟩ (c_X5_canMiss l dC dI cI a H.size _ _ _ _ h10) (cwV 2 hts gX5_ofShape_X5_canMiss rfl rfl rfl (by decide +kernel) ⟨Nat.le_of_ble_eq_true rfl, Nat.le_of_ble_eq_true rfl⟩) (jPreV hK hPc hDc hN (ci := 5) rfl rfl) rfl rfl hl.1 rfl (lv_room (Nat.le_of_ble_eq_true rfl)) dX5_ofShape_122 ⟨Nat.le_of_ble_eq_true rfl, Nat.le_of_ble_eq_true rfl⟩) hS (fun q _ h => hFc q h) hFc (fun r' u' t H locs ht hvm hw hB hz1 hk1 hS => ?_)
              subst hw
              obtain ⟨hP1, -, hD1⟩ := hB
              rw [ht] at hP1
              have hP : va_P (dC, dI) vwCl ((W_Model cI a S)) H := hP1
              have hD : va_D A ((W_Model cI a S)) := hD1.weaken (fun _ _ _ h => hFc _ h)
              refine lv_goto (tgt := 145) hx hb dX5_ofShape_125 (by decide) ?_
              refine lv_istore (lv' := [(5, .int (b2i r9)), (0, .ref (a 0)), (1, .int v1), (2, .int v2), (3, .int x3), (4, .int x4)]) hx hb dX5_ofShape_145 hl (by decide) rfl (fun ls hl => ?_)
              refine lv_iload_n hx hb dX5_ofShape_147 rfl (lv_at hl 4 rfl) ?_
              refine lv_iload hx hb dX5_ofShape_148 (lv_at hl 0 rfl) ?_
              refine lv_if_eq (tgt := 157) hx hb dX5_ofShape_150 (by decide) (fun c11 => ?_) (fun c11 => ?_)
              · have hF := F_pos c11 hF
                refine lv_iconst (v := (0 : Int32)) hx hb dX5_ofShape_157 (by decide) ?_
                refine lv_iadd hx hb dX5_ofShape_158 ?_
                refine lv_istore_n (lv' := [(3, .int (x3 + (0 : Int32))), (5, .int (b2i r9)), (0, .ref (a 0)), (1, .int v1), (2, .int v2), (4, .int x4)]) hx hb dX5_ofShape_159 rfl hl (by decide) rfl (fun ls hl => ?_)
                refine lv_iinc (v := (x4 + (1 : Int32))) (lv' := [(4, .int (x4 + (1 : Int32))), (3, .int (x3 + (0 : Int32))), (5, .int (b2i r9)), (0, .ref (a 0)), (1, .int v1), (2, .int v2)]) hx hb dX5_ofShape_160 hl (k := 5) rfl rfl (by decide) rfl (fun ls hl => ?_)
                refine lv_goto (tgt := 43) hx hb dX5_ofShape_163 (by decide) ?_
                exact ih43 _ _ _ _ hF hP hD hS _ (lv_sub hl [3, 4, 5, 1, 0] rfl)
              · have hF := F_neg c11 hF
                refine lv_iconst (v := (1 : Int32)) hx hb dX5_ofShape_153 (by decide) ?_
                refine lv_goto (tgt := 158) hx hb dX5_ofShape_154 (by decide) ?_
                refine lv_iadd hx hb dX5_ofShape_158 ?_
                refine lv_istore_n (lv' := [(3, .int (x3 + (1 : Int32))), (5, .int (b2i r9)), (0, .ref (a 0)), (1, .int v1), (2, .int v2), (4, .int x4)]) hx hb dX5_ofShape_159 rfl hl (by decide) rfl (fun ls hl => ?_)
                refine lv_iinc (v := (x4 + (1 : Int32))) (lv' := [(4, .int (x4 + (1 : Int32))), (3, .int (x3 + (1 : Int32))), (5, .int (b2i r9)), (0, .ref (a 0)), (1, .int v1), (2, .int v2)]) hx hb dX5_ofShape_160 hl (k := 5) rfl rfl (by decide) rfl (fun ls hl => ?_)
                refine lv_goto (tgt := 43) hx hb dX5_ofShape_163 (by decide) ?_
                exact ih43 _ _ _ _ hF hP hD hS _ (lv_sub hl [3, 4, 5, 1, 0] rfl)
          · have hF := F_pos c4 hF
            refine lv_aload_n hx hb dX5_ofShape_92 rfl (lv_at hl 0 rfl) ?_
            refine lv_iload_n hx hb dX5_ofShape_93 rfl (lv_at hl 1 rfl) ?_
            refine lv_iload hx hb dX5_ofShape_94 (lv_at hl 4 rfl) ?_
            refine lv_iconst (v := (0 : Int32)) hx hb dX5_ofShape_96 (by decide) ?_
            obtain ⟨r12, h13, hF⟩ := ob1_some hF
            have hPc : va_P (dC, dI) vwCl ((W_Model cI a S)) H := hP
            have hDc : va_D A ((W_Model cI a S)) := hD
            have hFc := jFreeW (ws := (W_Model cI a S)) hD hS hA
            refine va_calli (va_runV (As := [.int v1, .int x4, .int (0 : Int32)]) (rest := []) ⟨hx, hb, hml, hown, hts⟩ (c_X5_of l dC dI cI a H.size _ _ _ _ _ h13) (cwV 3 hts gX5_ofShape_X5_of rfl rfl rfl (by decide +kernel) ⟨Nat.le_of_ble_eq_true rfl, Nat.le_of_ble_eq_true rfl⟩) (jPreV hK hPc hDc hN (ci := 5) rfl rfl) rfl rfl hl.1 rfl (lv_room (Nat.le_of_ble_eq_true rfl)) dX5_ofShape_97 ⟨Nat.le_of_ble_eq_true rfl, Nat.le_of_ble_eq_true rfl⟩) hS (fun q _ h => hFc q h) hFc (fun r' u' t H locs ht hvm hw hB hz1 hk1 hS => ?_)
            subst hw
            obtain ⟨hP1, -, hD1⟩ := hB
            rw [ht] at hP1
            have hP : va_P (dC, dI) vwCl ((W_Model cI a S)) H := hP1
            have hD : va_D A ((W_Model cI a S)) := hD1.weaken (fun _ _ _ h => hFc _ h)
            refine lv_bipush (v := (7 : Int32)) hx hb dX5_ofShape_100 (by decide) ?_
            refine lv_icmp_ne (tgt := 109) hx hb dX5_ofShape_102 (by decide) (fun c14 => ?_) (fun c14 => ?_)
            · have hF := F_neg c14 hF
              refine lv_iconst (v := (0 : Int32)) hx hb dX5_ofShape_109 (by decide) ?_
              refine lv_goto (tgt := 145) hx hb dX5_ofShape_110 (by decide) ?_
              refine lv_istore (lv' := [(5, .int (0 : Int32)), (0, .ref (a 0)), (1, .int v1), (2, .int v2), (3, .int x3), (4, .int x4)]) hx hb dX5_ofShape_145 hl (by decide) rfl (fun ls hl => ?_)
              refine lv_iload_n hx hb dX5_ofShape_147 rfl (lv_at hl 4 rfl) ?_
              refine lv_iload hx hb dX5_ofShape_148 (lv_at hl 0 rfl) ?_
              refine lv_if_eq (tgt := 157) hx hb dX5_ofShape_150 (by decide) (fun _ => ?_) (fun c => absurd c (by decide))
              refine lv_iconst (v := (0 : Int32)) hx hb dX5_ofShape_157 (by decide) ?_
              refine lv_iadd hx hb dX5_ofShape_158 ?_
              refine lv_istore_n (lv' := [(3, .int (x3 + (0 : Int32))), (5, .int (0 : Int32)), (0, .ref (a 0)), (1, .int v1), (2, .int v2), (4, .int x4)]) hx hb dX5_ofShape_159 rfl hl (by decide) rfl (fun ls hl => ?_)
              refine lv_iinc (v := (x4 + (1 : Int32))) (lv' := [(4, .int (x4 + (1 : Int32))), (3, .int (x3 + (0 : Int32))), (5, .int (0 : Int32)), (0, .ref (a 0)), (1, .int v1), (2, .int v2)]) hx hb dX5_ofShape_160 hl (k := 5) rfl rfl (by decide) rfl (fun ls hl => ?_)
              refine lv_goto (tgt := 43) hx hb dX5_ofShape_163 (by decide) ?_
              exact ih43 _ _ _ _ hF hP hD hS _ (lv_sub hl [3, 4, 5, 1, 0] rfl)
            · have hF := F_pos c14 hF
              refine lv_iconst (v := (1 : Int32)) hx hb dX5_ofShape_105 (by decide) ?_
              refine lv_goto (tgt := 145) hx hb dX5_ofShape_106 (by decide) ?_
              refine lv_istore (lv' := [(5, .int (1 : Int32)), (0, .ref (a 0)), (1, .int v1), (2, .int v2), (3, .int x3), (4, .int x4)]) hx hb dX5_ofShape_145 hl (by decide) rfl (fun ls hl => ?_)
              refine lv_iload_n hx hb dX5_ofShape_147 rfl (lv_at hl 4 rfl) ?_
              refine lv_iload hx hb dX5_ofShape_148 (lv_at hl 0 rfl) ?_
              refine lv_if_eq (tgt := 157) hx hb dX5_ofShape_150 (by decide) (fun c => absurd c (by decide)) (fun _ => ?_)
              refine lv_iconst (v := (1 : Int32)) hx hb dX5_ofShape_153 (by decide) ?_
              refine lv_goto (tgt := 158) hx hb dX5_ofShape_154 (by decide) ?_
              refine lv_iadd hx hb dX5_ofShape_158 ?_
              refine lv_istore_n (lv' := [(3, .int (x3 + (1 : Int32))), (5, .int (1 : Int32)), (0, .ref (a 0)), (1, .int v1), (2, .int v2), (4, .int x4)]) hx hb dX5_ofShape_159 rfl hl (by decide) rfl (fun ls hl => ?_)
              refine lv_iinc (v := (x4 + (1 : Int32))) (lv' := [(4, .int (x4 + (1 : Int32))), (3, .int (x3 + (1 : Int32))), (5, .int (1 : Int32)), (0, .ref (a 0)), (1, .int v1), (2, .int v2)]) hx hb dX5_ofShape_160 hl (k := 5) rfl rfl (by decide) rfl (fun ls hl => ?_)
              refine lv_goto (tgt := 43) hx hb dX5_ofShape_163 (by decide) ?_
              exact ih43 _ _ _ _ hF hP hD hS _ (lv_sub hl [3, 4, 5, 1, 0] rfl)
        · have hF := F_pos c3 hF
          refine lv_aload_n hx hb dX5_ofShape_61 rfl (lv_at hl 0 rfl) ?_
          refine lv_iload_n hx hb dX5_ofShape_62 rfl (lv_at hl 1 rfl) ?_
          refine lv_iload hx hb dX5_ofShape_63 (lv_at hl 4 rfl) ?_
          obtain ⟨r15, h16, hF⟩ := ob1_some hF
          have hPc : va_P (dC, dI) vwCl ((W_Model cI a S)) H := hP
          have hDc : va_D A ((W_Model cI a S)) := hD
          have hFc := jFreeW (ws := (W_Model cI a S)) hD hS hA
          refine va_calli (va_runV (As := [.int v1, .int x4]) (rest := []) ⟨hx, hb, hml, hown, hts⟩ (c_X5_depth l dC dI cI a H.size _ _ _ _ h16) (cwV 2 hts gX5_ofShape_X5_depth rfl rfl rfl (by decide +kernel) ⟨Nat.le_of_ble_eq_true rfl, Nat.le_of_ble_eq_true rfl⟩) (jPreV hK hPc hDc hN (ci := 5) rfl rfl) rfl rfl hl.1 rfl (lv_room (Nat.le_of_ble_eq_true rfl)) dX5_ofShape_65 ⟨Nat.le_of_ble_eq_true rfl, Nat.le_of_ble_eq_true rfl⟩) hS (fun q _ h => hFc q h) hFc (fun r' u' t H locs ht hvm hw hB hz1 hk1 hS => ?_)
          subst hw
          obtain ⟨hP1, -, hD1⟩ := hB
          rw [ht] at hP1
          have hP : va_P (dC, dI) vwCl ((W_Model cI a S)) H := hP1
          have hD : va_D A ((W_Model cI a S)) := hD1.weaken (fun _ _ _ h => hFc _ h)
          refine lv_iload_n hx hb dX5_ofShape_68 rfl (lv_at hl 3 rfl) ?_
          refine lv_icmp_le (tgt := 82) hx hb dX5_ofShape_69 (by decide) (fun c17 => ?_) (fun c17 => ?_)
          · have hF := F_pos c17 hF
            refine lv_iload_n hx hb dX5_ofShape_82 rfl (lv_at hl 3 rfl) ?_
            refine lv_istore_n (lv' := [(3, .int x3), (0, .ref (a 0)), (1, .int v1), (2, .int v2), (4, .int x4)]) hx hb dX5_ofShape_83 rfl hl (by decide) rfl (fun ls hl => ?_)
            refine lv_goto (tgt := 160) hx hb dX5_ofShape_84 (by decide) ?_
            refine lv_iinc (v := (x4 + (1 : Int32))) (lv' := [(4, .int (x4 + (1 : Int32))), (3, .int x3), (0, .ref (a 0)), (1, .int v1), (2, .int v2)]) hx hb dX5_ofShape_160 hl (k := 4) rfl rfl (by decide) rfl (fun ls hl => ?_)
            refine lv_goto (tgt := 43) hx hb dX5_ofShape_163 (by decide) ?_
            exact ih43 _ _ _ _ hF hP hD hS _ (lv_sub hl [2, 3, 4, 1, 0] rfl)
          · have hF := F_neg c17 hF
            refine lv_aload_n hx hb dX5_ofShape_72 rfl (lv_at hl 0 rfl) ?_
            refine lv_iload_n hx hb dX5_ofShape_73 rfl (lv_at hl 1 rfl) ?_
            refine lv_iload hx hb dX5_ofShape_74 (lv_at hl 4 rfl) ?_
            obtain ⟨r18, h19, hF⟩ := ob1_some hF
            have hPc : va_P (dC, dI) vwCl ((W_Model cI a S)) H := hP
            have hDc : va_D A ((W_Model cI a S)) := hD
            have hFc := jFreeW (ws := (W_Model cI a S)) hD hS hA
            refine va_calli (va_runV (As := [.int v1, .int x4]) (rest := []) ⟨hx, hb, hml, hown, hts⟩ (c_X5_depth l dC dI cI a H.size _ _ _ _ h19) (cwV 2 hts gX5_ofShape_X5_depth rfl rfl rfl (by decide +kernel) ⟨Nat.le_of_ble_eq_true rfl, Nat.le_of_ble_eq_true rfl⟩) (jPreV hK hPc hDc hN (ci := 5) rfl rfl) rfl rfl hl.1 rfl (lv_room (Nat.le_of_ble_eq_true rfl)) dX5_ofShape_76 ⟨Nat.le_of_ble_eq_true rfl, Nat.le_of_ble_eq_true rfl⟩) hS (fun q _ h => hFc q h) hFc (fun r' u' t H locs ht hvm hw hB hz1 hk1 hS => ?_)
            subst hw
            obtain ⟨hP1, -, hD1⟩ := hB
            rw [ht] at hP1
            have hP : va_P (dC, dI) vwCl ((W_Model cI a S)) H := hP1
            have hD : va_D A ((W_Model cI a S)) := hD1.weaken (fun _ _ _ h => hFc _ h)
            refine lv_goto (tgt := 83) hx hb dX5_ofShape_79 (by decide) ?_
            refine lv_istore_n (lv' := [(3, .int r18), (0, .ref (a 0)), (1, .int v1), (2, .int v2), (4, .int x4)]) hx hb dX5_ofShape_83 rfl hl (by decide) rfl (fun ls hl => ?_)
            refine lv_goto (tgt := 160) hx hb dX5_ofShape_84 (by decide) ?_
            refine lv_iinc (v := (x4 + (1 : Int32))) (lv' := [(4, .int (x4 + (1 : Int32))), (3, .int r18), (0, .ref (a 0)), (1, .int v1), (2, .int v2)]) hx hb dX5_ofShape_160 hl (k := 4) rfl rfl (by decide) rfl (fun ls hl => ?_)
            refine lv_goto (tgt := 43) hx hb dX5_ofShape_163 (by decide) ?_
            exact ih43 _ _ _ _ hF hP hD hS _ (lv_sub hl [2, 3, 4, 1, 0] rfl)
  have KE : ∀ (H : Heap) (locs : List Loc), va_P (dC, dI) vwCl ((W_Model cI a S)) H → va_D A ((W_Model cI a S)) → va_S A s.heap H locs → W p l e (headSpec wsX5_ofShape ({ frames := 2, cells := 0, slots := 0, locals := 47 } : Room)).room s m ([.ref (a 0), .int v1, .int v2] : List Value).toArray below meth c H locs 0 0 (MQ below (va_Qi (fun (r' : Int32) (_ : Unit) => rr = r') (fun _ : Unit => jB (dC, dI) [(cI, .int)] A ((W_Model cI a S))) A) ([.ref (a 0), .int v1, .int v2] : List Value).toArray s 0 0 A) (F0 m 0 ls []) := by
    intro H locs hP hD hS
    unfold F_X5_ofShape at hF
    refine lv_iload_n hx hb dX5_ofShape_0 rfl (lv_at hl 2 rfl) ?_
    refine lv_iconst (v := (2 : Int32)) hx hb dX5_ofShape_1 (by decide) ?_
    refine lv_icmp_ge (tgt := 29) hx hb dX5_ofShape_2 (by decide) (fun c20 => ?_) (fun c20 => ?_)
    · have hF := F_pos c20 hF
      refine lv_iload_n hx hb dX5_ofShape_29 rfl (lv_at hl 2 rfl) ?_
      refine lv_iconst (v := (5 : Int32)) hx hb dX5_ofShape_30 (by decide) ?_
      refine lv_icmp_ne (tgt := 38) hx hb dX5_ofShape_31 (by decide) (fun c21 => ?_) (fun c21 => ?_)
      · have hF := F_neg c21 hF
        refine lv_iconst (v := (0 : Int32)) hx hb dX5_ofShape_38 (by decide) ?_
        refine lv_istore_n (lv' := [(3, .int (0 : Int32)), (0, .ref (a 0)), (1, .int v1), (2, .int v2)]) hx hb dX5_ofShape_39 rfl hl (by decide) rfl (fun ls hl => ?_)
        refine lv_iconst (v := (0 : Int32)) hx hb dX5_ofShape_40 (by decide) ?_
        refine lv_istore (lv' := [(4, .int (0 : Int32)), (3, .int (0 : Int32)), (0, .ref (a 0)), (1, .int v1), (2, .int v2)]) hx hb dX5_ofShape_41 hl (by decide) rfl (fun ls hl => ?_)
        exact K43 _ _ _ _ _ hF hP hD hS _ (lv_sub hl [2, 3, 4, 1, 0] rfl)
      · have hF := F_pos c21 hF
        refine lv_iconst (v := (-1 : Int32)) hx hb dX5_ofShape_34 (by decide) ?_
        refine lv_goto (tgt := 39) hx hb dX5_ofShape_35 (by decide) ?_
        refine lv_istore_n (lv' := [(3, .int (-1 : Int32)), (0, .ref (a 0)), (1, .int v1), (2, .int v2)]) hx hb dX5_ofShape_39 rfl hl (by decide) rfl (fun ls hl => ?_)
        refine lv_iconst (v := (0 : Int32)) hx hb dX5_ofShape_40 (by decide) ?_
        refine lv_istore (lv' := [(4, .int (0 : Int32)), (3, .int (-1 : Int32)), (0, .ref (a 0)), (1, .int v1), (2, .int v2)]) hx hb dX5_ofShape_41 hl (by decide) rfl (fun ls hl => ?_)
        exact K43 _ _ _ _ _ hF hP hD hS _ (lv_sub hl [2, 3, 4, 1, 0] rfl)
    · have hF := F_neg c20 hF
      refine lv_iload_n hx hb dX5_ofShape_5 rfl (lv_at hl 2 rfl) ?_
      refine lv_if_ne (tgt := 20) hx hb dX5_ofShape_6 (by decide) (fun c22 => ?_) (fun c22 => ?_)
      · have hF := F_neg c22 hF
        refine lv_aload_n hx hb dX5_ofShape_20 rfl (lv_at hl 0 rfl) ?_
        refine wg_now (v := .ref (a 1)) hx hb hts hinX5 hown hK hP rfl (hts (Cond.fieldLink RX5 7 "LearnedShapesModel" "now" "[I") (List.mem_of_getElem? (i := 1) rfl)) dX5_ofShape_21 ?_
        refine lv_iconst (v := (3 : Int32)) hx hb dX5_ofShape_24 (by decide) ?_
        refine lv_iload_n hx hb dX5_ofShape_25 rfl (lv_at hl 1 rfl) ?_
        refine lv_iadd hx hb dX5_ofShape_26 ?_
        obtain ⟨g23, hF⟩ := og_some hF
        refine wl_now (f := (g_Model_now S)) hx hb hK hP rfl (inb_in g23) dX5_ofShape_27 ?_
        have e50 := Option.some.inj hF
        subst e50
        exact W.iret (v := ((g_Model_now S) ((3 : Int32) + v1).toNatClampNeg)) hx hb hr (fun t ht hW => ⟨⟨((g_Model_now S) ((3 : Int32) + v1).toNatClampNeg), (), rfl, rfl, by rw [ht]; exact hP, va_K.moved hW.alike hK, hD⟩, hS.F ht⟩) hS.2.2 dX5_ofShape_28
      · have hF := F_pos c22 hF
        refine lv_aload_n hx hb dX5_ofShape_9 rfl (lv_at hl 0 rfl) ?_
        refine wg_now (v := .ref (a 1)) hx hb hts hinX5 hown hK hP rfl (hts (Cond.fieldLink RX5 7 "LearnedShapesModel" "now" "[I") (List.mem_of_getElem? (i := 1) rfl)) dX5_ofShape_10 ?_
        refine lv_iconst (v := (1 : Int32)) hx hb dX5_ofShape_13 (by decide) ?_
        refine lv_iload_n hx hb dX5_ofShape_14 rfl (lv_at hl 1 rfl) ?_
        refine lv_iadd hx hb dX5_ofShape_15 ?_
        obtain ⟨g24, hF⟩ := og_some hF
        refine wl_now (f := (g_Model_now S)) hx hb hK hP rfl (inb_in g24) dX5_ofShape_16 ?_
        refine lv_goto (tgt := 28) hx hb dX5_ofShape_17 (by decide) ?_
        have e50 := Option.some.inj hF
        subst e50
        exact W.iret (v := ((g_Model_now S) ((1 : Int32) + v1).toNatClampNeg)) hx hb hr (fun t ht hW => ⟨⟨((g_Model_now S) ((1 : Int32) + v1).toNatClampNeg), (), rfl, rfl, by rw [ht]; exact hP, va_K.moved hW.alike hK, hD⟩, hS.F ht⟩) hS.2.2 dX5_ofShape_28
  exact KE _ _ hP hD hS
set_option maxHeartbeats 4000000 in
set_option maxRecDepth 100000 in
theorem c_X5_shape (l : Launch) (dC : Nat → ClassId) (dI : Nat → Nat → Nat) (cI : ClassId) (a : Nat → Nat) (sz : Nat) (S : S_Model) (v1 : Int32) (v2 : Int32) (rr : Int32) (Y : S_Model) (hF : F_X5_shape S v1 v2 = some (rr, Y)) : Met l yX5_shape wsX5_shape ({ frames := 3, cells := 0, slots := 0, locals := 72 } : Room) (va_Pc [.ref (a 0), .int v1, .int v2] (jPre (dC, dI) [(cI, .int)] sz ((W_Model cI a S)))) (va_Qi (fun (r' : Int32) (u : S_Model) => rr = r' ∧ Y = u) (fun u : S_Model => jB (dC, dI) [(cI, .int)] (va_A ((W_Model cI a S)) sz) ((W_Model cI a u))) (va_A ((W_Model cI a S)) sz)) 0 0 (va_A ((W_Model cI a S)) sz) := by
  refine Met.ofW (cc := cX5_shape) (maxL := 3) (ret := (some .int)) (by decide) rfl ?_
  intro p e s m args below meth c s₁ B hml hv
  obtain ⟨rfl, hsz, hP, hK, hD0, hN⟩ := hv
  have hx := B.exec
  have hb := B.bytes
  have hr := B.returns
  have hts := atoms_spec (ws := wsX5_shape) B.pre
  have hown : s.vm.findClass RX5 = some m.cls := findClass_of_methodNamed B.named
  have hlocks := B.notSynchronized
  have hinX5 : ∀ w ∈ u_ws RX5 TX5 26, w ∈ wsX5_shape := by decide +kernel
  subst hsz
  have hD := hD0.self (sz := s.heap.size)
  generalize hAe : (va_A ((W_Model cI a S)) s.heap.size) = A at hD ⊢
  have hA : ∀ q : Nat, s.heap.size ≤ q → A q := fun q h => by rw [← hAe]; exact Or.inr h
  have hS : va_S A s.heap s.heap [] := va_S.rf
  have hl := lv_entry ([.ref (a 0), .int v1, .int v2]) (n := 3) (Nat.le_of_ble_eq_true rfl)
  rw [lg_entry_eq]
  generalize (lg_sl ([.ref (a 0), .int v1, .int v2]) ++ List.replicate (3 - (lg_sl ([.ref (a 0), .int v1, .int v2])).length) Slot.unset).toArray = ls at hl ⊢
  have hl : lv_has ls 3 [(0, .ref (a 0)), (1, .int v1), (2, .int v2)] := hl
  have KE : ∀ (H : Heap) (locs : List Loc), va_P (dC, dI) vwCl ((W_Model cI a S)) H → va_D A ((W_Model cI a S)) → va_S A s.heap H locs → W p l e (headSpec wsX5_shape ({ frames := 3, cells := 0, slots := 0, locals := 72 } : Room)).room s m ([.ref (a 0), .int v1, .int v2] : List Value).toArray below meth c H locs 0 0 (MQ below (va_Qi (fun (r' : Int32) (u : S_Model) => rr = r' ∧ Y = u) (fun u : S_Model => jB (dC, dI) [(cI, .int)] A ((W_Model cI a u))) A) ([.ref (a 0), .int v1, .int v2] : List Value).toArray s 0 0 A) (F0 m 0 ls []) := by
    intro H locs hP hD hS
    unfold F_X5_shape at hF
    refine lv_aload_n hx hb dX5_shape_0 rfl (lv_at hl 0 rfl) ?_
    refine lv_iconst (v := (0 : Int32)) hx hb dX5_shape_1 (by decide) ?_
    refine wp_thrown (v := (0 : Int32)) hx hb hts hinX5 hown hK hP hD hS (hts (Cond.fieldLink RX5 49 "LearnedShapesModel" "thrown" "I") (List.mem_of_getElem? (i := 1) rfl)) (rfl) (rfl) dX5_shape_2 (fun H locs hP hD hS => ?_)
    refine lv_iload_n hx hb dX5_shape_5 rfl (lv_at hl 1 rfl) ?_
    obtain ⟨r1, h2, hF⟩ := ob1_some hF
    have hPc : va_P (dC, dI) vwCl ([] : va_W) H := fun k q h => by simp at h
    have hDc : va_D A ([] : va_W) := ⟨fun i j p q h => by simp at h, fun k q h => by simp at h⟩
    have hFc := jFreeW (ws := []) hDc hS hA
    refine va_calli (va_runS (As := [.int v1]) (rest := []) ⟨hx, hb, hml, hown, hts⟩ (c_X5_isShape l dC dI cI  H.size _ _ h2) (va_cwS 1 hts gX5_shape_X5_isShape rfl rfl rfl (by decide +kernel) ⟨Nat.le_of_ble_eq_true rfl, Nat.le_of_ble_eq_true rfl⟩) (jPreS hK hPc hDc hN) rfl rfl hl.1 rfl (lv_room (Nat.le_of_ble_eq_true rfl)) dX5_shape_6 ⟨Nat.le_of_ble_eq_true rfl, Nat.le_of_ble_eq_true rfl⟩) hS (fun q _ h => hFc q h) hFc (fun r' u' t H locs ht hvm hw hB hz1 hk1 hS => ?_)
    subst hw
    obtain ⟨hP1, -, hD1⟩ := hB
    rw [ht] at hP1
    have hP : va_P (dC, dI) vwCl ((W_Model cI a (s_Model_thrown S (0 : Int32)))) H := jNone hP hk1
    refine lv_if_ne (tgt := 18) hx hb dX5_shape_9 (by decide) (fun c3 => ?_) (fun c3 => ?_)
    · have hF := F_neg c3 hF
      refine lv_iload_n hx hb dX5_shape_18 rfl (lv_at hl 2 rfl) ?_
      refine lv_iconst (v := (0 : Int32)) hx hb dX5_shape_19 (by decide) ?_
      refine lv_iconst (v := (5 : Int32)) hx hb dX5_shape_20 (by decide) ?_
      obtain ⟨r4, h5, hF⟩ := ob1_some hF
      have hPc : va_P (dC, dI) vwCl ([] : va_W) H := fun k q h => by simp at h
      have hDc : va_D A ([] : va_W) := ⟨fun i j p q h => by simp at h, fun k q h => by simp at h⟩
      have hFc := jFreeW (ws := []) hDc hS hA
      refine va_calli (va_runS (As := [.int v2, .int (0 : Int32), .int (5 : Int32)]) (rest := []) ⟨hx, hb, hml, hown, hts⟩ (c_X5_in l dC dI cI  H.size _ _ _ _ h5) (va_cwS 3 hts gX5_shape_X5_in rfl rfl rfl (by decide +kernel) ⟨Nat.le_of_ble_eq_true rfl, Nat.le_of_ble_eq_true rfl⟩) (jPreS hK hPc hDc hN) rfl rfl hl.1 rfl (lv_room (Nat.le_of_ble_eq_true rfl)) dX5_shape_21 ⟨Nat.le_of_ble_eq_true rfl, Nat.le_of_ble_eq_true rfl⟩) hS (fun q _ h => hFc q h) hFc (fun r' u' t H locs ht hvm hw hB hz1 hk1 hS => ?_)
      subst hw
      obtain ⟨hP1, -, hD1⟩ := hB
      rw [ht] at hP1
      have hP : va_P (dC, dI) vwCl ((W_Model cI a (s_Model_thrown S (0 : Int32)))) H := jNone hP hk1
      refine lv_if_eq (tgt := 36) hx hb dX5_shape_24 (by decide) (fun c6 => ?_) (fun c6 => ?_)
      · have hF := F_pos c6 hF
        refine lv_aload_n hx hb dX5_shape_36 rfl (lv_at hl 0 rfl) ?_
        refine lv_iconst (v := (2 : Int32)) hx hb dX5_shape_37 (by decide) ?_
        obtain ⟨r7, u8, h9, hF⟩ := ob2_some hF
        have hPc : va_P (dC, dI) vwCl ((W_Model cI a (s_Model_thrown S (0 : Int32)))) H := hP
        have hDc : va_D A ((W_Model cI a (s_Model_thrown S (0 : Int32)))) := hD
        have hFc := jFreeW (ws := (W_Model cI a (s_Model_thrown S (0 : Int32)))) hD hS hA
        refine va_calli (va_runV (As := [.int (2 : Int32)]) (rest := []) ⟨hx, hb, hml, hown, hts⟩ (c_X5_fails l dC dI cI a H.size _ _ _ _ h9) (cwV 1 hts gX5_shape_X5_fails rfl rfl rfl (by decide +kernel) ⟨Nat.le_of_ble_eq_true rfl, Nat.le_of_ble_eq_true rfl⟩) (jPreV hK hPc hDc hN (ci := 5) rfl rfl) rfl rfl hl.1 rfl (lv_room (Nat.le_of_ble_eq_true rfl)) dX5_shape_38 ⟨Nat.le_of_ble_eq_true rfl, Nat.le_of_ble_eq_true rfl⟩) hS (fun q _ h => hFc q h) hFc (fun r' u' t H locs ht hvm hw hB hz1 hk1 hS => ?_)
        obtain ⟨e1, e2⟩ := hw
        subst e1
        subst e2
        obtain ⟨hP1, -, hD1⟩ := hB
        rw [ht] at hP1
        have hP : va_P (dC, dI) vwCl ((W_Model cI a u8)) H := hP1
        have hD : va_D A ((W_Model cI a u8)) := hD1.weaken (fun _ _ _ h => hFc _ h)
        have e50 := Option.some.inj hF
        obtain ⟨e60, e51⟩ := Prod.mk.inj e50
        subst e60
        subst e51
        exact W.iret (v := r7) hx hb hr (fun t ht hW => ⟨⟨r7, u8, rfl, ⟨rfl, rfl⟩, by rw [ht]; exact hP, va_K.moved hW.alike hK, hD⟩, hS.F ht⟩) hS.2.2 dX5_shape_41
      · have hF := F_neg c6 hF
        refine lv_aload_n hx hb dX5_shape_27 rfl (lv_at hl 0 rfl) ?_
        refine lv_iload_n hx hb dX5_shape_28 rfl (lv_at hl 1 rfl) ?_
        refine lv_iload_n hx hb dX5_shape_29 rfl (lv_at hl 2 rfl) ?_
        obtain ⟨r10, h11, hF⟩ := ob1_some hF
        have hPc : va_P (dC, dI) vwCl ((W_Model cI a (s_Model_thrown S (0 : Int32)))) H := hP
        have hDc : va_D A ((W_Model cI a (s_Model_thrown S (0 : Int32)))) := hD
        have hFc := jFreeW (ws := (W_Model cI a (s_Model_thrown S (0 : Int32)))) hD hS hA
        refine va_calli (va_runV (As := [.int v1, .int v2]) (rest := []) ⟨hx, hb, hml, hown, hts⟩ (c_X5_ofShape l dC dI cI a H.size _ _ _ _ h11) (cwV 2 hts gX5_shape_X5_ofShape rfl rfl rfl (by decide +kernel) ⟨Nat.le_of_ble_eq_true rfl, Nat.le_of_ble_eq_true rfl⟩) (jPreV hK hPc hDc hN (ci := 5) rfl rfl) rfl rfl hl.1 rfl (lv_room (Nat.le_of_ble_eq_true rfl)) dX5_shape_30 ⟨Nat.le_of_ble_eq_true rfl, Nat.le_of_ble_eq_true rfl⟩) hS (fun q _ h => hFc q h) hFc (fun r' u' t H locs ht hvm hw hB hz1 hk1 hS => ?_)
        subst hw
        obtain ⟨hP1, -, hD1⟩ := hB
        rw [ht] at hP1
        have hP : va_P (dC, dI) vwCl ((W_Model cI a (s_Model_thrown S (0 : Int32)))) H := hP1
        have hD : va_D A ((W_Model cI a (s_Model_thrown S (0 : Int32)))) := hD1.weaken (fun _ _ _ h => hFc _ h)
        refine lv_goto (tgt := 41) hx hb dX5_shape_33 (by decide) ?_
        have e50 := Option.some.inj hF
        obtain ⟨e60, e51⟩ := Prod.mk.inj e50
        subst e60
        subst e51
        exact W.iret (v := r10) hx hb hr (fun t ht hW => ⟨⟨r10, (s_Model_thrown S (0 : Int32)), rfl, ⟨rfl, rfl⟩, by rw [ht]; exact hP, va_K.moved hW.alike hK, hD⟩, hS.F ht⟩) hS.2.2 dX5_shape_41
    · have hF := F_pos c3 hF
      refine lv_aload_n hx hb dX5_shape_12 rfl (lv_at hl 0 rfl) ?_
      refine lv_iconst (v := (1 : Int32)) hx hb dX5_shape_13 (by decide) ?_
      obtain ⟨r12, u13, h14, hF⟩ := ob2_some hF
      have hPc : va_P (dC, dI) vwCl ((W_Model cI a (s_Model_thrown S (0 : Int32)))) H := hP
      have hDc : va_D A ((W_Model cI a (s_Model_thrown S (0 : Int32)))) := hD
      have hFc := jFreeW (ws := (W_Model cI a (s_Model_thrown S (0 : Int32)))) hD hS hA
      refine va_calli (va_runV (As := [.int (1 : Int32)]) (rest := []) ⟨hx, hb, hml, hown, hts⟩ (c_X5_fails l dC dI cI a H.size _ _ _ _ h14) (cwV 1 hts gX5_shape_X5_fails rfl rfl rfl (by decide +kernel) ⟨Nat.le_of_ble_eq_true rfl, Nat.le_of_ble_eq_true rfl⟩) (jPreV hK hPc hDc hN (ci := 5) rfl rfl) rfl rfl hl.1 rfl (lv_room (Nat.le_of_ble_eq_true rfl)) dX5_shape_14 ⟨Nat.le_of_ble_eq_true rfl, Nat.le_of_ble_eq_true rfl⟩) hS (fun q _ h => hFc q h) hFc (fun r' u' t H locs ht hvm hw hB hz1 hk1 hS => ?_)
      obtain ⟨e1, e2⟩ := hw
      subst e1
      subst e2
      obtain ⟨hP1, -, hD1⟩ := hB
      rw [ht] at hP1
      have hP : va_P (dC, dI) vwCl ((W_Model cI a u13)) H := hP1
      have hD : va_D A ((W_Model cI a u13)) := hD1.weaken (fun _ _ _ h => hFc _ h)
      have e50 := Option.some.inj hF
      obtain ⟨e60, e51⟩ := Prod.mk.inj e50
      subst e60
      subst e51
      exact W.iret (v := r12) hx hb hr (fun t ht hW => ⟨⟨r12, u13, rfl, ⟨rfl, rfl⟩, by rw [ht]; exact hP, va_K.moved hW.alike hK, hD⟩, hS.F ht⟩) hS.2.2 dX5_shape_17
  exact KE _ _ hP hD hS
set_option maxHeartbeats 4000000 in
set_option maxRecDepth 100000 in
theorem c_X5_ofDocument (l : Launch) (dC : Nat → ClassId) (dI : Nat → Nat → Nat) (cI : ClassId) (a : Nat → Nat) (sz : Nat) (S : S_Model) (v1 : Int32) (rr : Int32) (Y : S_Model) (hF : F_X5_ofDocument S v1 = some (rr, Y)) : Met l yX5_ofDocument wsX5_ofDocument ({ frames := 7, cells := 0, slots := 0, locals := 155 } : Room) (va_Pc [.ref (a 0), .int v1] (jPre (dC, dI) [(cI, .int)] sz ((W_Model cI a S)))) (va_Qi (fun (r' : Int32) (u : S_Model) => rr = r' ∧ Y = u) (fun u : S_Model => jB (dC, dI) [(cI, .int)] (va_A ((W_Model cI a S)) sz) ((W_Model cI a u))) (va_A ((W_Model cI a S)) sz)) 0 0 (va_A ((W_Model cI a S)) sz) := by
  refine Met.ofW (cc := cX5_ofDocument) (maxL := 4) (ret := (some .int)) (by decide) rfl ?_
  intro p e s m args below meth c s₁ B hml hv
  obtain ⟨rfl, hsz, hP, hK, hD0, hN⟩ := hv
  have hx := B.exec
  have hb := B.bytes
  have hr := B.returns
  have hts := atoms_spec (ws := wsX5_ofDocument) B.pre
  have hown : s.vm.findClass RX5 = some m.cls := findClass_of_methodNamed B.named
  have hlocks := B.notSynchronized
  have hinX5 : ∀ w ∈ u_ws RX5 TX5 26, w ∈ wsX5_ofDocument := by decide +kernel
  subst hsz
  have hD := hD0.self (sz := s.heap.size)
  generalize hAe : (va_A ((W_Model cI a S)) s.heap.size) = A at hD ⊢
  have hA : ∀ q : Nat, s.heap.size ≤ q → A q := fun q h => by rw [← hAe]; exact Or.inr h
  have hS : va_S A s.heap s.heap [] := va_S.rf
  have hl := lv_entry ([.ref (a 0), .int v1]) (n := 4) (Nat.le_of_ble_eq_true rfl)
  rw [lg_entry_eq]
  generalize (lg_sl ([.ref (a 0), .int v1]) ++ List.replicate (4 - (lg_sl ([.ref (a 0), .int v1])).length) Slot.unset).toArray = ls at hl ⊢
  have hl : lv_has ls 4 [(0, .ref (a 0)), (1, .int v1)] := hl
  have K39 : ∀ (n39 : Nat) (S : S_Model) (x2 : Int32) (x3 : Int32) (H : Heap) (locs : List Loc), F_X5_ofDocument_39 v1 n39 S x2 x3 = some (rr, Y) → va_P (dC, dI) vwCl ((W_Model cI a S)) H → va_D A ((W_Model cI a S)) → va_S A s.heap H locs → ∀ ls : Array Slot, lv_has ls 4 [(0, .ref (a 0)), (1, .int v1), (2, .int x2), (3, .int x3)] → W p l e (headSpec wsX5_ofDocument ({ frames := 7, cells := 0, slots := 0, locals := 155 } : Room)).room s m ([.ref (a 0), .int v1] : List Value).toArray below meth c H locs 0 0 (MQ below (va_Qi (fun (r' : Int32) (u : S_Model) => rr = r' ∧ Y = u) (fun u : S_Model => jB (dC, dI) [(cI, .int)] A ((W_Model cI a u))) A) ([.ref (a 0), .int v1] : List Value).toArray s 0 0 A) (F0 m 39 ls []) := by
    intro n39
    induction n39 with
    | zero => intro S x2 x3 H locs hF; exact nomatch hF
    | succ n39 ih39 =>
      intro S x2 x3 H locs hF hP hD hS ls hl
      rw [F_X5_ofDocument_39_s] at hF
      refine lv_iload_n hx hb dX5_ofDocument_39 rfl (lv_at hl 3 rfl) ?_
      refine lv_aload_n hx hb dX5_ofDocument_40 rfl (lv_at hl 0 rfl) ?_
      refine wg_valued (v := .int (g_Model_valued S)) hx hb hts hinX5 hown hK hP rfl (hts (Cond.fieldLink RX5 82 "LearnedShapesModel" "valued" "I") (List.mem_of_getElem? (i := 1) rfl)) dX5_ofDocument_41 ?_
      refine lv_icmp_ge (tgt := 73) hx hb dX5_ofDocument_44 (by decide) (fun c1 => ?_) (fun c1 => ?_)
      · have hF := F_pos c1 hF
        refine lv_iload_n hx hb dX5_ofDocument_73 rfl (lv_at hl 2 rfl) ?_
        have e50 := Option.some.inj hF
        obtain ⟨e60, e51⟩ := Prod.mk.inj e50
        subst e60
        subst e51
        exact W.iret (v := x2) hx hb hr (fun t ht hW => ⟨⟨x2, S, rfl, ⟨rfl, rfl⟩, by rw [ht]; exact hP, va_K.moved hW.alike hK, hD⟩, hS.F ht⟩) hS.2.2 dX5_ofDocument_74
      · have hF := F_neg c1 hF
        refine lv_iload_n hx hb dX5_ofDocument_47 rfl (lv_at hl 2 rfl) ?_
        refine lv_aload_n hx hb dX5_ofDocument_48 rfl (lv_at hl 0 rfl) ?_
        refine wg_kinds (v := .ref (a 4)) hx hb hts hinX5 hown hK hP rfl (hts (Cond.fieldLink RX5 19 "LearnedShapesModel" "kinds" "[I") (List.mem_of_getElem? (i := 3) rfl)) dX5_ofDocument_49 ?_
        refine lv_iload_n hx hb dX5_ofDocument_52 rfl (lv_at hl 3 rfl) ?_
        obtain ⟨g2, hF⟩ := og_some hF
        refine wl_kinds (f := (g_Model_kinds S)) hx hb hK hP rfl (inb_in g2) dX5_ofDocument_53 ?_
        refine lv_iload_n hx hb dX5_ofDocument_54 rfl (lv_at hl 1 rfl) ?_
        refine lv_iconst (v := (1 : Int32)) hx hb dX5_ofDocument_55 (by decide) ?_
        refine lv_isub hx hb dX5_ofDocument_56 ?_
        refine lv_icmp_ne (tgt := 64) hx hb dX5_ofDocument_57 (by decide) (fun c3 => ?_) (fun c3 => ?_)
        · have hF := F_neg c3 hF
          refine lv_iconst (v := (0 : Int32)) hx hb dX5_ofDocument_64 (by decide) ?_
          refine lv_iadd hx hb dX5_ofDocument_65 ?_
          refine lv_istore_n (lv' := [(2, .int (x2 + (0 : Int32))), (0, .ref (a 0)), (1, .int v1), (3, .int x3)]) hx hb dX5_ofDocument_66 rfl hl (by decide) rfl (fun ls hl => ?_)
          refine lv_iinc (v := (x3 + (1 : Int32))) (lv' := [(3, .int (x3 + (1 : Int32))), (2, .int (x2 + (0 : Int32))), (0, .ref (a 0)), (1, .int v1)]) hx hb dX5_ofDocument_67 hl (k := 3) rfl rfl (by decide) rfl (fun ls hl => ?_)
          refine lv_goto (tgt := 39) hx hb dX5_ofDocument_70 (by decide) ?_
          exact ih39 _ _ _ _ _ hF hP hD hS _ (lv_sub hl [2, 3, 1, 0] rfl)
        · have hF := F_pos c3 hF
          refine lv_iconst (v := (1 : Int32)) hx hb dX5_ofDocument_60 (by decide) ?_
          refine lv_goto (tgt := 65) hx hb dX5_ofDocument_61 (by decide) ?_
          refine lv_iadd hx hb dX5_ofDocument_65 ?_
          refine lv_istore_n (lv' := [(2, .int (x2 + (1 : Int32))), (0, .ref (a 0)), (1, .int v1), (3, .int x3)]) hx hb dX5_ofDocument_66 rfl hl (by decide) rfl (fun ls hl => ?_)
          refine lv_iinc (v := (x3 + (1 : Int32))) (lv' := [(3, .int (x3 + (1 : Int32))), (2, .int (x2 + (1 : Int32))), (0, .ref (a 0)), (1, .int v1)]) hx hb dX5_ofDocument_67 hl (k := 3) rfl rfl (by decide) rfl (fun ls hl => ?_)
          refine lv_goto (tgt := 39) hx hb dX5_ofDocument_70 (by decide) ?_
          exact ih39 _ _ _ _ _ hF hP hD hS _ (lv_sub hl [2, 3, 1, 0] rfl)
  have KE : ∀ (H : Heap) (locs : List Loc), va_P (dC, dI) vwCl ((W_Model cI a S)) H → va_D A ((W_Model cI a S)) → va_S A s.heap H locs → W p l e (headSpec wsX5_ofDocument ({ frames := 7, cells := 0, slots := 0, locals := 155 } : Room)).room s m ([.ref (a 0), .int v1] : List Value).toArray below meth c H locs 0 0 (MQ below (va_Qi (fun (r' : Int32) (u : S_Model) => rr = r' ∧ Y = u) (fun u : S_Model => jB (dC, dI) [(cI, .int)] A ((W_Model cI a u))) A) ([.ref (a 0), .int v1] : List Value).toArray s 0 0 A) (F0 m 0 ls []) := by
    intro H locs hP hD hS
    unfold F_X5_ofDocument at hF
    refine lv_aload_n hx hb dX5_ofDocument_0 rfl (lv_at hl 0 rfl) ?_
    obtain ⟨r4, u5, h6, hF⟩ := ob2_some hF
    have hPc : va_P (dC, dI) vwCl ((W_Model cI a S)) H := hP
    have hDc : va_D A ((W_Model cI a S)) := hD
    have hFc := jFreeW (ws := (W_Model cI a S)) hD hS hA
    refine va_calli (va_runV (As := []) (rest := []) ⟨hx, hb, hml, hown, hts⟩ (c_X5_isText l dC dI cI a H.size _ _ _ h6) (cwV 0 hts gX5_ofDocument_X5_isText rfl rfl rfl (by decide +kernel) ⟨Nat.le_of_ble_eq_true rfl, Nat.le_of_ble_eq_true rfl⟩) (jPreV hK hPc hDc hN (ci := 5) rfl rfl) rfl rfl hl.1 rfl (lv_room (Nat.le_of_ble_eq_true rfl)) dX5_ofDocument_1 ⟨Nat.le_of_ble_eq_true rfl, Nat.le_of_ble_eq_true rfl⟩) hS (fun q _ h => hFc q h) hFc (fun r' u' t H locs ht hvm hw hB hz1 hk1 hS => ?_)
    obtain ⟨e1, e2⟩ := hw
    subst e1
    subst e2
    obtain ⟨hP1, -, hD1⟩ := hB
    rw [ht] at hP1
    have hP : va_P (dC, dI) vwCl ((W_Model cI a u5)) H := hP1
    have hD : va_D A ((W_Model cI a u5)) := hD1.weaken (fun _ _ _ h => hFc _ h)
    refine lv_if_ne (tgt := 9) hx hb dX5_ofDocument_4 (by decide) (fun c7 => ?_) (fun c7 => ?_)
    · have hF := F_neg c7 hF
      refine lv_iload_n hx hb dX5_ofDocument_9 rfl (lv_at hl 1 rfl) ?_
      refine lv_if_eq (tgt := 19) hx hb dX5_ofDocument_10 (by decide) (fun c8 => ?_) (fun c8 => ?_)
      · have hF := F_pos c8 hF
        refine lv_iload_n hx hb dX5_ofDocument_19 rfl (lv_at hl 1 rfl) ?_
        refine lv_if_ne (tgt := 30) hx hb dX5_ofDocument_20 (by decide) (fun c9 => ?_) (fun c9 => ?_)
        · have hF := F_neg c9 hF
          refine lv_aload_n hx hb dX5_ofDocument_30 rfl (lv_at hl 0 rfl) ?_
          refine wg_deepest (v := .int (g_Model_deepest u5)) hx hb hts hinX5 hown hK hP rfl (hts (Cond.fieldLink RX5 99 "LearnedShapesModel" "deepest" "I") (List.mem_of_getElem? (i := 2) rfl)) dX5_ofDocument_31 ?_
          have e50 := Option.some.inj hF
          obtain ⟨e60, e51⟩ := Prod.mk.inj e50
          subst e60
          subst e51
          exact W.iret (v := (g_Model_deepest u5)) hx hb hr (fun t ht hW => ⟨⟨(g_Model_deepest u5), u5, rfl, ⟨rfl, rfl⟩, by rw [ht]; exact hP, va_K.moved hW.alike hK, hD⟩, hS.F ht⟩) hS.2.2 dX5_ofDocument_34
        · have hF := F_pos c9 hF
          refine lv_aload_n hx hb dX5_ofDocument_23 rfl (lv_at hl 0 rfl) ?_
          refine wg_valued (v := .int (g_Model_valued u5)) hx hb hts hinX5 hown hK hP rfl (hts (Cond.fieldLink RX5 82 "LearnedShapesModel" "valued" "I") (List.mem_of_getElem? (i := 1) rfl)) dX5_ofDocument_24 ?_
          refine lv_goto (tgt := 34) hx hb dX5_ofDocument_27 (by decide) ?_
          have e50 := Option.some.inj hF
          obtain ⟨e60, e51⟩ := Prod.mk.inj e50
          subst e60
          subst e51
          exact W.iret (v := (g_Model_valued u5)) hx hb hr (fun t ht hW => ⟨⟨(g_Model_valued u5), u5, rfl, ⟨rfl, rfl⟩, by rw [ht]; exact hP, va_K.moved hW.alike hK, hD⟩, hS.F ht⟩) hS.2.2 dX5_ofDocument_34
      · have hF := F_neg c8 hF
        refine lv_iload_n hx hb dX5_ofDocument_13 rfl (lv_at hl 1 rfl) ?_
        refine lv_bipush (v := (8 : Int32)) hx hb dX5_ofDocument_14 (by decide) ?_
        refine lv_icmp_ne (tgt := 35) hx hb dX5_ofDocument_16 (by decide) (fun c10 => ?_) (fun c10 => ?_)
        · have hF := F_neg c10 hF
          refine lv_iconst (v := (0 : Int32)) hx hb dX5_ofDocument_35 (by decide) ?_
          refine lv_istore_n (lv' := [(2, .int (0 : Int32)), (0, .ref (a 0)), (1, .int v1)]) hx hb dX5_ofDocument_36 rfl hl (by decide) rfl (fun ls hl => ?_)
          refine lv_iconst (v := (0 : Int32)) hx hb dX5_ofDocument_37 (by decide) ?_
          refine lv_istore_n (lv' := [(3, .int (0 : Int32)), (2, .int (0 : Int32)), (0, .ref (a 0)), (1, .int v1)]) hx hb dX5_ofDocument_38 rfl hl (by decide) rfl (fun ls hl => ?_)
          exact K39 _ _ _ _ _ _ hF hP hD hS _ (lv_sub hl [2, 3, 1, 0] rfl)
        · have hF := F_pos c10 hF
          refine lv_iload_n hx hb dX5_ofDocument_19 rfl (lv_at hl 1 rfl) ?_
          refine lv_if_ne (tgt := 30) hx hb dX5_ofDocument_20 (by decide) (fun c11 => ?_) (fun c11 => ?_)
          · have hF := F_neg c11 hF
            refine lv_aload_n hx hb dX5_ofDocument_30 rfl (lv_at hl 0 rfl) ?_
            refine wg_deepest (v := .int (g_Model_deepest u5)) hx hb hts hinX5 hown hK hP rfl (hts (Cond.fieldLink RX5 99 "LearnedShapesModel" "deepest" "I") (List.mem_of_getElem? (i := 2) rfl)) dX5_ofDocument_31 ?_
            have e50 := Option.some.inj hF
            obtain ⟨e60, e51⟩ := Prod.mk.inj e50
            subst e60
            subst e51
            exact W.iret (v := (g_Model_deepest u5)) hx hb hr (fun t ht hW => ⟨⟨(g_Model_deepest u5), u5, rfl, ⟨rfl, rfl⟩, by rw [ht]; exact hP, va_K.moved hW.alike hK, hD⟩, hS.F ht⟩) hS.2.2 dX5_ofDocument_34
          · have hF := F_pos c11 hF
            refine lv_aload_n hx hb dX5_ofDocument_23 rfl (lv_at hl 0 rfl) ?_
            refine wg_valued (v := .int (g_Model_valued u5)) hx hb hts hinX5 hown hK hP rfl (hts (Cond.fieldLink RX5 82 "LearnedShapesModel" "valued" "I") (List.mem_of_getElem? (i := 1) rfl)) dX5_ofDocument_24 ?_
            refine lv_goto (tgt := 34) hx hb dX5_ofDocument_27 (by decide) ?_
            have e50 := Option.some.inj hF
            obtain ⟨e60, e51⟩ := Prod.mk.inj e50
            subst e60
            subst e51
            exact W.iret (v := (g_Model_valued u5)) hx hb hr (fun t ht hW => ⟨⟨(g_Model_valued u5), u5, rfl, ⟨rfl, rfl⟩, by rw [ht]; exact hP, va_K.moved hW.alike hK, hD⟩, hS.F ht⟩) hS.2.2 dX5_ofDocument_34
    · have hF := F_pos c7 hF
      refine lv_iconst (v := (-1 : Int32)) hx hb dX5_ofDocument_7 (by decide) ?_
      have e50 := Option.some.inj hF
      obtain ⟨e60, e51⟩ := Prod.mk.inj e50
      subst e60
      subst e51
      exact W.iret (v := (-1 : Int32)) hx hb hr (fun t ht hW => ⟨⟨(-1 : Int32), u5, rfl, ⟨rfl, rfl⟩, by rw [ht]; exact hP, va_K.moved hW.alike hK, hD⟩, hS.F ht⟩) hS.2.2 dX5_ofDocument_8
  exact KE _ _ hP hD hS
set_option maxHeartbeats 4000000 in
set_option maxRecDepth 100000 in
theorem c_X5_document (l : Launch) (dC : Nat → ClassId) (dI : Nat → Nat → Nat) (cI : ClassId) (a : Nat → Nat) (sz : Nat) (S : S_Model) (v1 : Int32) (rr : Int32) (Y : S_Model) (hF : F_X5_document S v1 = some (rr, Y)) : Met l yX5_document wsX5_document ({ frames := 8, cells := 0, slots := 0, locals := 178 } : Room) (va_Pc [.ref (a 0), .int v1] (jPre (dC, dI) [(cI, .int)] sz ((W_Model cI a S)))) (va_Qi (fun (r' : Int32) (u : S_Model) => rr = r' ∧ Y = u) (fun u : S_Model => jB (dC, dI) [(cI, .int)] (va_A ((W_Model cI a S)) sz) ((W_Model cI a u))) (va_A ((W_Model cI a S)) sz)) 0 0 (va_A ((W_Model cI a S)) sz) := by
  refine Met.ofW (cc := cX5_document) (maxL := 2) (ret := (some .int)) (by decide) rfl ?_
  intro p e s m args below meth c s₁ B hml hv
  obtain ⟨rfl, hsz, hP, hK, hD0, hN⟩ := hv
  have hx := B.exec
  have hb := B.bytes
  have hr := B.returns
  have hts := atoms_spec (ws := wsX5_document) B.pre
  have hown : s.vm.findClass RX5 = some m.cls := findClass_of_methodNamed B.named
  have hlocks := B.notSynchronized
  have hinX5 : ∀ w ∈ u_ws RX5 TX5 26, w ∈ wsX5_document := by decide +kernel
  subst hsz
  have hD := hD0.self (sz := s.heap.size)
  generalize hAe : (va_A ((W_Model cI a S)) s.heap.size) = A at hD ⊢
  have hA : ∀ q : Nat, s.heap.size ≤ q → A q := fun q h => by rw [← hAe]; exact Or.inr h
  have hS : va_S A s.heap s.heap [] := va_S.rf
  have hl := lv_entry ([.ref (a 0), .int v1]) (n := 2) (Nat.le_of_ble_eq_true rfl)
  rw [lg_entry_eq]
  generalize (lg_sl ([.ref (a 0), .int v1]) ++ List.replicate (2 - (lg_sl ([.ref (a 0), .int v1])).length) Slot.unset).toArray = ls at hl ⊢
  have hl : lv_has ls 2 [(0, .ref (a 0)), (1, .int v1)] := hl
  have KE : ∀ (H : Heap) (locs : List Loc), va_P (dC, dI) vwCl ((W_Model cI a S)) H → va_D A ((W_Model cI a S)) → va_S A s.heap H locs → W p l e (headSpec wsX5_document ({ frames := 8, cells := 0, slots := 0, locals := 178 } : Room)).room s m ([.ref (a 0), .int v1] : List Value).toArray below meth c H locs 0 0 (MQ below (va_Qi (fun (r' : Int32) (u : S_Model) => rr = r' ∧ Y = u) (fun u : S_Model => jB (dC, dI) [(cI, .int)] A ((W_Model cI a u))) A) ([.ref (a 0), .int v1] : List Value).toArray s 0 0 A) (F0 m 0 ls []) := by
    intro H locs hP hD hS
    unfold F_X5_document at hF
    refine lv_aload_n hx hb dX5_document_0 rfl (lv_at hl 0 rfl) ?_
    refine lv_iconst (v := (0 : Int32)) hx hb dX5_document_1 (by decide) ?_
    refine wp_thrown (v := (0 : Int32)) hx hb hts hinX5 hown hK hP hD hS (hts (Cond.fieldLink RX5 49 "LearnedShapesModel" "thrown" "I") (List.mem_of_getElem? (i := 1) rfl)) (rfl) (rfl) dX5_document_2 (fun H locs hP hD hS => ?_)
    refine lv_iload_n hx hb dX5_document_5 rfl (lv_at hl 1 rfl) ?_
    refine lv_iconst (v := (0 : Int32)) hx hb dX5_document_6 (by decide) ?_
    refine lv_bipush (v := (8 : Int32)) hx hb dX5_document_7 (by decide) ?_
    obtain ⟨r1, h2, hF⟩ := ob1_some hF
    have hPc : va_P (dC, dI) vwCl ([] : va_W) H := fun k q h => by simp at h
    have hDc : va_D A ([] : va_W) := ⟨fun i j p q h => by simp at h, fun k q h => by simp at h⟩
    have hFc := jFreeW (ws := []) hDc hS hA
    refine va_calli (va_runS (As := [.int v1, .int (0 : Int32), .int (8 : Int32)]) (rest := []) ⟨hx, hb, hml, hown, hts⟩ (c_X5_in l dC dI cI  H.size _ _ _ _ h2) (va_cwS 3 hts gX5_document_X5_in rfl rfl rfl (by decide +kernel) ⟨Nat.le_of_ble_eq_true rfl, Nat.le_of_ble_eq_true rfl⟩) (jPreS hK hPc hDc hN) rfl rfl hl.1 rfl (lv_room (Nat.le_of_ble_eq_true rfl)) dX5_document_9 ⟨Nat.le_of_ble_eq_true rfl, Nat.le_of_ble_eq_true rfl⟩) hS (fun q _ h => hFc q h) hFc (fun r' u' t H locs ht hvm hw hB hz1 hk1 hS => ?_)
    subst hw
    obtain ⟨hP1, -, hD1⟩ := hB
    rw [ht] at hP1
    have hP : va_P (dC, dI) vwCl ((W_Model cI a (s_Model_thrown S (0 : Int32)))) H := jNone hP hk1
    refine lv_if_eq (tgt := 23) hx hb dX5_document_12 (by decide) (fun c3 => ?_) (fun c3 => ?_)
    · have hF := F_pos c3 hF
      refine lv_aload_n hx hb dX5_document_23 rfl (lv_at hl 0 rfl) ?_
      refine lv_iconst (v := (1 : Int32)) hx hb dX5_document_24 (by decide) ?_
      obtain ⟨r4, u5, h6, hF⟩ := ob2_some hF
      have hPc : va_P (dC, dI) vwCl ((W_Model cI a (s_Model_thrown S (0 : Int32)))) H := hP
      have hDc : va_D A ((W_Model cI a (s_Model_thrown S (0 : Int32)))) := hD
      have hFc := jFreeW (ws := (W_Model cI a (s_Model_thrown S (0 : Int32)))) hD hS hA
      refine va_calli (va_runV (As := [.int (1 : Int32)]) (rest := []) ⟨hx, hb, hml, hown, hts⟩ (c_X5_fails l dC dI cI a H.size _ _ _ _ h6) (cwV 1 hts gX5_document_X5_fails rfl rfl rfl (by decide +kernel) ⟨Nat.le_of_ble_eq_true rfl, Nat.le_of_ble_eq_true rfl⟩) (jPreV hK hPc hDc hN (ci := 5) rfl rfl) rfl rfl hl.1 rfl (lv_room (Nat.le_of_ble_eq_true rfl)) dX5_document_25 ⟨Nat.le_of_ble_eq_true rfl, Nat.le_of_ble_eq_true rfl⟩) hS (fun q _ h => hFc q h) hFc (fun r' u' t H locs ht hvm hw hB hz1 hk1 hS => ?_)
      obtain ⟨e1, e2⟩ := hw
      subst e1
      subst e2
      obtain ⟨hP1, -, hD1⟩ := hB
      rw [ht] at hP1
      have hP : va_P (dC, dI) vwCl ((W_Model cI a u5)) H := hP1
      have hD : va_D A ((W_Model cI a u5)) := hD1.weaken (fun _ _ _ h => hFc _ h)
      have e50 := Option.some.inj hF
      obtain ⟨e60, e51⟩ := Prod.mk.inj e50
      subst e60
      subst e51
      exact W.iret (v := r4) hx hb hr (fun t ht hW => ⟨⟨r4, u5, rfl, ⟨rfl, rfl⟩, by rw [ht]; exact hP, va_K.moved hW.alike hK, hD⟩, hS.F ht⟩) hS.2.2 dX5_document_28
    · have hF := F_neg c3 hF
      refine lv_aload_n hx hb dX5_document_15 rfl (lv_at hl 0 rfl) ?_
      refine lv_iload_n hx hb dX5_document_16 rfl (lv_at hl 1 rfl) ?_
      obtain ⟨r7, u8, h9, hF⟩ := ob2_some hF
      have hPc : va_P (dC, dI) vwCl ((W_Model cI a (s_Model_thrown S (0 : Int32)))) H := hP
      have hDc : va_D A ((W_Model cI a (s_Model_thrown S (0 : Int32)))) := hD
      have hFc := jFreeW (ws := (W_Model cI a (s_Model_thrown S (0 : Int32)))) hD hS hA
      refine va_calli (va_runV (As := [.int v1]) (rest := []) ⟨hx, hb, hml, hown, hts⟩ (c_X5_ofDocument l dC dI cI a H.size _ _ _ _ h9) (cwV 1 hts gX5_document_X5_ofDocument rfl rfl rfl (by decide +kernel) ⟨Nat.le_of_ble_eq_true rfl, Nat.le_of_ble_eq_true rfl⟩) (jPreV hK hPc hDc hN (ci := 5) rfl rfl) rfl rfl hl.1 rfl (lv_room (Nat.le_of_ble_eq_true rfl)) dX5_document_17 ⟨Nat.le_of_ble_eq_true rfl, Nat.le_of_ble_eq_true rfl⟩) hS (fun q _ h => hFc q h) hFc (fun r' u' t H locs ht hvm hw hB hz1 hk1 hS => ?_)
      obtain ⟨e1, e2⟩ := hw
      subst e1
      subst e2
      obtain ⟨hP1, -, hD1⟩ := hB
      rw [ht] at hP1
      have hP : va_P (dC, dI) vwCl ((W_Model cI a u8)) H := hP1
      have hD : va_D A ((W_Model cI a u8)) := hD1.weaken (fun _ _ _ h => hFc _ h)
      refine lv_goto (tgt := 28) hx hb dX5_document_20 (by decide) ?_
      have e50 := Option.some.inj hF
      obtain ⟨e60, e51⟩ := Prod.mk.inj e50
      subst e60
      subst e51
      exact W.iret (v := r7) hx hb hr (fun t ht hW => ⟨⟨r7, u8, rfl, ⟨rfl, rfl⟩, by rw [ht]; exact hP, va_K.moved hW.alike hK, hD⟩, hS.F ht⟩) hS.2.2 dX5_document_28
  exact KE _ _ hP hD hS
set_option maxHeartbeats 4000000 in
set_option maxRecDepth 100000 in
theorem c_X5_count (l : Launch) (dC : Nat → ClassId) (dI : Nat → Nat → Nat) (cI : ClassId) (a : Nat → Nat) (sz : Nat) (S : S_Model) (v1 : Int32) (rr : Int32) (Y : S_Model) (hF : F_X5_count S v1 = some (rr, Y)) : Met l yX5_count wsX5_count ({ frames := 1, cells := 0, slots := 0, locals := 22 } : Room) (va_Pc [.ref (a 0), .int v1] (jPre (dC, dI) [(cI, .int)] sz ((W_Model cI a S)))) (va_Qi (fun (r' : Int32) (u : S_Model) => rr = r' ∧ Y = u) (fun u : S_Model => jB (dC, dI) [(cI, .int)] (va_A ((W_Model cI a S)) sz) ((W_Model cI a u))) (va_A ((W_Model cI a S)) sz)) 0 0 (va_A ((W_Model cI a S)) sz) := by
  refine Met.ofW (cc := cX5_count) (maxL := 2) (ret := (some .int)) (by decide) rfl ?_
  intro p e s m args below meth c s₁ B hml hv
  obtain ⟨rfl, hsz, hP, hK, hD0, hN⟩ := hv
  have hx := B.exec
  have hb := B.bytes
  have hr := B.returns
  have hts := atoms_spec (ws := wsX5_count) B.pre
  have hown : s.vm.findClass RX5 = some m.cls := findClass_of_methodNamed B.named
  have hlocks := B.notSynchronized
  have hinX5 : ∀ w ∈ u_ws RX5 TX5 26, w ∈ wsX5_count := by decide +kernel
  subst hsz
  have hD := hD0.self (sz := s.heap.size)
  generalize hAe : (va_A ((W_Model cI a S)) s.heap.size) = A at hD ⊢
  have hA : ∀ q : Nat, s.heap.size ≤ q → A q := fun q h => by rw [← hAe]; exact Or.inr h
  have hS : va_S A s.heap s.heap [] := va_S.rf
  have hl := lv_entry ([.ref (a 0), .int v1]) (n := 2) (Nat.le_of_ble_eq_true rfl)
  rw [lg_entry_eq]
  generalize (lg_sl ([.ref (a 0), .int v1]) ++ List.replicate (2 - (lg_sl ([.ref (a 0), .int v1])).length) Slot.unset).toArray = ls at hl ⊢
  have hl : lv_has ls 2 [(0, .ref (a 0)), (1, .int v1)] := hl
  have KE : ∀ (H : Heap) (locs : List Loc), va_P (dC, dI) vwCl ((W_Model cI a S)) H → va_D A ((W_Model cI a S)) → va_S A s.heap H locs → W p l e (headSpec wsX5_count ({ frames := 1, cells := 0, slots := 0, locals := 22 } : Room)).room s m ([.ref (a 0), .int v1] : List Value).toArray below meth c H locs 0 0 (MQ below (va_Qi (fun (r' : Int32) (u : S_Model) => rr = r' ∧ Y = u) (fun u : S_Model => jB (dC, dI) [(cI, .int)] A ((W_Model cI a u))) A) ([.ref (a 0), .int v1] : List Value).toArray s 0 0 A) (F0 m 0 ls []) := by
    intro H locs hP hD hS
    unfold F_X5_count at hF
    refine lv_aload_n hx hb dX5_count_0 rfl (lv_at hl 0 rfl) ?_
    refine lv_iconst (v := (0 : Int32)) hx hb dX5_count_1 (by decide) ?_
    refine wp_thrown (v := (0 : Int32)) hx hb hts hinX5 hown hK hP hD hS (hts (Cond.fieldLink RX5 49 "LearnedShapesModel" "thrown" "I") (List.mem_of_getElem? (i := 1) rfl)) (rfl) (rfl) dX5_count_2 (fun H locs hP hD hS => ?_)
    refine lv_iload_n hx hb dX5_count_5 rfl (lv_at hl 1 rfl) ?_
    refine lv_iconst (v := (0 : Int32)) hx hb dX5_count_6 (by decide) ?_
    refine lv_iconst (v := (2 : Int32)) hx hb dX5_count_7 (by decide) ?_
    obtain ⟨r1, h2, hF⟩ := ob1_some hF
    have hPc : va_P (dC, dI) vwCl ([] : va_W) H := fun k q h => by simp at h
    have hDc : va_D A ([] : va_W) := ⟨fun i j p q h => by simp at h, fun k q h => by simp at h⟩
    have hFc := jFreeW (ws := []) hDc hS hA
    refine va_calli (va_runS (As := [.int v1, .int (0 : Int32), .int (2 : Int32)]) (rest := []) ⟨hx, hb, hml, hown, hts⟩ (c_X5_in l dC dI cI  H.size _ _ _ _ h2) (va_cwS 3 hts gX5_count_X5_in rfl rfl rfl (by decide +kernel) ⟨Nat.le_of_ble_eq_true rfl, Nat.le_of_ble_eq_true rfl⟩) (jPreS hK hPc hDc hN) rfl rfl hl.1 rfl (lv_room (Nat.le_of_ble_eq_true rfl)) dX5_count_8 ⟨Nat.le_of_ble_eq_true rfl, Nat.le_of_ble_eq_true rfl⟩) hS (fun q _ h => hFc q h) hFc (fun r' u' t H locs ht hvm hw hB hz1 hk1 hS => ?_)
    subst hw
    obtain ⟨hP1, -, hD1⟩ := hB
    rw [ht] at hP1
    have hP : va_P (dC, dI) vwCl ((W_Model cI a (s_Model_thrown S (0 : Int32)))) H := jNone hP hk1
    refine lv_if_eq (tgt := 46) hx hb dX5_count_11 (by decide) (fun c3 => ?_) (fun c3 => ?_)
    · have hF := F_pos c3 hF
      refine lv_aload_n hx hb dX5_count_46 rfl (lv_at hl 0 rfl) ?_
      refine lv_iconst (v := (1 : Int32)) hx hb dX5_count_47 (by decide) ?_
      obtain ⟨r4, u5, h6, hF⟩ := ob2_some hF
      have hPc : va_P (dC, dI) vwCl ((W_Model cI a (s_Model_thrown S (0 : Int32)))) H := hP
      have hDc : va_D A ((W_Model cI a (s_Model_thrown S (0 : Int32)))) := hD
      have hFc := jFreeW (ws := (W_Model cI a (s_Model_thrown S (0 : Int32)))) hD hS hA
      refine va_calli (va_runV (As := [.int (1 : Int32)]) (rest := []) ⟨hx, hb, hml, hown, hts⟩ (c_X5_fails l dC dI cI a H.size _ _ _ _ h6) (cwV 1 hts gX5_count_X5_fails rfl rfl rfl (by decide +kernel) ⟨Nat.le_of_ble_eq_true rfl, Nat.le_of_ble_eq_true rfl⟩) (jPreV hK hPc hDc hN (ci := 5) rfl rfl) rfl rfl hl.1 rfl (lv_room (Nat.le_of_ble_eq_true rfl)) dX5_count_48 ⟨Nat.le_of_ble_eq_true rfl, Nat.le_of_ble_eq_true rfl⟩) hS (fun q _ h => hFc q h) hFc (fun r' u' t H locs ht hvm hw hB hz1 hk1 hS => ?_)
      obtain ⟨e1, e2⟩ := hw
      subst e1
      subst e2
      obtain ⟨hP1, -, hD1⟩ := hB
      rw [ht] at hP1
      have hP : va_P (dC, dI) vwCl ((W_Model cI a u5)) H := hP1
      have hD : va_D A ((W_Model cI a u5)) := hD1.weaken (fun _ _ _ h => hFc _ h)
      have e50 := Option.some.inj hF
      obtain ⟨e60, e51⟩ := Prod.mk.inj e50
      subst e60
      subst e51
      exact W.iret (v := r4) hx hb hr (fun t ht hW => ⟨⟨r4, u5, rfl, ⟨rfl, rfl⟩, by rw [ht]; exact hP, va_K.moved hW.alike hK, hD⟩, hS.F ht⟩) hS.2.2 dX5_count_51
    · have hF := F_neg c3 hF
      refine lv_iload_n hx hb dX5_count_14 rfl (lv_at hl 1 rfl) ?_
      refine lv_if_ne (tgt := 27) hx hb dX5_count_15 (by decide) (fun c7 => ?_) (fun c7 => ?_)
      · have hF := F_neg c7 hF
        refine lv_iload_n hx hb dX5_count_27 rfl (lv_at hl 1 rfl) ?_
        refine lv_iconst (v := (1 : Int32)) hx hb dX5_count_28 (by decide) ?_
        refine lv_icmp_ne (tgt := 39) hx hb dX5_count_29 (by decide) (fun c8 => ?_) (fun c8 => ?_)
        · have hF := F_neg c8 hF
          refine lv_aload_n hx hb dX5_count_39 rfl (lv_at hl 0 rfl) ?_
          refine wg_kept (v := .int (g_Model_kept S)) hx hb hts hinX5 hown hK hP rfl (hts (Cond.fieldLink RX5 61 "LearnedShapesModel" "kept" "I") (List.mem_of_getElem? (i := 4) rfl)) dX5_count_40 ?_
          refine lv_goto (tgt := 51) hx hb dX5_count_43 (by decide) ?_
          have e50 := Option.some.inj hF
          obtain ⟨e60, e51⟩ := Prod.mk.inj e50
          subst e60
          subst e51
          exact W.iret (v := (g_Model_kept S)) hx hb hr (fun t ht hW => ⟨⟨(g_Model_kept S), (s_Model_thrown S (0 : Int32)), rfl, ⟨rfl, rfl⟩, by rw [ht]; exact hP, va_K.moved hW.alike hK, hD⟩, hS.F ht⟩) hS.2.2 dX5_count_51
        · have hF := F_pos c8 hF
          refine lv_aload_n hx hb dX5_count_32 rfl (lv_at hl 0 rfl) ?_
          refine wg_typed (v := .int (g_Model_typed S)) hx hb hts hinX5 hown hK hP rfl (hts (Cond.fieldLink RX5 71 "LearnedShapesModel" "typed" "I") (List.mem_of_getElem? (i := 3) rfl)) dX5_count_33 ?_
          refine lv_goto (tgt := 51) hx hb dX5_count_36 (by decide) ?_
          have e50 := Option.some.inj hF
          obtain ⟨e60, e51⟩ := Prod.mk.inj e50
          subst e60
          subst e51
          exact W.iret (v := (g_Model_typed S)) hx hb hr (fun t ht hW => ⟨⟨(g_Model_typed S), (s_Model_thrown S (0 : Int32)), rfl, ⟨rfl, rfl⟩, by rw [ht]; exact hP, va_K.moved hW.alike hK, hD⟩, hS.F ht⟩) hS.2.2 dX5_count_51
      · have hF := F_pos c7 hF
        refine lv_aload_n hx hb dX5_count_18 rfl (lv_at hl 0 rfl) ?_
        refine wg_now (v := .ref (a 1)) hx hb hts hinX5 hown hK hP rfl (hts (Cond.fieldLink RX5 7 "LearnedShapesModel" "now" "[I") (List.mem_of_getElem? (i := 2) rfl)) dX5_count_19 ?_
        refine lv_iconst (v := (0 : Int32)) hx hb dX5_count_22 (by decide) ?_
        obtain ⟨g9, hF⟩ := og_some hF
        refine wl_now (f := (g_Model_now S)) hx hb hK hP rfl (inb_in g9) dX5_count_23 ?_
        refine lv_goto (tgt := 51) hx hb dX5_count_24 (by decide) ?_
        have e50 := Option.some.inj hF
        obtain ⟨e60, e51⟩ := Prod.mk.inj e50
        subst e60
        subst e51
        exact W.iret (v := ((g_Model_now S) (0 : Int32).toNatClampNeg)) hx hb hr (fun t ht hW => ⟨⟨((g_Model_now S) (0 : Int32).toNatClampNeg), (s_Model_thrown S (0 : Int32)), rfl, ⟨rfl, rfl⟩, by rw [ht]; exact hP, va_K.moved hW.alike hK, hD⟩, hS.F ht⟩) hS.2.2 dX5_count_51
  exact KE _ _ hP hD hS
set_option maxHeartbeats 4000000 in
set_option maxRecDepth 100000 in
theorem c_X5_misfits (l : Launch) (dC : Nat → ClassId) (dI : Nat → Nat → Nat) (cI : ClassId) (a : Nat → Nat) (sz : Nat) (S : S_Model) (v1 : Int32) (v2 : Int32) (v3 : Int32) (Y : S_Model) (hF : F_X5_misfits S v1 v2 v3 = some Y) : Met l yX5_misfits wsX5_misfits ({ frames := 0, cells := 0, slots := 0, locals := 0 } : Room) (va_Pc [.ref (a 0), .int v1, .int v2, .int v3] (jPre (dC, dI) [(cI, .int)] sz ((W_Model cI a S)))) (va_Qv (fun u : S_Model => Y = u) (fun u : S_Model => jB (dC, dI) [(cI, .int)] (va_A ((W_Model cI a S)) sz) ((W_Model cI a u))) (va_A ((W_Model cI a S)) sz)) 0 0 (va_A ((W_Model cI a S)) sz) := by
  refine Met.ofW (cc := cX5_misfits) (maxL := 4) (ret := none) (by decide) rfl ?_
  intro p e s m args below meth c s₁ B hml hv
  obtain ⟨rfl, hsz, hP, hK, hD0, hN⟩ := hv
  have hx := B.exec
  have hb := B.bytes
  have hr := B.returns
  have hts := atoms_spec (ws := wsX5_misfits) B.pre
  have hown : s.vm.findClass RX5 = some m.cls := findClass_of_methodNamed B.named
  have hlocks := B.notSynchronized
  have hinX5 : ∀ w ∈ u_ws RX5 TX5 26, w ∈ wsX5_misfits := by decide +kernel
  subst hsz
  have hD := hD0.self (sz := s.heap.size)
  generalize hAe : (va_A ((W_Model cI a S)) s.heap.size) = A at hD ⊢
  have hA : ∀ q : Nat, s.heap.size ≤ q → A q := fun q h => by rw [← hAe]; exact Or.inr h
  have hS : va_S A s.heap s.heap [] := va_S.rf
  have hl := lv_entry ([.ref (a 0), .int v1, .int v2, .int v3]) (n := 4) (Nat.le_of_ble_eq_true rfl)
  rw [lg_entry_eq]
  generalize (lg_sl ([.ref (a 0), .int v1, .int v2, .int v3]) ++ List.replicate (4 - (lg_sl ([.ref (a 0), .int v1, .int v2, .int v3])).length) Slot.unset).toArray = ls at hl ⊢
  have hl : lv_has ls 4 [(0, .ref (a 0)), (1, .int v1), (2, .int v2), (3, .int v3)] := hl
  have KE : ∀ (H : Heap) (locs : List Loc), va_P (dC, dI) vwCl ((W_Model cI a S)) H → va_D A ((W_Model cI a S)) → va_S A s.heap H locs → W p l e (headSpec wsX5_misfits ({ frames := 0, cells := 0, slots := 0, locals := 0 } : Room)).room s m ([.ref (a 0), .int v1, .int v2, .int v3] : List Value).toArray below meth c H locs 0 0 (MQ below (va_Qv (fun u : S_Model => Y = u) (fun u : S_Model => jB (dC, dI) [(cI, .int)] A ((W_Model cI a u))) A) ([.ref (a 0), .int v1, .int v2, .int v3] : List Value).toArray s 0 0 A) (F0 m 0 ls []) := by
    intro H locs hP hD hS
    unfold F_X5_misfits at hF
    refine lv_aload_n hx hb dX5_misfits_0 rfl (lv_at hl 0 rfl) ?_
    refine wg_misfit (v := .int (g_Model_misfit S)) hx hb hts hinX5 hown hK hP rfl (hts (Cond.fieldLink RX5 210 "LearnedShapesModel" "misfit" "I") (List.mem_of_getElem? (i := 1) rfl)) dX5_misfits_1 ?_
    refine lv_if_eq (tgt := 15) hx hb dX5_misfits_4 (by decide) (fun c1 => ?_) (fun c1 => ?_)
    · have hF := F_pos c1 hF
      refine lv_aload_n hx hb dX5_misfits_15 rfl (lv_at hl 0 rfl) ?_
      refine lv_iload_n hx hb dX5_misfits_16 rfl (lv_at hl 1 rfl) ?_
      refine wp_misfit (v := v1) hx hb hts hinX5 hown hK hP hD hS (hts (Cond.fieldLink RX5 210 "LearnedShapesModel" "misfit" "I") (List.mem_of_getElem? (i := 1) rfl)) (rfl) (rfl) dX5_misfits_17 (fun H locs hP hD hS => ?_)
      refine lv_aload_n hx hb dX5_misfits_20 rfl (lv_at hl 0 rfl) ?_
      refine lv_iload_n hx hb dX5_misfits_21 rfl (lv_at hl 2 rfl) ?_
      refine wp_misfitAt (v := v2) hx hb hts hinX5 hown hK hP hD hS (hts (Cond.fieldLink RX5 213 "LearnedShapesModel" "misfitAt" "I") (List.mem_of_getElem? (i := 2) rfl)) (rfl) (rfl) dX5_misfits_22 (fun H locs hP hD hS => ?_)
      refine lv_aload_n hx hb dX5_misfits_25 rfl (lv_at hl 0 rfl) ?_
      refine lv_iload_n hx hb dX5_misfits_26 rfl (lv_at hl 3 rfl) ?_
      refine wp_misfitNode (v := v3) hx hb hts hinX5 hown hK hP hD hS (hts (Cond.fieldLink RX5 216 "LearnedShapesModel" "misfitNode" "I") (List.mem_of_getElem? (i := 3) rfl)) (rfl) (rfl) dX5_misfits_27 (fun H locs hP hD hS => ?_)
      have e50 := Option.some.inj hF
      subst e50
      exact W.vret hx hb hr (fun t ht hW => ⟨⟨(s_Model_misfitNode (s_Model_misfitAt (s_Model_misfit S v1) v2) v3), rfl, rfl, by rw [ht]; exact hP, va_K.moved hW.alike hK, hD⟩, hS.F ht⟩) hS.2.2 dX5_misfits_30
    · have hF := F_neg c1 hF
      refine lv_iload_n hx hb dX5_misfits_7 rfl (lv_at hl 2 rfl) ?_
      refine lv_aload_n hx hb dX5_misfits_8 rfl (lv_at hl 0 rfl) ?_
      refine wg_misfitAt (v := .int (g_Model_misfitAt S)) hx hb hts hinX5 hown hK hP rfl (hts (Cond.fieldLink RX5 213 "LearnedShapesModel" "misfitAt" "I") (List.mem_of_getElem? (i := 2) rfl)) dX5_misfits_9 ?_
      refine lv_icmp_ge (tgt := 30) hx hb dX5_misfits_12 (by decide) (fun c2 => ?_) (fun c2 => ?_)
      · have hF := F_pos c2 hF
        have e50 := Option.some.inj hF
        subst e50
        exact W.vret hx hb hr (fun t ht hW => ⟨⟨S, rfl, rfl, by rw [ht]; exact hP, va_K.moved hW.alike hK, hD⟩, hS.F ht⟩) hS.2.2 dX5_misfits_30
      · have hF := F_neg c2 hF
        refine lv_aload_n hx hb dX5_misfits_15 rfl (lv_at hl 0 rfl) ?_
        refine lv_iload_n hx hb dX5_misfits_16 rfl (lv_at hl 1 rfl) ?_
        refine wp_misfit (v := v1) hx hb hts hinX5 hown hK hP hD hS (hts (Cond.fieldLink RX5 210 "LearnedShapesModel" "misfit" "I") (List.mem_of_getElem? (i := 1) rfl)) (rfl) (rfl) dX5_misfits_17 (fun H locs hP hD hS => ?_)
        refine lv_aload_n hx hb dX5_misfits_20 rfl (lv_at hl 0 rfl) ?_
        refine lv_iload_n hx hb dX5_misfits_21 rfl (lv_at hl 2 rfl) ?_
        refine wp_misfitAt (v := v2) hx hb hts hinX5 hown hK hP hD hS (hts (Cond.fieldLink RX5 213 "LearnedShapesModel" "misfitAt" "I") (List.mem_of_getElem? (i := 2) rfl)) (rfl) (rfl) dX5_misfits_22 (fun H locs hP hD hS => ?_)
        refine lv_aload_n hx hb dX5_misfits_25 rfl (lv_at hl 0 rfl) ?_
        refine lv_iload_n hx hb dX5_misfits_26 rfl (lv_at hl 3 rfl) ?_
        refine wp_misfitNode (v := v3) hx hb hts hinX5 hown hK hP hD hS (hts (Cond.fieldLink RX5 216 "LearnedShapesModel" "misfitNode" "I") (List.mem_of_getElem? (i := 3) rfl)) (rfl) (rfl) dX5_misfits_27 (fun H locs hP hD hS => ?_)
        have e50 := Option.some.inj hF
        subst e50
        exact W.vret hx hb hr (fun t ht hW => ⟨⟨(s_Model_misfitNode (s_Model_misfitAt (s_Model_misfit S v1) v2) v3), rfl, rfl, by rw [ht]; exact hP, va_K.moved hW.alike hK, hD⟩, hS.F ht⟩) hS.2.2 dX5_misfits_30
  exact KE _ _ hP hD hS
set_option maxHeartbeats 4000000 in
set_option maxRecDepth 100000 in
theorem c_X5_holds (l : Launch) (dC : Nat → ClassId) (dI : Nat → Nat → Nat) (cI : ClassId) (a : Nat → Nat) (sz : Nat) (S : S_Model) (v1 : Int32) (v2 : Int32) (rr : Int32) (Y : S_Model) (hF : F_X5_holds S v1 v2 = some (rr, Y)) : Met l yX5_holds wsX5_holds ({ frames := 2, cells := 0, slots := 0, locals := 47 } : Room) (va_Pc [.ref (a 0), .int v1, .int v2] (jPre (dC, dI) [(cI, .int)] sz ((W_Model cI a S)))) (va_Qi (fun (r' : Int32) (u : S_Model) => rr = r' ∧ Y = u) (fun u : S_Model => jB (dC, dI) [(cI, .int)] (va_A ((W_Model cI a S)) sz) ((W_Model cI a u))) (va_A ((W_Model cI a S)) sz)) 0 0 (va_A ((W_Model cI a S)) sz) := by
  refine Met.ofW (cc := cX5_holds) (maxL := 6) (ret := (some .int)) (by decide) rfl ?_
  intro p e s m args below meth c s₁ B hml hv
  obtain ⟨rfl, hsz, hP, hK, hD0, hN⟩ := hv
  have hx := B.exec
  have hb := B.bytes
  have hr := B.returns
  have hts := atoms_spec (ws := wsX5_holds) B.pre
  have hown : s.vm.findClass RX5 = some m.cls := findClass_of_methodNamed B.named
  have hlocks := B.notSynchronized
  have hinX5 : ∀ w ∈ u_ws RX5 TX5 26, w ∈ wsX5_holds := by decide +kernel
  subst hsz
  have hD := hD0.self (sz := s.heap.size)
  generalize hAe : (va_A ((W_Model cI a S)) s.heap.size) = A at hD ⊢
  have hA : ∀ q : Nat, s.heap.size ≤ q → A q := fun q h => by rw [← hAe]; exact Or.inr h
  have hS : va_S A s.heap s.heap [] := va_S.rf
  have hl := lv_entry ([.ref (a 0), .int v1, .int v2]) (n := 6) (Nat.le_of_ble_eq_true rfl)
  rw [lg_entry_eq]
  generalize (lg_sl ([.ref (a 0), .int v1, .int v2]) ++ List.replicate (6 - (lg_sl ([.ref (a 0), .int v1, .int v2])).length) Slot.unset).toArray = ls at hl ⊢
  have hl : lv_has ls 6 [(0, .ref (a 0)), (1, .int v1), (2, .int v2)] := hl
  have K157 : ∀ (S : S_Model) (x4 : Int32) (t0 : Bool) (H : Heap) (locs : List Loc), F_X5_holds_157 v1 v2 S x4 t0 = some (rr, Y) → va_P (dC, dI) vwCl ((W_Model cI a S)) H → va_D A ((W_Model cI a S)) → va_S A s.heap H locs → ∀ ls : Array Slot, lv_has ls 6 [(0, .ref (a 0)), (1, .int v1), (2, .int v2), (4, .int x4)] → W p l e (headSpec wsX5_holds ({ frames := 2, cells := 0, slots := 0, locals := 47 } : Room)).room s m ([.ref (a 0), .int v1, .int v2] : List Value).toArray below meth c H locs 0 0 (MQ below (va_Qi (fun (r' : Int32) (u : S_Model) => rr = r' ∧ Y = u) (fun u : S_Model => jB (dC, dI) [(cI, .int)] A ((W_Model cI a u))) A) ([.ref (a 0), .int v1, .int v2] : List Value).toArray s 0 0 A) (F0 m 157 ls [.int (b2i t0)]) := by
    intro S x4 t0 H locs hF hP hD hS ls hl
    unfold F_X5_holds_157 at hF
    refine lv_istore (lv' := [(5, .int (b2i t0)), (0, .ref (a 0)), (1, .int v1), (2, .int v2), (4, .int x4)]) hx hb dX5_holds_157 hl (by decide) rfl (fun ls hl => ?_)
    refine lv_iload hx hb dX5_holds_159 (lv_at hl 0 rfl) ?_
    refine lv_if_ne (tgt := 177) hx hb dX5_holds_161 (by decide) (fun c1 => ?_) (fun c1 => ?_)
    · have hF := F_neg c1 hF
      refine lv_iload hx hb dX5_holds_177 (lv_at hl 0 rfl) ?_
      refine lv_if_eq (tgt := 200) hx hb dX5_holds_179 (by decide) (fun c2 => ?_) (fun c2 => ?_)
      · have hF := F_pos c2 hF
        refine lv_iconst (v := (-1 : Int32)) hx hb dX5_holds_200 (by decide) ?_
        have e50 := Option.some.inj hF
        obtain ⟨e60, e51⟩ := Prod.mk.inj e50
        subst e60
        subst e51
        exact W.iret (v := (-1 : Int32)) hx hb hr (fun t ht hW => ⟨⟨(-1 : Int32), S, rfl, ⟨rfl, rfl⟩, by rw [ht]; exact hP, va_K.moved hW.alike hK, hD⟩, hS.F ht⟩) hS.2.2 dX5_holds_201
      · have hF := F_neg c2 hF
        refine lv_aload_n hx hb dX5_holds_182 rfl (lv_at hl 1 rfl) ?_
        refine lv_iload_n hx hb dX5_holds_183 rfl (lv_at hl 2 rfl) ?_
        refine lv_iload hx hb dX5_holds_184 (lv_at hl 4 rfl) ?_
        refine lv_iconst (v := (0 : Int32)) hx hb dX5_holds_186 (by decide) ?_
        obtain ⟨r3, h4, hF⟩ := ob1_some hF
        have hPc : va_P (dC, dI) vwCl ((W_Model cI a S)) H := hP
        have hDc : va_D A ((W_Model cI a S)) := hD
        have hFc := jFreeW (ws := (W_Model cI a S)) hD hS hA
        refine va_calli (va_runV (As := [.int v1, .int x4, .int (0 : Int32)]) (rest := []) ⟨hx, hb, hml, hown, hts⟩ (c_X5_of l dC dI cI a H.size _ _ _ _ _ h4) (cwV 3 hts gX5_holds_X5_of rfl rfl rfl (by decide +kernel) ⟨Nat.le_of_ble_eq_true rfl, Nat.le_of_ble_eq_true rfl⟩) (jPreV hK hPc hDc hN (ci := 5) rfl rfl) rfl rfl hl.1 rfl (lv_room (Nat.le_of_ble_eq_true rfl)) dX5_holds_187 ⟨Nat.le_of_ble_eq_true rfl, Nat.le_of_ble_eq_true rfl⟩) hS (fun q _ h => hFc q h) hFc (fun r' u' t H locs ht hvm hw hB hz1 hk1 hS => ?_)
        subst hw
        obtain ⟨hP1, -, hD1⟩ := hB
        rw [ht] at hP1
        have hP : va_P (dC, dI) vwCl ((W_Model cI a S)) H := hP1
        have hD : va_D A ((W_Model cI a S)) := hD1.weaken (fun _ _ _ h => hFc _ h)
        refine lv_bipush (v := (7 : Int32)) hx hb dX5_holds_190 (by decide) ?_
        refine lv_icmp_eq (tgt := 200) hx hb dX5_holds_192 (by decide) (fun c5 => ?_) (fun c5 => ?_)
        · have hF := F_pos c5 hF
          refine lv_iconst (v := (-1 : Int32)) hx hb dX5_holds_200 (by decide) ?_
          have e50 := Option.some.inj hF
          obtain ⟨e60, e51⟩ := Prod.mk.inj e50
          subst e60
          subst e51
          exact W.iret (v := (-1 : Int32)) hx hb hr (fun t ht hW => ⟨⟨(-1 : Int32), S, rfl, ⟨rfl, rfl⟩, by rw [ht]; exact hP, va_K.moved hW.alike hK, hD⟩, hS.F ht⟩) hS.2.2 dX5_holds_201
        · have hF := F_neg c5 hF
          refine lv_iload hx hb dX5_holds_195 (lv_at hl 4 rfl) ?_
          refine lv_goto (tgt := 201) hx hb dX5_holds_197 (by decide) ?_
          have e50 := Option.some.inj hF
          obtain ⟨e60, e51⟩ := Prod.mk.inj e50
          subst e60
          subst e51
          exact W.iret (v := x4) hx hb hr (fun t ht hW => ⟨⟨x4, S, rfl, ⟨rfl, rfl⟩, by rw [ht]; exact hP, va_K.moved hW.alike hK, hD⟩, hS.F ht⟩) hS.2.2 dX5_holds_201
    · have hF := F_pos c1 hF
      refine lv_aload_n hx hb dX5_holds_164 rfl (lv_at hl 1 rfl) ?_
      refine lv_iconst (v := (1 : Int32)) hx hb dX5_holds_165 (by decide) ?_
      refine lv_aload_n hx hb dX5_holds_166 rfl (lv_at hl 1 rfl) ?_
      refine wg_begins (v := .ref (a 7)) hx hb hts hinX5 hown hK hP rfl (hts (Cond.fieldLink RX5 28 "LearnedShapesModel" "begins" "[I") (List.mem_of_getElem? (i := 4) rfl)) dX5_holds_167 ?_
      refine lv_iload_n hx hb dX5_holds_170 rfl (lv_at hl 3 rfl) ?_
      obtain ⟨g6, hF⟩ := og_some hF
      refine wl_begins (f := (g_Model_begins S)) hx hb hK hP rfl (inb_in g6) dX5_holds_171 ?_
      refine lv_iload hx hb dX5_holds_172 (lv_at hl 4 rfl) ?_
      obtain ⟨u7, h8, hF⟩ := ob1_some hF
      have hPc : va_P (dC, dI) vwCl ((W_Model cI a S)) H := hP
      have hDc : va_D A ((W_Model cI a S)) := hD
      have hFc := jFreeW (ws := (W_Model cI a S)) hD hS hA
      refine va_callv (va_runV (As := [.int (1 : Int32), .int ((g_Model_begins S) v2.toNatClampNeg), .int x4]) (rest := []) ⟨hx, hb, hml, hown, hts⟩ (c_X5_misfits l dC dI cI a H.size _ _ _ _ _ h8) (cwV 3 hts gX5_holds_X5_misfits rfl rfl rfl (by decide +kernel) ⟨Nat.le_of_ble_eq_true rfl, Nat.le_of_ble_eq_true rfl⟩) (jPreV hK hPc hDc hN (ci := 5) rfl rfl) rfl rfl hl.1 rfl (lv_room (Nat.le_of_ble_eq_true rfl)) dX5_holds_174 ⟨Nat.le_of_ble_eq_true rfl, Nat.le_of_ble_eq_true rfl⟩) hS (fun q _ h => hFc q h) hFc (fun u' t H locs ht hvm hw hB hz1 hk1 hS => ?_)
      subst hw
      obtain ⟨hP1, -, hD1⟩ := hB
      rw [ht] at hP1
      have hP : va_P (dC, dI) vwCl ((W_Model cI a u7)) H := hP1
      have hD : va_D A ((W_Model cI a u7)) := hD1.weaken (fun _ _ _ h => hFc _ h)
      refine lv_iload hx hb dX5_holds_177 (lv_at hl 0 rfl) ?_
      refine lv_if_eq (tgt := 200) hx hb dX5_holds_179 (by decide) (fun c9 => ?_) (fun c9 => ?_)
      · have hF := F_pos c9 hF
        refine lv_iconst (v := (-1 : Int32)) hx hb dX5_holds_200 (by decide) ?_
        have e50 := Option.some.inj hF
        obtain ⟨e60, e51⟩ := Prod.mk.inj e50
        subst e60
        subst e51
        exact W.iret (v := (-1 : Int32)) hx hb hr (fun t ht hW => ⟨⟨(-1 : Int32), u7, rfl, ⟨rfl, rfl⟩, by rw [ht]; exact hP, va_K.moved hW.alike hK, hD⟩, hS.F ht⟩) hS.2.2 dX5_holds_201
      · have hF := F_neg c9 hF
        refine lv_aload_n hx hb dX5_holds_182 rfl (lv_at hl 1 rfl) ?_
        refine lv_iload_n hx hb dX5_holds_183 rfl (lv_at hl 2 rfl) ?_
        refine lv_iload hx hb dX5_holds_184 (lv_at hl 4 rfl) ?_
        refine lv_iconst (v := (0 : Int32)) hx hb dX5_holds_186 (by decide) ?_
        obtain ⟨r10, h11, hF⟩ := ob1_some hF
        have hPc : va_P (dC, dI) vwCl ((W_Model cI a u7)) H := hP
        have hDc : va_D A ((W_Model cI a u7)) := hD
        have hFc := jFreeW (ws := (W_Model cI a u7)) hD hS hA
        refine va_calli (va_runV (As := [.int v1, .int x4, .int (0 : Int32)]) (rest := []) ⟨hx, hb, hml, hown, hts⟩ (c_X5_of l dC dI cI a H.size _ _ _ _ _ h11) (cwV 3 hts gX5_holds_X5_of rfl rfl rfl (by decide +kernel) ⟨Nat.le_of_ble_eq_true rfl, Nat.le_of_ble_eq_true rfl⟩) (jPreV hK hPc hDc hN (ci := 5) rfl rfl) rfl rfl hl.1 rfl (lv_room (Nat.le_of_ble_eq_true rfl)) dX5_holds_187 ⟨Nat.le_of_ble_eq_true rfl, Nat.le_of_ble_eq_true rfl⟩) hS (fun q _ h => hFc q h) hFc (fun r' u' t H locs ht hvm hw hB hz1 hk1 hS => ?_)
        subst hw
        obtain ⟨hP1, -, hD1⟩ := hB
        rw [ht] at hP1
        have hP : va_P (dC, dI) vwCl ((W_Model cI a u7)) H := hP1
        have hD : va_D A ((W_Model cI a u7)) := hD1.weaken (fun _ _ _ h => hFc _ h)
        refine lv_bipush (v := (7 : Int32)) hx hb dX5_holds_190 (by decide) ?_
        refine lv_icmp_eq (tgt := 200) hx hb dX5_holds_192 (by decide) (fun c12 => ?_) (fun c12 => ?_)
        · have hF := F_pos c12 hF
          refine lv_iconst (v := (-1 : Int32)) hx hb dX5_holds_200 (by decide) ?_
          have e50 := Option.some.inj hF
          obtain ⟨e60, e51⟩ := Prod.mk.inj e50
          subst e60
          subst e51
          exact W.iret (v := (-1 : Int32)) hx hb hr (fun t ht hW => ⟨⟨(-1 : Int32), u7, rfl, ⟨rfl, rfl⟩, by rw [ht]; exact hP, va_K.moved hW.alike hK, hD⟩, hS.F ht⟩) hS.2.2 dX5_holds_201
        · have hF := F_neg c12 hF
          refine lv_iload hx hb dX5_holds_195 (lv_at hl 4 rfl) ?_
          refine lv_goto (tgt := 201) hx hb dX5_holds_197 (by decide) ?_
          have e50 := Option.some.inj hF
          obtain ⟨e60, e51⟩ := Prod.mk.inj e50
          subst e60
          subst e51
          exact W.iret (v := x4) hx hb hr (fun t ht hW => ⟨⟨x4, u7, rfl, ⟨rfl, rfl⟩, by rw [ht]; exact hP, va_K.moved hW.alike hK, hD⟩, hS.F ht⟩) hS.2.2 dX5_holds_201
  have K51 : ∀ (S : S_Model) (x3 : Int32) (t0 : Int32) (H : Heap) (locs : List Loc), F_X5_holds_51 v1 v2 S x3 t0 = some (rr, Y) → va_P (dC, dI) vwCl ((W_Model cI a S)) H → va_D A ((W_Model cI a S)) → va_S A s.heap H locs → ∀ ls : Array Slot, lv_has ls 6 [(0, .ref (a 0)), (1, .int v1), (2, .int v2), (3, .int x3)] → W p l e (headSpec wsX5_holds ({ frames := 2, cells := 0, slots := 0, locals := 47 } : Room)).room s m ([.ref (a 0), .int v1, .int v2] : List Value).toArray below meth c H locs 0 0 (MQ below (va_Qi (fun (r' : Int32) (u : S_Model) => rr = r' ∧ Y = u) (fun u : S_Model => jB (dC, dI) [(cI, .int)] A ((W_Model cI a u))) A) ([.ref (a 0), .int v1, .int v2] : List Value).toArray s 0 0 A) (F0 m 51 ls [.int t0]) := by
    intro S x3 t0 H locs hF hP hD hS ls hl
    unfold F_X5_holds_51 at hF
    refine lv_istore (lv' := [(4, .int t0), (0, .ref (a 0)), (1, .int v1), (2, .int v2), (3, .int x3)]) hx hb dX5_holds_51 hl (by decide) rfl (fun ls hl => ?_)
    refine lv_iload hx hb dX5_holds_53 (lv_at hl 0 rfl) ?_
    refine lv_iconst (v := (-1 : Int32)) hx hb dX5_holds_55 (by decide) ?_
    refine lv_icmp_ne (tgt := 95) hx hb dX5_holds_56 (by decide) (fun c13 => ?_) (fun c13 => ?_)
    · have hF := F_neg c13 hF
      refine lv_aload_n hx hb dX5_holds_95 rfl (lv_at hl 1 rfl) ?_
      refine wg_kinds (v := .ref (a 4)) hx hb hts hinX5 hown hK hP rfl (hts (Cond.fieldLink RX5 19 "LearnedShapesModel" "kinds" "[I") (List.mem_of_getElem? (i := 5) rfl)) dX5_holds_96 ?_
      refine lv_iload_n hx hb dX5_holds_99 rfl (lv_at hl 3 rfl) ?_
      obtain ⟨g14, hF⟩ := og_some hF
      refine wl_kinds (f := (g_Model_kinds S)) hx hb hK hP rfl (inb_in g14) dX5_holds_100 ?_
      refine lv_if_ne (tgt := 124) hx hb dX5_holds_101 (by decide) (fun c15 => ?_) (fun c15 => ?_)
      · have hF := F_neg c15 hF
        refine lv_aload_n hx hb dX5_holds_124 rfl (lv_at hl 1 rfl) ?_
        refine lv_iload_n hx hb dX5_holds_125 rfl (lv_at hl 2 rfl) ?_
        refine lv_iload hx hb dX5_holds_126 (lv_at hl 0 rfl) ?_
        refine lv_iconst (v := (0 : Int32)) hx hb dX5_holds_128 (by decide) ?_
        obtain ⟨r16, h17, hF⟩ := ob1_some hF
        have hPc : va_P (dC, dI) vwCl ((W_Model cI a S)) H := hP
        have hDc : va_D A ((W_Model cI a S)) := hD
        have hFc := jFreeW (ws := (W_Model cI a S)) hD hS hA
        refine va_calli (va_runV (As := [.int v1, .int t0, .int (0 : Int32)]) (rest := []) ⟨hx, hb, hml, hown, hts⟩ (c_X5_of l dC dI cI a H.size _ _ _ _ _ h17) (cwV 3 hts gX5_holds_X5_of rfl rfl rfl (by decide +kernel) ⟨Nat.le_of_ble_eq_true rfl, Nat.le_of_ble_eq_true rfl⟩) (jPreV hK hPc hDc hN (ci := 5) rfl rfl) rfl rfl hl.1 rfl (lv_room (Nat.le_of_ble_eq_true rfl)) dX5_holds_129 ⟨Nat.le_of_ble_eq_true rfl, Nat.le_of_ble_eq_true rfl⟩) hS (fun q _ h => hFc q h) hFc (fun r' u' t H locs ht hvm hw hB hz1 hk1 hS => ?_)
        subst hw
        obtain ⟨hP1, -, hD1⟩ := hB
        rw [ht] at hP1
        have hP : va_P (dC, dI) vwCl ((W_Model cI a S)) H := hP1
        have hD : va_D A ((W_Model cI a S)) := hD1.weaken (fun _ _ _ h => hFc _ h)
        refine lv_aload_n hx hb dX5_holds_132 rfl (lv_at hl 1 rfl) ?_
        refine wg_kinds (v := .ref (a 4)) hx hb hts hinX5 hown hK hP rfl (hts (Cond.fieldLink RX5 19 "LearnedShapesModel" "kinds" "[I") (List.mem_of_getElem? (i := 5) rfl)) dX5_holds_133 ?_
        refine lv_iload_n hx hb dX5_holds_136 rfl (lv_at hl 3 rfl) ?_
        obtain ⟨g18, hF⟩ := og_some hF
        refine wl_kinds (f := (g_Model_kinds S)) hx hb hK hP rfl (inb_in g18) dX5_holds_137 ?_
        obtain ⟨r19, h20, hF⟩ := ob1_some hF
        have hPc : va_P (dC, dI) vwCl ([] : va_W) H := fun k q h => by simp at h
        have hDc : va_D A ([] : va_W) := ⟨fun i j p q h => by simp at h, fun k q h => by simp at h⟩
        have hFc := jFreeW (ws := []) hDc hS hA
        refine va_calli (va_runS (As := [.int r16, .int ((g_Model_kinds S) v2.toNatClampNeg)]) (rest := []) ⟨hx, hb, hml, hown, hts⟩ (c_X5_joined l dC dI cI  H.size _ _ _ h20) (va_cwS 2 hts gX5_holds_X5_joined rfl rfl rfl (by decide +kernel) ⟨Nat.le_of_ble_eq_true rfl, Nat.le_of_ble_eq_true rfl⟩) (jPreS hK hPc hDc hN) rfl rfl hl.1 rfl (lv_room (Nat.le_of_ble_eq_true rfl)) dX5_holds_138 ⟨Nat.le_of_ble_eq_true rfl, Nat.le_of_ble_eq_true rfl⟩) hS (fun q _ h => hFc q h) hFc (fun r' u' t H locs ht hvm hw hB hz1 hk1 hS => ?_)
        subst hw
        obtain ⟨hP1, -, hD1⟩ := hB
        rw [ht] at hP1
        have hP : va_P (dC, dI) vwCl ((W_Model cI a S)) H := jNone hP hk1
        refine lv_aload_n hx hb dX5_holds_141 rfl (lv_at hl 1 rfl) ?_
        refine lv_iload_n hx hb dX5_holds_142 rfl (lv_at hl 2 rfl) ?_
        refine lv_iload hx hb dX5_holds_143 (lv_at hl 0 rfl) ?_
        refine lv_iconst (v := (0 : Int32)) hx hb dX5_holds_145 (by decide) ?_
        obtain ⟨r21, h22, hF⟩ := ob1_some hF
        have hPc : va_P (dC, dI) vwCl ((W_Model cI a S)) H := hP
        have hDc : va_D A ((W_Model cI a S)) := hD
        have hFc := jFreeW (ws := (W_Model cI a S)) hD hS hA
        refine va_calli (va_runV (As := [.int v1, .int t0, .int (0 : Int32)]) (rest := [.int r19]) ⟨hx, hb, hml, hown, hts⟩ (c_X5_of l dC dI cI a H.size _ _ _ _ _ h22) (cwV 3 hts gX5_holds_X5_of rfl rfl rfl (by decide +kernel) ⟨Nat.le_of_ble_eq_true rfl, Nat.le_of_ble_eq_true rfl⟩) (jPreV hK hPc hDc hN (ci := 5) rfl rfl) rfl rfl hl.1 rfl (lv_room (Nat.le_of_ble_eq_true rfl)) dX5_holds_146 ⟨Nat.le_of_ble_eq_true rfl, Nat.le_of_ble_eq_true rfl⟩) hS (fun q _ h => hFc q h) hFc (fun r' u' t H locs ht hvm hw hB hz1 hk1 hS => ?_)
        subst hw
        obtain ⟨hP1, -, hD1⟩ := hB
        rw [ht] at hP1
        have hP : va_P (dC, dI) vwCl ((W_Model cI a S)) H := hP1
        have hD : va_D A ((W_Model cI a S)) := hD1.weaken (fun _ _ _ h => hFc _ h)
        refine lv_icmp_ne (tgt := 156) hx hb dX5_holds_149 (by decide) (fun c23 => ?_) (fun c23 => ?_)
        · have hF := F_neg c23 hF
          refine lv_iconst (v := (0 : Int32)) hx hb dX5_holds_156 (by decide) ?_
          exact K157 _ _ _ _ _ hF hP hD hS _ (lv_sub hl [1, 2, 3, 0] rfl)
        · have hF := F_pos c23 hF
          refine lv_iconst (v := (1 : Int32)) hx hb dX5_holds_152 (by decide) ?_
          refine lv_goto (tgt := 157) hx hb dX5_holds_153 (by decide) ?_
          exact K157 _ _ _ _ _ hF hP hD hS _ (lv_sub hl [1, 2, 3, 0] rfl)
      · have hF := F_pos c15 hF
        refine lv_aload_n hx hb dX5_holds_104 rfl (lv_at hl 1 rfl) ?_
        refine lv_iload_n hx hb dX5_holds_105 rfl (lv_at hl 2 rfl) ?_
        refine lv_iload hx hb dX5_holds_106 (lv_at hl 0 rfl) ?_
        refine lv_iconst (v := (4 : Int32)) hx hb dX5_holds_108 (by decide) ?_
        obtain ⟨r24, h25, hF⟩ := ob1_some hF
        have hPc : va_P (dC, dI) vwCl ((W_Model cI a S)) H := hP
        have hDc : va_D A ((W_Model cI a S)) := hD
        have hFc := jFreeW (ws := (W_Model cI a S)) hD hS hA
        refine va_calli (va_runV (As := [.int v1, .int t0, .int (4 : Int32)]) (rest := []) ⟨hx, hb, hml, hown, hts⟩ (c_X5_of l dC dI cI a H.size _ _ _ _ _ h25) (cwV 3 hts gX5_holds_X5_of rfl rfl rfl (by decide +kernel) ⟨Nat.le_of_ble_eq_true rfl, Nat.le_of_ble_eq_true rfl⟩) (jPreV hK hPc hDc hN (ci := 5) rfl rfl) rfl rfl hl.1 rfl (lv_room (Nat.le_of_ble_eq_true rfl)) dX5_holds_109 ⟨Nat.le_of_ble_eq_true rfl, Nat.le_of_ble_eq_true rfl⟩) hS (fun q _ h => hFc q h) hFc (fun r' u' t H locs ht hvm hw hB hz1 hk1 hS => ?_)
        subst hw
        obtain ⟨hP1, -, hD1⟩ := hB
        rw [ht] at hP1
        have hP : va_P (dC, dI) vwCl ((W_Model cI a S)) H := hP1
        have hD : va_D A ((W_Model cI a S)) := hD1.weaken (fun _ _ _ h => hFc _ h)
        refine lv_iconst (v := (1 : Int32)) hx hb dX5_holds_112 (by decide) ?_
        refine lv_icmp_ne (tgt := 120) hx hb dX5_holds_113 (by decide) (fun c26 => ?_) (fun c26 => ?_)
        · have hF := F_neg c26 hF
          refine lv_iconst (v := (0 : Int32)) hx hb dX5_holds_120 (by decide) ?_
          refine lv_goto (tgt := 157) hx hb dX5_holds_121 (by decide) ?_
          exact K157 _ _ _ _ _ hF hP hD hS _ (lv_sub hl [1, 2, 3, 0] rfl)
        · have hF := F_pos c26 hF
          refine lv_iconst (v := (1 : Int32)) hx hb dX5_holds_116 (by decide) ?_
          refine lv_goto (tgt := 157) hx hb dX5_holds_117 (by decide) ?_
          exact K157 _ _ _ _ _ hF hP hD hS _ (lv_sub hl [1, 2, 3, 0] rfl)
    · have hF := F_pos c13 hF
      refine lv_aload_n hx hb dX5_holds_59 rfl (lv_at hl 1 rfl) ?_
      refine lv_iconst (v := (2 : Int32)) hx hb dX5_holds_60 (by decide) ?_
      refine lv_aload_n hx hb dX5_holds_61 rfl (lv_at hl 1 rfl) ?_
      refine wg_letters (v := .ref (a 6)) hx hb hts hinX5 hown hK hP rfl (hts (Cond.fieldLink RX5 25 "LearnedShapesModel" "letters" "[I") (List.mem_of_getElem? (i := 3) rfl)) dX5_holds_62 ?_
      refine lv_iload_n hx hb dX5_holds_65 rfl (lv_at hl 3 rfl) ?_
      obtain ⟨g27, hF⟩ := og_some hF
      refine wl_letters (f := (g_Model_letters S)) hx hb hK hP rfl (inb_in g27) dX5_holds_66 ?_
      refine lv_bipush (v := (8 : Int32)) hx hb dX5_holds_67 (by decide) ?_
      refine lv_icmp_ne (tgt := 81) hx hb dX5_holds_69 (by decide) (fun c28 => ?_) (fun c28 => ?_)
      · have hF := F_neg c28 hF
        refine lv_aload_n hx hb dX5_holds_81 rfl (lv_at hl 1 rfl) ?_
        refine wg_begins (v := .ref (a 7)) hx hb hts hinX5 hown hK hP rfl (hts (Cond.fieldLink RX5 28 "LearnedShapesModel" "begins" "[I") (List.mem_of_getElem? (i := 4) rfl)) dX5_holds_82 ?_
        refine lv_iload_n hx hb dX5_holds_85 rfl (lv_at hl 3 rfl) ?_
        obtain ⟨g29, hF⟩ := og_some hF
        refine wl_begins (f := (g_Model_begins S)) hx hb hK hP rfl (inb_in g29) dX5_holds_86 ?_
        refine lv_iconst (v := (1 : Int32)) hx hb dX5_holds_87 (by decide) ?_
        refine lv_isub hx hb dX5_holds_88 ?_
        refine lv_iload_n hx hb dX5_holds_89 rfl (lv_at hl 4 rfl) ?_
        obtain ⟨u30, h31, hF⟩ := ob1_some hF
        have hPc : va_P (dC, dI) vwCl ((W_Model cI a S)) H := hP
        have hDc : va_D A ((W_Model cI a S)) := hD
        have hFc := jFreeW (ws := (W_Model cI a S)) hD hS hA
        refine va_callv (va_runV (As := [.int (2 : Int32), .int (((g_Model_begins S) v2.toNatClampNeg) - (1 : Int32)), .int x3]) (rest := []) ⟨hx, hb, hml, hown, hts⟩ (c_X5_misfits l dC dI cI a H.size _ _ _ _ _ h31) (cwV 3 hts gX5_holds_X5_misfits rfl rfl rfl (by decide +kernel) ⟨Nat.le_of_ble_eq_true rfl, Nat.le_of_ble_eq_true rfl⟩) (jPreV hK hPc hDc hN (ci := 5) rfl rfl) rfl rfl hl.1 rfl (lv_room (Nat.le_of_ble_eq_true rfl)) dX5_holds_90 ⟨Nat.le_of_ble_eq_true rfl, Nat.le_of_ble_eq_true rfl⟩) hS (fun q _ h => hFc q h) hFc (fun u' t H locs ht hvm hw hB hz1 hk1 hS => ?_)
        subst hw
        obtain ⟨hP1, -, hD1⟩ := hB
        rw [ht] at hP1
        have hP : va_P (dC, dI) vwCl ((W_Model cI a u30)) H := hP1
        have hD : va_D A ((W_Model cI a u30)) := hD1.weaken (fun _ _ _ h => hFc _ h)
        refine lv_iconst (v := (-1 : Int32)) hx hb dX5_holds_93 (by decide) ?_
        have e50 := Option.some.inj hF
        obtain ⟨e60, e51⟩ := Prod.mk.inj e50
        subst e60
        subst e51
        exact W.iret (v := (-1 : Int32)) hx hb hr (fun t ht hW => ⟨⟨(-1 : Int32), u30, rfl, ⟨rfl, rfl⟩, by rw [ht]; exact hP, va_K.moved hW.alike hK, hD⟩, hS.F ht⟩) hS.2.2 dX5_holds_94
      · have hF := F_pos c28 hF
        refine lv_aload_n hx hb dX5_holds_72 rfl (lv_at hl 1 rfl) ?_
        refine wg_begins (v := .ref (a 7)) hx hb hts hinX5 hown hK hP rfl (hts (Cond.fieldLink RX5 28 "LearnedShapesModel" "begins" "[I") (List.mem_of_getElem? (i := 4) rfl)) dX5_holds_73 ?_
        refine lv_iload_n hx hb dX5_holds_76 rfl (lv_at hl 3 rfl) ?_
        obtain ⟨g32, hF⟩ := og_some hF
        refine wl_begins (f := (g_Model_begins S)) hx hb hK hP rfl (inb_in g32) dX5_holds_77 ?_
        refine lv_goto (tgt := 89) hx hb dX5_holds_78 (by decide) ?_
        refine lv_iload_n hx hb dX5_holds_89 rfl (lv_at hl 4 rfl) ?_
        obtain ⟨u33, h34, hF⟩ := ob1_some hF
        have hPc : va_P (dC, dI) vwCl ((W_Model cI a S)) H := hP
        have hDc : va_D A ((W_Model cI a S)) := hD
        have hFc := jFreeW (ws := (W_Model cI a S)) hD hS hA
        refine va_callv (va_runV (As := [.int (2 : Int32), .int ((g_Model_begins S) v2.toNatClampNeg), .int x3]) (rest := []) ⟨hx, hb, hml, hown, hts⟩ (c_X5_misfits l dC dI cI a H.size _ _ _ _ _ h34) (cwV 3 hts gX5_holds_X5_misfits rfl rfl rfl (by decide +kernel) ⟨Nat.le_of_ble_eq_true rfl, Nat.le_of_ble_eq_true rfl⟩) (jPreV hK hPc hDc hN (ci := 5) rfl rfl) rfl rfl hl.1 rfl (lv_room (Nat.le_of_ble_eq_true rfl)) dX5_holds_90 ⟨Nat.le_of_ble_eq_true rfl, Nat.le_of_ble_eq_true rfl⟩) hS (fun q _ h => hFc q h) hFc (fun u' t H locs ht hvm hw hB hz1 hk1 hS => ?_)
        subst hw
        obtain ⟨hP1, -, hD1⟩ := hB
        rw [ht] at hP1
        have hP : va_P (dC, dI) vwCl ((W_Model cI a u33)) H := hP1
        have hD : va_D A ((W_Model cI a u33)) := hD1.weaken (fun _ _ _ h => hFc _ h)
        refine lv_iconst (v := (-1 : Int32)) hx hb dX5_holds_93 (by decide) ?_
        have e50 := Option.some.inj hF
        obtain ⟨e60, e51⟩ := Prod.mk.inj e50
        subst e60
        subst e51
        exact W.iret (v := (-1 : Int32)) hx hb hr (fun t ht hW => ⟨⟨(-1 : Int32), u33, rfl, ⟨rfl, rfl⟩, by rw [ht]; exact hP, va_K.moved hW.alike hK, hD⟩, hS.F ht⟩) hS.2.2 dX5_holds_94
  have K19 : ∀ (S : S_Model) (t0 : Int32) (H : Heap) (locs : List Loc), F_X5_holds_19 v1 v2 S t0 = some (rr, Y) → va_P (dC, dI) vwCl ((W_Model cI a S)) H → va_D A ((W_Model cI a S)) → va_S A s.heap H locs → ∀ ls : Array Slot, lv_has ls 6 [(0, .ref (a 0)), (1, .int v1), (2, .int v2)] → W p l e (headSpec wsX5_holds ({ frames := 2, cells := 0, slots := 0, locals := 47 } : Room)).room s m ([.ref (a 0), .int v1, .int v2] : List Value).toArray below meth c H locs 0 0 (MQ below (va_Qi (fun (r' : Int32) (u : S_Model) => rr = r' ∧ Y = u) (fun u : S_Model => jB (dC, dI) [(cI, .int)] A ((W_Model cI a u))) A) ([.ref (a 0), .int v1, .int v2] : List Value).toArray s 0 0 A) (F0 m 19 ls [.int t0]) := by
    intro S t0 H locs hF hP hD hS ls hl
    unfold F_X5_holds_19 at hF
    refine lv_istore_n (lv' := [(3, .int t0), (0, .ref (a 0)), (1, .int v1), (2, .int v2)]) hx hb dX5_holds_19 rfl hl (by decide) rfl (fun ls hl => ?_)
    refine lv_iload_n hx hb dX5_holds_20 rfl (lv_at hl 3 rfl) ?_
    refine lv_if_le (tgt := 31) hx hb dX5_holds_21 (by decide) (fun c35 => ?_) (fun c35 => ?_)
    · have hF := F_pos c35 hF
      refine lv_iload_n hx hb dX5_holds_31 rfl (lv_at hl 3 rfl) ?_
      refine lv_if_ne (tgt := 39) hx hb dX5_holds_32 (by decide) (fun c36 => ?_) (fun c36 => ?_)
      · have hF := F_neg c36 hF
        refine lv_aload_n hx hb dX5_holds_39 rfl (lv_at hl 1 rfl) ?_
        refine lv_iload_n hx hb dX5_holds_40 rfl (lv_at hl 2 rfl) ?_
        refine lv_iload_n hx hb dX5_holds_41 rfl (lv_at hl 0 rfl) ?_
        refine lv_aload_n hx hb dX5_holds_42 rfl (lv_at hl 1 rfl) ?_
        refine wg_letters (v := .ref (a 6)) hx hb hts hinX5 hown hK hP rfl (hts (Cond.fieldLink RX5 25 "LearnedShapesModel" "letters" "[I") (List.mem_of_getElem? (i := 3) rfl)) dX5_holds_43 ?_
        refine lv_iload_n hx hb dX5_holds_46 rfl (lv_at hl 3 rfl) ?_
        obtain ⟨g37, hF⟩ := og_some hF
        refine wl_letters (f := (g_Model_letters S)) hx hb hK hP rfl (inb_in g37) dX5_holds_47 ?_
        obtain ⟨r38, h39, hF⟩ := ob1_some hF
        have hPc : va_P (dC, dI) vwCl ((W_Model cI a S)) H := hP
        have hDc : va_D A ((W_Model cI a S)) := hD
        have hFc := jFreeW (ws := (W_Model cI a S)) hD hS hA
        refine va_calli (va_runV (As := [.int v1, .int t0, .int ((g_Model_letters S) v2.toNatClampNeg)]) (rest := []) ⟨hx, hb, hml, hown, hts⟩ (c_X5_childOf l dC dI cI a H.size _ _ _ _ _ h39) (cwV 3 hts gX5_holds_X5_childOf rfl rfl rfl (by decide +kernel) ⟨Nat.le_of_ble_eq_true rfl, Nat.le_of_ble_eq_true rfl⟩) (jPreV hK hPc hDc hN (ci := 5) rfl rfl) rfl rfl hl.1 rfl (lv_room (Nat.le_of_ble_eq_true rfl)) dX5_holds_48 ⟨Nat.le_of_ble_eq_true rfl, Nat.le_of_ble_eq_true rfl⟩) hS (fun q _ h => hFc q h) hFc (fun r' u' t H locs ht hvm hw hB hz1 hk1 hS => ?_)
        subst hw
        obtain ⟨hP1, -, hD1⟩ := hB
        rw [ht] at hP1
        have hP : va_P (dC, dI) vwCl ((W_Model cI a S)) H := hP1
        have hD : va_D A ((W_Model cI a S)) := hD1.weaken (fun _ _ _ h => hFc _ h)
        exact K51 _ _ _ _ _ hF hP hD hS _ (lv_sub hl [1, 2, 3, 0] rfl)
      · have hF := F_pos c36 hF
        refine lv_iconst (v := (0 : Int32)) hx hb dX5_holds_35 (by decide) ?_
        refine lv_goto (tgt := 51) hx hb dX5_holds_36 (by decide) ?_
        exact K51 _ _ _ _ _ hF hP hD hS _ (lv_sub hl [1, 2, 3, 0] rfl)
    · have hF := F_neg c35 hF
      refine lv_iload_n hx hb dX5_holds_24 rfl (lv_at hl 0 rfl) ?_
      refine lv_iconst (v := (-1 : Int32)) hx hb dX5_holds_25 (by decide) ?_
      refine lv_icmp_ne (tgt := 31) hx hb dX5_holds_26 (by decide) (fun c40 => ?_) (fun c40 => ?_)
      · have hF := F_neg c40 hF
        refine lv_iload_n hx hb dX5_holds_31 rfl (lv_at hl 3 rfl) ?_
        refine lv_if_ne (tgt := 39) hx hb dX5_holds_32 (by decide) (fun c41 => ?_) (fun c41 => ?_)
        · have hF := F_neg c41 hF
          refine lv_aload_n hx hb dX5_holds_39 rfl (lv_at hl 1 rfl) ?_
          refine lv_iload_n hx hb dX5_holds_40 rfl (lv_at hl 2 rfl) ?_
          refine lv_iload_n hx hb dX5_holds_41 rfl (lv_at hl 0 rfl) ?_
          refine lv_aload_n hx hb dX5_holds_42 rfl (lv_at hl 1 rfl) ?_
          refine wg_letters (v := .ref (a 6)) hx hb hts hinX5 hown hK hP rfl (hts (Cond.fieldLink RX5 25 "LearnedShapesModel" "letters" "[I") (List.mem_of_getElem? (i := 3) rfl)) dX5_holds_43 ?_
          refine lv_iload_n hx hb dX5_holds_46 rfl (lv_at hl 3 rfl) ?_
          obtain ⟨g42, hF⟩ := og_some hF
          refine wl_letters (f := (g_Model_letters S)) hx hb hK hP rfl (inb_in g42) dX5_holds_47 ?_
          obtain ⟨r43, h44, hF⟩ := ob1_some hF
          have hPc : va_P (dC, dI) vwCl ((W_Model cI a S)) H := hP
          have hDc : va_D A ((W_Model cI a S)) := hD
          have hFc := jFreeW (ws := (W_Model cI a S)) hD hS hA
          refine va_calli (va_runV (As := [.int v1, .int t0, .int ((g_Model_letters S) v2.toNatClampNeg)]) (rest := []) ⟨hx, hb, hml, hown, hts⟩ (c_X5_childOf l dC dI cI a H.size _ _ _ _ _ h44) (cwV 3 hts gX5_holds_X5_childOf rfl rfl rfl (by decide +kernel) ⟨Nat.le_of_ble_eq_true rfl, Nat.le_of_ble_eq_true rfl⟩) (jPreV hK hPc hDc hN (ci := 5) rfl rfl) rfl rfl hl.1 rfl (lv_room (Nat.le_of_ble_eq_true rfl)) dX5_holds_48 ⟨Nat.le_of_ble_eq_true rfl, Nat.le_of_ble_eq_true rfl⟩) hS (fun q _ h => hFc q h) hFc (fun r' u' t H locs ht hvm hw hB hz1 hk1 hS => ?_)
          subst hw
          obtain ⟨hP1, -, hD1⟩ := hB
          rw [ht] at hP1
          have hP : va_P (dC, dI) vwCl ((W_Model cI a S)) H := hP1
          have hD : va_D A ((W_Model cI a S)) := hD1.weaken (fun _ _ _ h => hFc _ h)
          exact K51 _ _ _ _ _ hF hP hD hS _ (lv_sub hl [1, 2, 3, 0] rfl)
        · have hF := F_pos c41 hF
          refine lv_iconst (v := (0 : Int32)) hx hb dX5_holds_35 (by decide) ?_
          refine lv_goto (tgt := 51) hx hb dX5_holds_36 (by decide) ?_
          exact K51 _ _ _ _ _ hF hP hD hS _ (lv_sub hl [1, 2, 3, 0] rfl)
      · have hF := F_pos c40 hF
        refine lv_iconst (v := (-1 : Int32)) hx hb dX5_holds_29 (by decide) ?_
        have e50 := Option.some.inj hF
        obtain ⟨e60, e51⟩ := Prod.mk.inj e50
        subst e60
        subst e51
        exact W.iret (v := (-1 : Int32)) hx hb hr (fun t ht hW => ⟨⟨(-1 : Int32), S, rfl, ⟨rfl, rfl⟩, by rw [ht]; exact hP, va_K.moved hW.alike hK, hD⟩, hS.F ht⟩) hS.2.2 dX5_holds_30
  have KE : ∀ (H : Heap) (locs : List Loc), va_P (dC, dI) vwCl ((W_Model cI a S)) H → va_D A ((W_Model cI a S)) → va_S A s.heap H locs → W p l e (headSpec wsX5_holds ({ frames := 2, cells := 0, slots := 0, locals := 47 } : Room)).room s m ([.ref (a 0), .int v1, .int v2] : List Value).toArray below meth c H locs 0 0 (MQ below (va_Qi (fun (r' : Int32) (u : S_Model) => rr = r' ∧ Y = u) (fun u : S_Model => jB (dC, dI) [(cI, .int)] A ((W_Model cI a u))) A) ([.ref (a 0), .int v1, .int v2] : List Value).toArray s 0 0 A) (F0 m 0 ls []) := by
    intro H locs hP hD hS
    unfold F_X5_holds at hF
    refine lv_iload_n hx hb dX5_holds_0 rfl (lv_at hl 2 rfl) ?_
    refine lv_if_ne (tgt := 8) hx hb dX5_holds_1 (by decide) (fun c45 => ?_) (fun c45 => ?_)
    · have hF := F_neg c45 hF
      refine lv_aload_n hx hb dX5_holds_8 rfl (lv_at hl 0 rfl) ?_
      refine wg_place (v := .ref (a 12)) hx hb hts hinX5 hown hK hP rfl (hts (Cond.fieldLink RX5 43 "LearnedShapesModel" "place" "[I") (List.mem_of_getElem? (i := 1) rfl)) dX5_holds_9 ?_
      refine lv_aload_n hx hb dX5_holds_12 rfl (lv_at hl 0 rfl) ?_
      refine wg_above (v := .ref (a 5)) hx hb hts hinX5 hown hK hP rfl (hts (Cond.fieldLink RX5 22 "LearnedShapesModel" "above" "[I") (List.mem_of_getElem? (i := 2) rfl)) dX5_holds_13 ?_
      refine lv_iload_n hx hb dX5_holds_16 rfl (lv_at hl 2 rfl) ?_
      obtain ⟨g46, hF⟩ := og_some hF
      refine wl_above (f := (g_Model_above S)) hx hb hK hP rfl (inb_in g46) dX5_holds_17 ?_
      obtain ⟨g47, hF⟩ := og_some hF
      refine wl_place (f := (g_Model_place S)) hx hb hK hP rfl (inb_in g47) dX5_holds_18 ?_
      exact K19 _ _ _ _ hF hP hD hS _ (lv_sub hl [0, 1, 2] rfl)
    · have hF := F_pos c45 hF
      refine lv_iconst (v := (-1 : Int32)) hx hb dX5_holds_4 (by decide) ?_
      refine lv_goto (tgt := 19) hx hb dX5_holds_5 (by decide) ?_
      exact K19 _ _ _ _ hF hP hD hS _ (lv_sub hl [0, 1, 2] rfl)
  exact KE _ _ hP hD hS
set_option maxHeartbeats 4000000 in
set_option maxRecDepth 100000 in
theorem c_X5_finds (l : Launch) (dC : Nat → ClassId) (dI : Nat → Nat → Nat) (cI : ClassId) (a : Nat → Nat) (sz : Nat) (S : S_Model) (v1 : Int32) (Y : S_Model) (hF : F_X5_finds S v1 = some Y) : Met l yX5_finds wsX5_finds ({ frames := 3, cells := 0, slots := 0, locals := 72 } : Room) (va_Pc [.ref (a 0), .int v1] (jPre (dC, dI) [(cI, .int)] sz ((W_Model cI a S)))) (va_Qv (fun u : S_Model => Y = u) (fun u : S_Model => jB (dC, dI) [(cI, .int)] (va_A ((W_Model cI a S)) sz) ((W_Model cI a u))) (va_A ((W_Model cI a S)) sz)) 0 0 (va_A ((W_Model cI a S)) sz) := by
  refine Met.ofW (cc := cX5_finds) (maxL := 5) (ret := none) (by decide) rfl ?_
  intro p e s m args below meth c s₁ B hml hv
  obtain ⟨rfl, hsz, hP, hK, hD0, hN⟩ := hv
  have hx := B.exec
  have hb := B.bytes
  have hr := B.returns
  have hts := atoms_spec (ws := wsX5_finds) B.pre
  have hown : s.vm.findClass RX5 = some m.cls := findClass_of_methodNamed B.named
  have hlocks := B.notSynchronized
  have hinX5 : ∀ w ∈ u_ws RX5 TX5 26, w ∈ wsX5_finds := by decide +kernel
  subst hsz
  have hD := hD0.self (sz := s.heap.size)
  generalize hAe : (va_A ((W_Model cI a S)) s.heap.size) = A at hD ⊢
  have hA : ∀ q : Nat, s.heap.size ≤ q → A q := fun q h => by rw [← hAe]; exact Or.inr h
  have hS : va_S A s.heap s.heap [] := va_S.rf
  have hl := lv_entry ([.ref (a 0), .int v1]) (n := 5) (Nat.le_of_ble_eq_true rfl)
  rw [lg_entry_eq]
  generalize (lg_sl ([.ref (a 0), .int v1]) ++ List.replicate (5 - (lg_sl ([.ref (a 0), .int v1])).length) Slot.unset).toArray = ls at hl ⊢
  have hl : lv_has ls 5 [(0, .ref (a 0)), (1, .int v1)] := hl
  have K36 : ∀ (n36 : Nat) (S : S_Model) (x2 : Int32) (H : Heap) (locs : List Loc), F_X5_finds_36 v1 n36 S x2 = some Y → va_P (dC, dI) vwCl ((W_Model cI a S)) H → va_D A ((W_Model cI a S)) → va_S A s.heap H locs → ∀ ls : Array Slot, lv_has ls 5 [(0, .ref (a 0)), (1, .int v1), (2, .int x2)] → W p l e (headSpec wsX5_finds ({ frames := 3, cells := 0, slots := 0, locals := 72 } : Room)).room s m ([.ref (a 0), .int v1] : List Value).toArray below meth c H locs 0 0 (MQ below (va_Qv (fun u : S_Model => Y = u) (fun u : S_Model => jB (dC, dI) [(cI, .int)] A ((W_Model cI a u))) A) ([.ref (a 0), .int v1] : List Value).toArray s 0 0 A) (F0 m 36 ls []) := by
    intro n36
    induction n36 with
    | zero => intro S x2 H locs hF; exact nomatch hF
    | succ n36 ih36 =>
      intro S x2 H locs hF hP hD hS ls hl
      rw [F_X5_finds_36_s] at hF
      have K58 : ∀ (n58 : Nat) (S : S_Model) (x2 : Int32) (x3 : Int32) (H : Heap) (locs : List Loc), F_X5_finds_58 v1 (F_X5_finds_36 v1 n36) n58 S x2 x3 = some Y → va_P (dC, dI) vwCl ((W_Model cI a S)) H → va_D A ((W_Model cI a S)) → va_S A s.heap H locs → ∀ ls : Array Slot, lv_has ls 5 [(0, .ref (a 0)), (1, .int v1), (2, .int x2), (3, .int x3)] → W p l e (headSpec wsX5_finds ({ frames := 3, cells := 0, slots := 0, locals := 72 } : Room)).room s m ([.ref (a 0), .int v1] : List Value).toArray below meth c H locs 0 0 (MQ below (va_Qv (fun u : S_Model => Y = u) (fun u : S_Model => jB (dC, dI) [(cI, .int)] A ((W_Model cI a u))) A) ([.ref (a 0), .int v1] : List Value).toArray s 0 0 A) (F0 m 58 ls []) := by
        intro n58
        induction n58 with
        | zero => intro S x2 x3 H locs hF; exact nomatch hF
        | succ n58 ih58 =>
          intro S x2 x3 H locs hF hP hD hS ls hl
          rw [F_X5_finds_58_s] at hF
          refine lv_iload_n hx hb dX5_finds_58 rfl (lv_at hl 3 rfl) ?_
          refine lv_bipush (v := (8 : Int32)) hx hb dX5_finds_59 (by decide) ?_
          refine lv_icmp_ge (tgt := 151) hx hb dX5_finds_61 (by decide) (fun c1 => ?_) (fun c1 => ?_)
          · have hF := F_pos c1 hF
            refine lv_iinc (v := (x2 + (1 : Int32))) (lv' := [(2, .int (x2 + (1 : Int32))), (0, .ref (a 0)), (1, .int v1), (3, .int x3)]) hx hb dX5_finds_151 hl (k := 2) rfl rfl (by decide) rfl (fun ls hl => ?_)
            refine lv_goto (tgt := 36) hx hb dX5_finds_154 (by decide) ?_
            exact ih36 _ _ _ _ hF hP hD hS _ (lv_sub hl [1, 2, 0] rfl)
          · have hF := F_neg c1 hF
            refine lv_aload_n hx hb dX5_finds_64 rfl (lv_at hl 0 rfl) ?_
            refine wg_place (v := .ref (a 12)) hx hb hts hinX5 hown hK hP rfl (hts (Cond.fieldLink RX5 43 "LearnedShapesModel" "place" "[I") (List.mem_of_getElem? (i := 6) rfl)) dX5_finds_65 ?_
            refine lv_iload_n hx hb dX5_finds_68 rfl (lv_at hl 2 rfl) ?_
            obtain ⟨g2, hF⟩ := og_some hF
            refine wl_place (f := (g_Model_place S)) hx hb hK hP rfl (inb_in g2) dX5_finds_69 ?_
            refine lv_iconst (v := (-1 : Int32)) hx hb dX5_finds_70 (by decide) ?_
            refine lv_icmp_eq (tgt := 151) hx hb dX5_finds_71 (by decide) (fun c3 => ?_) (fun c3 => ?_)
            · have hF := F_pos c3 hF
              refine lv_iinc (v := (x2 + (1 : Int32))) (lv' := [(2, .int (x2 + (1 : Int32))), (0, .ref (a 0)), (1, .int v1), (3, .int x3)]) hx hb dX5_finds_151 hl (k := 2) rfl rfl (by decide) rfl (fun ls hl => ?_)
              refine lv_goto (tgt := 36) hx hb dX5_finds_154 (by decide) ?_
              exact ih36 _ _ _ _ hF hP hD hS _ (lv_sub hl [1, 2, 0] rfl)
            · have hF := F_neg c3 hF
              refine lv_aload_n hx hb dX5_finds_74 rfl (lv_at hl 0 rfl) ?_
              refine wg_kinds (v := .ref (a 4)) hx hb hts hinX5 hown hK hP rfl (hts (Cond.fieldLink RX5 19 "LearnedShapesModel" "kinds" "[I") (List.mem_of_getElem? (i := 7) rfl)) dX5_finds_75 ?_
              refine lv_iload_n hx hb dX5_finds_78 rfl (lv_at hl 2 rfl) ?_
              obtain ⟨g4, hF⟩ := og_some hF
              refine wl_kinds (f := (g_Model_kinds S)) hx hb hK hP rfl (inb_in g4) dX5_finds_79 ?_
              refine lv_bipush (v := (6 : Int32)) hx hb dX5_finds_80 (by decide) ?_
              refine lv_icmp_ne (tgt := 151) hx hb dX5_finds_82 (by decide) (fun c5 => ?_) (fun c5 => ?_)
              · have hF := F_neg c5 hF
                refine lv_iinc (v := (x2 + (1 : Int32))) (lv' := [(2, .int (x2 + (1 : Int32))), (0, .ref (a 0)), (1, .int v1), (3, .int x3)]) hx hb dX5_finds_151 hl (k := 2) rfl rfl (by decide) rfl (fun ls hl => ?_)
                refine lv_goto (tgt := 36) hx hb dX5_finds_154 (by decide) ?_
                exact ih36 _ _ _ _ hF hP hD hS _ (lv_sub hl [1, 2, 0] rfl)
              · have hF := F_pos c5 hF
                refine lv_aload_n hx hb dX5_finds_85 rfl (lv_at hl 0 rfl) ?_
                refine lv_iload_n hx hb dX5_finds_86 rfl (lv_at hl 1 rfl) ?_
                refine lv_aload_n hx hb dX5_finds_87 rfl (lv_at hl 0 rfl) ?_
                refine wg_place (v := .ref (a 12)) hx hb hts hinX5 hown hK hP rfl (hts (Cond.fieldLink RX5 43 "LearnedShapesModel" "place" "[I") (List.mem_of_getElem? (i := 6) rfl)) dX5_finds_88 ?_
                refine lv_iload_n hx hb dX5_finds_91 rfl (lv_at hl 2 rfl) ?_
                obtain ⟨g6, hF⟩ := og_some hF
                refine wl_place (f := (g_Model_place S)) hx hb hK hP rfl (inb_in g6) dX5_finds_92 ?_
                refine lv_iload_n hx hb dX5_finds_93 rfl (lv_at hl 3 rfl) ?_
                obtain ⟨r7, h8, hF⟩ := ob1_some hF
                have hPc : va_P (dC, dI) vwCl ((W_Model cI a S)) H := hP
                have hDc : va_D A ((W_Model cI a S)) := hD
                have hFc := jFreeW (ws := (W_Model cI a S)) hD hS hA
                refine va_calli (va_runV (As := [.int v1, .int ((g_Model_place S) x2.toNatClampNeg), .int x3]) (rest := []) ⟨hx, hb, hml, hown, hts⟩ (c_X5_childOf l dC dI cI a H.size _ _ _ _ _ h8) (cwV 3 hts gX5_finds_X5_childOf rfl rfl rfl (by decide +kernel) ⟨Nat.le_of_ble_eq_true rfl, Nat.le_of_ble_eq_true rfl⟩) (jPreV hK hPc hDc hN (ci := 5) rfl rfl) rfl rfl hl.1 rfl (lv_room (Nat.le_of_ble_eq_true rfl)) dX5_finds_94 ⟨Nat.le_of_ble_eq_true rfl, Nat.le_of_ble_eq_true rfl⟩) hS (fun q _ h => hFc q h) hFc (fun r' u' t H locs ht hvm hw hB hz1 hk1 hS => ?_)
                subst hw
                obtain ⟨hP1, -, hD1⟩ := hB
                rw [ht] at hP1
                have hP : va_P (dC, dI) vwCl ((W_Model cI a S)) H := hP1
                have hD : va_D A ((W_Model cI a S)) := hD1.weaken (fun _ _ _ h => hFc _ h)
                refine lv_istore (lv' := [(4, .int r7), (0, .ref (a 0)), (1, .int v1), (2, .int x2), (3, .int x3)]) hx hb dX5_finds_97 hl (by decide) rfl (fun ls hl => ?_)
                refine lv_iload hx hb dX5_finds_99 (lv_at hl 0 rfl) ?_
                refine lv_iconst (v := (-1 : Int32)) hx hb dX5_finds_101 (by decide) ?_
                refine lv_icmp_eq (tgt := 145) hx hb dX5_finds_102 (by decide) (fun c9 => ?_) (fun c9 => ?_)
                · have hF := F_pos c9 hF
                  refine lv_iinc (v := (x3 + (1 : Int32))) (lv' := [(3, .int (x3 + (1 : Int32))), (4, .int r7), (0, .ref (a 0)), (1, .int v1), (2, .int x2)]) hx hb dX5_finds_145 hl (k := 4) rfl rfl (by decide) rfl (fun ls hl => ?_)
                  refine lv_goto (tgt := 58) hx hb dX5_finds_148 (by decide) ?_
                  exact ih58 _ _ _ _ _ hF hP hD hS _ (lv_sub hl [2, 3, 4, 0] rfl)
                · have hF := F_neg c9 hF
                  refine lv_aload_n hx hb dX5_finds_105 rfl (lv_at hl 1 rfl) ?_
                  refine wg_used (v := .ref (a 9)) hx hb hts hinX5 hown hK hP rfl (hts (Cond.fieldLink RX5 34 "LearnedShapesModel" "used" "[I") (List.mem_of_getElem? (i := 8) rfl)) dX5_finds_106 ?_
                  refine lv_iload_n hx hb dX5_finds_109 rfl (lv_at hl 3 rfl) ?_
                  obtain ⟨g10, hF⟩ := og_some hF
                  refine wl_used (f := (g_Model_used S)) hx hb hK hP rfl (inb_in g10) dX5_finds_110 ?_
                  refine lv_iload_n hx hb dX5_finds_111 rfl (lv_at hl 4 rfl) ?_
                  refine lv_ishr hx hb dX5_finds_112 ?_
                  refine lv_iconst (v := (1 : Int32)) hx hb dX5_finds_113 (by decide) ?_
                  refine lv_iand hx hb dX5_finds_114 ?_
                  refine lv_if_ne (tgt := 145) hx hb dX5_finds_115 (by decide) (fun c11 => ?_) (fun c11 => ?_)
                  · have hF := F_neg c11 hF
                    refine lv_iinc (v := (x3 + (1 : Int32))) (lv' := [(3, .int (x3 + (1 : Int32))), (4, .int r7), (0, .ref (a 0)), (1, .int v1), (2, .int x2)]) hx hb dX5_finds_145 hl (k := 4) rfl rfl (by decide) rfl (fun ls hl => ?_)
                    refine lv_goto (tgt := 58) hx hb dX5_finds_148 (by decide) ?_
                    exact ih58 _ _ _ _ _ hF hP hD hS _ (lv_sub hl [2, 3, 4, 0] rfl)
                  · have hF := F_pos c11 hF
                    refine lv_aload_n hx hb dX5_finds_118 rfl (lv_at hl 1 rfl) ?_
                    refine lv_iload_n hx hb dX5_finds_119 rfl (lv_at hl 2 rfl) ?_
                    refine lv_iload hx hb dX5_finds_120 (lv_at hl 0 rfl) ?_
                    obtain ⟨r12, h13, hF⟩ := ob1_some hF
                    have hPc : va_P (dC, dI) vwCl ((W_Model cI a S)) H := hP
                    have hDc : va_D A ((W_Model cI a S)) := hD
                    have hFc := jFreeW (ws := (W_Model cI a S)) hD hS hA
                    refine va_calli (va_runV (As := [.int v1, .int r7]) (rest := []) ⟨hx, hb, hml, hown, hts⟩ (c_X5_canMiss l dC dI cI a H.size _ _ _ _ h13) (cwV 2 hts gX5_finds_X5_canMiss rfl rfl rfl (by decide +kernel) ⟨Nat.le_of_ble_eq_true rfl, Nat.le_of_ble_eq_true rfl⟩) (jPreV hK hPc hDc hN (ci := 5) rfl rfl) rfl rfl hl.1 rfl (lv_room (Nat.le_of_ble_eq_true rfl)) dX5_finds_122 ⟨Nat.le_of_ble_eq_true rfl, Nat.le_of_ble_eq_true rfl⟩) hS (fun q _ h => hFc q h) hFc (fun r' u' t H locs ht hvm hw hB hz1 hk1 hS => ?_)
                    subst hw
                    obtain ⟨hP1, -, hD1⟩ := hB
                    rw [ht] at hP1
                    have hP : va_P (dC, dI) vwCl ((W_Model cI a S)) H := hP1
                    have hD : va_D A ((W_Model cI a S)) := hD1.weaken (fun _ _ _ h => hFc _ h)
                    refine lv_if_ne (tgt := 145) hx hb dX5_finds_125 (by decide) (fun c14 => ?_) (fun c14 => ?_)
                    · have hF := F_neg c14 hF
                      refine lv_iinc (v := (x3 + (1 : Int32))) (lv' := [(3, .int (x3 + (1 : Int32))), (4, .int r7), (0, .ref (a 0)), (1, .int v1), (2, .int x2)]) hx hb dX5_finds_145 hl (k := 4) rfl rfl (by decide) rfl (fun ls hl => ?_)
                      refine lv_goto (tgt := 58) hx hb dX5_finds_148 (by decide) ?_
                      exact ih58 _ _ _ _ _ hF hP hD hS _ (lv_sub hl [2, 3, 4, 0] rfl)
                    · have hF := F_pos c14 hF
                      refine lv_aload_n hx hb dX5_finds_128 rfl (lv_at hl 1 rfl) ?_
                      refine lv_iconst (v := (3 : Int32)) hx hb dX5_finds_129 (by decide) ?_
                      refine lv_aload_n hx hb dX5_finds_130 rfl (lv_at hl 1 rfl) ?_
                      refine wg_ends (v := .ref (a 8)) hx hb hts hinX5 hown hK hP rfl (hts (Cond.fieldLink RX5 31 "LearnedShapesModel" "ends" "[I") (List.mem_of_getElem? (i := 9) rfl)) dX5_finds_131 ?_
                      refine lv_iload_n hx hb dX5_finds_134 rfl (lv_at hl 3 rfl) ?_
                      obtain ⟨g15, hF⟩ := og_some hF
                      refine wl_ends (f := (g_Model_ends S)) hx hb hK hP rfl (inb_in g15) dX5_finds_135 ?_
                      refine lv_aload_n hx hb dX5_finds_136 rfl (lv_at hl 1 rfl) ?_
                      refine wg_place (v := .ref (a 12)) hx hb hts hinX5 hown hK hP rfl (hts (Cond.fieldLink RX5 43 "LearnedShapesModel" "place" "[I") (List.mem_of_getElem? (i := 6) rfl)) dX5_finds_137 ?_
                      refine lv_iload_n hx hb dX5_finds_140 rfl (lv_at hl 3 rfl) ?_
                      obtain ⟨g16, hF⟩ := og_some hF
                      refine wl_place (f := (g_Model_place S)) hx hb hK hP rfl (inb_in g16) dX5_finds_141 ?_
                      obtain ⟨u17, h18, hF⟩ := ob1_some hF
                      have hPc : va_P (dC, dI) vwCl ((W_Model cI a S)) H := hP
                      have hDc : va_D A ((W_Model cI a S)) := hD
                      have hFc := jFreeW (ws := (W_Model cI a S)) hD hS hA
                      refine va_callv (va_runV (As := [.int (3 : Int32), .int ((g_Model_ends S) x2.toNatClampNeg), .int ((g_Model_place S) x2.toNatClampNeg)]) (rest := []) ⟨hx, hb, hml, hown, hts⟩ (c_X5_misfits l dC dI cI a H.size _ _ _ _ _ h18) (cwV 3 hts gX5_finds_X5_misfits rfl rfl rfl (by decide +kernel) ⟨Nat.le_of_ble_eq_true rfl, Nat.le_of_ble_eq_true rfl⟩) (jPreV hK hPc hDc hN (ci := 5) rfl rfl) rfl rfl hl.1 rfl (lv_room (Nat.le_of_ble_eq_true rfl)) dX5_finds_142 ⟨Nat.le_of_ble_eq_true rfl, Nat.le_of_ble_eq_true rfl⟩) hS (fun q _ h => hFc q h) hFc (fun u' t H locs ht hvm hw hB hz1 hk1 hS => ?_)
                      subst hw
                      obtain ⟨hP1, -, hD1⟩ := hB
                      rw [ht] at hP1
                      have hP : va_P (dC, dI) vwCl ((W_Model cI a u17)) H := hP1
                      have hD : va_D A ((W_Model cI a u17)) := hD1.weaken (fun _ _ _ h => hFc _ h)
                      refine lv_iinc (v := (x3 + (1 : Int32))) (lv' := [(3, .int (x3 + (1 : Int32))), (4, .int r7), (0, .ref (a 0)), (1, .int v1), (2, .int x2)]) hx hb dX5_finds_145 hl (k := 4) rfl rfl (by decide) rfl (fun ls hl => ?_)
                      refine lv_goto (tgt := 58) hx hb dX5_finds_148 (by decide) ?_
                      exact ih58 _ _ _ _ _ hF hP hD hS _ (lv_sub hl [2, 3, 4, 0] rfl)
      refine lv_iload_n hx hb dX5_finds_36 rfl (lv_at hl 2 rfl) ?_
      refine lv_aload_n hx hb dX5_finds_37 rfl (lv_at hl 0 rfl) ?_
      refine wg_valued (v := .int (g_Model_valued S)) hx hb hts hinX5 hown hK hP rfl (hts (Cond.fieldLink RX5 82 "LearnedShapesModel" "valued" "I") (List.mem_of_getElem? (i := 5) rfl)) dX5_finds_38 ?_
      refine lv_icmp_ge (tgt := 157) hx hb dX5_finds_41 (by decide) (fun c19 => ?_) (fun c19 => ?_)
      · have hF := F_pos c19 hF
        have e50 := Option.some.inj hF
        subst e50
        exact W.vret hx hb hr (fun t ht hW => ⟨⟨S, rfl, rfl, by rw [ht]; exact hP, va_K.moved hW.alike hK, hD⟩, hS.F ht⟩) hS.2.2 dX5_finds_157
      · have hF := F_neg c19 hF
        refine lv_aload_n hx hb dX5_finds_44 rfl (lv_at hl 0 rfl) ?_
        refine wg_place (v := .ref (a 12)) hx hb hts hinX5 hown hK hP rfl (hts (Cond.fieldLink RX5 43 "LearnedShapesModel" "place" "[I") (List.mem_of_getElem? (i := 6) rfl)) dX5_finds_45 ?_
        refine lv_iload_n hx hb dX5_finds_48 rfl (lv_at hl 2 rfl) ?_
        refine lv_aload_n hx hb dX5_finds_49 rfl (lv_at hl 0 rfl) ?_
        refine lv_iload_n hx hb dX5_finds_50 rfl (lv_at hl 1 rfl) ?_
        refine lv_iload_n hx hb dX5_finds_51 rfl (lv_at hl 2 rfl) ?_
        obtain ⟨r20, u21, h22, hF⟩ := ob2_some hF
        have hPc : va_P (dC, dI) vwCl ((W_Model cI a S)) H := hP
        have hDc : va_D A ((W_Model cI a S)) := hD
        have hFc := jFreeW (ws := (W_Model cI a S)) hD hS hA
        refine va_calli (va_runV (As := [.int v1, .int x2]) (rest := [.int x2, .ref (a 12)]) ⟨hx, hb, hml, hown, hts⟩ (c_X5_holds l dC dI cI a H.size _ _ _ _ _ h22) (cwV 2 hts gX5_finds_X5_holds rfl rfl rfl (by decide +kernel) ⟨Nat.le_of_ble_eq_true rfl, Nat.le_of_ble_eq_true rfl⟩) (jPreV hK hPc hDc hN (ci := 5) rfl rfl) rfl rfl hl.1 rfl (lv_room (Nat.le_of_ble_eq_true rfl)) dX5_finds_52 ⟨Nat.le_of_ble_eq_true rfl, Nat.le_of_ble_eq_true rfl⟩) hS (fun q _ h => hFc q h) hFc (fun r' u' t H locs ht hvm hw hB hz1 hk1 hS => ?_)
        obtain ⟨e1, e2⟩ := hw
        subst e1
        subst e2
        obtain ⟨hP1, -, hD1⟩ := hB
        rw [ht] at hP1
        have hP : va_P (dC, dI) vwCl ((W_Model cI a u21)) H := hP1
        have hD : va_D A ((W_Model cI a u21)) := hD1.weaken (fun _ _ _ h => hFc _ h)
        obtain ⟨g23, hF⟩ := og_some hF
        refine ws_place (f := (g_Model_place u21)) hx hb hK hP hD hS rfl (inb_in g23) dX5_finds_55 (fun H locs hP hD hS => ?_)
        refine lv_iconst (v := (0 : Int32)) hx hb dX5_finds_56 (by decide) ?_
        refine lv_istore_n (lv' := [(3, .int (0 : Int32)), (0, .ref (a 0)), (1, .int v1), (2, .int x2)]) hx hb dX5_finds_57 rfl hl (by decide) rfl (fun ls hl => ?_)
        exact K58 _ _ _ _ _ _ hF hP hD hS _ (lv_sub hl [1, 2, 3, 0] rfl)
  have KE : ∀ (H : Heap) (locs : List Loc), va_P (dC, dI) vwCl ((W_Model cI a S)) H → va_D A ((W_Model cI a S)) → va_S A s.heap H locs → W p l e (headSpec wsX5_finds ({ frames := 3, cells := 0, slots := 0, locals := 72 } : Room)).room s m ([.ref (a 0), .int v1] : List Value).toArray below meth c H locs 0 0 (MQ below (va_Qv (fun u : S_Model => Y = u) (fun u : S_Model => jB (dC, dI) [(cI, .int)] A ((W_Model cI a u))) A) ([.ref (a 0), .int v1] : List Value).toArray s 0 0 A) (F0 m 0 ls []) := by
    intro H locs hP hD hS
    unfold F_X5_finds at hF
    refine lv_aload_n hx hb dX5_finds_0 rfl (lv_at hl 0 rfl) ?_
    refine lv_iconst (v := (0 : Int32)) hx hb dX5_finds_1 (by decide) ?_
    refine wp_misfit (v := (0 : Int32)) hx hb hts hinX5 hown hK hP hD hS (hts (Cond.fieldLink RX5 210 "LearnedShapesModel" "misfit" "I") (List.mem_of_getElem? (i := 1) rfl)) (rfl) (rfl) dX5_finds_2 (fun H locs hP hD hS => ?_)
    refine lv_aload_n hx hb dX5_finds_5 rfl (lv_at hl 0 rfl) ?_
    refine lv_iconst (v := (-1 : Int32)) hx hb dX5_finds_6 (by decide) ?_
    refine wp_misfitAt (v := (-1 : Int32)) hx hb hts hinX5 hown hK hP hD hS (hts (Cond.fieldLink RX5 213 "LearnedShapesModel" "misfitAt" "I") (List.mem_of_getElem? (i := 2) rfl)) (rfl) (rfl) dX5_finds_7 (fun H locs hP hD hS => ?_)
    refine lv_aload_n hx hb dX5_finds_10 rfl (lv_at hl 0 rfl) ?_
    refine lv_iconst (v := (-1 : Int32)) hx hb dX5_finds_11 (by decide) ?_
    refine wp_misfitNode (v := (-1 : Int32)) hx hb hts hinX5 hown hK hP hD hS (hts (Cond.fieldLink RX5 216 "LearnedShapesModel" "misfitNode" "I") (List.mem_of_getElem? (i := 3) rfl)) (rfl) (rfl) dX5_finds_12 (fun H locs hP hD hS => ?_)
    refine lv_aload_n hx hb dX5_finds_15 rfl (lv_at hl 0 rfl) ?_
    refine wg_now (v := .ref (a 1)) hx hb hts hinX5 hown hK hP rfl (hts (Cond.fieldLink RX5 7 "LearnedShapesModel" "now" "[I") (List.mem_of_getElem? (i := 4) rfl)) dX5_finds_16 ?_
    refine lv_iconst (v := (3 : Int32)) hx hb dX5_finds_19 (by decide) ?_
    refine lv_iload_n hx hb dX5_finds_20 rfl (lv_at hl 1 rfl) ?_
    refine lv_iadd hx hb dX5_finds_21 ?_
    obtain ⟨g24, hF⟩ := og_some hF
    refine wl_now (f := (g_Model_now S)) hx hb hK hP rfl (inb_in g24) dX5_finds_22 ?_
    refine lv_if_ne (tgt := 34) hx hb dX5_finds_23 (by decide) (fun c25 => ?_) (fun c25 => ?_)
    · have hF := F_neg c25 hF
      refine lv_iconst (v := (0 : Int32)) hx hb dX5_finds_34 (by decide) ?_
      refine lv_istore_n (lv' := [(2, .int (0 : Int32)), (0, .ref (a 0)), (1, .int v1)]) hx hb dX5_finds_35 rfl hl (by decide) rfl (fun ls hl => ?_)
      exact K36 _ _ _ _ _ hF hP hD hS _ (lv_sub hl [1, 2, 0] rfl)
    · have hF := F_pos c25 hF
      refine lv_aload_n hx hb dX5_finds_26 rfl (lv_at hl 0 rfl) ?_
      refine lv_iconst (v := (1 : Int32)) hx hb dX5_finds_27 (by decide) ?_
      refine lv_iconst (v := (0 : Int32)) hx hb dX5_finds_28 (by decide) ?_
      refine lv_iconst (v := (-1 : Int32)) hx hb dX5_finds_29 (by decide) ?_
      obtain ⟨u26, h27, hF⟩ := ob1_some hF
      have hPc : va_P (dC, dI) vwCl ((W_Model cI a (s_Model_misfitNode (s_Model_misfitAt (s_Model_misfit S (0 : Int32)) (-1 : Int32)) (-1 : Int32)))) H := hP
      have hDc : va_D A ((W_Model cI a (s_Model_misfitNode (s_Model_misfitAt (s_Model_misfit S (0 : Int32)) (-1 : Int32)) (-1 : Int32)))) := hD
      have hFc := jFreeW (ws := (W_Model cI a (s_Model_misfitNode (s_Model_misfitAt (s_Model_misfit S (0 : Int32)) (-1 : Int32)) (-1 : Int32)))) hD hS hA
      refine va_callv (va_runV (As := [.int (1 : Int32), .int (0 : Int32), .int (-1 : Int32)]) (rest := []) ⟨hx, hb, hml, hown, hts⟩ (c_X5_misfits l dC dI cI a H.size _ _ _ _ _ h27) (cwV 3 hts gX5_finds_X5_misfits rfl rfl rfl (by decide +kernel) ⟨Nat.le_of_ble_eq_true rfl, Nat.le_of_ble_eq_true rfl⟩) (jPreV hK hPc hDc hN (ci := 5) rfl rfl) rfl rfl hl.1 rfl (lv_room (Nat.le_of_ble_eq_true rfl)) dX5_finds_30 ⟨Nat.le_of_ble_eq_true rfl, Nat.le_of_ble_eq_true rfl⟩) hS (fun q _ h => hFc q h) hFc (fun u' t H locs ht hvm hw hB hz1 hk1 hS => ?_)
      subst hw
      obtain ⟨hP1, -, hD1⟩ := hB
      rw [ht] at hP1
      have hP : va_P (dC, dI) vwCl ((W_Model cI a u26)) H := hP1
      have hD : va_D A ((W_Model cI a u26)) := hD1.weaken (fun _ _ _ h => hFc _ h)
      have e50 := Option.some.inj hF
      subst e50
      exact W.vret hx hb hr (fun t ht hW => ⟨⟨u26, rfl, rfl, by rw [ht]; exact hP, va_K.moved hW.alike hK, hD⟩, hS.F ht⟩) hS.2.2 dX5_finds_33
  exact KE _ _ hP hD hS
set_option maxHeartbeats 4000000 in
set_option maxRecDepth 100000 in
theorem c_X5_fitOf (l : Launch) (dC : Nat → ClassId) (dI : Nat → Nat → Nat) (cI : ClassId) (a : Nat → Nat) (sz : Nat) (S : S_Model) (v1 : Int32) (v2 : Int32) (rr : Int32) (Y : S_Model) (hF : F_X5_fitOf S v1 v2 = some (rr, Y)) : Met l yX5_fitOf wsX5_fitOf ({ frames := 7, cells := 0, slots := 0, locals := 155 } : Room) (va_Pc [.ref (a 0), .int v1, .int v2] (jPre (dC, dI) [(cI, .int)] sz ((W_Model cI a S)))) (va_Qi (fun (r' : Int32) (u : S_Model) => rr = r' ∧ Y = u) (fun u : S_Model => jB (dC, dI) [(cI, .int)] (va_A ((W_Model cI a S)) sz) ((W_Model cI a u))) (va_A ((W_Model cI a S)) sz)) 0 0 (va_A ((W_Model cI a S)) sz) := by
  refine Met.ofW (cc := cX5_fitOf) (maxL := 3) (ret := (some .int)) (by decide) rfl ?_
  intro p e s m args below meth c s₁ B hml hv
  obtain ⟨rfl, hsz, hP, hK, hD0, hN⟩ := hv
  have hx := B.exec
  have hb := B.bytes
  have hr := B.returns
  have hts := atoms_spec (ws := wsX5_fitOf) B.pre
  have hown : s.vm.findClass RX5 = some m.cls := findClass_of_methodNamed B.named
  have hlocks := B.notSynchronized
  have hinX5 : ∀ w ∈ u_ws RX5 TX5 26, w ∈ wsX5_fitOf := by decide +kernel
  subst hsz
  have hD := hD0.self (sz := s.heap.size)
  generalize hAe : (va_A ((W_Model cI a S)) s.heap.size) = A at hD ⊢
  have hA : ∀ q : Nat, s.heap.size ≤ q → A q := fun q h => by rw [← hAe]; exact Or.inr h
  have hS : va_S A s.heap s.heap [] := va_S.rf
  have hl := lv_entry ([.ref (a 0), .int v1, .int v2]) (n := 3) (Nat.le_of_ble_eq_true rfl)
  rw [lg_entry_eq]
  generalize (lg_sl ([.ref (a 0), .int v1, .int v2]) ++ List.replicate (3 - (lg_sl ([.ref (a 0), .int v1, .int v2])).length) Slot.unset).toArray = ls at hl ⊢
  have hl : lv_has ls 3 [(0, .ref (a 0)), (1, .int v1), (2, .int v2)] := hl
  have KE : ∀ (H : Heap) (locs : List Loc), va_P (dC, dI) vwCl ((W_Model cI a S)) H → va_D A ((W_Model cI a S)) → va_S A s.heap H locs → W p l e (headSpec wsX5_fitOf ({ frames := 7, cells := 0, slots := 0, locals := 155 } : Room)).room s m ([.ref (a 0), .int v1, .int v2] : List Value).toArray below meth c H locs 0 0 (MQ below (va_Qi (fun (r' : Int32) (u : S_Model) => rr = r' ∧ Y = u) (fun u : S_Model => jB (dC, dI) [(cI, .int)] A ((W_Model cI a u))) A) ([.ref (a 0), .int v1, .int v2] : List Value).toArray s 0 0 A) (F0 m 0 ls []) := by
    intro H locs hP hD hS
    unfold F_X5_fitOf at hF
    refine lv_aload_n hx hb dX5_fitOf_0 rfl (lv_at hl 0 rfl) ?_
    obtain ⟨r1, u2, h3, hF⟩ := ob2_some hF
    have hPc : va_P (dC, dI) vwCl ((W_Model cI a S)) H := hP
    have hDc : va_D A ((W_Model cI a S)) := hD
    have hFc := jFreeW (ws := (W_Model cI a S)) hD hS hA
    refine va_calli (va_runV (As := []) (rest := []) ⟨hx, hb, hml, hown, hts⟩ (c_X5_isText l dC dI cI a H.size _ _ _ h3) (cwV 0 hts gX5_fitOf_X5_isText rfl rfl rfl (by decide +kernel) ⟨Nat.le_of_ble_eq_true rfl, Nat.le_of_ble_eq_true rfl⟩) (jPreV hK hPc hDc hN (ci := 5) rfl rfl) rfl rfl hl.1 rfl (lv_room (Nat.le_of_ble_eq_true rfl)) dX5_fitOf_1 ⟨Nat.le_of_ble_eq_true rfl, Nat.le_of_ble_eq_true rfl⟩) hS (fun q _ h => hFc q h) hFc (fun r' u' t H locs ht hvm hw hB hz1 hk1 hS => ?_)
    obtain ⟨e1, e2⟩ := hw
    subst e1
    subst e2
    obtain ⟨hP1, -, hD1⟩ := hB
    rw [ht] at hP1
    have hP : va_P (dC, dI) vwCl ((W_Model cI a u2)) H := hP1
    have hD : va_D A ((W_Model cI a u2)) := hD1.weaken (fun _ _ _ h => hFc _ h)
    refine lv_if_ne (tgt := 9) hx hb dX5_fitOf_4 (by decide) (fun c4 => ?_) (fun c4 => ?_)
    · have hF := F_neg c4 hF
      refine lv_aload_n hx hb dX5_fitOf_9 rfl (lv_at hl 0 rfl) ?_
      refine lv_iload_n hx hb dX5_fitOf_10 rfl (lv_at hl 1 rfl) ?_
      obtain ⟨u5, h6, hF⟩ := ob1_some hF
      have hPc : va_P (dC, dI) vwCl ((W_Model cI a u2)) H := hP
      have hDc : va_D A ((W_Model cI a u2)) := hD
      have hFc := jFreeW (ws := (W_Model cI a u2)) hD hS hA
      refine va_callv (va_runV (As := [.int v1]) (rest := []) ⟨hx, hb, hml, hown, hts⟩ (c_X5_finds l dC dI cI a H.size _ _ _ h6) (cwV 1 hts gX5_fitOf_X5_finds rfl rfl rfl (by decide +kernel) ⟨Nat.le_of_ble_eq_true rfl, Nat.le_of_ble_eq_true rfl⟩) (jPreV hK hPc hDc hN (ci := 5) rfl rfl) rfl rfl hl.1 rfl (lv_room (Nat.le_of_ble_eq_true rfl)) dX5_fitOf_11 ⟨Nat.le_of_ble_eq_true rfl, Nat.le_of_ble_eq_true rfl⟩) hS (fun q _ h => hFc q h) hFc (fun u' t H locs ht hvm hw hB hz1 hk1 hS => ?_)
      subst hw
      obtain ⟨hP1, -, hD1⟩ := hB
      rw [ht] at hP1
      have hP : va_P (dC, dI) vwCl ((W_Model cI a u5)) H := hP1
      have hD : va_D A ((W_Model cI a u5)) := hD1.weaken (fun _ _ _ h => hFc _ h)
      refine lv_iload_n hx hb dX5_fitOf_14 rfl (lv_at hl 2 rfl) ?_
      refine lv_if_ne (tgt := 25) hx hb dX5_fitOf_15 (by decide) (fun c7 => ?_) (fun c7 => ?_)
      · have hF := F_neg c7 hF
        refine lv_iload_n hx hb dX5_fitOf_25 rfl (lv_at hl 2 rfl) ?_
        refine lv_iconst (v := (1 : Int32)) hx hb dX5_fitOf_26 (by decide) ?_
        refine lv_icmp_ne (tgt := 37) hx hb dX5_fitOf_27 (by decide) (fun c8 => ?_) (fun c8 => ?_)
        · have hF := F_neg c8 hF
          refine lv_aload_n hx hb dX5_fitOf_37 rfl (lv_at hl 0 rfl) ?_
          refine wg_misfitNode (v := .int (g_Model_misfitNode u5)) hx hb hts hinX5 hown hK hP rfl (hts (Cond.fieldLink RX5 216 "LearnedShapesModel" "misfitNode" "I") (List.mem_of_getElem? (i := 3) rfl)) dX5_fitOf_38 ?_
          have e50 := Option.some.inj hF
          obtain ⟨e60, e51⟩ := Prod.mk.inj e50
          subst e60
          subst e51
          exact W.iret (v := (g_Model_misfitNode u5)) hx hb hr (fun t ht hW => ⟨⟨(g_Model_misfitNode u5), u5, rfl, ⟨rfl, rfl⟩, by rw [ht]; exact hP, va_K.moved hW.alike hK, hD⟩, hS.F ht⟩) hS.2.2 dX5_fitOf_41
        · have hF := F_pos c8 hF
          refine lv_aload_n hx hb dX5_fitOf_30 rfl (lv_at hl 0 rfl) ?_
          refine wg_misfitAt (v := .int (g_Model_misfitAt u5)) hx hb hts hinX5 hown hK hP rfl (hts (Cond.fieldLink RX5 213 "LearnedShapesModel" "misfitAt" "I") (List.mem_of_getElem? (i := 2) rfl)) dX5_fitOf_31 ?_
          refine lv_goto (tgt := 41) hx hb dX5_fitOf_34 (by decide) ?_
          have e50 := Option.some.inj hF
          obtain ⟨e60, e51⟩ := Prod.mk.inj e50
          subst e60
          subst e51
          exact W.iret (v := (g_Model_misfitAt u5)) hx hb hr (fun t ht hW => ⟨⟨(g_Model_misfitAt u5), u5, rfl, ⟨rfl, rfl⟩, by rw [ht]; exact hP, va_K.moved hW.alike hK, hD⟩, hS.F ht⟩) hS.2.2 dX5_fitOf_41
      · have hF := F_pos c7 hF
        refine lv_aload_n hx hb dX5_fitOf_18 rfl (lv_at hl 0 rfl) ?_
        refine wg_misfit (v := .int (g_Model_misfit u5)) hx hb hts hinX5 hown hK hP rfl (hts (Cond.fieldLink RX5 210 "LearnedShapesModel" "misfit" "I") (List.mem_of_getElem? (i := 1) rfl)) dX5_fitOf_19 ?_
        refine lv_goto (tgt := 41) hx hb dX5_fitOf_22 (by decide) ?_
        have e50 := Option.some.inj hF
        obtain ⟨e60, e51⟩ := Prod.mk.inj e50
        subst e60
        subst e51
        exact W.iret (v := (g_Model_misfit u5)) hx hb hr (fun t ht hW => ⟨⟨(g_Model_misfit u5), u5, rfl, ⟨rfl, rfl⟩, by rw [ht]; exact hP, va_K.moved hW.alike hK, hD⟩, hS.F ht⟩) hS.2.2 dX5_fitOf_41
    · have hF := F_pos c4 hF
      refine lv_iconst (v := (-1 : Int32)) hx hb dX5_fitOf_7 (by decide) ?_
      have e50 := Option.some.inj hF
      obtain ⟨e60, e51⟩ := Prod.mk.inj e50
      subst e60
      subst e51
      exact W.iret (v := (-1 : Int32)) hx hb hr (fun t ht hW => ⟨⟨(-1 : Int32), u2, rfl, ⟨rfl, rfl⟩, by rw [ht]; exact hP, va_K.moved hW.alike hK, hD⟩, hS.F ht⟩) hS.2.2 dX5_fitOf_8
  exact KE _ _ hP hD hS
set_option maxHeartbeats 4000000 in
set_option maxRecDepth 100000 in
theorem c_X5_fits (l : Launch) (dC : Nat → ClassId) (dI : Nat → Nat → Nat) (cI : ClassId) (a : Nat → Nat) (sz : Nat) (S : S_Model) (v1 : Int32) (v2 : Int32) (rr : Int32) (Y : S_Model) (hF : F_X5_fits S v1 v2 = some (rr, Y)) : Met l yX5_fits wsX5_fits ({ frames := 8, cells := 0, slots := 0, locals := 177 } : Room) (va_Pc [.ref (a 0), .int v1, .int v2] (jPre (dC, dI) [(cI, .int)] sz ((W_Model cI a S)))) (va_Qi (fun (r' : Int32) (u : S_Model) => rr = r' ∧ Y = u) (fun u : S_Model => jB (dC, dI) [(cI, .int)] (va_A ((W_Model cI a S)) sz) ((W_Model cI a u))) (va_A ((W_Model cI a S)) sz)) 0 0 (va_A ((W_Model cI a S)) sz) := by
  refine Met.ofW (cc := cX5_fits) (maxL := 3) (ret := (some .int)) (by decide) rfl ?_
  intro p e s m args below meth c s₁ B hml hv
  obtain ⟨rfl, hsz, hP, hK, hD0, hN⟩ := hv
  have hx := B.exec
  have hb := B.bytes
  have hr := B.returns
  have hts := atoms_spec (ws := wsX5_fits) B.pre
  have hown : s.vm.findClass RX5 = some m.cls := findClass_of_methodNamed B.named
  have hlocks := B.notSynchronized
  have hinX5 : ∀ w ∈ u_ws RX5 TX5 26, w ∈ wsX5_fits := by decide +kernel
  subst hsz
  have hD := hD0.self (sz := s.heap.size)
  generalize hAe : (va_A ((W_Model cI a S)) s.heap.size) = A at hD ⊢
  have hA : ∀ q : Nat, s.heap.size ≤ q → A q := fun q h => by rw [← hAe]; exact Or.inr h
  have hS : va_S A s.heap s.heap [] := va_S.rf
  have hl := lv_entry ([.ref (a 0), .int v1, .int v2]) (n := 3) (Nat.le_of_ble_eq_true rfl)
  rw [lg_entry_eq]
  generalize (lg_sl ([.ref (a 0), .int v1, .int v2]) ++ List.replicate (3 - (lg_sl ([.ref (a 0), .int v1, .int v2])).length) Slot.unset).toArray = ls at hl ⊢
  have hl : lv_has ls 3 [(0, .ref (a 0)), (1, .int v1), (2, .int v2)] := hl
  have KE : ∀ (H : Heap) (locs : List Loc), va_P (dC, dI) vwCl ((W_Model cI a S)) H → va_D A ((W_Model cI a S)) → va_S A s.heap H locs → W p l e (headSpec wsX5_fits ({ frames := 8, cells := 0, slots := 0, locals := 177 } : Room)).room s m ([.ref (a 0), .int v1, .int v2] : List Value).toArray below meth c H locs 0 0 (MQ below (va_Qi (fun (r' : Int32) (u : S_Model) => rr = r' ∧ Y = u) (fun u : S_Model => jB (dC, dI) [(cI, .int)] A ((W_Model cI a u))) A) ([.ref (a 0), .int v1, .int v2] : List Value).toArray s 0 0 A) (F0 m 0 ls []) := by
    intro H locs hP hD hS
    unfold F_X5_fits at hF
    refine lv_aload_n hx hb dX5_fits_0 rfl (lv_at hl 0 rfl) ?_
    refine lv_iconst (v := (0 : Int32)) hx hb dX5_fits_1 (by decide) ?_
    refine wp_thrown (v := (0 : Int32)) hx hb hts hinX5 hown hK hP hD hS (hts (Cond.fieldLink RX5 49 "LearnedShapesModel" "thrown" "I") (List.mem_of_getElem? (i := 1) rfl)) (rfl) (rfl) dX5_fits_2 (fun H locs hP hD hS => ?_)
    refine lv_iload_n hx hb dX5_fits_5 rfl (lv_at hl 1 rfl) ?_
    obtain ⟨r1, h2, hF⟩ := ob1_some hF
    have hPc : va_P (dC, dI) vwCl ([] : va_W) H := fun k q h => by simp at h
    have hDc : va_D A ([] : va_W) := ⟨fun i j p q h => by simp at h, fun k q h => by simp at h⟩
    have hFc := jFreeW (ws := []) hDc hS hA
    refine va_calli (va_runS (As := [.int v1]) (rest := []) ⟨hx, hb, hml, hown, hts⟩ (c_X5_isShape l dC dI cI  H.size _ _ h2) (va_cwS 1 hts gX5_fits_X5_isShape rfl rfl rfl (by decide +kernel) ⟨Nat.le_of_ble_eq_true rfl, Nat.le_of_ble_eq_true rfl⟩) (jPreS hK hPc hDc hN) rfl rfl hl.1 rfl (lv_room (Nat.le_of_ble_eq_true rfl)) dX5_fits_6 ⟨Nat.le_of_ble_eq_true rfl, Nat.le_of_ble_eq_true rfl⟩) hS (fun q _ h => hFc q h) hFc (fun r' u' t H locs ht hvm hw hB hz1 hk1 hS => ?_)
    subst hw
    obtain ⟨hP1, -, hD1⟩ := hB
    rw [ht] at hP1
    have hP : va_P (dC, dI) vwCl ((W_Model cI a (s_Model_thrown S (0 : Int32)))) H := jNone hP hk1
    refine lv_if_ne (tgt := 18) hx hb dX5_fits_9 (by decide) (fun c3 => ?_) (fun c3 => ?_)
    · have hF := F_neg c3 hF
      refine lv_iload_n hx hb dX5_fits_18 rfl (lv_at hl 2 rfl) ?_
      refine lv_iconst (v := (0 : Int32)) hx hb dX5_fits_19 (by decide) ?_
      refine lv_iconst (v := (2 : Int32)) hx hb dX5_fits_20 (by decide) ?_
      obtain ⟨r4, h5, hF⟩ := ob1_some hF
      have hPc : va_P (dC, dI) vwCl ([] : va_W) H := fun k q h => by simp at h
      have hDc : va_D A ([] : va_W) := ⟨fun i j p q h => by simp at h, fun k q h => by simp at h⟩
      have hFc := jFreeW (ws := []) hDc hS hA
      refine va_calli (va_runS (As := [.int v2, .int (0 : Int32), .int (2 : Int32)]) (rest := []) ⟨hx, hb, hml, hown, hts⟩ (c_X5_in l dC dI cI  H.size _ _ _ _ h5) (va_cwS 3 hts gX5_fits_X5_in rfl rfl rfl (by decide +kernel) ⟨Nat.le_of_ble_eq_true rfl, Nat.le_of_ble_eq_true rfl⟩) (jPreS hK hPc hDc hN) rfl rfl hl.1 rfl (lv_room (Nat.le_of_ble_eq_true rfl)) dX5_fits_21 ⟨Nat.le_of_ble_eq_true rfl, Nat.le_of_ble_eq_true rfl⟩) hS (fun q _ h => hFc q h) hFc (fun r' u' t H locs ht hvm hw hB hz1 hk1 hS => ?_)
      subst hw
      obtain ⟨hP1, -, hD1⟩ := hB
      rw [ht] at hP1
      have hP : va_P (dC, dI) vwCl ((W_Model cI a (s_Model_thrown S (0 : Int32)))) H := jNone hP hk1
      refine lv_if_eq (tgt := 36) hx hb dX5_fits_24 (by decide) (fun c6 => ?_) (fun c6 => ?_)
      · have hF := F_pos c6 hF
        refine lv_aload_n hx hb dX5_fits_36 rfl (lv_at hl 0 rfl) ?_
        refine lv_iconst (v := (2 : Int32)) hx hb dX5_fits_37 (by decide) ?_
        obtain ⟨r7, u8, h9, hF⟩ := ob2_some hF
        have hPc : va_P (dC, dI) vwCl ((W_Model cI a (s_Model_thrown S (0 : Int32)))) H := hP
        have hDc : va_D A ((W_Model cI a (s_Model_thrown S (0 : Int32)))) := hD
        have hFc := jFreeW (ws := (W_Model cI a (s_Model_thrown S (0 : Int32)))) hD hS hA
        refine va_calli (va_runV (As := [.int (2 : Int32)]) (rest := []) ⟨hx, hb, hml, hown, hts⟩ (c_X5_fails l dC dI cI a H.size _ _ _ _ h9) (cwV 1 hts gX5_fits_X5_fails rfl rfl rfl (by decide +kernel) ⟨Nat.le_of_ble_eq_true rfl, Nat.le_of_ble_eq_true rfl⟩) (jPreV hK hPc hDc hN (ci := 5) rfl rfl) rfl rfl hl.1 rfl (lv_room (Nat.le_of_ble_eq_true rfl)) dX5_fits_38 ⟨Nat.le_of_ble_eq_true rfl, Nat.le_of_ble_eq_true rfl⟩) hS (fun q _ h => hFc q h) hFc (fun r' u' t H locs ht hvm hw hB hz1 hk1 hS => ?_)
        obtain ⟨e1, e2⟩ := hw
        subst e1
        subst e2
        obtain ⟨hP1, -, hD1⟩ := hB
        rw [ht] at hP1
        have hP : va_P (dC, dI) vwCl ((W_Model cI a u8)) H := hP1
        have hD : va_D A ((W_Model cI a u8)) := hD1.weaken (fun _ _ _ h => hFc _ h)
        have e50 := Option.some.inj hF
        obtain ⟨e60, e51⟩ := Prod.mk.inj e50
        subst e60
        subst e51
        exact W.iret (v := r7) hx hb hr (fun t ht hW => ⟨⟨r7, u8, rfl, ⟨rfl, rfl⟩, by rw [ht]; exact hP, va_K.moved hW.alike hK, hD⟩, hS.F ht⟩) hS.2.2 dX5_fits_41
      · have hF := F_neg c6 hF
        refine lv_aload_n hx hb dX5_fits_27 rfl (lv_at hl 0 rfl) ?_
        refine lv_iload_n hx hb dX5_fits_28 rfl (lv_at hl 1 rfl) ?_
        refine lv_iload_n hx hb dX5_fits_29 rfl (lv_at hl 2 rfl) ?_
        obtain ⟨r10, u11, h12, hF⟩ := ob2_some hF
        have hPc : va_P (dC, dI) vwCl ((W_Model cI a (s_Model_thrown S (0 : Int32)))) H := hP
        have hDc : va_D A ((W_Model cI a (s_Model_thrown S (0 : Int32)))) := hD
        have hFc := jFreeW (ws := (W_Model cI a (s_Model_thrown S (0 : Int32)))) hD hS hA
        refine va_calli (va_runV (As := [.int v1, .int v2]) (rest := []) ⟨hx, hb, hml, hown, hts⟩ (c_X5_fitOf l dC dI cI a H.size _ _ _ _ _ h12) (cwV 2 hts gX5_fits_X5_fitOf rfl rfl rfl (by decide +kernel) ⟨Nat.le_of_ble_eq_true rfl, Nat.le_of_ble_eq_true rfl⟩) (jPreV hK hPc hDc hN (ci := 5) rfl rfl) rfl rfl hl.1 rfl (lv_room (Nat.le_of_ble_eq_true rfl)) dX5_fits_30 ⟨Nat.le_of_ble_eq_true rfl, Nat.le_of_ble_eq_true rfl⟩) hS (fun q _ h => hFc q h) hFc (fun r' u' t H locs ht hvm hw hB hz1 hk1 hS => ?_)
        obtain ⟨e1, e2⟩ := hw
        subst e1
        subst e2
        obtain ⟨hP1, -, hD1⟩ := hB
        rw [ht] at hP1
        have hP : va_P (dC, dI) vwCl ((W_Model cI a u11)) H := hP1
        have hD : va_D A ((W_Model cI a u11)) := hD1.weaken (fun _ _ _ h => hFc _ h)
        refine lv_goto (tgt := 41) hx hb dX5_fits_33 (by decide) ?_
        have e50 := Option.some.inj hF
        obtain ⟨e60, e51⟩ := Prod.mk.inj e50
        subst e60
        subst e51
        exact W.iret (v := r10) hx hb hr (fun t ht hW => ⟨⟨r10, u11, rfl, ⟨rfl, rfl⟩, by rw [ht]; exact hP, va_K.moved hW.alike hK, hD⟩, hS.F ht⟩) hS.2.2 dX5_fits_41
    · have hF := F_pos c3 hF
      refine lv_aload_n hx hb dX5_fits_12 rfl (lv_at hl 0 rfl) ?_
      refine lv_iconst (v := (1 : Int32)) hx hb dX5_fits_13 (by decide) ?_
      obtain ⟨r13, u14, h15, hF⟩ := ob2_some hF
      have hPc : va_P (dC, dI) vwCl ((W_Model cI a (s_Model_thrown S (0 : Int32)))) H := hP
      have hDc : va_D A ((W_Model cI a (s_Model_thrown S (0 : Int32)))) := hD
      have hFc := jFreeW (ws := (W_Model cI a (s_Model_thrown S (0 : Int32)))) hD hS hA
      refine va_calli (va_runV (As := [.int (1 : Int32)]) (rest := []) ⟨hx, hb, hml, hown, hts⟩ (c_X5_fails l dC dI cI a H.size _ _ _ _ h15) (cwV 1 hts gX5_fits_X5_fails rfl rfl rfl (by decide +kernel) ⟨Nat.le_of_ble_eq_true rfl, Nat.le_of_ble_eq_true rfl⟩) (jPreV hK hPc hDc hN (ci := 5) rfl rfl) rfl rfl hl.1 rfl (lv_room (Nat.le_of_ble_eq_true rfl)) dX5_fits_14 ⟨Nat.le_of_ble_eq_true rfl, Nat.le_of_ble_eq_true rfl⟩) hS (fun q _ h => hFc q h) hFc (fun r' u' t H locs ht hvm hw hB hz1 hk1 hS => ?_)
      obtain ⟨e1, e2⟩ := hw
      subst e1
      subst e2
      obtain ⟨hP1, -, hD1⟩ := hB
      rw [ht] at hP1
      have hP : va_P (dC, dI) vwCl ((W_Model cI a u14)) H := hP1
      have hD : va_D A ((W_Model cI a u14)) := hD1.weaken (fun _ _ _ h => hFc _ h)
      have e50 := Option.some.inj hF
      obtain ⟨e60, e51⟩ := Prod.mk.inj e50
      subst e60
      subst e51
      exact W.iret (v := r13) hx hb hr (fun t ht hW => ⟨⟨r13, u14, rfl, ⟨rfl, rfl⟩, by rw [ht]; exact hP, va_K.moved hW.alike hK, hD⟩, hS.F ht⟩) hS.2.2 dX5_fits_17
  exact KE _ _ hP hD hS
