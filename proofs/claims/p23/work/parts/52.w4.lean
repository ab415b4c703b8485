set_option maxHeartbeats 4000000 in
set_option maxRecDepth 100000 in
theorem c_X4_stateNumber (l : Launch) (dC : Nat → ClassId) (dI : Nat → Nat → Nat) (cI : ClassId) (a : Nat → Nat) (sz : Nat) (S : S_LS) (v1 : Int32) (rr : Int32) (hF : F_X4_stateNumber S v1 = some rr) : Met l yX4_stateNumber wsX4_stateNumber ({ frames := 0, cells := 0, slots := 0, locals := 0 } : Room) (va_Pc [.ref (a 0), .int v1] (jPre (dC, dI) [(cI, .int)] sz ((W_LS cI a S)))) (va_Qi (fun (r' : Int32) (_ : Unit) => rr = r') (fun _ : Unit => jB (dC, dI) [(cI, .int)] (va_A ((W_LS cI a S)) sz) ((W_LS cI a S))) (va_A ((W_LS cI a S)) sz)) 0 0 (va_A ((W_LS cI a S)) sz) := by
  refine Met.ofW (cc := cX4_stateNumber) (maxL := 2) (ret := (some .int)) (by decide) rfl ?_
  intro p e s m args below meth c s₁ B hml hv
  obtain ⟨rfl, hsz, hP, hK, hD0, hN⟩ := hv
  have hx := B.exec
  have hb := B.bytes
  have hr := B.returns
  have hts := atoms_spec (ws := wsX4_stateNumber) B.pre
  have hown : s.vm.findClass RX4 = some m.cls := findClass_of_methodNamed B.named
  have hlocks := B.notSynchronized
  have hinX2 : ∀ w ∈ u_ws RX2 TX2 3, w ∈ wsX4_stateNumber := by decide +kernel
  have hinX4 : ∀ w ∈ u_ws RX4 TX4 8, w ∈ wsX4_stateNumber := by decide +kernel
  subst hsz
  have hD := hD0.self (sz := s.heap.size)
  generalize hAe : (va_A ((W_LS cI a S)) s.heap.size) = A at hD ⊢
  have hA : ∀ q : Nat, s.heap.size ≤ q → A q := fun q h => by rw [← hAe]; exact Or.inr h
  have hS : va_S A s.heap s.heap [] := va_S.rf
  have hl := lv_entry ([.ref (a 0), .int v1]) (n := 2) (Nat.le_of_ble_eq_true rfl)
  rw [lg_entry_eq]
  generalize (lg_sl ([.ref (a 0), .int v1]) ++ List.replicate (2 - (lg_sl ([.ref (a 0), .int v1])).length) Slot.unset).toArray = ls at hl ⊢
  have hl : lv_has ls 2 [(0, .ref (a 0)), (1, .int v1)] := hl
  have KE : ∀ (H : Heap) (locs : List Loc), va_P (dC, dI) vwCl ((W_LS cI a S)) H → va_D A ((W_LS cI a S)) → va_S A s.heap H locs → W p l e (headSpec wsX4_stateNumber ({ frames := 0, cells := 0, slots := 0, locals := 0 } : Room)).room s m ([.ref (a 0), .int v1] : List Value).toArray below meth c H locs 0 0 (MQ below (va_Qi (fun (r' : Int32) (_ : Unit) => rr = r') (fun _ : Unit => jB (dC, dI) [(cI, .int)] A ((W_LS cI a S))) A) ([.ref (a 0), .int v1] : List Value).toArray s 0 0 A) (F0 m 0 ls []) := by
    intro H locs hP hD hS
    unfold F_X4_stateNumber at hF
    refine lv_iload_n hx hb dX4_stateNumber_0 rfl (lv_at hl 1 rfl) ?_
    refine lv_if_ne (tgt := 14) hx hb dX4_stateNumber_1 (by decide) (fun c1 => ?_) (fun c1 => ?_)
    · have hF := F_neg c1 hF
      refine lv_iload_n hx hb dX4_stateNumber_14 rfl (lv_at hl 1 rfl) ?_
      refine lv_iconst (v := (1 : Int32)) hx hb dX4_stateNumber_15 (by decide) ?_
      refine lv_icmp_ne (tgt := 26) hx hb dX4_stateNumber_16 (by decide) (fun c2 => ?_) (fun c2 => ?_)
      · have hF := F_neg c2 hF
        refine lv_aload_n hx hb dX4_stateNumber_26 rfl (lv_at hl 0 rfl) ?_
        refine va_get (D := (dC, dI)) (ci := 4) (v := .int (g_LS_savedStates S)) (C := RX4) (T := TX4) (N := 8) hx hb hts hinX4 hown hK hP 0 rfl rfl 5 (by decide) (hts (Cond.fieldLink RX4 125 "LearnedShapes" "savedStates" "I") (List.mem_of_getElem? (i := 4) rfl)) (fun _ h9 => h9) rfl dX4_stateNumber_27 ?_
        have e50 := Option.some.inj hF
        subst e50
        exact W.iret (v := (g_LS_savedStates S)) hx hb hr (fun t ht hW => ⟨⟨(g_LS_savedStates S), (), rfl, rfl, by rw [ht]; exact hP, va_K.moved hW.alike hK, hD⟩, hS.F ht⟩) hS.2.2 dX4_stateNumber_30
      · have hF := F_pos c2 hF
        refine lv_aload_n hx hb dX4_stateNumber_19 rfl (lv_at hl 0 rfl) ?_
        refine va_get (D := (dC, dI)) (ci := 4) (v := .int (g_LS_length S)) (C := RX4) (T := TX4) (N := 8) hx hb hts hinX4 hown hK hP 0 rfl rfl 1 (by decide) (hts (Cond.fieldLink RX4 56 "LearnedShapes" "length" "I") (List.mem_of_getElem? (i := 3) rfl)) (fun _ h9 => h9) rfl dX4_stateNumber_20 ?_
        refine lv_goto (tgt := 30) hx hb dX4_stateNumber_23 (by decide) ?_
        have e50 := Option.some.inj hF
        subst e50
        exact W.iret (v := (g_LS_length S)) hx hb hr (fun t ht hW => ⟨⟨(g_LS_length S), (), rfl, rfl, by rw [ht]; exact hP, va_K.moved hW.alike hK, hD⟩, hS.F ht⟩) hS.2.2 dX4_stateNumber_30
    · have hF := F_pos c1 hF
      refine lv_aload_n hx hb dX4_stateNumber_4 rfl (lv_at hl 0 rfl) ?_
      refine va_get (D := (dC, dI)) (ci := 4) (v := .ref (a 5)) (C := RX4) (T := TX4) (N := 8) hx hb hts hinX4 hown hK hP 0 rfl rfl 3 (by decide) (hts (Cond.fieldLink RX4 23 "LearnedShapes" "now" "LLearnedShapes$State;") (List.mem_of_getElem? (i := 1) rfl)) (fun _ h9 => h9) rfl dX4_stateNumber_5 ?_
      refine va_get (D := (dC, dI)) (ci := 2) (v := .int (g_State_setting (g_LS_now S))) (C := RX2) (T := TX2) (N := 3) hx hb hts hinX2 hown hK hP 5 rfl rfl 2 (by decide) (hts (Cond.fieldLink RX4 115 "LearnedShapes$State" "setting" "I") (List.mem_of_getElem? (i := 2) rfl)) (fun _ h9 => h9) rfl dX4_stateNumber_8 ?_
      refine lv_goto (tgt := 30) hx hb dX4_stateNumber_11 (by decide) ?_
      have e50 := Option.some.inj hF
      subst e50
      exact W.iret (v := (g_State_setting (g_LS_now S))) hx hb hr (fun t ht hW => ⟨⟨(g_State_setting (g_LS_now S)), (), rfl, rfl, by rw [ht]; exact hP, va_K.moved hW.alike hK, hD⟩, hS.F ht⟩) hS.2.2 dX4_stateNumber_30
  exact KE _ _ hP hD hS
set_option maxHeartbeats 4000000 in
set_option maxRecDepth 100000 in
theorem c_X4_joinKinds (l : Launch) (dC : Nat → ClassId) (dI : Nat → Nat → Nat) (cI : ClassId) (sz : Nat)  (v1 : Int32) (v2 : Int32) (rr : Int32) (hF : F_X4_joinKinds  v1 v2 = some rr) : Met l yX4_joinKinds wsX4_joinKinds ({ frames := 0, cells := 0, slots := 0, locals := 0 } : Room) (va_Pc [.int v1, .int v2] (jPre (dC, dI) [(cI, .int)] sz (([] : va_W)))) (va_Qi (fun (r' : Int32) (_ : Unit) => rr = r') (fun _ : Unit => jB (dC, dI) [(cI, .int)] (va_A (([] : va_W)) sz) (([] : va_W))) (va_A (([] : va_W)) sz)) 0 0 (va_A (([] : va_W)) sz) := by
  refine Met.ofW (cc := cX4_joinKinds) (maxL := 2) (ret := (some .int)) (by decide) rfl ?_
  intro p e s m args below meth c s₁ B hml hv
  obtain ⟨rfl, hsz, hP, hK, hD0, hN⟩ := hv
  have hx := B.exec
  have hb := B.bytes
  have hr := B.returns
  have hts := atoms_spec (ws := wsX4_joinKinds) B.pre
  have hown : s.vm.findClass RX4 = some m.cls := findClass_of_methodNamed B.named
  have hlocks := B.notSynchronized
  subst hsz
  have hD := hD0.self (sz := s.heap.size)
  generalize hAe : (va_A (([] : va_W)) s.heap.size) = A at hD ⊢
  have hA : ∀ q : Nat, s.heap.size ≤ q → A q := fun q h => by rw [← hAe]; exact Or.inr h
  have hS : va_S A s.heap s.heap [] := va_S.rf
  have hl := lv_entry ([.int v1, .int v2]) (n := 2) (Nat.le_of_ble_eq_true rfl)
  rw [lg_entry_eq]
  generalize (lg_sl ([.int v1, .int v2]) ++ List.replicate (2 - (lg_sl ([.int v1, .int v2])).length) Slot.unset).toArray = ls at hl ⊢
  have hl : lv_has ls 2 [(0, .int v1), (1, .int v2)] := hl
  have KE : ∀ (H : Heap) (locs : List Loc), va_P (dC, dI) vwCl (([] : va_W)) H → va_D A (([] : va_W)) → va_S A s.heap H locs → W p l e (headSpec wsX4_joinKinds ({ frames := 0, cells := 0, slots := 0, locals := 0 } : Room)).room s m ([.int v1, .int v2] : List Value).toArray below meth c H locs 0 0 (MQ below (va_Qi (fun (r' : Int32) (_ : Unit) => rr = r') (fun _ : Unit => jB (dC, dI) [(cI, .int)] A (([] : va_W))) A) ([.int v1, .int v2] : List Value).toArray s 0 0 A) (F0 m 0 ls []) := by
    intro H locs hP hD hS
    unfold F_X4_joinKinds at hF
    refine lv_iload_n hx hb dX4_joinKinds_0 rfl (lv_at hl 0 rfl) ?_
    refine lv_iload_n hx hb dX4_joinKinds_1 rfl (lv_at hl 1 rfl) ?_
    refine lv_icmp_eq (tgt := 9) hx hb dX4_joinKinds_2 (by decide) (fun c1 => ?_) (fun c1 => ?_)
    · have hF := F_pos c1 hF
      refine lv_iload_n hx hb dX4_joinKinds_9 rfl (lv_at hl 0 rfl) ?_
      have e50 := Option.some.inj hF
      subst e50
      exact W.iret (v := v1) hx hb hr (fun t ht hW => ⟨⟨v1, (), rfl, rfl, by rw [ht]; exact hP, va_K.moved hW.alike hK, hD⟩, hS.F ht⟩) hS.2.2 dX4_joinKinds_10
    · have hF := F_neg c1 hF
      refine lv_iload_n hx hb dX4_joinKinds_5 rfl (lv_at hl 1 rfl) ?_
      refine lv_if_ne (tgt := 11) hx hb dX4_joinKinds_6 (by decide) (fun c2 => ?_) (fun c2 => ?_)
      · have hF := F_neg c2 hF
        refine lv_iload_n hx hb dX4_joinKinds_11 rfl (lv_at hl 0 rfl) ?_
        refine lv_if_ne (tgt := 17) hx hb dX4_joinKinds_12 (by decide) (fun c3 => ?_) (fun c3 => ?_)
        · have hF := F_neg c3 hF
          refine lv_iload_n hx hb dX4_joinKinds_17 rfl (lv_at hl 0 rfl) ?_
          refine lv_iconst (v := (4 : Int32)) hx hb dX4_joinKinds_18 (by decide) ?_
          refine lv_icmp_gt (tgt := 27) hx hb dX4_joinKinds_19 (by decide) (fun c4 => ?_) (fun c4 => ?_)
          · have hF := F_pos c4 hF
            refine lv_bipush (v := (7 : Int32)) hx hb dX4_joinKinds_27 (by decide) ?_
            have e50 := Option.some.inj hF
            subst e50
            exact W.iret (v := (7 : Int32)) hx hb hr (fun t ht hW => ⟨⟨(7 : Int32), (), rfl, rfl, by rw [ht]; exact hP, va_K.moved hW.alike hK, hD⟩, hS.F ht⟩) hS.2.2 dX4_joinKinds_29
          · have hF := F_neg c4 hF
            refine lv_iload_n hx hb dX4_joinKinds_22 rfl (lv_at hl 1 rfl) ?_
            refine lv_iconst (v := (4 : Int32)) hx hb dX4_joinKinds_23 (by decide) ?_
            refine lv_icmp_le (tgt := 30) hx hb dX4_joinKinds_24 (by decide) (fun c5 => ?_) (fun c5 => ?_)
            · have hF := F_pos c5 hF
              refine lv_iload_n hx hb dX4_joinKinds_30 rfl (lv_at hl 0 rfl) ?_
              refine lv_iconst (v := (1 : Int32)) hx hb dX4_joinKinds_31 (by decide) ?_
              refine lv_icmp_eq (tgt := 50) hx hb dX4_joinKinds_32 (by decide) (fun c6 => ?_) (fun c6 => ?_)
              · have hF := F_pos c6 hF
                refine lv_iconst (v := (4 : Int32)) hx hb dX4_joinKinds_50 (by decide) ?_
                refine lv_goto (tgt := 55) hx hb dX4_joinKinds_51 (by decide) ?_
                have e50 := Option.some.inj hF
                subst e50
                exact W.iret (v := (4 : Int32)) hx hb hr (fun t ht hW => ⟨⟨(4 : Int32), (), rfl, rfl, by rw [ht]; exact hP, va_K.moved hW.alike hK, hD⟩, hS.F ht⟩) hS.2.2 dX4_joinKinds_55
              · have hF := F_neg c6 hF
                refine lv_iload_n hx hb dX4_joinKinds_35 rfl (lv_at hl 1 rfl) ?_
                refine lv_iconst (v := (1 : Int32)) hx hb dX4_joinKinds_36 (by decide) ?_
                refine lv_icmp_eq (tgt := 50) hx hb dX4_joinKinds_37 (by decide) (fun c7 => ?_) (fun c7 => ?_)
                · have hF := F_pos c7 hF
                  refine lv_iconst (v := (4 : Int32)) hx hb dX4_joinKinds_50 (by decide) ?_
                  refine lv_goto (tgt := 55) hx hb dX4_joinKinds_51 (by decide) ?_
                  have e50 := Option.some.inj hF
                  subst e50
                  exact W.iret (v := (4 : Int32)) hx hb hr (fun t ht hW => ⟨⟨(4 : Int32), (), rfl, rfl, by rw [ht]; exact hP, va_K.moved hW.alike hK, hD⟩, hS.F ht⟩) hS.2.2 dX4_joinKinds_55
                · have hF := F_neg c7 hF
                  refine lv_iload_n hx hb dX4_joinKinds_40 rfl (lv_at hl 0 rfl) ?_
                  refine lv_iconst (v := (4 : Int32)) hx hb dX4_joinKinds_41 (by decide) ?_
                  refine lv_icmp_eq (tgt := 50) hx hb dX4_joinKinds_42 (by decide) (fun c8 => ?_) (fun c8 => ?_)
                  · have hF := F_pos c8 hF
                    refine lv_iconst (v := (4 : Int32)) hx hb dX4_joinKinds_50 (by decide) ?_
                    refine lv_goto (tgt := 55) hx hb dX4_joinKinds_51 (by decide) ?_
                    have e50 := Option.some.inj hF
                    subst e50
                    exact W.iret (v := (4 : Int32)) hx hb hr (fun t ht hW => ⟨⟨(4 : Int32), (), rfl, rfl, by rw [ht]; exact hP, va_K.moved hW.alike hK, hD⟩, hS.F ht⟩) hS.2.2 dX4_joinKinds_55
                  · have hF := F_neg c8 hF
                    refine lv_iload_n hx hb dX4_joinKinds_45 rfl (lv_at hl 1 rfl) ?_
                    refine lv_iconst (v := (4 : Int32)) hx hb dX4_joinKinds_46 (by decide) ?_
                    refine lv_icmp_ne (tgt := 54) hx hb dX4_joinKinds_47 (by decide) (fun c9 => ?_) (fun c9 => ?_)
                    · have hF := F_neg c9 hF
                      refine lv_iconst (v := (3 : Int32)) hx hb dX4_joinKinds_54 (by decide) ?_
                      have e50 := Option.some.inj hF
                      subst e50
                      exact W.iret (v := (3 : Int32)) hx hb hr (fun t ht hW => ⟨⟨(3 : Int32), (), rfl, rfl, by rw [ht]; exact hP, va_K.moved hW.alike hK, hD⟩, hS.F ht⟩) hS.2.2 dX4_joinKinds_55
                    · have hF := F_pos c9 hF
                      refine lv_iconst (v := (4 : Int32)) hx hb dX4_joinKinds_50 (by decide) ?_
                      refine lv_goto (tgt := 55) hx hb dX4_joinKinds_51 (by decide) ?_
                      have e50 := Option.some.inj hF
                      subst e50
                      exact W.iret (v := (4 : Int32)) hx hb hr (fun t ht hW => ⟨⟨(4 : Int32), (), rfl, rfl, by rw [ht]; exact hP, va_K.moved hW.alike hK, hD⟩, hS.F ht⟩) hS.2.2 dX4_joinKinds_55
            · have hF := F_neg c5 hF
              refine lv_bipush (v := (7 : Int32)) hx hb dX4_joinKinds_27 (by decide) ?_
              have e50 := Option.some.inj hF
              subst e50
              exact W.iret (v := (7 : Int32)) hx hb hr (fun t ht hW => ⟨⟨(7 : Int32), (), rfl, rfl, by rw [ht]; exact hP, va_K.moved hW.alike hK, hD⟩, hS.F ht⟩) hS.2.2 dX4_joinKinds_29
        · have hF := F_pos c3 hF
          refine lv_iload_n hx hb dX4_joinKinds_15 rfl (lv_at hl 1 rfl) ?_
          have e50 := Option.some.inj hF
          subst e50
          exact W.iret (v := v2) hx hb hr (fun t ht hW => ⟨⟨v2, (), rfl, rfl, by rw [ht]; exact hP, va_K.moved hW.alike hK, hD⟩, hS.F ht⟩) hS.2.2 dX4_joinKinds_16
      · have hF := F_pos c2 hF
        refine lv_iload_n hx hb dX4_joinKinds_9 rfl (lv_at hl 0 rfl) ?_
        have e50 := Option.some.inj hF
        subst e50
        exact W.iret (v := v1) hx hb hr (fun t ht hW => ⟨⟨v1, (), rfl, rfl, by rw [ht]; exact hP, va_K.moved hW.alike hK, hD⟩, hS.F ht⟩) hS.2.2 dX4_joinKinds_10
  exact KE _ _ hP hD hS
set_option maxHeartbeats 4000000 in
set_option maxRecDepth 100000 in
theorem c_X4_joinNodes (l : Launch) (dC : Nat → ClassId) (dI : Nat → Nat → Nat) (cI : ClassId) (a b a2 : Nat → Nat) : ∀ (n : Nat) (sz : Nat) (S : S_Tree) (S1 : S_Tree) (S2 : S_Tree) (v3 : Int32) (v5 : Int32) (v6 : Int32) (Y : S_Tree) (hF : F_X4_joinNodes n S S1 S2 v3 v5 v6 = some Y), Met l yX4_joinNodes wsX4_joinNodes ({ frames := 3 + n, cells := 0, slots := 0, locals := 70 + n * 34 } : Room) (va_Pc [.ref (a 0), .ref (b 0), .int v3, .ref (a2 0), .int v5, .int v6] (jPre (dC, dI) [(cI, .int)] sz ((W_Tree cI a S) ++ (W_Tree cI b S1) ++ (W_Tree cI a2 S2)))) (va_Qv (fun u : S_Tree => Y = u) (fun u : S_Tree => jB (dC, dI) [(cI, .int)] (va_A ((W_Tree cI a S) ++ (W_Tree cI b S1) ++ (W_Tree cI a2 S2)) sz) ((W_Tree cI a u) ++ (W_Tree cI b S1) ++ (W_Tree cI a2 S2))) (va_A ((W_Tree cI a S) ++ (W_Tree cI b S1) ++ (W_Tree cI a2 S2)) sz)) 0 0 (va_A ((W_Tree cI a S) ++ (W_Tree cI b S1) ++ (W_Tree cI a2 S2)) sz) := by
  intro n
  induction n with
  | zero => intro sz S S1 S2 v3 v5 v6 Y hF; exact nomatch hF
  | succ n ihn =>
    intro sz S S1 S2 v3 v5 v6 Y hF
    refine Met.ofW (cc := cX4_joinNodes) (maxL := 15) (ret := none) (by decide) rfl ?_
    intro p e s m args below meth c s₁ B hml hv
    obtain ⟨rfl, hsz, hP, hK, hD0, hN⟩ := hv
    have hx := B.exec
    have hb := B.bytes
    have hr := B.returns
    have hts := atoms_spec (ws := wsX4_joinNodes) B.pre
    have hown : s.vm.findClass RX4 = some m.cls := findClass_of_methodNamed B.named
    have hlocks := B.notSynchronized
    have hinX3 : ∀ w ∈ u_ws RX3 TX3 3, w ∈ wsX4_joinNodes := by decide +kernel
    subst hsz
    have hD := hD0.self (sz := s.heap.size)
    generalize hAe : (va_A ((W_Tree cI a S) ++ (W_Tree cI b S1) ++ (W_Tree cI a2 S2)) s.heap.size) = A at hD ⊢
    have hA : ∀ q : Nat, s.heap.size ≤ q → A q := fun q h => by rw [← hAe]; exact Or.inr h
    have hS : va_S A s.heap s.heap [] := va_S.rf
    have hl := lv_entry ([.ref (a 0), .ref (b 0), .int v3, .ref (a2 0), .int v5, .int v6]) (n := 15) (Nat.le_of_ble_eq_true rfl)
    rw [lg_entry_eq]
    generalize (lg_sl ([.ref (a 0), .ref (b 0), .int v3, .ref (a2 0), .int v5, .int v6]) ++ List.replicate (15 - (lg_sl ([.ref (a 0), .ref (b 0), .int v3, .ref (a2 0), .int v5, .int v6])).length) Slot.unset).toArray = ls at hl ⊢
    have hl : lv_has ls 15 [(0, .ref (a 0)), (1, .ref (b 0)), (2, .int v3), (3, .ref (a2 0)), (4, .int v5), (5, .int v6)] := hl
    have K214 : ∀ (n214 : Nat) (S : S_Tree) (x12 : Int32) (H : Heap) (locs : List Loc), F_X4_joinNodes_214 v3 v5 v6 S1 S2 (F_X4_joinNodes n) n214 S x12 = some Y → va_P (dC, dI) vwCl ((W_Tree cI a S) ++ (W_Tree cI b S1) ++ (W_Tree cI a2 S2)) H → va_D A ((W_Tree cI a S) ++ (W_Tree cI b S1) ++ (W_Tree cI a2 S2)) → va_S A s.heap H locs → ∀ ls : Array Slot, lv_has ls 15 [(0, .ref (a 0)), (1, .ref (b 0)), (2, .int v3), (3, .ref (a2 0)), (4, .int v5), (5, .int v6), (12, .int x12)] → W p l e (headSpec wsX4_joinNodes ({ frames := 3 + (n + 1), cells := 0, slots := 0, locals := 70 + (n + 1) * 34 } : Room)).room s m ([.ref (a 0), .ref (b 0), .int v3, .ref (a2 0), .int v5, .int v6] : List Value).toArray below meth c H locs 0 0 (MQ below (va_Qv (fun u : S_Tree => Y = u) (fun u : S_Tree => jB (dC, dI) [(cI, .int)] A ((W_Tree cI a u) ++ (W_Tree cI b S1) ++ (W_Tree cI a2 S2))) A) ([.ref (a 0), .ref (b 0), .int v3, .ref (a2 0), .int v5, .int v6] : List Value).toArray s 0 0 A) (F0 m 214 ls []) := by
      intro n214
      induction n214 with
      | zero => intro S x12 H locs hF; exact nomatch hF
      | succ n214 ih214 =>
        intro S x12 H locs hF hP hD hS ls hl
        rw [F_X4_joinNodes_214_s] at hF
        refine lv_iload hx hb dX4_joinNodes_214 (lv_at hl 6 rfl) ?_
        refine lv_bipush (v := (8 : Int32)) hx hb dX4_joinNodes_216 (by decide) ?_
        refine lv_icmp_gt (tgt := 272) hx hb dX4_joinNodes_218 (by decide) (fun c1 => ?_) (fun c1 => ?_)
        · have hF := F_pos c1 hF
          have e50 := Option.some.inj hF
          subst e50
          exact W.vret hx hb hr (fun t ht hW => ⟨⟨S, rfl, rfl, by rw [ht]; exact hP, va_K.moved hW.alike hK, hD⟩, hS.F ht⟩) hS.2.2 dX4_joinNodes_272
        · have hF := F_neg c1 hF
          refine lv_aload_n hx hb dX4_joinNodes_221 rfl (lv_at hl 1 rfl) ?_
          refine lv_iload_n hx hb dX4_joinNodes_222 rfl (lv_at hl 2 rfl) ?_
          refine lv_iload hx hb dX4_joinNodes_223 (lv_at hl 6 rfl) ?_
          obtain ⟨r2, h3, hF⟩ := ob1_some hF
          have hPc := hP.sub (ws' := (W_Tree cI b S1)) [2, 3] rfl
          have hDc := hD.sub (ws' := (W_Tree cI b S1)) [2, 3] (by decide) rfl
          have hFc := va_free (wc := (W_Tree cI b S1)) hD hS hA [2, 3] rfl
          refine va_calli (va_runV (As := [.int v3, .int x12]) (rest := []) ⟨hx, hb, hml, hown, hts⟩ (c_X3_findBelow l dC dI cI b H.size _ _ _ _ h3) (cwV 2 hts gX4_joinNodes_X3_findBelow rfl rfl rfl (by decide +kernel) ⟨(by dsimp only [headSpec]; omega), (by dsimp only [headSpec]; omega)⟩) (jPreV hK hPc hDc hN (ci := 3) rfl rfl) rfl rfl hl.1 rfl (lv_room (Nat.le_of_ble_eq_true rfl)) dX4_joinNodes_225 ⟨(by dsimp only [headSpec]; omega), (by dsimp only [headSpec]; omega)⟩) hS (fun q _ h => hFc q h) hFc (fun r' u' t H locs ht hvm hw hB hz1 hk1 hS => ?_)
          subst hw
          obtain ⟨hP1, -, hD1⟩ := hB
          rw [ht] at hP1
          obtain ⟨hP, hD⟩ := jJoin (wc := (W_Tree cI b S1)) (w1 := (W_Tree cI b S1)) (ws' := (W_Tree cI a S) ++ (W_Tree cI b S1) ++ (W_Tree cI a2 S2)) hP hD [2, 3] [0, 1, 4, 5] [0, 1, 4, 5, 2, 3] rfl rfl (by decide) (by decide) hk1 hFc hP1 hD1 (by decide) rfl
          refine lv_istore (lv' := [(13, .int r2), (0, .ref (a 0)), (1, .ref (b 0)), (2, .int v3), (3, .ref (a2 0)), (4, .int v5), (5, .int v6), (12, .int x12)]) hx hb dX4_joinNodes_228 hl (by decide) rfl (fun ls hl => ?_)
          refine lv_aload_n hx hb dX4_joinNodes_230 rfl (lv_at hl 4 rfl) ?_
          refine lv_iload hx hb dX4_joinNodes_231 (lv_at hl 5 rfl) ?_
          refine lv_iload hx hb dX4_joinNodes_233 (lv_at hl 7 rfl) ?_
          obtain ⟨r4, h5, hF⟩ := ob1_some hF
          have hPc := hP.sub (ws' := (W_Tree cI a2 S2)) [4, 5] rfl
          have hDc := hD.sub (ws' := (W_Tree cI a2 S2)) [4, 5] (by decide) rfl
          have hFc := va_free (wc := (W_Tree cI a2 S2)) hD hS hA [4, 5] rfl
          refine va_calli (va_runV (As := [.int v5, .int x12]) (rest := []) ⟨hx, hb, hml, hown, hts⟩ (c_X3_findBelow l dC dI cI a2 H.size _ _ _ _ h5) (cwV 2 hts gX4_joinNodes_X3_findBelow rfl rfl rfl (by decide +kernel) ⟨(by dsimp only [headSpec]; omega), (by dsimp only [headSpec]; omega)⟩) (jPreV hK hPc hDc hN (ci := 3) rfl rfl) rfl rfl hl.1 rfl (lv_room (Nat.le_of_ble_eq_true rfl)) dX4_joinNodes_235 ⟨(by dsimp only [headSpec]; omega), (by dsimp only [headSpec]; omega)⟩) hS (fun q _ h => hFc q h) hFc (fun r' u' t H locs ht hvm hw hB hz1 hk1 hS => ?_)
          subst hw
          obtain ⟨hP1, -, hD1⟩ := hB
          rw [ht] at hP1
          obtain ⟨hP, hD⟩ := jJoin (wc := (W_Tree cI a2 S2)) (w1 := (W_Tree cI a2 S2)) (ws' := (W_Tree cI a S) ++ (W_Tree cI b S1) ++ (W_Tree cI a2 S2)) hP hD [4, 5] [0, 1, 2, 3] [0, 1, 2, 3, 4, 5] rfl rfl (by decide) (by decide) hk1 hFc hP1 hD1 (by decide) rfl
          refine lv_istore (lv' := [(14, .int r4), (13, .int r2), (0, .ref (a 0)), (1, .ref (b 0)), (2, .int v3), (3, .ref (a2 0)), (4, .int v5), (5, .int v6), (12, .int x12)]) hx hb dX4_joinNodes_238 hl (by decide) rfl (fun ls hl => ?_)
          refine lv_iload hx hb dX4_joinNodes_240 (lv_at hl 1 rfl) ?_
          refine lv_iconst (v := (-1 : Int32)) hx hb dX4_joinNodes_242 (by decide) ?_
          refine lv_icmp_ne (tgt := 252) hx hb dX4_joinNodes_243 (by decide) (fun c6 => ?_) (fun c6 => ?_)
          · have hF := F_neg c6 hF
            refine lv_aload_n hx hb dX4_joinNodes_252 rfl (lv_at hl 2 rfl) ?_
            refine lv_aload_n hx hb dX4_joinNodes_253 rfl (lv_at hl 3 rfl) ?_
            refine lv_iload hx hb dX4_joinNodes_254 (lv_at hl 1 rfl) ?_
            refine lv_aload_n hx hb dX4_joinNodes_256 rfl (lv_at hl 5 rfl) ?_
            refine lv_iload hx hb dX4_joinNodes_257 (lv_at hl 0 rfl) ?_
            refine lv_iload hx hb dX4_joinNodes_259 (lv_at hl 7 rfl) ?_
            refine lv_iconst (v := (1 : Int32)) hx hb dX4_joinNodes_261 (by decide) ?_
            refine lv_iadd hx hb dX4_joinNodes_262 ?_
            obtain ⟨u7, h8, hF⟩ := ob1_some hF
            have hPc : va_P (dC, dI) vwCl ((W_Tree cI a S) ++ (W_Tree cI b S1) ++ (W_Tree cI a2 S2)) H := hP
            have hDc : va_D A ((W_Tree cI a S) ++ (W_Tree cI b S1) ++ (W_Tree cI a2 S2)) := hD
            have hFc := jFreeW (ws := (W_Tree cI a S) ++ (W_Tree cI b S1) ++ (W_Tree cI a2 S2)) hD hS hA
            refine va_callv (va_runS (As := [.ref (a 0), .ref (b 0), .int r2, .ref (a2 0), .int r4, .int (v6 + (1 : Int32))]) (rest := []) ⟨hx, hb, hml, hown, hts⟩ (ihn H.size _ _ _ _ _ _ _ h8) (va_cwS 6 hts gX4_joinNodes_X4_joinNodes rfl rfl rfl (by decide +kernel) ⟨(by dsimp only [headSpec]; omega), (by dsimp only [headSpec]; omega)⟩) (jPreS hK hPc hDc hN) rfl rfl hl.1 rfl (lv_room (Nat.le_of_ble_eq_true rfl)) dX4_joinNodes_263 ⟨(by dsimp only [headSpec]; omega), (by dsimp only [headSpec]; omega)⟩) hS (fun q _ h => hFc q h) hFc (fun u' t H locs ht hvm hw hB hz1 hk1 hS => ?_)
            subst hw
            obtain ⟨hP1, -, hD1⟩ := hB
            rw [ht] at hP1
            have hP : va_P (dC, dI) vwCl ((W_Tree cI a u7) ++ (W_Tree cI b S1) ++ (W_Tree cI a2 S2)) H := hP1
            have hD : va_D A ((W_Tree cI a u7) ++ (W_Tree cI b S1) ++ (W_Tree cI a2 S2)) := hD1.weaken (fun _ _ _ h => hFc _ h)
            refine lv_iinc (v := (x12 + (1 : Int32))) (lv' := [(12, .int (x12 + (1 : Int32))), (14, .int r4), (13, .int r2), (0, .ref (a 0)), (1, .ref (b 0)), (2, .int v3), (3, .ref (a2 0)), (4, .int v5), (5, .int v6)]) hx hb dX4_joinNodes_266 hl (k := 8) rfl rfl (by decide) rfl (fun ls hl => ?_)
            refine lv_goto (tgt := 214) hx hb dX4_joinNodes_269 (by decide) ?_
            exact ih214 _ _ _ _ hF hP hD hS _ (lv_sub hl [3, 4, 5, 6, 7, 8, 0] rfl)
          · have hF := F_pos c6 hF
            refine lv_iload hx hb dX4_joinNodes_246 (lv_at hl 0 rfl) ?_
            refine lv_iconst (v := (-1 : Int32)) hx hb dX4_joinNodes_248 (by decide) ?_
            refine lv_icmp_eq (tgt := 266) hx hb dX4_joinNodes_249 (by decide) (fun c9 => ?_) (fun c9 => ?_)
            · have hF := F_pos c9 hF
              refine lv_iinc (v := (x12 + (1 : Int32))) (lv' := [(12, .int (x12 + (1 : Int32))), (14, .int r4), (13, .int r2), (0, .ref (a 0)), (1, .ref (b 0)), (2, .int v3), (3, .ref (a2 0)), (4, .int v5), (5, .int v6)]) hx hb dX4_joinNodes_266 hl (k := 8) rfl rfl (by decide) rfl (fun ls hl => ?_)
              refine lv_goto (tgt := 214) hx hb dX4_joinNodes_269 (by decide) ?_
              exact ih214 _ _ _ _ hF hP hD hS _ (lv_sub hl [3, 4, 5, 6, 7, 8, 0] rfl)
            · have hF := F_neg c9 hF
              refine lv_aload_n hx hb dX4_joinNodes_252 rfl (lv_at hl 2 rfl) ?_
              refine lv_aload_n hx hb dX4_joinNodes_253 rfl (lv_at hl 3 rfl) ?_
              refine lv_iload hx hb dX4_joinNodes_254 (lv_at hl 1 rfl) ?_
              refine lv_aload_n hx hb dX4_joinNodes_256 rfl (lv_at hl 5 rfl) ?_
              refine lv_iload hx hb dX4_joinNodes_257 (lv_at hl 0 rfl) ?_
              refine lv_iload hx hb dX4_joinNodes_259 (lv_at hl 7 rfl) ?_
              refine lv_iconst (v := (1 : Int32)) hx hb dX4_joinNodes_261 (by decide) ?_
              refine lv_iadd hx hb dX4_joinNodes_262 ?_
              obtain ⟨u10, h11, hF⟩ := ob1_some hF
              have hPc : va_P (dC, dI) vwCl ((W_Tree cI a S) ++ (W_Tree cI b S1) ++ (W_Tree cI a2 S2)) H := hP
              have hDc : va_D A ((W_Tree cI a S) ++ (W_Tree cI b S1) ++ (W_Tree cI a2 S2)) := hD
              have hFc := jFreeW (ws := (W_Tree cI a S) ++ (W_Tree cI b S1) ++ (W_Tree cI a2 S2)) hD hS hA
              refine va_callv (va_runS (As := [.ref (a 0), .ref (b 0), .int r2, .ref (a2 0), .int r4, .int (v6 + (1 : Int32))]) (rest := []) ⟨hx, hb, hml, hown, hts⟩ (ihn H.size _ _ _ _ _ _ _ h11) (va_cwS 6 hts gX4_joinNodes_X4_joinNodes rfl rfl rfl (by decide +kernel) ⟨(by dsimp only [headSpec]; omega), (by dsimp only [headSpec]; omega)⟩) (jPreS hK hPc hDc hN) rfl rfl hl.1 rfl (lv_room (Nat.le_of_ble_eq_true rfl)) dX4_joinNodes_263 ⟨(by dsimp only [headSpec]; omega), (by dsimp only [headSpec]; omega)⟩) hS (fun q _ h => hFc q h) hFc (fun u' t H locs ht hvm hw hB hz1 hk1 hS => ?_)
              subst hw
              obtain ⟨hP1, -, hD1⟩ := hB
              rw [ht] at hP1
              have hP : va_P (dC, dI) vwCl ((W_Tree cI a u10) ++ (W_Tree cI b S1) ++ (W_Tree cI a2 S2)) H := hP1
              have hD : va_D A ((W_Tree cI a u10) ++ (W_Tree cI b S1) ++ (W_Tree cI a2 S2)) := hD1.weaken (fun _ _ _ h => hFc _ h)
              refine lv_iinc (v := (x12 + (1 : Int32))) (lv' := [(12, .int (x12 + (1 : Int32))), (14, .int r4), (13, .int r2), (0, .ref (a 0)), (1, .ref (b 0)), (2, .int v3), (3, .ref (a2 0)), (4, .int v5), (5, .int v6)]) hx hb dX4_joinNodes_266 hl (k := 8) rfl rfl (by decide) rfl (fun ls hl => ?_)
              refine lv_goto (tgt := 214) hx hb dX4_joinNodes_269 (by decide) ?_
              exact ih214 _ _ _ _ hF hP hD hS _ (lv_sub hl [3, 4, 5, 6, 7, 8, 0] rfl)
    have K81 : ∀ (S : S_Tree) (x8 : Int32) (x9 : Bool) (t0 : Int32) (H : Heap) (locs : List Loc), F_X4_joinNodes_81 v3 v5 v6 S1 S2 (F_X4_joinNodes n) S x8 x9 t0 = some Y → va_P (dC, dI) vwCl ((W_Tree cI a S) ++ (W_Tree cI b S1) ++ (W_Tree cI a2 S2)) H → va_D A ((W_Tree cI a S) ++ (W_Tree cI b S1) ++ (W_Tree cI a2 S2)) → va_S A s.heap H locs → ∀ ls : Array Slot, lv_has ls 15 [(0, .ref (a 0)), (1, .ref (b 0)), (2, .int v3), (3, .ref (a2 0)), (4, .int v5), (5, .int v6), (8, .int x8), (9, .int (b2i x9))] → W p l e (headSpec wsX4_joinNodes ({ frames := 3 + (n + 1), cells := 0, slots := 0, locals := 70 + (n + 1) * 34 } : Room)).room s m ([.ref (a 0), .ref (b 0), .int v3, .ref (a2 0), .int v5, .int v6] : List Value).toArray below meth c H locs 0 0 (MQ below (va_Qv (fun u : S_Tree => Y = u) (fun u : S_Tree => jB (dC, dI) [(cI, .int)] A ((W_Tree cI a u) ++ (W_Tree cI b S1) ++ (W_Tree cI a2 S2))) A) ([.ref (a 0), .ref (b 0), .int v3, .ref (a2 0), .int v5, .int v6] : List Value).toArray s 0 0 A) (F0 m 81 ls [.int t0]) := by
      intro S x8 x9 t0 H locs hF hP hD hS ls hl
      unfold F_X4_joinNodes_81 at hF
      refine lv_istore (lv' := [(10, .int t0), (0, .ref (a 0)), (1, .ref (b 0)), (2, .int v3), (3, .ref (a2 0)), (4, .int v5), (5, .int v6), (8, .int x8), (9, .int (b2i x9))]) hx hb dX4_joinNodes_81 hl (by decide) rfl (fun ls hl => ?_)
      refine lv_aload_n hx hb dX4_joinNodes_83 rfl (lv_at hl 1 rfl) ?_
      refine lv_iload hx hb dX4_joinNodes_84 (lv_at hl 0 rfl) ?_
      refine lv_iload hx hb dX4_joinNodes_86 (lv_at hl 6 rfl) ?_
      obtain ⟨r12, u13, h14, hF⟩ := ob2_some hF
      have hPc := hP.sub (ws' := (W_Tree cI a S)) [0, 1] rfl
      have hDc := hD.sub (ws' := (W_Tree cI a S)) [0, 1] (by decide) rfl
      have hFc := va_free (wc := (W_Tree cI a S)) hD hS hA [0, 1] rfl
      refine va_calli (va_runV (As := [.int t0, .int v6]) (rest := []) ⟨hx, hb, hml, hown, hts⟩ (c_X3_addRow l dC dI cI a H.size _ _ _ _ _ h14) (cwV 2 hts gX4_joinNodes_X3_addRow rfl rfl rfl (by decide +kernel) ⟨(by dsimp only [headSpec]; omega), (by dsimp only [headSpec]; omega)⟩) (jPreV hK hPc hDc hN (ci := 3) rfl rfl) rfl rfl hl.1 rfl (lv_room (Nat.le_of_ble_eq_true rfl)) dX4_joinNodes_88 ⟨(by dsimp only [headSpec]; omega), (by dsimp only [headSpec]; omega)⟩) hS (fun q _ h => hFc q h) hFc (fun r' u' t H locs ht hvm hw hB hz1 hk1 hS => ?_)
      obtain ⟨e1, e2⟩ := hw
      subst e1
      subst e2
      obtain ⟨hP1, -, hD1⟩ := hB
      rw [ht] at hP1
      obtain ⟨hP, hD⟩ := jJoin (wc := (W_Tree cI a S)) (w1 := (W_Tree cI a u13)) (ws' := (W_Tree cI a u13) ++ (W_Tree cI b S1) ++ (W_Tree cI a2 S2)) hP hD [0, 1] [2, 3, 4, 5] [4, 5, 0, 1, 2, 3] rfl rfl (by decide) (by decide) hk1 hFc hP1 hD1 (by decide) rfl
      refine lv_istore (lv' := [(11, .int r12), (10, .int t0), (0, .ref (a 0)), (1, .ref (b 0)), (2, .int v3), (3, .ref (a2 0)), (4, .int v5), (5, .int v6), (8, .int x8), (9, .int (b2i x9))]) hx hb dX4_joinNodes_91 hl (by decide) rfl (fun ls hl => ?_)
      refine lv_aload_n hx hb dX4_joinNodes_93 rfl (lv_at hl 2 rfl) ?_
      refine lv_iload hx hb dX4_joinNodes_94 (lv_at hl 0 rfl) ?_
      refine lv_iconst (v := (0 : Int32)) hx hb dX4_joinNodes_96 (by decide) ?_
      refine lv_iload hx hb dX4_joinNodes_97 (lv_at hl 8 rfl) ?_
      obtain ⟨u15, h16, hF⟩ := ob1_some hF
      have hPc := hP.sub (ws' := (W_Tree cI a u13)) [0, 1] rfl
      have hDc := hD.sub (ws' := (W_Tree cI a u13)) [0, 1] (by decide) rfl
      have hFc := va_free (wc := (W_Tree cI a u13)) hD hS hA [0, 1] rfl
      refine va_callv (va_runV (As := [.int r12, .int (0 : Int32), .int x8]) (rest := []) ⟨hx, hb, hml, hown, hts⟩ (c_X3_put l dC dI cI a H.size _ _ _ _ _ h16) (cwV 3 hts gX4_joinNodes_X3_put rfl rfl rfl (by decide +kernel) ⟨(by dsimp only [headSpec]; omega), (by dsimp only [headSpec]; omega)⟩) (jPreV hK hPc hDc hN (ci := 3) rfl rfl) rfl rfl hl.1 rfl (lv_room (Nat.le_of_ble_eq_true rfl)) dX4_joinNodes_99 ⟨(by dsimp only [headSpec]; omega), (by dsimp only [headSpec]; omega)⟩) hS (fun q _ h => hFc q h) hFc (fun u' t H locs ht hvm hw hB hz1 hk1 hS => ?_)
      subst hw
      obtain ⟨hP1, -, hD1⟩ := hB
      rw [ht] at hP1
      obtain ⟨hP, hD⟩ := jJoin (wc := (W_Tree cI a u13)) (w1 := (W_Tree cI a u15)) (ws' := (W_Tree cI a u15) ++ (W_Tree cI b S1) ++ (W_Tree cI a2 S2)) hP hD [0, 1] [2, 3, 4, 5] [4, 5, 0, 1, 2, 3] rfl rfl (by decide) (by decide) hk1 hFc hP1 hD1 (by decide) rfl
      refine lv_aload_n hx hb dX4_joinNodes_102 rfl (lv_at hl 2 rfl) ?_
      refine lv_iload hx hb dX4_joinNodes_103 (lv_at hl 0 rfl) ?_
      refine lv_iconst (v := (3 : Int32)) hx hb dX4_joinNodes_105 (by decide) ?_
      refine lv_aload_n hx hb dX4_joinNodes_106 rfl (lv_at hl 3 rfl) ?_
      refine lv_iload_n hx hb dX4_joinNodes_107 rfl (lv_at hl 4 rfl) ?_
      refine lv_iconst (v := (3 : Int32)) hx hb dX4_joinNodes_108 (by decide) ?_
      obtain ⟨r17, h18, hF⟩ := ob1_some hF
      have hPc := hP.sub (ws' := (W_Tree cI b S1)) [2, 3] rfl
      have hDc := hD.sub (ws' := (W_Tree cI b S1)) [2, 3] (by decide) rfl
      have hFc := va_free (wc := (W_Tree cI b S1)) hD hS hA [2, 3] rfl
      refine va_calli (va_runV (As := [.int v3, .int (3 : Int32)]) (rest := [.int (3 : Int32), .int r12, .ref (a 0)]) ⟨hx, hb, hml, hown, hts⟩ (c_X3_get l dC dI cI b H.size _ _ _ _ h18) (cwV 2 hts gX4_joinNodes_X3_get rfl rfl rfl (by decide +kernel) ⟨(by dsimp only [headSpec]; omega), (by dsimp only [headSpec]; omega)⟩) (jPreV hK hPc hDc hN (ci := 3) rfl rfl) rfl rfl hl.1 rfl (lv_room (Nat.le_of_ble_eq_true rfl)) dX4_joinNodes_109 ⟨(by dsimp only [headSpec]; omega), (by dsimp only [headSpec]; omega)⟩) hS (fun q _ h => hFc q h) hFc (fun r' u' t H locs ht hvm hw hB hz1 hk1 hS => ?_)
      subst hw
      obtain ⟨hP1, -, hD1⟩ := hB
      rw [ht] at hP1
      obtain ⟨hP, hD⟩ := jJoin (wc := (W_Tree cI b S1)) (w1 := (W_Tree cI b S1)) (ws' := (W_Tree cI a u15) ++ (W_Tree cI b S1) ++ (W_Tree cI a2 S2)) hP hD [2, 3] [0, 1, 4, 5] [0, 1, 4, 5, 2, 3] rfl rfl (by decide) (by decide) hk1 hFc hP1 hD1 (by decide) rfl
      refine lv_aload_n hx hb dX4_joinNodes_112 rfl (lv_at hl 5 rfl) ?_
      refine lv_iload hx hb dX4_joinNodes_113 (lv_at hl 6 rfl) ?_
      refine lv_iconst (v := (3 : Int32)) hx hb dX4_joinNodes_115 (by decide) ?_
      obtain ⟨r19, h20, hF⟩ := ob1_some hF
      have hPc := hP.sub (ws' := (W_Tree cI a2 S2)) [4, 5] rfl
      have hDc := hD.sub (ws' := (W_Tree cI a2 S2)) [4, 5] (by decide) rfl
      have hFc := va_free (wc := (W_Tree cI a2 S2)) hD hS hA [4, 5] rfl
      refine va_calli (va_runV (As := [.int v5, .int (3 : Int32)]) (rest := [.int r17, .int (3 : Int32), .int r12, .ref (a 0)]) ⟨hx, hb, hml, hown, hts⟩ (c_X3_get l dC dI cI a2 H.size _ _ _ _ h20) (cwV 2 hts gX4_joinNodes_X3_get rfl rfl rfl (by decide +kernel) ⟨(by dsimp only [headSpec]; omega), (by dsimp only [headSpec]; omega)⟩) (jPreV hK hPc hDc hN (ci := 3) rfl rfl) rfl rfl hl.1 rfl (lv_room (Nat.le_of_ble_eq_true rfl)) dX4_joinNodes_116 ⟨(by dsimp only [headSpec]; omega), (by dsimp only [headSpec]; omega)⟩) hS (fun q _ h => hFc q h) hFc (fun r' u' t H locs ht hvm hw hB hz1 hk1 hS => ?_)
      subst hw
      obtain ⟨hP1, -, hD1⟩ := hB
      rw [ht] at hP1
      obtain ⟨hP, hD⟩ := jJoin (wc := (W_Tree cI a2 S2)) (w1 := (W_Tree cI a2 S2)) (ws' := (W_Tree cI a u15) ++ (W_Tree cI b S1) ++ (W_Tree cI a2 S2)) hP hD [4, 5] [0, 1, 2, 3] [0, 1, 2, 3, 4, 5] rfl rfl (by decide) (by decide) hk1 hFc hP1 hD1 (by decide) rfl
      refine lv_iadd hx hb dX4_joinNodes_119 ?_
      obtain ⟨u21, h22, hF⟩ := ob1_some hF
      have hPc := hP.sub (ws' := (W_Tree cI a u15)) [0, 1] rfl
      have hDc := hD.sub (ws' := (W_Tree cI a u15)) [0, 1] (by decide) rfl
      have hFc := va_free (wc := (W_Tree cI a u15)) hD hS hA [0, 1] rfl
      refine va_callv (va_runV (As := [.int r12, .int (3 : Int32), .int (r17 + r19)]) (rest := []) ⟨hx, hb, hml, hown, hts⟩ (c_X3_put l dC dI cI a H.size _ _ _ _ _ h22) (cwV 3 hts gX4_joinNodes_X3_put rfl rfl rfl (by decide +kernel) ⟨(by dsimp only [headSpec]; omega), (by dsimp only [headSpec]; omega)⟩) (jPreV hK hPc hDc hN (ci := 3) rfl rfl) rfl rfl hl.1 rfl (lv_room (Nat.le_of_ble_eq_true rfl)) dX4_joinNodes_120 ⟨(by dsimp only [headSpec]; omega), (by dsimp only [headSpec]; omega)⟩) hS (fun q _ h => hFc q h) hFc (fun u' t H locs ht hvm hw hB hz1 hk1 hS => ?_)
      subst hw
      obtain ⟨hP1, -, hD1⟩ := hB
      rw [ht] at hP1
      obtain ⟨hP, hD⟩ := jJoin (wc := (W_Tree cI a u15)) (w1 := (W_Tree cI a u21)) (ws' := (W_Tree cI a u21) ++ (W_Tree cI b S1) ++ (W_Tree cI a2 S2)) hP hD [0, 1] [2, 3, 4, 5] [4, 5, 0, 1, 2, 3] rfl rfl (by decide) (by decide) hk1 hFc hP1 hD1 (by decide) rfl
      refine lv_aload_n hx hb dX4_joinNodes_123 rfl (lv_at hl 2 rfl) ?_
      refine lv_iload hx hb dX4_joinNodes_124 (lv_at hl 0 rfl) ?_
      refine lv_iconst (v := (4 : Int32)) hx hb dX4_joinNodes_126 (by decide) ?_
      refine lv_aload_n hx hb dX4_joinNodes_127 rfl (lv_at hl 3 rfl) ?_
      refine lv_iload_n hx hb dX4_joinNodes_128 rfl (lv_at hl 4 rfl) ?_
      refine lv_iconst (v := (4 : Int32)) hx hb dX4_joinNodes_129 (by decide) ?_
      obtain ⟨r23, h24, hF⟩ := ob1_some hF
      have hPc := hP.sub (ws' := (W_Tree cI b S1)) [2, 3] rfl
      have hDc := hD.sub (ws' := (W_Tree cI b S1)) [2, 3] (by decide) rfl
      have hFc := va_free (wc := (W_Tree cI b S1)) hD hS hA [2, 3] rfl
      refine va_calli (va_runV (As := [.int v3, .int (4 : Int32)]) (rest := [.int (4 : Int32), .int r12, .ref (a 0)]) ⟨hx, hb, hml, hown, hts⟩ (c_X3_get l dC dI cI b H.size _ _ _ _ h24) (cwV 2 hts gX4_joinNodes_X3_get rfl rfl rfl (by decide +kernel) ⟨(by dsimp only [headSpec]; omega), (by dsimp only [headSpec]; omega)⟩) (jPreV hK hPc hDc hN (ci := 3) rfl rfl) rfl rfl hl.1 rfl (lv_room (Nat.le_of_ble_eq_true rfl)) dX4_joinNodes_130 ⟨(by dsimp only [headSpec]; omega), (by dsimp only [headSpec]; omega)⟩) hS (fun q _ h => hFc q h) hFc (fun r' u' t H locs ht hvm hw hB hz1 hk1 hS => ?_)
      subst hw
      obtain ⟨hP1, -, hD1⟩ := hB
      rw [ht] at hP1
      obtain ⟨hP, hD⟩ := jJoin (wc := (W_Tree cI b S1)) (w1 := (W_Tree cI b S1)) (ws' := (W_Tree cI a u21) ++ (W_Tree cI b S1) ++ (W_Tree cI a2 S2)) hP hD [2, 3] [0, 1, 4, 5] [0, 1, 4, 5, 2, 3] rfl rfl (by decide) (by decide) hk1 hFc hP1 hD1 (by decide) rfl
      refine lv_aload_n hx hb dX4_joinNodes_133 rfl (lv_at hl 5 rfl) ?_
      refine lv_iload hx hb dX4_joinNodes_134 (lv_at hl 6 rfl) ?_
      refine lv_iconst (v := (4 : Int32)) hx hb dX4_joinNodes_136 (by decide) ?_
      obtain ⟨r25, h26, hF⟩ := ob1_some hF
      have hPc := hP.sub (ws' := (W_Tree cI a2 S2)) [4, 5] rfl
      have hDc := hD.sub (ws' := (W_Tree cI a2 S2)) [4, 5] (by decide) rfl
      have hFc := va_free (wc := (W_Tree cI a2 S2)) hD hS hA [4, 5] rfl
      refine va_calli (va_runV (As := [.int v5, .int (4 : Int32)]) (rest := [.int r23, .int (4 : Int32), .int r12, .ref (a 0)]) ⟨hx, hb, hml, hown, hts⟩ (c_X3_get l dC dI cI a2 H.size _ _ _ _ h26) (cwV 2 hts gX4_joinNodes_X3_get rfl rfl rfl (by decide +kernel) ⟨(by dsimp only [headSpec]; omega), (by dsimp only [headSpec]; omega)⟩) (jPreV hK hPc hDc hN (ci := 3) rfl rfl) rfl rfl hl.1 rfl (lv_room (Nat.le_of_ble_eq_true rfl)) dX4_joinNodes_137 ⟨(by dsimp only [headSpec]; omega), (by dsimp only [headSpec]; omega)⟩) hS (fun q _ h => hFc q h) hFc (fun r' u' t H locs ht hvm hw hB hz1 hk1 hS => ?_)
      subst hw
      obtain ⟨hP1, -, hD1⟩ := hB
      rw [ht] at hP1
      obtain ⟨hP, hD⟩ := jJoin (wc := (W_Tree cI a2 S2)) (w1 := (W_Tree cI a2 S2)) (ws' := (W_Tree cI a u21) ++ (W_Tree cI b S1) ++ (W_Tree cI a2 S2)) hP hD [4, 5] [0, 1, 2, 3] [0, 1, 2, 3, 4, 5] rfl rfl (by decide) (by decide) hk1 hFc hP1 hD1 (by decide) rfl
      refine va_mmax hx hb (hml.trans hl.1.symm) hown (hts (Cond.methodLink RX4 229 Lib.Math.max.name) (List.mem_of_getElem? (i := 1) rfl)) (hts (Cond.static Lib.Math.max.name) (List.mem_of_getElem? (i := 2) rfl)) (hts (Cond.initialized "java/lang/Math") (List.mem_of_getElem? (i := 3) rfl)) (hts (Cond.code Lib.Math.max.name Lib.Math.max.code 2 (some .int)) (List.mem_of_getElem? (i := 4) rfl)) ((by dsimp only [headSpec]; omega)) (Nat.le_trans (m := 21) (Nat.le_of_ble_eq_true rfl) (by dsimp only [headSpec]; omega)) ((by dsimp only [headSpec]; omega)) ((by dsimp only [headSpec]; omega)) dX4_joinNodes_140 ?_
      obtain ⟨u27, h28, hF⟩ := ob1_some hF
      have hPc := hP.sub (ws' := (W_Tree cI a u21)) [0, 1] rfl
      have hDc := hD.sub (ws' := (W_Tree cI a u21)) [0, 1] (by decide) rfl
      have hFc := va_free (wc := (W_Tree cI a u21)) hD hS hA [0, 1] rfl
      refine va_callv (va_runV (As := [.int r12, .int (4 : Int32), .int (if r23 < r25 then r25 else r23)]) (rest := []) ⟨hx, hb, hml, hown, hts⟩ (c_X3_put l dC dI cI a H.size _ _ _ _ _ h28) (cwV 3 hts gX4_joinNodes_X3_put rfl rfl rfl (by decide +kernel) ⟨(by dsimp only [headSpec]; omega), (by dsimp only [headSpec]; omega)⟩) (jPreV hK hPc hDc hN (ci := 3) rfl rfl) rfl rfl hl.1 rfl (lv_room (Nat.le_of_ble_eq_true rfl)) dX4_joinNodes_143 ⟨(by dsimp only [headSpec]; omega), (by dsimp only [headSpec]; omega)⟩) hS (fun q _ h => hFc q h) hFc (fun u' t H locs ht hvm hw hB hz1 hk1 hS => ?_)
      subst hw
      obtain ⟨hP1, -, hD1⟩ := hB
      rw [ht] at hP1
      obtain ⟨hP, hD⟩ := jJoin (wc := (W_Tree cI a u21)) (w1 := (W_Tree cI a u27)) (ws' := (W_Tree cI a u27) ++ (W_Tree cI b S1) ++ (W_Tree cI a2 S2)) hP hD [0, 1] [2, 3, 4, 5] [4, 5, 0, 1, 2, 3] rfl rfl (by decide) (by decide) hk1 hFc hP1 hD1 (by decide) rfl
      refine lv_aload_n hx hb dX4_joinNodes_146 rfl (lv_at hl 2 rfl) ?_
      refine lv_iload hx hb dX4_joinNodes_147 (lv_at hl 0 rfl) ?_
      refine lv_iconst (v := (5 : Int32)) hx hb dX4_joinNodes_149 (by decide) ?_
      refine lv_aload_n hx hb dX4_joinNodes_150 rfl (lv_at hl 3 rfl) ?_
      refine lv_iload_n hx hb dX4_joinNodes_151 rfl (lv_at hl 4 rfl) ?_
      refine lv_iconst (v := (5 : Int32)) hx hb dX4_joinNodes_152 (by decide) ?_
      obtain ⟨r29, h30, hF⟩ := ob1_some hF
      have hPc := hP.sub (ws' := (W_Tree cI b S1)) [2, 3] rfl
      have hDc := hD.sub (ws' := (W_Tree cI b S1)) [2, 3] (by decide) rfl
      have hFc := va_free (wc := (W_Tree cI b S1)) hD hS hA [2, 3] rfl
      refine va_calli (va_runV (As := [.int v3, .int (5 : Int32)]) (rest := [.int (5 : Int32), .int r12, .ref (a 0)]) ⟨hx, hb, hml, hown, hts⟩ (c_X3_get l dC dI cI b H.size _ _ _ _ h30) (cwV 2 hts gX4_joinNodes_X3_get rfl rfl rfl (by decide +kernel) ⟨(by dsimp only [headSpec]; omega), (by dsimp only [headSpec]; omega)⟩) (jPreV hK hPc hDc hN (ci := 3) rfl rfl) rfl rfl hl.1 rfl (lv_room (Nat.le_of_ble_eq_true rfl)) dX4_joinNodes_153 ⟨(by dsimp only [headSpec]; omega), (by dsimp only [headSpec]; omega)⟩) hS (fun q _ h => hFc q h) hFc (fun r' u' t H locs ht hvm hw hB hz1 hk1 hS => ?_)
      subst hw
      obtain ⟨hP1, -, hD1⟩ := hB
      rw [ht] at hP1
      obtain ⟨hP, hD⟩ := jJoin (wc := (W_Tree cI b S1)) (w1 := (W_Tree cI b S1)) (ws' := (W_Tree cI a u27) ++ (W_Tree cI b S1) ++ (W_Tree cI a2 S2)) hP hD [2, 3] [0, 1, 4, 5] [0, 1, 4, 5, 2, 3] rfl rfl (by decide) (by decide) hk1 hFc hP1 hD1 (by decide) rfl
      refine lv_aload_n hx hb dX4_joinNodes_156 rfl (lv_at hl 5 rfl) ?_
      refine lv_iload hx hb dX4_joinNodes_157 (lv_at hl 6 rfl) ?_
      refine lv_iconst (v := (5 : Int32)) hx hb dX4_joinNodes_159 (by decide) ?_
      obtain ⟨r31, h32, hF⟩ := ob1_some hF
      have hPc := hP.sub (ws' := (W_Tree cI a2 S2)) [4, 5] rfl
      have hDc := hD.sub (ws' := (W_Tree cI a2 S2)) [4, 5] (by decide) rfl
      have hFc := va_free (wc := (W_Tree cI a2 S2)) hD hS hA [4, 5] rfl
      refine va_calli (va_runV (As := [.int v5, .int (5 : Int32)]) (rest := [.int r29, .int (5 : Int32), .int r12, .ref (a 0)]) ⟨hx, hb, hml, hown, hts⟩ (c_X3_get l dC dI cI a2 H.size _ _ _ _ h32) (cwV 2 hts gX4_joinNodes_X3_get rfl rfl rfl (by decide +kernel) ⟨(by dsimp only [headSpec]; omega), (by dsimp only [headSpec]; omega)⟩) (jPreV hK hPc hDc hN (ci := 3) rfl rfl) rfl rfl hl.1 rfl (lv_room (Nat.le_of_ble_eq_true rfl)) dX4_joinNodes_160 ⟨(by dsimp only [headSpec]; omega), (by dsimp only [headSpec]; omega)⟩) hS (fun q _ h => hFc q h) hFc (fun r' u' t H locs ht hvm hw hB hz1 hk1 hS => ?_)
      subst hw
      obtain ⟨hP1, -, hD1⟩ := hB
      rw [ht] at hP1
      obtain ⟨hP, hD⟩ := jJoin (wc := (W_Tree cI a2 S2)) (w1 := (W_Tree cI a2 S2)) (ws' := (W_Tree cI a u27) ++ (W_Tree cI b S1) ++ (W_Tree cI a2 S2)) hP hD [4, 5] [0, 1, 2, 3] [0, 1, 2, 3, 4, 5] rfl rfl (by decide) (by decide) hk1 hFc hP1 hD1 (by decide) rfl
      refine lv_iadd hx hb dX4_joinNodes_163 ?_
      obtain ⟨u33, h34, hF⟩ := ob1_some hF
      have hPc := hP.sub (ws' := (W_Tree cI a u27)) [0, 1] rfl
      have hDc := hD.sub (ws' := (W_Tree cI a u27)) [0, 1] (by decide) rfl
      have hFc := va_free (wc := (W_Tree cI a u27)) hD hS hA [0, 1] rfl
      refine va_callv (va_runV (As := [.int r12, .int (5 : Int32), .int (r29 + r31)]) (rest := []) ⟨hx, hb, hml, hown, hts⟩ (c_X3_put l dC dI cI a H.size _ _ _ _ _ h34) (cwV 3 hts gX4_joinNodes_X3_put rfl rfl rfl (by decide +kernel) ⟨(by dsimp only [headSpec]; omega), (by dsimp only [headSpec]; omega)⟩) (jPreV hK hPc hDc hN (ci := 3) rfl rfl) rfl rfl hl.1 rfl (lv_room (Nat.le_of_ble_eq_true rfl)) dX4_joinNodes_164 ⟨(by dsimp only [headSpec]; omega), (by dsimp only [headSpec]; omega)⟩) hS (fun q _ h => hFc q h) hFc (fun u' t H locs ht hvm hw hB hz1 hk1 hS => ?_)
      subst hw
      obtain ⟨hP1, -, hD1⟩ := hB
      rw [ht] at hP1
      obtain ⟨hP, hD⟩ := jJoin (wc := (W_Tree cI a u27)) (w1 := (W_Tree cI a u33)) (ws' := (W_Tree cI a u33) ++ (W_Tree cI b S1) ++ (W_Tree cI a2 S2)) hP hD [0, 1] [2, 3, 4, 5] [4, 5, 0, 1, 2, 3] rfl rfl (by decide) (by decide) hk1 hFc hP1 hD1 (by decide) rfl
      refine lv_aload_n hx hb dX4_joinNodes_167 rfl (lv_at hl 2 rfl) ?_
      refine lv_iload hx hb dX4_joinNodes_168 (lv_at hl 0 rfl) ?_
      refine lv_bipush (v := (6 : Int32)) hx hb dX4_joinNodes_170 (by decide) ?_
      refine lv_iload hx hb dX4_joinNodes_172 (lv_at hl 9 rfl) ?_
      refine lv_if_eq (tgt := 187) hx hb dX4_joinNodes_174 (by decide) (fun c35 => ?_) (fun c35 => ?_)
      · have hF := F_pos c35 hF
        refine lv_aload_n hx hb dX4_joinNodes_187 rfl (lv_at hl 3 rfl) ?_
        refine va_get (D := (dC, dI)) (ci := 3) (v := .int (g_Tree_documents S1)) (C := RX3) (T := TX3) (N := 3) hx hb hts hinX3 hown hK hP 2 rfl rfl 2 (by decide) (hts (Cond.fieldLink RX4 226 "LearnedShapes$Tree" "documents" "I") (List.mem_of_getElem? (i := 5) rfl)) (fun _ h9 => h9) rfl dX4_joinNodes_188 ?_
        refine lv_aload_n hx hb dX4_joinNodes_191 rfl (lv_at hl 5 rfl) ?_
        refine lv_iload hx hb dX4_joinNodes_192 (lv_at hl 6 rfl) ?_
        refine lv_bipush (v := (6 : Int32)) hx hb dX4_joinNodes_194 (by decide) ?_
        obtain ⟨r36, h37, hF⟩ := ob1_some hF
        have hPc := hP.sub (ws' := (W_Tree cI a2 S2)) [4, 5] rfl
        have hDc := hD.sub (ws' := (W_Tree cI a2 S2)) [4, 5] (by decide) rfl
        have hFc := va_free (wc := (W_Tree cI a2 S2)) hD hS hA [4, 5] rfl
        refine va_calli (va_runV (As := [.int v5, .int (6 : Int32)]) (rest := [.int (g_Tree_documents S1), .int (6 : Int32), .int r12, .ref (a 0)]) ⟨hx, hb, hml, hown, hts⟩ (c_X3_get l dC dI cI a2 H.size _ _ _ _ h37) (cwV 2 hts gX4_joinNodes_X3_get rfl rfl rfl (by decide +kernel) ⟨(by dsimp only [headSpec]; omega), (by dsimp only [headSpec]; omega)⟩) (jPreV hK hPc hDc hN (ci := 3) rfl rfl) rfl rfl hl.1 rfl (lv_room (Nat.le_of_ble_eq_true rfl)) dX4_joinNodes_196 ⟨(by dsimp only [headSpec]; omega), (by dsimp only [headSpec]; omega)⟩) hS (fun q _ h => hFc q h) hFc (fun r' u' t H locs ht hvm hw hB hz1 hk1 hS => ?_)
        subst hw
        obtain ⟨hP1, -, hD1⟩ := hB
        rw [ht] at hP1
        obtain ⟨hP, hD⟩ := jJoin (wc := (W_Tree cI a2 S2)) (w1 := (W_Tree cI a2 S2)) (ws' := (W_Tree cI a u33) ++ (W_Tree cI b S1) ++ (W_Tree cI a2 S2)) hP hD [4, 5] [0, 1, 2, 3] [0, 1, 2, 3, 4, 5] rfl rfl (by decide) (by decide) hk1 hFc hP1 hD1 (by decide) rfl
        refine lv_iadd hx hb dX4_joinNodes_199 ?_
        obtain ⟨u38, h39, hF⟩ := ob1_some hF
        have hPc := hP.sub (ws' := (W_Tree cI a u33)) [0, 1] rfl
        have hDc := hD.sub (ws' := (W_Tree cI a u33)) [0, 1] (by decide) rfl
        have hFc := va_free (wc := (W_Tree cI a u33)) hD hS hA [0, 1] rfl
        refine va_callv (va_runV (As := [.int r12, .int (6 : Int32), .int ((g_Tree_documents S1) + r36)]) (rest := []) ⟨hx, hb, hml, hown, hts⟩ (c_X3_put l dC dI cI a H.size _ _ _ _ _ h39) (cwV 3 hts gX4_joinNodes_X3_put rfl rfl rfl (by decide +kernel) ⟨(by dsimp only [headSpec]; omega), (by dsimp only [headSpec]; omega)⟩) (jPreV hK hPc hDc hN (ci := 3) rfl rfl) rfl rfl hl.1 rfl (lv_room (Nat.le_of_ble_eq_true rfl)) dX4_joinNodes_200 ⟨(by dsimp only [headSpec]; omega), (by dsimp only [headSpec]; omega)⟩) hS (fun q _ h => hFc q h) hFc (fun u' t H locs ht hvm hw hB hz1 hk1 hS => ?_)
        subst hw
        obtain ⟨hP1, -, hD1⟩ := hB
        rw [ht] at hP1
        obtain ⟨hP, hD⟩ := jJoin (wc := (W_Tree cI a u33)) (w1 := (W_Tree cI a u38)) (ws' := (W_Tree cI a u38) ++ (W_Tree cI b S1) ++ (W_Tree cI a2 S2)) hP hD [0, 1] [2, 3, 4, 5] [4, 5, 0, 1, 2, 3] rfl rfl (by decide) (by decide) hk1 hFc hP1 hD1 (by decide) rfl
        refine lv_iload hx hb dX4_joinNodes_203 (lv_at hl 8 rfl) ?_
        refine lv_bipush (v := (7 : Int32)) hx hb dX4_joinNodes_205 (by decide) ?_
        refine lv_icmp_ne (tgt := 211) hx hb dX4_joinNodes_207 (by decide) (fun c40 => ?_) (fun c40 => ?_)
        · have hF := F_neg c40 hF
          refine lv_iconst (v := (0 : Int32)) hx hb dX4_joinNodes_211 (by decide) ?_
          refine lv_istore (lv' := [(12, .int (0 : Int32)), (11, .int r12), (10, .int t0), (0, .ref (a 0)), (1, .ref (b 0)), (2, .int v3), (3, .ref (a2 0)), (4, .int v5), (5, .int v6), (8, .int x8), (9, .int (b2i x9))]) hx hb dX4_joinNodes_212 hl (by decide) rfl (fun ls hl => ?_)
          exact K214 _ _ _ _ _ hF hP hD hS _ (lv_sub hl [3, 4, 5, 6, 7, 8, 0] rfl)
        · have hF := F_pos c40 hF
          have e50 := Option.some.inj hF
          subst e50
          exact W.vret hx hb hr (fun t ht hW => ⟨⟨u38, rfl, rfl, by rw [ht]; exact hP, va_K.moved hW.alike hK, hD⟩, hS.F ht⟩) hS.2.2 dX4_joinNodes_210
      · have hF := F_neg c35 hF
        refine lv_aload_n hx hb dX4_joinNodes_177 rfl (lv_at hl 3 rfl) ?_
        refine lv_iload_n hx hb dX4_joinNodes_178 rfl (lv_at hl 4 rfl) ?_
        refine lv_bipush (v := (6 : Int32)) hx hb dX4_joinNodes_179 (by decide) ?_
        obtain ⟨r41, h42, hF⟩ := ob1_some hF
        have hPc := hP.sub (ws' := (W_Tree cI b S1)) [2, 3] rfl
        have hDc := hD.sub (ws' := (W_Tree cI b S1)) [2, 3] (by decide) rfl
        have hFc := va_free (wc := (W_Tree cI b S1)) hD hS hA [2, 3] rfl
        refine va_calli (va_runV (As := [.int v3, .int (6 : Int32)]) (rest := [.int (6 : Int32), .int r12, .ref (a 0)]) ⟨hx, hb, hml, hown, hts⟩ (c_X3_get l dC dI cI b H.size _ _ _ _ h42) (cwV 2 hts gX4_joinNodes_X3_get rfl rfl rfl (by decide +kernel) ⟨(by dsimp only [headSpec]; omega), (by dsimp only [headSpec]; omega)⟩) (jPreV hK hPc hDc hN (ci := 3) rfl rfl) rfl rfl hl.1 rfl (lv_room (Nat.le_of_ble_eq_true rfl)) dX4_joinNodes_181 ⟨(by dsimp only [headSpec]; omega), (by dsimp only [headSpec]; omega)⟩) hS (fun q _ h => hFc q h) hFc (fun r' u' t H locs ht hvm hw hB hz1 hk1 hS => ?_)
        subst hw
        obtain ⟨hP1, -, hD1⟩ := hB
        rw [ht] at hP1
        obtain ⟨hP, hD⟩ := jJoin (wc := (W_Tree cI b S1)) (w1 := (W_Tree cI b S1)) (ws' := (W_Tree cI a u33) ++ (W_Tree cI b S1) ++ (W_Tree cI a2 S2)) hP hD [2, 3] [0, 1, 4, 5] [0, 1, 4, 5, 2, 3] rfl rfl (by decide) (by decide) hk1 hFc hP1 hD1 (by decide) rfl
        refine lv_goto (tgt := 200) hx hb dX4_joinNodes_184 (by decide) ?_
        obtain ⟨u43, h44, hF⟩ := ob1_some hF
        have hPc := hP.sub (ws' := (W_Tree cI a u33)) [0, 1] rfl
        have hDc := hD.sub (ws' := (W_Tree cI a u33)) [0, 1] (by decide) rfl
        have hFc := va_free (wc := (W_Tree cI a u33)) hD hS hA [0, 1] rfl
        refine va_callv (va_runV (As := [.int r12, .int (6 : Int32), .int r41]) (rest := []) ⟨hx, hb, hml, hown, hts⟩ (c_X3_put l dC dI cI a H.size _ _ _ _ _ h44) (cwV 3 hts gX4_joinNodes_X3_put rfl rfl rfl (by decide +kernel) ⟨(by dsimp only [headSpec]; omega), (by dsimp only [headSpec]; omega)⟩) (jPreV hK hPc hDc hN (ci := 3) rfl rfl) rfl rfl hl.1 rfl (lv_room (Nat.le_of_ble_eq_true rfl)) dX4_joinNodes_200 ⟨(by dsimp only [headSpec]; omega), (by dsimp only [headSpec]; omega)⟩) hS (fun q _ h => hFc q h) hFc (fun u' t H locs ht hvm hw hB hz1 hk1 hS => ?_)
        subst hw
        obtain ⟨hP1, -, hD1⟩ := hB
        rw [ht] at hP1
        obtain ⟨hP, hD⟩ := jJoin (wc := (W_Tree cI a u33)) (w1 := (W_Tree cI a u43)) (ws' := (W_Tree cI a u43) ++ (W_Tree cI b S1) ++ (W_Tree cI a2 S2)) hP hD [0, 1] [2, 3, 4, 5] [4, 5, 0, 1, 2, 3] rfl rfl (by decide) (by decide) hk1 hFc hP1 hD1 (by decide) rfl
        refine lv_iload hx hb dX4_joinNodes_203 (lv_at hl 8 rfl) ?_
        refine lv_bipush (v := (7 : Int32)) hx hb dX4_joinNodes_205 (by decide) ?_
        refine lv_icmp_ne (tgt := 211) hx hb dX4_joinNodes_207 (by decide) (fun c45 => ?_) (fun c45 => ?_)
        · have hF := F_neg c45 hF
          refine lv_iconst (v := (0 : Int32)) hx hb dX4_joinNodes_211 (by decide) ?_
          refine lv_istore (lv' := [(12, .int (0 : Int32)), (11, .int r12), (10, .int t0), (0, .ref (a 0)), (1, .ref (b 0)), (2, .int v3), (3, .ref (a2 0)), (4, .int v5), (5, .int v6), (8, .int x8), (9, .int (b2i x9))]) hx hb dX4_joinNodes_212 hl (by decide) rfl (fun ls hl => ?_)
          exact K214 _ _ _ _ _ hF hP hD hS _ (lv_sub hl [3, 4, 5, 6, 7, 8, 0] rfl)
        · have hF := F_pos c45 hF
          have e50 := Option.some.inj hF
          subst e50
          exact W.vret hx hb hr (fun t ht hW => ⟨⟨u43, rfl, rfl, by rw [ht]; exact hP, va_K.moved hW.alike hK, hD⟩, hS.F ht⟩) hS.2.2 dX4_joinNodes_210
    have K17 : ∀ (S : S_Tree) (t0 : Bool) (H : Heap) (locs : List Loc), F_X4_joinNodes_17 v3 v5 v6 S1 S2 (F_X4_joinNodes n) S t0 = some Y → va_P (dC, dI) vwCl ((W_Tree cI a S) ++ (W_Tree cI b S1) ++ (W_Tree cI a2 S2)) H → va_D A ((W_Tree cI a S) ++ (W_Tree cI b S1) ++ (W_Tree cI a2 S2)) → va_S A s.heap H locs → ∀ ls : Array Slot, lv_has ls 15 [(0, .ref (a 0)), (1, .ref (b 0)), (2, .int v3), (3, .ref (a2 0)), (4, .int v5), (5, .int v6)] → W p l e (headSpec wsX4_joinNodes ({ frames := 3 + (n + 1), cells := 0, slots := 0, locals := 70 + (n + 1) * 34 } : Room)).room s m ([.ref (a 0), .ref (b 0), .int v3, .ref (a2 0), .int v5, .int v6] : List Value).toArray below meth c H locs 0 0 (MQ below (va_Qv (fun u : S_Tree => Y = u) (fun u : S_Tree => jB (dC, dI) [(cI, .int)] A ((W_Tree cI a u) ++ (W_Tree cI b S1) ++ (W_Tree cI a2 S2))) A) ([.ref (a 0), .ref (b 0), .int v3, .ref (a2 0), .int v5, .int v6] : List Value).toArray s 0 0 A) (F0 m 17 ls [.int (b2i t0)]) := by
      intro S t0 H locs hF hP hD hS ls hl
      unfold F_X4_joinNodes_17 at hF
      refine lv_istore (lv' := [(6, .int (b2i t0)), (0, .ref (a 0)), (1, .ref (b 0)), (2, .int v3), (3, .ref (a2 0)), (4, .int v5), (5, .int v6)]) hx hb dX4_joinNodes_17 hl (by decide) rfl (fun ls hl => ?_)
      refine lv_aload_n hx hb dX4_joinNodes_19 rfl (lv_at hl 2 rfl) ?_
      refine lv_iload_n hx hb dX4_joinNodes_20 rfl (lv_at hl 3 rfl) ?_
      refine lv_iconst (v := (0 : Int32)) hx hb dX4_joinNodes_21 (by decide) ?_
      obtain ⟨r46, h47, hF⟩ := ob1_some hF
      have hPc := hP.sub (ws' := (W_Tree cI b S1)) [2, 3] rfl
      have hDc := hD.sub (ws' := (W_Tree cI b S1)) [2, 3] (by decide) rfl
      have hFc := va_free (wc := (W_Tree cI b S1)) hD hS hA [2, 3] rfl
      refine va_calli (va_runV (As := [.int v3, .int (0 : Int32)]) (rest := []) ⟨hx, hb, hml, hown, hts⟩ (c_X3_get l dC dI cI b H.size _ _ _ _ h47) (cwV 2 hts gX4_joinNodes_X3_get rfl rfl rfl (by decide +kernel) ⟨(by dsimp only [headSpec]; omega), (by dsimp only [headSpec]; omega)⟩) (jPreV hK hPc hDc hN (ci := 3) rfl rfl) rfl rfl hl.1 rfl (lv_room (Nat.le_of_ble_eq_true rfl)) dX4_joinNodes_22 ⟨(by dsimp only [headSpec]; omega), (by dsimp only [headSpec]; omega)⟩) hS (fun q _ h => hFc q h) hFc (fun r' u' t H locs ht hvm hw hB hz1 hk1 hS => ?_)
      subst hw
      obtain ⟨hP1, -, hD1⟩ := hB
      rw [ht] at hP1
      obtain ⟨hP, hD⟩ := jJoin (wc := (W_Tree cI b S1)) (w1 := (W_Tree cI b S1)) (ws' := (W_Tree cI a S) ++ (W_Tree cI b S1) ++ (W_Tree cI a2 S2)) hP hD [2, 3] [0, 1, 4, 5] [0, 1, 4, 5, 2, 3] rfl rfl (by decide) (by decide) hk1 hFc hP1 hD1 (by decide) rfl
      refine lv_istore (lv' := [(7, .int r46), (6, .int (b2i t0)), (0, .ref (a 0)), (1, .ref (b 0)), (2, .int v3), (3, .ref (a2 0)), (4, .int v5), (5, .int v6)]) hx hb dX4_joinNodes_25 hl (by decide) rfl (fun ls hl => ?_)
      refine lv_iload hx hb dX4_joinNodes_27 (lv_at hl 0 rfl) ?_
      refine lv_aload_n hx hb dX4_joinNodes_29 rfl (lv_at hl 5 rfl) ?_
      refine lv_iload hx hb dX4_joinNodes_30 (lv_at hl 6 rfl) ?_
      refine lv_iconst (v := (0 : Int32)) hx hb dX4_joinNodes_32 (by decide) ?_
      obtain ⟨r48, h49, hF⟩ := ob1_some hF
      have hPc := hP.sub (ws' := (W_Tree cI a2 S2)) [4, 5] rfl
      have hDc := hD.sub (ws' := (W_Tree cI a2 S2)) [4, 5] (by decide) rfl
      have hFc := va_free (wc := (W_Tree cI a2 S2)) hD hS hA [4, 5] rfl
      refine va_calli (va_runV (As := [.int v5, .int (0 : Int32)]) (rest := [.int r46]) ⟨hx, hb, hml, hown, hts⟩ (c_X3_get l dC dI cI a2 H.size _ _ _ _ h49) (cwV 2 hts gX4_joinNodes_X3_get rfl rfl rfl (by decide +kernel) ⟨(by dsimp only [headSpec]; omega), (by dsimp only [headSpec]; omega)⟩) (jPreV hK hPc hDc hN (ci := 3) rfl rfl) rfl rfl hl.1 rfl (lv_room (Nat.le_of_ble_eq_true rfl)) dX4_joinNodes_33 ⟨(by dsimp only [headSpec]; omega), (by dsimp only [headSpec]; omega)⟩) hS (fun q _ h => hFc q h) hFc (fun r' u' t H locs ht hvm hw hB hz1 hk1 hS => ?_)
      subst hw
      obtain ⟨hP1, -, hD1⟩ := hB
      rw [ht] at hP1
      obtain ⟨hP, hD⟩ := jJoin (wc := (W_Tree cI a2 S2)) (w1 := (W_Tree cI a2 S2)) (ws' := (W_Tree cI a S) ++ (W_Tree cI b S1) ++ (W_Tree cI a2 S2)) hP hD [4, 5] [0, 1, 2, 3] [0, 1, 2, 3, 4, 5] rfl rfl (by decide) (by decide) hk1 hFc hP1 hD1 (by decide) rfl
      obtain ⟨r50, h51, hF⟩ := ob1_some hF
      have hPc : va_P (dC, dI) vwCl ([] : va_W) H := fun k q h => by simp at h
      have hDc : va_D A ([] : va_W) := ⟨fun i j p q h => by simp at h, fun k q h => by simp at h⟩
      have hFc := jFreeW (ws := []) hDc hS hA
      refine va_calli (va_runS (As := [.int r46, .int r48]) (rest := []) ⟨hx, hb, hml, hown, hts⟩ (c_X4_joinKinds l dC dI cI  H.size _ _ _ h51) (va_cwS 2 hts gX4_joinNodes_X4_joinKinds rfl rfl rfl (by decide +kernel) ⟨(by dsimp only [headSpec]; omega), (by dsimp only [headSpec]; omega)⟩) (jPreS hK hPc hDc hN) rfl rfl hl.1 rfl (lv_room (Nat.le_of_ble_eq_true rfl)) dX4_joinNodes_36 ⟨(by dsimp only [headSpec]; omega), (by dsimp only [headSpec]; omega)⟩) hS (fun q _ h => hFc q h) hFc (fun r' u' t H locs ht hvm hw hB hz1 hk1 hS => ?_)
      subst hw
      obtain ⟨hP1, -, hD1⟩ := hB
      rw [ht] at hP1
      have hP : va_P (dC, dI) vwCl ((W_Tree cI a S) ++ (W_Tree cI b S1) ++ (W_Tree cI a2 S2)) H := jNone hP hk1
      refine lv_istore (lv' := [(8, .int r50), (7, .int r46), (6, .int (b2i t0)), (0, .ref (a 0)), (1, .ref (b 0)), (2, .int v3), (3, .ref (a2 0)), (4, .int v5), (5, .int v6)]) hx hb dX4_joinNodes_39 hl (by decide) rfl (fun ls hl => ?_)
      refine lv_iload hx hb dX4_joinNodes_41 (lv_at hl 2 rfl) ?_
      refine lv_if_eq (tgt := 57) hx hb dX4_joinNodes_43 (by decide) (fun c52 => ?_) (fun c52 => ?_)
      · have hF := F_pos c52 hF
        refine lv_iconst (v := (0 : Int32)) hx hb dX4_joinNodes_57 (by decide) ?_
        refine lv_istore (lv' := [(9, .int (0 : Int32)), (8, .int r50), (7, .int r46), (6, .int (b2i t0)), (0, .ref (a 0)), (1, .ref (b 0)), (2, .int v3), (3, .ref (a2 0)), (4, .int v5), (5, .int v6)]) hx hb dX4_joinNodes_58 hl (by decide) rfl (fun ls hl => ?_)
        refine lv_iload hx hb dX4_joinNodes_60 (lv_at hl 3 rfl) ?_
        refine lv_if_eq (tgt := 74) hx hb dX4_joinNodes_62 (by decide) (fun c53 => ?_) (fun c53 => ?_)
        · have hF := F_pos c53 hF
          refine lv_aload_n hx hb dX4_joinNodes_74 rfl (lv_at hl 7 rfl) ?_
          refine lv_iload hx hb dX4_joinNodes_75 (lv_at hl 8 rfl) ?_
          refine lv_iconst (v := (1 : Int32)) hx hb dX4_joinNodes_77 (by decide) ?_
          obtain ⟨r54, h55, hF⟩ := ob1_some hF
          have hPc := hP.sub (ws' := (W_Tree cI a2 S2)) [4, 5] rfl
          have hDc := hD.sub (ws' := (W_Tree cI a2 S2)) [4, 5] (by decide) rfl
          have hFc := va_free (wc := (W_Tree cI a2 S2)) hD hS hA [4, 5] rfl
          refine va_calli (va_runV (As := [.int v5, .int (1 : Int32)]) (rest := []) ⟨hx, hb, hml, hown, hts⟩ (c_X3_get l dC dI cI a2 H.size _ _ _ _ h55) (cwV 2 hts gX4_joinNodes_X3_get rfl rfl rfl (by decide +kernel) ⟨(by dsimp only [headSpec]; omega), (by dsimp only [headSpec]; omega)⟩) (jPreV hK hPc hDc hN (ci := 3) rfl rfl) rfl rfl hl.1 rfl (lv_room (Nat.le_of_ble_eq_true rfl)) dX4_joinNodes_78 ⟨(by dsimp only [headSpec]; omega), (by dsimp only [headSpec]; omega)⟩) hS (fun q _ h => hFc q h) hFc (fun r' u' t H locs ht hvm hw hB hz1 hk1 hS => ?_)
          subst hw
          obtain ⟨hP1, -, hD1⟩ := hB
          rw [ht] at hP1
          obtain ⟨hP, hD⟩ := jJoin (wc := (W_Tree cI a2 S2)) (w1 := (W_Tree cI a2 S2)) (ws' := (W_Tree cI a S) ++ (W_Tree cI b S1) ++ (W_Tree cI a2 S2)) hP hD [4, 5] [0, 1, 2, 3] [0, 1, 2, 3, 4, 5] rfl rfl (by decide) (by decide) hk1 hFc hP1 hD1 (by decide) rfl
          exact K81 _ _ _ _ _ _ hF hP hD hS _ (lv_sub hl [4, 5, 6, 7, 8, 9, 1, 0] rfl)
        · have hF := F_neg c53 hF
          refine lv_aload_n hx hb dX4_joinNodes_65 rfl (lv_at hl 5 rfl) ?_
          refine lv_iload_n hx hb dX4_joinNodes_66 rfl (lv_at hl 6 rfl) ?_
          refine lv_iconst (v := (1 : Int32)) hx hb dX4_joinNodes_67 (by decide) ?_
          obtain ⟨r56, h57, hF⟩ := ob1_some hF
          have hPc := hP.sub (ws' := (W_Tree cI b S1)) [2, 3] rfl
          have hDc := hD.sub (ws' := (W_Tree cI b S1)) [2, 3] (by decide) rfl
          have hFc := va_free (wc := (W_Tree cI b S1)) hD hS hA [2, 3] rfl
          refine va_calli (va_runV (As := [.int v3, .int (1 : Int32)]) (rest := []) ⟨hx, hb, hml, hown, hts⟩ (c_X3_get l dC dI cI b H.size _ _ _ _ h57) (cwV 2 hts gX4_joinNodes_X3_get rfl rfl rfl (by decide +kernel) ⟨(by dsimp only [headSpec]; omega), (by dsimp only [headSpec]; omega)⟩) (jPreV hK hPc hDc hN (ci := 3) rfl rfl) rfl rfl hl.1 rfl (lv_room (Nat.le_of_ble_eq_true rfl)) dX4_joinNodes_68 ⟨(by dsimp only [headSpec]; omega), (by dsimp only [headSpec]; omega)⟩) hS (fun q _ h => hFc q h) hFc (fun r' u' t H locs ht hvm hw hB hz1 hk1 hS => ?_)
          subst hw
          obtain ⟨hP1, -, hD1⟩ := hB
          rw [ht] at hP1
          obtain ⟨hP, hD⟩ := jJoin (wc := (W_Tree cI b S1)) (w1 := (W_Tree cI b S1)) (ws' := (W_Tree cI a S) ++ (W_Tree cI b S1) ++ (W_Tree cI a2 S2)) hP hD [2, 3] [0, 1, 4, 5] [0, 1, 4, 5, 2, 3] rfl rfl (by decide) (by decide) hk1 hFc hP1 hD1 (by decide) rfl
          refine lv_goto (tgt := 81) hx hb dX4_joinNodes_71 (by decide) ?_
          exact K81 _ _ _ _ _ _ hF hP hD hS _ (lv_sub hl [4, 5, 6, 7, 8, 9, 1, 0] rfl)
      · have hF := F_neg c52 hF
        refine lv_iload hx hb dX4_joinNodes_46 (lv_at hl 0 rfl) ?_
        refine lv_iload hx hb dX4_joinNodes_48 (lv_at hl 1 rfl) ?_
        refine lv_icmp_ne (tgt := 57) hx hb dX4_joinNodes_50 (by decide) (fun c58 => ?_) (fun c58 => ?_)
        · have hF := F_neg c58 hF
          refine lv_iconst (v := (0 : Int32)) hx hb dX4_joinNodes_57 (by decide) ?_
          refine lv_istore (lv' := [(9, .int (0 : Int32)), (8, .int r50), (7, .int r46), (6, .int (b2i t0)), (0, .ref (a 0)), (1, .ref (b 0)), (2, .int v3), (3, .ref (a2 0)), (4, .int v5), (5, .int v6)]) hx hb dX4_joinNodes_58 hl (by decide) rfl (fun ls hl => ?_)
          refine lv_iload hx hb dX4_joinNodes_60 (lv_at hl 3 rfl) ?_
          refine lv_if_eq (tgt := 74) hx hb dX4_joinNodes_62 (by decide) (fun c59 => ?_) (fun c59 => ?_)
          · have hF := F_pos c59 hF
            refine lv_aload_n hx hb dX4_joinNodes_74 rfl (lv_at hl 7 rfl) ?_
            refine lv_iload hx hb dX4_joinNodes_75 (lv_at hl 8 rfl) ?_
            refine lv_iconst (v := (1 : Int32)) hx hb dX4_joinNodes_77 (by decide) ?_
            obtain ⟨r60, h61, hF⟩ := ob1_some hF
            have hPc := hP.sub (ws' := (W_Tree cI a2 S2)) [4, 5] rfl
            have hDc := hD.sub (ws' := (W_Tree cI a2 S2)) [4, 5] (by decide) rfl
            have hFc := va_free (wc := (W_Tree cI a2 S2)) hD hS hA [4, 5] rfl
            refine va_calli (va_runV (As := [.int v5, .int (1 : Int32)]) (rest := []) ⟨hx, hb, hml, hown, hts⟩ (c_X3_get l dC dI cI a2 H.size _ _ _ _ h61) (cwV 2 hts gX4_joinNodes_X3_get rfl rfl rfl (by decide +kernel) ⟨(by dsimp only [headSpec]; omega), (by dsimp only [headSpec]; omega)⟩) (jPreV hK hPc hDc hN (ci := 3) rfl rfl) rfl rfl hl.1 rfl (lv_room (Nat.le_of_ble_eq_true rfl)) dX4_joinNodes_78 ⟨(by dsimp only [headSpec]; omega), (by dsimp only [headSpec]; omega)⟩) hS (fun q _ h => hFc q h) hFc (fun r' u' t H locs ht hvm hw hB hz1 hk1 hS => ?_)
            subst hw
            obtain ⟨hP1, -, hD1⟩ := hB
            rw [ht] at hP1
            obtain ⟨hP, hD⟩ := jJoin (wc := (W_Tree cI a2 S2)) (w1 := (W_Tree cI a2 S2)) (ws' := (W_Tree cI a S) ++ (W_Tree cI b S1) ++ (W_Tree cI a2 S2)) hP hD [4, 5] [0, 1, 2, 3] [0, 1, 2, 3, 4, 5] rfl rfl (by decide) (by decide) hk1 hFc hP1 hD1 (by decide) rfl
            exact K81 _ _ _ _ _ _ hF hP hD hS _ (lv_sub hl [4, 5, 6, 7, 8, 9, 1, 0] rfl)
          · have hF := F_neg c59 hF
            refine lv_aload_n hx hb dX4_joinNodes_65 rfl (lv_at hl 5 rfl) ?_
            refine lv_iload_n hx hb dX4_joinNodes_66 rfl (lv_at hl 6 rfl) ?_
            refine lv_iconst (v := (1 : Int32)) hx hb dX4_joinNodes_67 (by decide) ?_
            obtain ⟨r62, h63, hF⟩ := ob1_some hF
            have hPc := hP.sub (ws' := (W_Tree cI b S1)) [2, 3] rfl
            have hDc := hD.sub (ws' := (W_Tree cI b S1)) [2, 3] (by decide) rfl
            have hFc := va_free (wc := (W_Tree cI b S1)) hD hS hA [2, 3] rfl
            refine va_calli (va_runV (As := [.int v3, .int (1 : Int32)]) (rest := []) ⟨hx, hb, hml, hown, hts⟩ (c_X3_get l dC dI cI b H.size _ _ _ _ h63) (cwV 2 hts gX4_joinNodes_X3_get rfl rfl rfl (by decide +kernel) ⟨(by dsimp only [headSpec]; omega), (by dsimp only [headSpec]; omega)⟩) (jPreV hK hPc hDc hN (ci := 3) rfl rfl) rfl rfl hl.1 rfl (lv_room (Nat.le_of_ble_eq_true rfl)) dX4_joinNodes_68 ⟨(by dsimp only [headSpec]; omega), (by dsimp only [headSpec]; omega)⟩) hS (fun q _ h => hFc q h) hFc (fun r' u' t H locs ht hvm hw hB hz1 hk1 hS => ?_)
            subst hw
            obtain ⟨hP1, -, hD1⟩ := hB
            rw [ht] at hP1
            obtain ⟨hP, hD⟩ := jJoin (wc := (W_Tree cI b S1)) (w1 := (W_Tree cI b S1)) (ws' := (W_Tree cI a S) ++ (W_Tree cI b S1) ++ (W_Tree cI a2 S2)) hP hD [2, 3] [0, 1, 4, 5] [0, 1, 4, 5, 2, 3] rfl rfl (by decide) (by decide) hk1 hFc hP1 hD1 (by decide) rfl
            refine lv_goto (tgt := 81) hx hb dX4_joinNodes_71 (by decide) ?_
            exact K81 _ _ _ _ _ _ hF hP hD hS _ (lv_sub hl [4, 5, 6, 7, 8, 9, 1, 0] rfl)
        · have hF := F_pos c58 hF
          refine lv_iconst (v := (1 : Int32)) hx hb dX4_joinNodes_53 (by decide) ?_
          refine lv_goto (tgt := 58) hx hb dX4_joinNodes_54 (by decide) ?_
          refine lv_istore (lv' := [(9, .int (1 : Int32)), (8, .int r50), (7, .int r46), (6, .int (b2i t0)), (0, .ref (a 0)), (1, .ref (b 0)), (2, .int v3), (3, .ref (a2 0)), (4, .int v5), (5, .int v6)]) hx hb dX4_joinNodes_58 hl (by decide) rfl (fun ls hl => ?_)
          refine lv_iload hx hb dX4_joinNodes_60 (lv_at hl 3 rfl) ?_
          refine lv_if_eq (tgt := 74) hx hb dX4_joinNodes_62 (by decide) (fun c64 => ?_) (fun c64 => ?_)
          · have hF := F_pos c64 hF
            refine lv_aload_n hx hb dX4_joinNodes_74 rfl (lv_at hl 7 rfl) ?_
            refine lv_iload hx hb dX4_joinNodes_75 (lv_at hl 8 rfl) ?_
            refine lv_iconst (v := (1 : Int32)) hx hb dX4_joinNodes_77 (by decide) ?_
            obtain ⟨r65, h66, hF⟩ := ob1_some hF
            have hPc := hP.sub (ws' := (W_Tree cI a2 S2)) [4, 5] rfl
            have hDc := hD.sub (ws' := (W_Tree cI a2 S2)) [4, 5] (by decide) rfl
            have hFc := va_free (wc := (W_Tree cI a2 S2)) hD hS hA [4, 5] rfl
            refine va_calli (va_runV (As := [.int v5, .int (1 : Int32)]) (rest := []) ⟨hx, hb, hml, hown, hts⟩ (c_X3_get l dC dI cI a2 H.size _ _ _ _ h66) (cwV 2 hts gX4_joinNodes_X3_get rfl rfl rfl (by decide +kernel) ⟨(by dsimp only [headSpec]; omega), (by dsimp only [headSpec]; omega)⟩) (jPreV hK hPc hDc hN (ci := 3) rfl rfl) rfl rfl hl.1 rfl (lv_room (Nat.le_of_ble_eq_true rfl)) dX4_joinNodes_78 ⟨(by dsimp only [headSpec]; omega), (by dsimp only [headSpec]; omega)⟩) hS (fun q _ h => hFc q h) hFc (fun r' u' t H locs ht hvm hw hB hz1 hk1 hS => ?_)
            subst hw
            obtain ⟨hP1, -, hD1⟩ := hB
            rw [ht] at hP1
            obtain ⟨hP, hD⟩ := jJoin (wc := (W_Tree cI a2 S2)) (w1 := (W_Tree cI a2 S2)) (ws' := (W_Tree cI a S) ++ (W_Tree cI b S1) ++ (W_Tree cI a2 S2)) hP hD [4, 5] [0, 1, 2, 3] [0, 1, 2, 3, 4, 5] rfl rfl (by decide) (by decide) hk1 hFc hP1 hD1 (by decide) rfl
            exact K81 _ _ _ _ _ _ hF hP hD hS _ (lv_sub hl [4, 5, 6, 7, 8, 9, 1, 0] rfl)
          · have hF := F_neg c64 hF
            refine lv_aload_n hx hb dX4_joinNodes_65 rfl (lv_at hl 5 rfl) ?_
            refine lv_iload_n hx hb dX4_joinNodes_66 rfl (lv_at hl 6 rfl) ?_
            refine lv_iconst (v := (1 : Int32)) hx hb dX4_joinNodes_67 (by decide) ?_
            obtain ⟨r67, h68, hF⟩ := ob1_some hF
            have hPc := hP.sub (ws' := (W_Tree cI b S1)) [2, 3] rfl
            have hDc := hD.sub (ws' := (W_Tree cI b S1)) [2, 3] (by decide) rfl
            have hFc := va_free (wc := (W_Tree cI b S1)) hD hS hA [2, 3] rfl
            refine va_calli (va_runV (As := [.int v3, .int (1 : Int32)]) (rest := []) ⟨hx, hb, hml, hown, hts⟩ (c_X3_get l dC dI cI b H.size _ _ _ _ h68) (cwV 2 hts gX4_joinNodes_X3_get rfl rfl rfl (by decide +kernel) ⟨(by dsimp only [headSpec]; omega), (by dsimp only [headSpec]; omega)⟩) (jPreV hK hPc hDc hN (ci := 3) rfl rfl) rfl rfl hl.1 rfl (lv_room (Nat.le_of_ble_eq_true rfl)) dX4_joinNodes_68 ⟨(by dsimp only [headSpec]; omega), (by dsimp only [headSpec]; omega)⟩) hS (fun q _ h => hFc q h) hFc (fun r' u' t H locs ht hvm hw hB hz1 hk1 hS => ?_)
            subst hw
            obtain ⟨hP1, -, hD1⟩ := hB
            rw [ht] at hP1
            obtain ⟨hP, hD⟩ := jJoin (wc := (W_Tree cI b S1)) (w1 := (W_Tree cI b S1)) (ws' := (W_Tree cI a S) ++ (W_Tree cI b S1) ++ (W_Tree cI a2 S2)) hP hD [2, 3] [0, 1, 4, 5] [0, 1, 4, 5, 2, 3] rfl rfl (by decide) (by decide) hk1 hFc hP1 hD1 (by decide) rfl
            refine lv_goto (tgt := 81) hx hb dX4_joinNodes_71 (by decide) ?_
            exact K81 _ _ _ _ _ _ hF hP hD hS _ (lv_sub hl [4, 5, 6, 7, 8, 9, 1, 0] rfl)
    have KE : ∀ (H : Heap) (locs : List Loc), va_P (dC, dI) vwCl ((W_Tree cI a S) ++ (W_Tree cI b S1) ++ (W_Tree cI a2 S2)) H → va_D A ((W_Tree cI a S) ++ (W_Tree cI b S1) ++ (W_Tree cI a2 S2)) → va_S A s.heap H locs → W p l e (headSpec wsX4_joinNodes ({ frames := 3 + (n + 1), cells := 0, slots := 0, locals := 70 + (n + 1) * 34 } : Room)).room s m ([.ref (a 0), .ref (b 0), .int v3, .ref (a2 0), .int v5, .int v6] : List Value).toArray below meth c H locs 0 0 (MQ below (va_Qv (fun u : S_Tree => Y = u) (fun u : S_Tree => jB (dC, dI) [(cI, .int)] A ((W_Tree cI a u) ++ (W_Tree cI b S1) ++ (W_Tree cI a2 S2))) A) ([.ref (a 0), .ref (b 0), .int v3, .ref (a2 0), .int v5, .int v6] : List Value).toArray s 0 0 A) (F0 m 0 ls []) := by
      intro H locs hP hD hS
      rw [F_X4_joinNodes_s] at hF
      refine lv_iload hx hb dX4_joinNodes_0 (lv_at hl 5 rfl) ?_
      refine lv_iconst (v := (4 : Int32)) hx hb dX4_joinNodes_2 (by decide) ?_
      refine lv_icmp_le (tgt := 7) hx hb dX4_joinNodes_3 (by decide) (fun c69 => ?_) (fun c69 => ?_)
      · have hF := F_pos c69 hF
        refine lv_iload_n hx hb dX4_joinNodes_7 rfl (lv_at hl 2 rfl) ?_
        refine lv_iconst (v := (-1 : Int32)) hx hb dX4_joinNodes_8 (by decide) ?_
        refine lv_icmp_eq (tgt := 16) hx hb dX4_joinNodes_9 (by decide) (fun c70 => ?_) (fun c70 => ?_)
        · have hF := F_pos c70 hF
          refine lv_iconst (v := (0 : Int32)) hx hb dX4_joinNodes_16 (by decide) ?_
          exact K17 _ _ _ _ hF hP hD hS _ (lv_sub hl [0, 1, 2, 3, 4, 5] rfl)
        · have hF := F_neg c70 hF
          refine lv_iconst (v := (1 : Int32)) hx hb dX4_joinNodes_12 (by decide) ?_
          refine lv_goto (tgt := 17) hx hb dX4_joinNodes_13 (by decide) ?_
          exact K17 _ _ _ _ hF hP hD hS _ (lv_sub hl [0, 1, 2, 3, 4, 5] rfl)
      · have hF := F_neg c69 hF
        have e50 := Option.some.inj hF
        subst e50
        exact W.vret hx hb hr (fun t ht hW => ⟨⟨S, rfl, rfl, by rw [ht]; exact hP, va_K.moved hW.alike hK, hD⟩, hS.F ht⟩) hS.2.2 dX4_joinNodes_6
    exact KE _ _ hP hD hS
set_option maxHeartbeats 4000000 in
set_option maxRecDepth 100000 in
theorem c_X4_workOutJoined_false (l : Launch) (dC : Nat → ClassId) (dI : Nat → Nat → Nat) (cI : ClassId) (a : Nat → Nat) (sz : Nat) (S : S_LS)  (Y : S_LS) (hF : F_X4_workOutJoined S false  = some Y) : Met l yX4_workOutJoined wsX4_workOutJoined ({ frames := 12, cells := 0, slots := 0, locals := 376 } : Room) (va_Pc [.ref (a 0), .ref (a 6), .ref (a 8)] (jPre (dC, dI) [(cI, .int)] sz ((W_LS cI a S)))) (va_Qv (fun u : S_LS => Y = u) (fun u : S_LS => jB (dC, dI) [(cI, .int)] (va_A ((W_LS cI a S)) sz) ((W_LS cI a u))) (va_A ((W_LS cI a S)) sz)) 0 0 (va_A ((W_LS cI a S)) sz) := by
  refine Met.ofW (cc := cX4_workOutJoined) (maxL := 3) (ret := none) (by decide) rfl ?_
  intro p e s m args below meth c s₁ B hml hv
  obtain ⟨rfl, hsz, hP, hK, hD0, hN⟩ := hv
  have hx := B.exec
  have hb := B.bytes
  have hr := B.returns
  have hts := atoms_spec (ws := wsX4_workOutJoined) B.pre
  have hown : s.vm.findClass RX4 = some m.cls := findClass_of_methodNamed B.named
  have hlocks := B.notSynchronized
  have hinX3 : ∀ w ∈ u_ws RX3 TX3 3, w ∈ wsX4_workOutJoined := by decide +kernel
  have hinX4 : ∀ w ∈ u_ws RX4 TX4 8, w ∈ wsX4_workOutJoined := by decide +kernel
  subst hsz
  have hD := hD0.self (sz := s.heap.size)
  generalize hAe : (va_A ((W_LS cI a S)) s.heap.size) = A at hD ⊢
  have hA : ∀ q : Nat, s.heap.size ≤ q → A q := fun q h => by rw [← hAe]; exact Or.inr h
  have hS : va_S A s.heap s.heap [] := va_S.rf
  have hl := lv_entry ([.ref (a 0), .ref (a 6), .ref (a 8)]) (n := 3) (Nat.le_of_ble_eq_true rfl)
  rw [lg_entry_eq]
  generalize (lg_sl ([.ref (a 0), .ref (a 6), .ref (a 8)]) ++ List.replicate (3 - (lg_sl ([.ref (a 0), .ref (a 6), .ref (a 8)])).length) Slot.unset).toArray = ls at hl ⊢
  have hl : lv_has ls 3 [(0, .ref (a 0)), (1, .ref (a 6)), (2, .ref (a 8))] := hl
  have K37 : ∀ (S : S_LS) (H : Heap) (locs : List Loc), F_X4_workOutJoined_37 false S = some Y → va_P (dC, dI) vwCl ((W_LS cI a S)) H → va_D A ((W_LS cI a S)) → va_S A s.heap H locs → ∀ ls : Array Slot, lv_has ls 3 [(0, .ref (a 0)), (1, .ref (a 6)), (2, .ref (a 8))] → W p l e (headSpec wsX4_workOutJoined ({ frames := 12, cells := 0, slots := 0, locals := 376 } : Room)).room s m ([.ref (a 0), .ref (a 6), .ref (a 8)] : List Value).toArray below meth c H locs 0 0 (MQ below (va_Qv (fun u : S_LS => Y = u) (fun u : S_LS => jB (dC, dI) [(cI, .int)] A ((W_LS cI a u))) A) ([.ref (a 0), .ref (a 6), .ref (a 8)] : List Value).toArray s 0 0 A) (F0 m 37 ls []) := by
    intro S H locs hF hP hD hS ls hl
    unfold F_X4_workOutJoined_37 at hF
    refine lv_aload_n hx hb dX4_workOutJoined_37 rfl (lv_at hl 0 rfl) ?_
    refine va_get (D := (dC, dI)) (ci := 4) (v := .ref (a 10)) (C := RX4) (T := TX4) (N := 8) hx hb hts hinX4 hown hK hP 0 rfl rfl 6 (by decide) (hts (Cond.fieldLink RX4 34 "LearnedShapes" "work" "LLearnedShapes$Tree;") (List.mem_of_getElem? (i := 1) rfl)) (fun _ h9 => h9) rfl dX4_workOutJoined_38 ?_
    refine lv_aload_n hx hb dX4_workOutJoined_41 rfl (lv_at hl 1 rfl) ?_
    refine lv_aload_n hx hb dX4_workOutJoined_42 rfl (lv_at hl 1 rfl) ?_
    refine va_get (D := (dC, dI)) (ci := 3) (v := .int (g_Tree_size (g_State_tree false (g_LS_now S)))) (C := RX3) (T := TX3) (N := 3) hx hb hts hinX3 hown hK hP 6 rfl rfl 1 (by decide) (hts (Cond.fieldLink RX4 92 "LearnedShapes$Tree" "size" "I") (List.mem_of_getElem? (i := 3) rfl)) (fun _ h9 => h9) rfl dX4_workOutJoined_43 ?_
    refine lv_if_le (tgt := 53) hx hb dX4_workOutJoined_46 (by decide) (fun c1 => ?_) (fun c1 => ?_)
    · have hF := F_pos c1 hF
      refine lv_iconst (v := (-1 : Int32)) hx hb dX4_workOutJoined_53 (by decide) ?_
      refine lv_aload_n hx hb dX4_workOutJoined_54 rfl (lv_at hl 2 rfl) ?_
      refine lv_aload_n hx hb dX4_workOutJoined_55 rfl (lv_at hl 2 rfl) ?_
      refine va_get (D := (dC, dI)) (ci := 3) (v := .int (g_Tree_size (g_State_tree true (g_LS_now S)))) (C := RX3) (T := TX3) (N := 3) hx hb hts hinX3 hown hK hP 8 rfl rfl 1 (by decide) (hts (Cond.fieldLink RX4 92 "LearnedShapes$Tree" "size" "I") (List.mem_of_getElem? (i := 3) rfl)) (fun _ h9 => h9) rfl dX4_workOutJoined_56 ?_
      refine lv_if_le (tgt := 66) hx hb dX4_workOutJoined_59 (by decide) (fun c2 => ?_) (fun c2 => ?_)
      · have hF := F_pos c2 hF
        refine lv_iconst (v := (-1 : Int32)) hx hb dX4_workOutJoined_66 (by decide) ?_
        refine lv_iconst (v := (0 : Int32)) hx hb dX4_workOutJoined_67 (by decide) ?_
        obtain ⟨u3, h4, hF⟩ := ob1_some hF
        have hPc := hP.sub (ws' := (W_Tree cI (sh a 10) (g_LS_work S)) ++ (W_Tree cI (sh a 6) (g_State_tree false (g_LS_now S))) ++ (W_Tree cI (sh a 8) (g_State_tree true (g_LS_now S)))) [10, 11, 6, 7, 8, 9] rfl
        have hDc := hD.sub (ws' := (W_Tree cI (sh a 10) (g_LS_work S)) ++ (W_Tree cI (sh a 6) (g_State_tree false (g_LS_now S))) ++ (W_Tree cI (sh a 8) (g_State_tree true (g_LS_now S)))) [10, 11, 6, 7, 8, 9] (by decide) rfl
        have hFc := va_free (wc := (W_Tree cI (sh a 10) (g_LS_work S)) ++ (W_Tree cI (sh a 6) (g_State_tree false (g_LS_now S))) ++ (W_Tree cI (sh a 8) (g_State_tree true (g_LS_now S)))) hD hS hA [10, 11, 6, 7, 8, 9] rfl
        refine va_callv (va_runS (As := [.ref (a 10), .ref (a 6), .int (-1 : Int32), .ref (a 8), .int (-1 : Int32), .int (0 : Int32)]) (rest := []) ⟨hx, hb, hml, hown, hts⟩ (c_X4_joinNodes l dC dI cI (sh a 10) (sh a 6) (sh a 8) 8 H.size _ _ _ _ _ _ _ h4) (va_cwS 6 hts gX4_workOutJoined_X4_joinNodes rfl rfl rfl (by decide +kernel) ⟨Nat.le_of_ble_eq_true rfl, Nat.le_of_ble_eq_true rfl⟩) (jPreS hK hPc hDc hN) rfl rfl hl.1 rfl (lv_room (Nat.le_of_ble_eq_true rfl)) dX4_workOutJoined_68 ⟨Nat.le_of_ble_eq_true rfl, Nat.le_of_ble_eq_true rfl⟩) hS (fun q _ h => hFc q h) hFc (fun u' t H locs ht hvm hw hB hz1 hk1 hS => ?_)
        subst hw
        obtain ⟨hP1, -, hD1⟩ := hB
        rw [ht] at hP1
        obtain ⟨hP, hD⟩ := jJoin (wc := (W_Tree cI (sh a 10) (g_LS_work S)) ++ (W_Tree cI (sh a 6) (g_State_tree false (g_LS_now S))) ++ (W_Tree cI (sh a 8) (g_State_tree true (g_LS_now S)))) (w1 := (W_Tree cI (sh a 10) u3) ++ (W_Tree cI (sh a 6) (g_State_tree false (g_LS_now S))) ++ (W_Tree cI (sh a 8) (g_State_tree true (g_LS_now S)))) (ws' := (W_LS cI a (s_LS_work S u3))) hP hD [10, 11, 6, 7, 8, 9] [0, 1, 2, 3, 4, 5, 12] [0, 1, 2, 3, 4, 5, 9, 10, 11, 12, 7, 8, 6] rfl rfl (by decide) (by decide) hk1 hFc hP1 hD1 (by decide) rfl
        have e50 := Option.some.inj hF
        subst e50
        exact W.vret hx hb hr (fun t ht hW => ⟨⟨(s_LS_work S u3), rfl, rfl, by rw [ht]; exact hP, va_K.moved hW.alike hK, hD⟩, hS.F ht⟩) hS.2.2 dX4_workOutJoined_71
      · have hF := F_neg c2 hF
        refine lv_iconst (v := (0 : Int32)) hx hb dX4_workOutJoined_62 (by decide) ?_
        refine lv_goto (tgt := 67) hx hb dX4_workOutJoined_63 (by decide) ?_
        refine lv_iconst (v := (0 : Int32)) hx hb dX4_workOutJoined_67 (by decide) ?_
        obtain ⟨u5, h6, hF⟩ := ob1_some hF
        have hPc := hP.sub (ws' := (W_Tree cI (sh a 10) (g_LS_work S)) ++ (W_Tree cI (sh a 6) (g_State_tree false (g_LS_now S))) ++ (W_Tree cI (sh a 8) (g_State_tree true (g_LS_now S)))) [10, 11, 6, 7, 8, 9] rfl
        have hDc := hD.sub (ws' := (W_Tree cI (sh a 10) (g_LS_work S)) ++ (W_Tree cI (sh a 6) (g_State_tree false (g_LS_now S))) ++ (W_Tree cI (sh a 8) (g_State_tree true (g_LS_now S)))) [10, 11, 6, 7, 8, 9] (by decide) rfl
        have hFc := va_free (wc := (W_Tree cI (sh a 10) (g_LS_work S)) ++ (W_Tree cI (sh a 6) (g_State_tree false (g_LS_now S))) ++ (W_Tree cI (sh a 8) (g_State_tree true (g_LS_now S)))) hD hS hA [10, 11, 6, 7, 8, 9] rfl
        refine va_callv (va_runS (As := [.ref (a 10), .ref (a 6), .int (-1 : Int32), .ref (a 8), .int (0 : Int32), .int (0 : Int32)]) (rest := []) ⟨hx, hb, hml, hown, hts⟩ (c_X4_joinNodes l dC dI cI (sh a 10) (sh a 6) (sh a 8) 8 H.size _ _ _ _ _ _ _ h6) (va_cwS 6 hts gX4_workOutJoined_X4_joinNodes rfl rfl rfl (by decide +kernel) ⟨Nat.le_of_ble_eq_true rfl, Nat.le_of_ble_eq_true rfl⟩) (jPreS hK hPc hDc hN) rfl rfl hl.1 rfl (lv_room (Nat.le_of_ble_eq_true rfl)) dX4_workOutJoined_68 ⟨Nat.le_of_ble_eq_true rfl, Nat.le_of_ble_eq_true rfl⟩) hS (fun q _ h => hFc q h) hFc (fun u' t H locs ht hvm hw hB hz1 hk1 hS => ?_)
        subst hw
        obtain ⟨hP1, -, hD1⟩ := hB
        rw [ht] at hP1
        obtain ⟨hP, hD⟩ := jJoin (wc := (W_Tree cI (sh a 10) (g_LS_work S)) ++ (W_Tree cI (sh a 6) (g_State_tree false (g_LS_now S))) ++ (W_Tree cI (sh a 8) (g_State_tree true (g_LS_now S)))) (w1 := (W_Tree cI (sh a 10) u5) ++ (W_Tree cI (sh a 6) (g_State_tree false (g_LS_now S))) ++ (W_Tree cI (sh a 8) (g_State_tree true (g_LS_now S)))) (ws' := (W_LS cI a (s_LS_work S u5))) hP hD [10, 11, 6, 7, 8, 9] [0, 1, 2, 3, 4, 5, 12] [0, 1, 2, 3, 4, 5, 9, 10, 11, 12, 7, 8, 6] rfl rfl (by decide) (by decide) hk1 hFc hP1 hD1 (by decide) rfl
        have e50 := Option.some.inj hF
        subst e50
        exact W.vret hx hb hr (fun t ht hW => ⟨⟨(s_LS_work S u5), rfl, rfl, by rw [ht]; exact hP, va_K.moved hW.alike hK, hD⟩, hS.F ht⟩) hS.2.2 dX4_workOutJoined_71
    · have hF := F_neg c1 hF
      refine lv_iconst (v := (0 : Int32)) hx hb dX4_workOutJoined_49 (by decide) ?_
      refine lv_goto (tgt := 54) hx hb dX4_workOutJoined_50 (by decide) ?_
      refine lv_aload_n hx hb dX4_workOutJoined_54 rfl (lv_at hl 2 rfl) ?_
      refine lv_aload_n hx hb dX4_workOutJoined_55 rfl (lv_at hl 2 rfl) ?_
      refine va_get (D := (dC, dI)) (ci := 3) (v := .int (g_Tree_size (g_State_tree true (g_LS_now S)))) (C := RX3) (T := TX3) (N := 3) hx hb hts hinX3 hown hK hP 8 rfl rfl 1 (by decide) (hts (Cond.fieldLink RX4 92 "LearnedShapes$Tree" "size" "I") (List.mem_of_getElem? (i := 3) rfl)) (fun _ h9 => h9) rfl dX4_workOutJoined_56 ?_
      refine lv_if_le (tgt := 66) hx hb dX4_workOutJoined_59 (by decide) (fun c7 => ?_) (fun c7 => ?_)
      · have hF := F_pos c7 hF
        refine lv_iconst (v := (-1 : Int32)) hx hb dX4_workOutJoined_66 (by decide) ?_
        refine lv_iconst (v := (0 : Int32)) hx hb dX4_workOutJoined_67 (by decide) ?_
        obtain ⟨u8, h9, hF⟩ := ob1_some hF
        have hPc := hP.sub (ws' := (W_Tree cI (sh a 10) (g_LS_work S)) ++ (W_Tree cI (sh a 6) (g_State_tree false (g_LS_now S))) ++ (W_Tree cI (sh a 8) (g_State_tree true (g_LS_now S)))) [10, 11, 6, 7, 8, 9] rfl
        have hDc := hD.sub (ws' := (W_Tree cI (sh a 10) (g_LS_work S)) ++ (W_Tree cI (sh a 6) (g_State_tree false (g_LS_now S))) ++ (W_Tree cI (sh a 8) (g_State_tree true (g_LS_now S)))) [10, 11, 6, 7, 8, 9] (by decide) rfl
        have hFc := va_free (wc := (W_Tree cI (sh a 10) (g_LS_work S)) ++ (W_Tree cI (sh a 6) (g_State_tree false (g_LS_now S))) ++ (W_Tree cI (sh a 8) (g_State_tree true (g_LS_now S)))) hD hS hA [10, 11, 6, 7, 8, 9] rfl
        refine va_callv (va_runS (As := [.ref (a 10), .ref (a 6), .int (0 : Int32), .ref (a 8), .int (-1 : Int32), .int (0 : Int32)]) (rest := []) ⟨hx, hb, hml, hown, hts⟩ (c_X4_joinNodes l dC dI cI (sh a 10) (sh a 6) (sh a 8) 8 H.size _ _ _ _ _ _ _ h9) (va_cwS 6 hts gX4_workOutJoined_X4_joinNodes rfl rfl rfl (by decide +kernel) ⟨Nat.le_of_ble_eq_true rfl, Nat.le_of_ble_eq_true rfl⟩) (jPreS hK hPc hDc hN) rfl rfl hl.1 rfl (lv_room (Nat.le_of_ble_eq_true rfl)) dX4_workOutJoined_68 ⟨Nat.le_of_ble_eq_true rfl, Nat.le_of_ble_eq_true rfl⟩) hS (fun q _ h => hFc q h) hFc (fun u' t H locs ht hvm hw hB hz1 hk1 hS => ?_)
        subst hw
        obtain ⟨hP1, -, hD1⟩ := hB
        rw [ht] at hP1
        obtain ⟨hP, hD⟩ := jJoin (wc := (W_Tree cI (sh a 10) (g_LS_work S)) ++ (W_Tree cI (sh a 6) (g_State_tree false (g_LS_now S))) ++ (W_Tree cI (sh a 8) (g_State_tree true (g_LS_now S)))) (w1 := (W_Tree cI (sh a 10) u8) ++ (W_Tree cI (sh a 6) (g_State_tree false (g_LS_now S))) ++ (W_Tree cI (sh a 8) (g_State_tree true (g_LS_now S)))) (ws' := (W_LS cI a (s_LS_work S u8))) hP hD [10, 11, 6, 7, 8, 9] [0, 1, 2, 3, 4, 5, 12] [0, 1, 2, 3, 4, 5, 9, 10, 11, 12, 7, 8, 6] rfl rfl (by decide) (by decide) hk1 hFc hP1 hD1 (by decide) rfl
        have e50 := Option.some.inj hF
        subst e50
        exact W.vret hx hb hr (fun t ht hW => ⟨⟨(s_LS_work S u8), rfl, rfl, by rw [ht]; exact hP, va_K.moved hW.alike hK, hD⟩, hS.F ht⟩) hS.2.2 dX4_workOutJoined_71
      · have hF := F_neg c7 hF
        refine lv_iconst (v := (0 : Int32)) hx hb dX4_workOutJoined_62 (by decide) ?_
        refine lv_goto (tgt := 67) hx hb dX4_workOutJoined_63 (by decide) ?_
        refine lv_iconst (v := (0 : Int32)) hx hb dX4_workOutJoined_67 (by decide) ?_
        obtain ⟨u10, h11, hF⟩ := ob1_some hF
        have hPc := hP.sub (ws' := (W_Tree cI (sh a 10) (g_LS_work S)) ++ (W_Tree cI (sh a 6) (g_State_tree false (g_LS_now S))) ++ (W_Tree cI (sh a 8) (g_State_tree true (g_LS_now S)))) [10, 11, 6, 7, 8, 9] rfl
        have hDc := hD.sub (ws' := (W_Tree cI (sh a 10) (g_LS_work S)) ++ (W_Tree cI (sh a 6) (g_State_tree false (g_LS_now S))) ++ (W_Tree cI (sh a 8) (g_State_tree true (g_LS_now S)))) [10, 11, 6, 7, 8, 9] (by decide) rfl
        have hFc := va_free (wc := (W_Tree cI (sh a 10) (g_LS_work S)) ++ (W_Tree cI (sh a 6) (g_State_tree false (g_LS_now S))) ++ (W_Tree cI (sh a 8) (g_State_tree true (g_LS_now S)))) hD hS hA [10, 11, 6, 7, 8, 9] rfl
        refine va_callv (va_runS (As := [.ref (a 10), .ref (a 6), .int (0 : Int32), .ref (a 8), .int (0 : Int32), .int (0 : Int32)]) (rest := []) ⟨hx, hb, hml, hown, hts⟩ (c_X4_joinNodes l dC dI cI (sh a 10) (sh a 6) (sh a 8) 8 H.size _ _ _ _ _ _ _ h11) (va_cwS 6 hts gX4_workOutJoined_X4_joinNodes rfl rfl rfl (by decide +kernel) ⟨Nat.le_of_ble_eq_true rfl, Nat.le_of_ble_eq_true rfl⟩) (jPreS hK hPc hDc hN) rfl rfl hl.1 rfl (lv_room (Nat.le_of_ble_eq_true rfl)) dX4_workOutJoined_68 ⟨Nat.le_of_ble_eq_true rfl, Nat.le_of_ble_eq_true rfl⟩) hS (fun q _ h => hFc q h) hFc (fun u' t H locs ht hvm hw hB hz1 hk1 hS => ?_)
        subst hw
        obtain ⟨hP1, -, hD1⟩ := hB
        rw [ht] at hP1
        obtain ⟨hP, hD⟩ := jJoin (wc := (W_Tree cI (sh a 10) (g_LS_work S)) ++ (W_Tree cI (sh a 6) (g_State_tree false (g_LS_now S))) ++ (W_Tree cI (sh a 8) (g_State_tree true (g_LS_now S)))) (w1 := (W_Tree cI (sh a 10) u10) ++ (W_Tree cI (sh a 6) (g_State_tree false (g_LS_now S))) ++ (W_Tree cI (sh a 8) (g_State_tree true (g_LS_now S)))) (ws' := (W_LS cI a (s_LS_work S u10))) hP hD [10, 11, 6, 7, 8, 9] [0, 1, 2, 3, 4, 5, 12] [0, 1, 2, 3, 4, 5, 9, 10, 11, 12, 7, 8, 6] rfl rfl (by decide) (by decide) hk1 hFc hP1 hD1 (by decide) rfl
        have e50 := Option.some.inj hF
        subst e50
        exact W.vret hx hb hr (fun t ht hW => ⟨⟨(s_LS_work S u10), rfl, rfl, by rw [ht]; exact hP, va_K.moved hW.alike hK, hD⟩, hS.F ht⟩) hS.2.2 dX4_workOutJoined_71
  have KE : ∀ (H : Heap) (locs : List Loc), va_P (dC, dI) vwCl ((W_LS cI a S)) H → va_D A ((W_LS cI a S)) → va_S A s.heap H locs → W p l e (headSpec wsX4_workOutJoined ({ frames := 12, cells := 0, slots := 0, locals := 376 } : Room)).room s m ([.ref (a 0), .ref (a 6), .ref (a 8)] : List Value).toArray below meth c H locs 0 0 (MQ below (va_Qv (fun u : S_LS => Y = u) (fun u : S_LS => jB (dC, dI) [(cI, .int)] A ((W_LS cI a u))) A) ([.ref (a 0), .ref (a 6), .ref (a 8)] : List Value).toArray s 0 0 A) (F0 m 0 ls []) := by
    intro H locs hP hD hS
    unfold F_X4_workOutJoined at hF
    refine lv_aload_n hx hb dX4_workOutJoined_0 rfl (lv_at hl 0 rfl) ?_
    refine va_get (D := (dC, dI)) (ci := 4) (v := .ref (a 10)) (C := RX4) (T := TX4) (N := 8) hx hb hts hinX4 hown hK hP 0 rfl rfl 6 (by decide) (hts (Cond.fieldLink RX4 34 "LearnedShapes" "work" "LLearnedShapes$Tree;") (List.mem_of_getElem? (i := 1) rfl)) (fun _ h9 => h9) rfl dX4_workOutJoined_1 ?_
    obtain ⟨u12, h13, hF⟩ := ob1_some hF
    have hPc := hP.sub (ws' := (W_Tree cI (sh a 10) (g_LS_work S))) [10, 11] rfl
    have hDc := hD.sub (ws' := (W_Tree cI (sh a 10) (g_LS_work S))) [10, 11] (by decide) rfl
    have hFc := va_free (wc := (W_Tree cI (sh a 10) (g_LS_work S))) hD hS hA [10, 11] rfl
    refine va_callv (va_runV (As := []) (rest := []) ⟨hx, hb, hml, hown, hts⟩ (c_X3_clear l dC dI cI (sh a 10) H.size _ _ h13) (cwV 0 hts gX4_workOutJoined_X3_clear rfl rfl rfl (by decide +kernel) ⟨Nat.le_of_ble_eq_true rfl, Nat.le_of_ble_eq_true rfl⟩) (jPreV hK hPc hDc hN (ci := 3) rfl rfl) rfl rfl hl.1 rfl (lv_room (Nat.le_of_ble_eq_true rfl)) dX4_workOutJoined_4 ⟨Nat.le_of_ble_eq_true rfl, Nat.le_of_ble_eq_true rfl⟩) hS (fun q _ h => hFc q h) hFc (fun u' t H locs ht hvm hw hB hz1 hk1 hS => ?_)
    subst hw
    obtain ⟨hP1, -, hD1⟩ := hB
    rw [ht] at hP1
    obtain ⟨hP, hD⟩ := jJoin (wc := (W_Tree cI (sh a 10) (g_LS_work S))) (w1 := (W_Tree cI (sh a 10) u12)) (ws' := (W_LS cI a (s_LS_work S u12))) hP hD [10, 11] [0, 1, 2, 3, 4, 5, 6, 7, 8, 9, 12] [0, 1, 2, 3, 4, 5, 6, 7, 8, 9, 11, 12, 10] rfl rfl (by decide) (by decide) hk1 hFc hP1 hD1 (by decide) rfl
    refine lv_aload_n hx hb dX4_workOutJoined_7 rfl (lv_at hl 0 rfl) ?_
    refine va_get (D := (dC, dI)) (ci := 4) (v := .ref (a 10)) (C := RX4) (T := TX4) (N := 8) hx hb hts hinX4 hown hK hP 0 rfl rfl 6 (by decide) (hts (Cond.fieldLink RX4 34 "LearnedShapes" "work" "LLearnedShapes$Tree;") (List.mem_of_getElem? (i := 1) rfl)) (fun _ h9 => h9) rfl dX4_workOutJoined_8 ?_
    refine lv_aload_n hx hb dX4_workOutJoined_11 rfl (lv_at hl 1 rfl) ?_
    refine va_get (D := (dC, dI)) (ci := 3) (v := .int (g_Tree_documents (g_State_tree false (g_LS_now S)))) (C := RX3) (T := TX3) (N := 3) hx hb hts hinX3 hown hK hP 6 rfl rfl 2 (by decide) (hts (Cond.fieldLink RX4 226 "LearnedShapes$Tree" "documents" "I") (List.mem_of_getElem? (i := 2) rfl)) (fun _ h9 => h9) rfl dX4_workOutJoined_12 ?_
    refine lv_aload_n hx hb dX4_workOutJoined_15 rfl (lv_at hl 2 rfl) ?_
    refine va_get (D := (dC, dI)) (ci := 3) (v := .int (g_Tree_documents (g_State_tree true (g_LS_now S)))) (C := RX3) (T := TX3) (N := 3) hx hb hts hinX3 hown hK hP 8 rfl rfl 2 (by decide) (hts (Cond.fieldLink RX4 226 "LearnedShapes$Tree" "documents" "I") (List.mem_of_getElem? (i := 2) rfl)) (fun _ h9 => h9) rfl dX4_workOutJoined_16 ?_
    refine lv_iadd hx hb dX4_workOutJoined_19 ?_
    refine va_put (D := (dC, dI)) (ci := 3) (v := .int ((g_Tree_documents (g_State_tree false (g_LS_now S))) + (g_Tree_documents (g_State_tree true (g_LS_now S))))) (ty := .int) (C := RX3) (T := TX3) (N := 3) hx hb hts hinX3 tyX3 tyX3_ok nmX3 hown hK hP hD hS 10 rfl rfl 2 (by decide) (hts (Cond.fieldLink RX4 226 "LearnedShapes$Tree" "documents" "I") (List.mem_of_getElem? (i := 2) rfl)) (fun _ h9 => h9) rfl (by decide +kernel) (rfl) rfl (Nat.le_of_ble_eq_true rfl) dX4_workOutJoined_20 (fun H locs hP hD hS => ?_)
    have hP : va_P (dC, dI) vwCl ((W_LS cI a (s_LS_work S (s_Tree_documents u12 ((g_Tree_documents (g_State_tree false (g_LS_now S))) + (g_Tree_documents (g_State_tree true (g_LS_now S)))))))) H := hP
    have hD : va_D A ((W_LS cI a (s_LS_work S (s_Tree_documents u12 ((g_Tree_documents (g_State_tree false (g_LS_now S))) + (g_Tree_documents (g_State_tree true (g_LS_now S)))))))) := hD
    refine lv_aload_n hx hb dX4_workOutJoined_23 rfl (lv_at hl 1 rfl) ?_
    refine va_get (D := (dC, dI)) (ci := 3) (v := .int (g_Tree_size (g_State_tree false (g_LS_now S)))) (C := RX3) (T := TX3) (N := 3) hx hb hts hinX3 hown hK hP 6 rfl rfl 1 (by decide) (hts (Cond.fieldLink RX4 92 "LearnedShapes$Tree" "size" "I") (List.mem_of_getElem? (i := 3) rfl)) (fun _ h9 => h9) rfl dX4_workOutJoined_24 ?_
    refine lv_if_gt (tgt := 37) hx hb dX4_workOutJoined_27 (by decide) (fun c14 => ?_) (fun c14 => ?_)
    · have hF := F_pos c14 hF
      exact K37 _ _ _ hF hP hD hS _ (lv_sub hl [0, 1, 2] rfl)
    · have hF := F_neg c14 hF
      refine lv_aload_n hx hb dX4_workOutJoined_30 rfl (lv_at hl 2 rfl) ?_
      refine va_get (D := (dC, dI)) (ci := 3) (v := .int (g_Tree_size (g_State_tree true (g_LS_now S)))) (C := RX3) (T := TX3) (N := 3) hx hb hts hinX3 hown hK hP 8 rfl rfl 1 (by decide) (hts (Cond.fieldLink RX4 92 "LearnedShapes$Tree" "size" "I") (List.mem_of_getElem? (i := 3) rfl)) (fun _ h9 => h9) rfl dX4_workOutJoined_31 ?_
      refine lv_if_le (tgt := 71) hx hb dX4_workOutJoined_34 (by decide) (fun c15 => ?_) (fun c15 => ?_)
      · have hF := F_pos c15 hF
        have e50 := Option.some.inj hF
        subst e50
        exact W.vret hx hb hr (fun t ht hW => ⟨⟨(s_LS_work S (s_Tree_documents u12 ((g_Tree_documents (g_State_tree false (g_LS_now S))) + (g_Tree_documents (g_State_tree true (g_LS_now S)))))), rfl, rfl, by rw [ht]; exact hP, va_K.moved hW.alike hK, hD⟩, hS.F ht⟩) hS.2.2 dX4_workOutJoined_71
      · have hF := F_neg c15 hF
        exact K37 _ _ _ hF hP hD hS _ (lv_sub hl [0, 1, 2] rfl)
  exact KE _ _ hP hD hS
set_option maxHeartbeats 4000000 in
set_option maxRecDepth 100000 in
theorem c_X4_workOutJoined_true (l : Launch) (dC : Nat → ClassId) (dI : Nat → Nat → Nat) (cI : ClassId) (a : Nat → Nat) (sz : Nat) (S : S_LS)  (Y : S_LS) (hF : F_X4_workOutJoined S true  = some Y) : Met l yX4_workOutJoined wsX4_workOutJoined ({ frames := 12, cells := 0, slots := 0, locals := 376 } : Room) (va_Pc [.ref (a 0), .ref (a 8), .ref (a 6)] (jPre (dC, dI) [(cI, .int)] sz ((W_LS cI a S)))) (va_Qv (fun u : S_LS => Y = u) (fun u : S_LS => jB (dC, dI) [(cI, .int)] (va_A ((W_LS cI a S)) sz) ((W_LS cI a u))) (va_A ((W_LS cI a S)) sz)) 0 0 (va_A ((W_LS cI a S)) sz) := by
  refine Met.ofW (cc := cX4_workOutJoined) (maxL := 3) (ret := none) (by decide) rfl ?_
  intro p e s m args below meth c s₁ B hml hv
  obtain ⟨rfl, hsz, hP, hK, hD0, hN⟩ := hv
  have hx := B.exec
  have hb := B.bytes
  have hr := B.returns
  have hts := atoms_spec (ws := wsX4_workOutJoined) B.pre
  have hown : s.vm.findClass RX4 = some m.cls := findClass_of_methodNamed B.named
  have hlocks := B.notSynchronized
  have hinX3 : ∀ w ∈ u_ws RX3 TX3 3, w ∈ wsX4_workOutJoined := by decide +kernel
  have hinX4 : ∀ w ∈ u_ws RX4 TX4 8, w ∈ wsX4_workOutJoined := by decide +kernel
  subst hsz
  have hD := hD0.self (sz := s.heap.size)
  generalize hAe : (va_A ((W_LS cI a S)) s.heap.size) = A at hD ⊢
  have hA : ∀ q : Nat, s.heap.size ≤ q → A q := fun q h => by rw [← hAe]; exact Or.inr h
  have hS : va_S A s.heap s.heap [] := va_S.rf
  have hl := lv_entry ([.ref (a 0), .ref (a 8), .ref (a 6)]) (n := 3) (Nat.le_of_ble_eq_true rfl)
  rw [lg_entry_eq]
  generalize (lg_sl ([.ref (a 0), .ref (a 8), .ref (a 6)]) ++ List.replicate (3 - (lg_sl ([.ref (a 0), .ref (a 8), .ref (a 6)])).length) Slot.unset).toArray = ls at hl ⊢
  have hl : lv_has ls 3 [(0, .ref (a 0)), (1, .ref (a 8)), (2, .ref (a 6))] := hl
  have K37 : ∀ (S : S_LS) (H : Heap) (locs : List Loc), F_X4_workOutJoined_37 true S = some Y → va_P (dC, dI) vwCl ((W_LS cI a S)) H → va_D A ((W_LS cI a S)) → va_S A s.heap H locs → ∀ ls : Array Slot, lv_has ls 3 [(0, .ref (a 0)), (1, .ref (a 8)), (2, .ref (a 6))] → W p l e (headSpec wsX4_workOutJoined ({ frames := 12, cells := 0, slots := 0, locals := 376 } : Room)).room s m ([.ref (a 0), .ref (a 8), .ref (a 6)] : List Value).toArray below meth c H locs 0 0 (MQ below (va_Qv (fun u : S_LS => Y = u) (fun u : S_LS => jB (dC, dI) [(cI, .int)] A ((W_LS cI a u))) A) ([.ref (a 0), .ref (a 8), .ref (a 6)] : List Value).toArray s 0 0 A) (F0 m 37 ls []) := by
    intro S H locs hF hP hD hS ls hl
    unfold F_X4_workOutJoined_37 at hF
    refine lv_aload_n hx hb dX4_workOutJoined_37 rfl (lv_at hl 0 rfl) ?_
    refine va_get (D := (dC, dI)) (ci := 4) (v := .ref (a 10)) (C := RX4) (T := TX4) (N := 8) hx hb hts hinX4 hown hK hP 0 rfl rfl 6 (by decide) (hts (Cond.fieldLink RX4 34 "LearnedShapes" "work" "LLearnedShapes$Tree;") (List.mem_of_getElem? (i := 1) rfl)) (fun _ h9 => h9) rfl dX4_workOutJoined_38 ?_
    refine lv_aload_n hx hb dX4_workOutJoined_41 rfl (lv_at hl 1 rfl) ?_
    refine lv_aload_n hx hb dX4_workOutJoined_42 rfl (lv_at hl 1 rfl) ?_
    refine va_get (D := (dC, dI)) (ci := 3) (v := .int (g_Tree_size (g_State_tree true (g_LS_now S)))) (C := RX3) (T := TX3) (N := 3) hx hb hts hinX3 hown hK hP 8 rfl rfl 1 (by decide) (hts (Cond.fieldLink RX4 92 "LearnedShapes$Tree" "size" "I") (List.mem_of_getElem? (i := 3) rfl)) (fun _ h9 => h9) rfl dX4_workOutJoined_43 ?_
    refine lv_if_le (tgt := 53) hx hb dX4_workOutJoined_46 (by decide) (fun c1 => ?_) (fun c1 => ?_)
    · have hF := F_pos c1 hF
      refine lv_iconst (v := (-1 : Int32)) hx hb dX4_workOutJoined_53 (by decide) ?_
      refine lv_aload_n hx hb dX4_workOutJoined_54 rfl (lv_at hl 2 rfl) ?_
      refine lv_aload_n hx hb dX4_workOutJoined_55 rfl (lv_at hl 2 rfl) ?_
      refine va_get (D := (dC, dI)) (ci := 3) (v := .int (g_Tree_size (g_State_tree false (g_LS_now S)))) (C := RX3) (T := TX3) (N := 3) hx hb hts hinX3 hown hK hP 6 rfl rfl 1 (by decide) (hts (Cond.fieldLink RX4 92 "LearnedShapes$Tree" "size" "I") (List.mem_of_getElem? (i := 3) rfl)) (fun _ h9 => h9) rfl dX4_workOutJoined_56 ?_
      refine lv_if_le (tgt := 66) hx hb dX4_workOutJoined_59 (by decide) (fun c2 => ?_) (fun c2 => ?_)
      · have hF := F_pos c2 hF
        refine lv_iconst (v := (-1 : Int32)) hx hb dX4_workOutJoined_66 (by decide) ?_
        refine lv_iconst (v := (0 : Int32)) hx hb dX4_workOutJoined_67 (by decide) ?_
        obtain ⟨u3, h4, hF⟩ := ob1_some hF
        have hPc := hP.sub (ws' := (W_Tree cI (sh a 10) (g_LS_work S)) ++ (W_Tree cI (sh a 8) (g_State_tree true (g_LS_now S))) ++ (W_Tree cI (sh a 6) (g_State_tree false (g_LS_now S)))) [10, 11, 8, 9, 6, 7] rfl
        have hDc := hD.sub (ws' := (W_Tree cI (sh a 10) (g_LS_work S)) ++ (W_Tree cI (sh a 8) (g_State_tree true (g_LS_now S))) ++ (W_Tree cI (sh a 6) (g_State_tree false (g_LS_now S)))) [10, 11, 8, 9, 6, 7] (by decide) rfl
        have hFc := va_free (wc := (W_Tree cI (sh a 10) (g_LS_work S)) ++ (W_Tree cI (sh a 8) (g_State_tree true (g_LS_now S))) ++ (W_Tree cI (sh a 6) (g_State_tree false (g_LS_now S)))) hD hS hA [10, 11, 8, 9, 6, 7] rfl
        refine va_callv (va_runS (As := [.ref (a 10), .ref (a 8), .int (-1 : Int32), .ref (a 6), .int (-1 : Int32), .int (0 : Int32)]) (rest := []) ⟨hx, hb, hml, hown, hts⟩ (c_X4_joinNodes l dC dI cI (sh a 10) (sh a 8) (sh a 6) 8 H.size _ _ _ _ _ _ _ h4) (va_cwS 6 hts gX4_workOutJoined_X4_joinNodes rfl rfl rfl (by decide +kernel) ⟨Nat.le_of_ble_eq_true rfl, Nat.le_of_ble_eq_true rfl⟩) (jPreS hK hPc hDc hN) rfl rfl hl.1 rfl (lv_room (Nat.le_of_ble_eq_true rfl)) dX4_workOutJoined_68 ⟨Nat.le_of_ble_eq_true rfl, Nat.le_of_ble_eq_true rfl⟩) hS (fun q _ h => hFc q h) hFc (fun u' t H locs ht hvm hw hB hz1 hk1 hS => ?_)
        subst hw
        obtain ⟨hP1, -, hD1⟩ := hB
        rw [ht] at hP1
        obtain ⟨hP, hD⟩ := jJoin (wc := (W_Tree cI (sh a 10) (g_LS_work S)) ++ (W_Tree cI (sh a 8) (g_State_tree true (g_LS_now S))) ++ (W_Tree cI (sh a 6) (g_State_tree false (g_LS_now S)))) (w1 := (W_Tree cI (sh a 10) u3) ++ (W_Tree cI (sh a 8) (g_State_tree true (g_LS_now S))) ++ (W_Tree cI (sh a 6) (g_State_tree false (g_LS_now S)))) (ws' := (W_LS cI a (s_LS_work S u3))) hP hD [10, 11, 8, 9, 6, 7] [0, 1, 2, 3, 4, 5, 12] [0, 1, 2, 3, 4, 5, 11, 12, 9, 10, 7, 8, 6] rfl rfl (by decide) (by decide) hk1 hFc hP1 hD1 (by decide) rfl
        have e50 := Option.some.inj hF
        subst e50
        exact W.vret hx hb hr (fun t ht hW => ⟨⟨(s_LS_work S u3), rfl, rfl, by rw [ht]; exact hP, va_K.moved hW.alike hK, hD⟩, hS.F ht⟩) hS.2.2 dX4_workOutJoined_71
      · have hF := F_neg c2 hF
        refine lv_iconst (v := (0 : Int32)) hx hb dX4_workOutJoined_62 (by decide) ?_
        refine lv_goto (tgt := 67) hx hb dX4_workOutJoined_63 (by decide) ?_
        refine lv_iconst (v := (0 : Int32)) hx hb dX4_workOutJoined_67 (by decide) ?_
        obtain ⟨u5, h6, hF⟩ := ob1_some hF
        have hPc := hP.sub (ws' := (W_Tree cI (sh a 10) (g_LS_work S)) ++ (W_Tree cI (sh a 8) (g_State_tree true (g_LS_now S))) ++ (W_Tree cI (sh a 6) (g_State_tree false (g_LS_now S)))) [10, 11, 8, 9, 6, 7] rfl
        have hDc := hD.sub (ws' := (W_Tree cI (sh a 10) (g_LS_work S)) ++ (W_Tree cI (sh a 8) (g_State_tree true (g_LS_now S))) ++ (W_Tree cI (sh a 6) (g_State_tree false (g_LS_now S)))) [10, 11, 8, 9, 6, 7] (by decide) rfl
        have hFc := va_free (wc := (W_Tree cI (sh a 10) (g_LS_work S)) ++ (W_Tree cI (sh a 8) (g_State_tree true (g_LS_now S))) ++ (W_Tree cI (sh a 6) (g_State_tree false (g_LS_now S)))) hD hS hA [10, 11, 8, 9, 6, 7] rfl
        refine va_callv (va_runS (As := [.ref (a 10), .ref (a 8), .int (-1 : Int32), .ref (a 6), .int (0 : Int32), .int (0 : Int32)]) (rest := []) ⟨hx, hb, hml, hown, hts⟩ (c_X4_joinNodes l dC dI cI (sh a 10) (sh a 8) (sh a 6) 8 H.size _ _ _ _ _ _ _ h6) (va_cwS 6 hts gX4_workOutJoined_X4_joinNodes rfl rfl rfl (by decide +kernel) ⟨Nat.le_of_ble_eq_true rfl, Nat.le_of_ble_eq_true rfl⟩) (jPreS hK hPc hDc hN) rfl rfl hl.1 rfl (lv_room (Nat.le_of_ble_eq_true rfl)) dX4_workOutJoined_68 ⟨Nat.le_of_ble_eq_true rfl, Nat.le_of_ble_eq_true rfl⟩) hS (fun q _ h => hFc q h) hFc (fun u' t H locs ht hvm hw hB hz1 hk1 hS => ?_)
        subst hw
        obtain ⟨hP1, -, hD1⟩ := hB
        rw [ht] at hP1
        obtain ⟨hP, hD⟩ := jJoin (wc := (W_Tree cI (sh a 10) (g_LS_work S)) ++ (W_Tree cI (sh a 8) (g_State_tree true (g_LS_now S))) ++ (W_Tree cI (sh a 6) (g_State_tree false (g_LS_now S)))) (w1 := (W_Tree cI (sh a 10) u5) ++ (W_Tree cI (sh a 8) (g_State_tree true (g_LS_now S))) ++ (W_Tree cI (sh a 6) (g_State_tree false (g_LS_now S)))) (ws' := (W_LS cI a (s_LS_work S u5))) hP hD [10, 11, 8, 9, 6, 7] [0, 1, 2, 3, 4, 5, 12] [0, 1, 2, 3, 4, 5, 11, 12, 9, 10, 7, 8, 6] rfl rfl (by decide) (by decide) hk1 hFc hP1 hD1 (by decide) rfl
        have e50 := Option.some.inj hF
        subst e50
        exact W.vret hx hb hr (fun t ht hW => ⟨⟨(s_LS_work S u5), rfl, rfl, by rw [ht]; exact hP, va_K.moved hW.alike hK, hD⟩, hS.F ht⟩) hS.2.2 dX4_workOutJoined_71
    · have hF := F_neg c1 hF
      refine lv_iconst (v := (0 : Int32)) hx hb dX4_workOutJoined_49 (by decide) ?_
      refine lv_goto (tgt := 54) hx hb dX4_workOutJoined_50 (by decide) ?_
      refine lv_aload_n hx hb dX4_workOutJoined_54 rfl (lv_at hl 2 rfl) ?_
      refine lv_aload_n hx hb dX4_workOutJoined_55 rfl (lv_at hl 2 rfl) ?_
      refine va_get (D := (dC, dI)) (ci := 3) (v := .int (g_Tree_size (g_State_tree false (g_LS_now S)))) (C := RX3) (T := TX3) (N := 3) hx hb hts hinX3 hown hK hP 6 rfl rfl 1 (by decide) (hts (Cond.fieldLink RX4 92 "LearnedShapes$Tree" "size" "I") (List.mem_of_getElem? (i := 3) rfl)) (fun _ h9 => h9) rfl dX4_workOutJoined_56 ?_
      refine lv_if_le (tgt := 66) hx hb dX4_workOutJoined_59 (by decide) (fun c7 => ?_) (fun c7 => ?_)
      · have hF := F_pos c7 hF
        refine lv_iconst (v := (-1 : Int32)) hx hb dX4_workOutJoined_66 (by decide) ?_
        refine lv_iconst (v := (0 : Int32)) hx hb dX4_workOutJoined_67 (by decide) ?_
        obtain ⟨u8, h9, hF⟩ := ob1_some hF
        have hPc := hP.sub (ws' := (W_Tree cI (sh a 10) (g_LS_work S)) ++ (W_Tree cI (sh a 8) (g_State_tree true (g_LS_now S))) ++ (W_Tree cI (sh a 6) (g_State_tree false (g_LS_now S)))) [10, 11, 8, 9, 6, 7] rfl
        have hDc := hD.sub (ws' := (W_Tree cI (sh a 10) (g_LS_work S)) ++ (W_Tree cI (sh a 8) (g_State_tree true (g_LS_now S))) ++ (W_Tree cI (sh a 6) (g_State_tree false (g_LS_now S)))) [10, 11, 8, 9, 6, 7] (by decide) rfl
        have hFc := va_free (wc := (W_Tree cI (sh a 10) (g_LS_work S)) ++ (W_Tree cI (sh a 8) (g_State_tree true (g_LS_now S))) ++ (W_Tree cI (sh a 6) (g_State_tree false (g_LS_now S)))) hD hS hA [10, 11, 8, 9, 6, 7] rfl
        refine va_callv (va_runS (As := [.ref (a 10), .ref (a 8), .int (0 : Int32), .ref (a 6), .int (-1 : Int32), .int (0 : Int32)]) (rest := []) ⟨hx, hb, hml, hown, hts⟩ (c_X4_joinNodes l dC dI cI (sh a 10) (sh a 8) (sh a 6) 8 H.size _ _ _ _ _ _ _ h9) (va_cwS 6 hts gX4_workOutJoined_X4_joinNodes rfl rfl rfl (by decide +kernel) ⟨Nat.le_of_ble_eq_true rfl, Nat.le_of_ble_eq_true rfl⟩) (jPreS hK hPc hDc hN) rfl rfl hl.1 rfl (lv_room (Nat.le_of_ble_eq_true rfl)) dX4_workOutJoined_68 ⟨Nat.le_of_ble_eq_true rfl, Nat.le_of_ble_eq_true rfl⟩) hS (fun q _ h => hFc q h) hFc (fun u' t H locs ht hvm hw hB hz1 hk1 hS => ?_)
        subst hw
        obtain ⟨hP1, -, hD1⟩ := hB
        rw [ht] at hP1
        obtain ⟨hP, hD⟩ := jJoin (wc := (W_Tree cI (sh a 10) (g_LS_work S)) ++ (W_Tree cI (sh a 8) (g_State_tree true (g_LS_now S))) ++ (W_Tree cI (sh a 6) (g_State_tree false (g_LS_now S)))) (w1 := (W_Tree cI (sh a 10) u8) ++ (W_Tree cI (sh a 8) (g_State_tree true (g_LS_now S))) ++ (W_Tree cI (sh a 6) (g_State_tree false (g_LS_now S)))) (ws' := (W_LS cI a (s_LS_work S u8))) hP hD [10, 11, 8, 9, 6, 7] [0, 1, 2, 3, 4, 5, 12] [0, 1, 2, 3, 4, 5, 11, 12, 9, 10, 7, 8, 6] rfl rfl (by decide) (by decide) hk1 hFc hP1 hD1 (by decide) rfl
        have e50 := Option.some.inj hF
        subst e50
        exact W.vret hx hb hr (fun t ht hW => ⟨⟨(s_LS_work S u8), rfl, rfl, by rw [ht]; exact hP, va_K.moved hW.alike hK, hD⟩, hS.F ht⟩) hS.2.2 dX4_workOutJoined_71
      · have hF := F_neg c7 hF
        refine lv_iconst (v := (0 : Int32)) hx hb dX4_workOutJoined_62 (by decide) ?_
        refine lv_goto (tgt := 67) hx hb dX4_workOutJoined_63 (by decide) ?_
        refine lv_iconst (v := (0 : Int32)) hx hb dX4_workOutJoined_67 (by decide) ?_
        obtain ⟨u10, h11, hF⟩ := ob1_some hF
        have hPc := hP.sub (ws' := (W_Tree cI (sh a 10) (g_LS_work S)) ++ (W_Tree cI (sh a 8) (g_State_tree true (g_LS_now S))) ++ (W_Tree cI (sh a 6) (g_State_tree false (g_LS_now S)))) [10, 11, 8, 9, 6, 7] rfl
        have hDc := hD.sub (ws' := (W_Tree cI (sh a 10) (g_LS_work S)) ++ (W_Tree cI (sh a 8) (g_State_tree true (g_LS_now S))) ++ (W_Tree cI (sh a 6) (g_State_tree false (g_LS_now S)))) [10, 11, 8, 9, 6, 7] (by decide) rfl
        have hFc := va_free (wc := (W_Tree cI (sh a 10) (g_LS_work S)) ++ (W_Tree cI (sh a 8) (g_State_tree true (g_LS_now S))) ++ (W_Tree cI (sh a 6) (g_State_tree false (g_LS_now S)))) hD hS hA [10, 11, 8, 9, 6, 7] rfl
        refine va_callv (va_runS (As := [.ref (a 10), .ref (a 8), .int (0 : Int32), .ref (a 6), .int (0 : Int32), .int (0 : Int32)]) (rest := []) ⟨hx, hb, hml, hown, hts⟩ (c_X4_joinNodes l dC dI cI (sh a 10) (sh a 8) (sh a 6) 8 H.size _ _ _ _ _ _ _ h11) (va_cwS 6 hts gX4_workOutJoined_X4_joinNodes rfl rfl rfl (by decide +kernel) ⟨Nat.le_of_ble_eq_true rfl, Nat.le_of_ble_eq_true rfl⟩) (jPreS hK hPc hDc hN) rfl rfl hl.1 rfl (lv_room (Nat.le_of_ble_eq_true rfl)) dX4_workOutJoined_68 ⟨Nat.le_of_ble_eq_true rfl, Nat.le_of_ble_eq_true rfl⟩) hS (fun q _ h => hFc q h) hFc (fun u' t H locs ht hvm hw hB hz1 hk1 hS => ?_)
        subst hw
        obtain ⟨hP1, -, hD1⟩ := hB
        rw [ht] at hP1
        obtain ⟨hP, hD⟩ := jJoin (wc := (W_Tree cI (sh a 10) (g_LS_work S)) ++ (W_Tree cI (sh a 8) (g_State_tree true (g_LS_now S))) ++ (W_Tree cI (sh a 6) (g_State_tree false (g_LS_now S)))) (w1 := (W_Tree cI (sh a 10) u10) ++ (W_Tree cI (sh a 8) (g_State_tree true (g_LS_now S))) ++ (W_Tree cI (sh a 6) (g_State_tree false (g_LS_now S)))) (ws' := (W_LS cI a (s_LS_work S u10))) hP hD [10, 11, 8, 9, 6, 7] [0, 1, 2, 3, 4, 5, 12] [0, 1, 2, 3, 4, 5, 11, 12, 9, 10, 7, 8, 6] rfl rfl (by decide) (by decide) hk1 hFc hP1 hD1 (by decide) rfl
        have e50 := Option.some.inj hF
        subst e50
        exact W.vret hx hb hr (fun t ht hW => ⟨⟨(s_LS_work S u10), rfl, rfl, by rw [ht]; exact hP, va_K.moved hW.alike hK, hD⟩, hS.F ht⟩) hS.2.2 dX4_workOutJoined_71
  have KE : ∀ (H : Heap) (locs : List Loc), va_P (dC, dI) vwCl ((W_LS cI a S)) H → va_D A ((W_LS cI a S)) → va_S A s.heap H locs → W p l e (headSpec wsX4_workOutJoined ({ frames := 12, cells := 0, slots := 0, locals := 376 } : Room)).room s m ([.ref (a 0), .ref (a 8), .ref (a 6)] : List Value).toArray below meth c H locs 0 0 (MQ below (va_Qv (fun u : S_LS => Y = u) (fun u : S_LS => jB (dC, dI) [(cI, .int)] A ((W_LS cI a u))) A) ([.ref (a 0), .ref (a 8), .ref (a 6)] : List Value).toArray s 0 0 A) (F0 m 0 ls []) := by
    intro H locs hP hD hS
    unfold F_X4_workOutJoined at hF
    refine lv_aload_n hx hb dX4_workOutJoined_0 rfl (lv_at hl 0 rfl) ?_
    refine va_get (D := (dC, dI)) (ci := 4) (v := .ref (a 10)) (C := RX4) (T := TX4) (N := 8) hx hb hts hinX4 hown hK hP 0 rfl rfl 6 (by decide) (hts (Cond.fieldLink RX4 34 "LearnedShapes" "work" "LLearnedShapes$Tree;") (List.mem_of_getElem? (i := 1) rfl)) (fun _ h9 => h9) rfl dX4_workOutJoined_1 ?_
    obtain ⟨u12, h13, hF⟩ := ob1_some hF
    have hPc := hP.sub (ws' := (W_Tree cI (sh a 10) (g_LS_work S))) [10, 11] rfl
    have hDc := hD.sub (ws' := (W_Tree cI (sh a 10) (g_LS_work S))) [10, 11] (by decide) rfl
    have hFc := va_free (wc := (W_Tree cI (sh a 10) (g_LS_work S))) hD hS hA [10, 11] rfl
    refine va_callv (va_runV (As := []) (rest := []) ⟨hx, hb, hml, hown, hts⟩ (c_X3_clear l dC dI cI (sh a 10) H.size _ _ h13) (cwV 0 hts gX4_workOutJoined_X3_clear rfl rfl rfl (by decide +kernel) ⟨Nat.le_of_ble_eq_true rfl, Nat.le_of_ble_eq_true rfl⟩) (jPreV hK hPc hDc hN (ci := 3) rfl rfl) rfl rfl hl.1 rfl (lv_room (Nat.le_of_ble_eq_true rfl)) dX4_workOutJoined_4 ⟨Nat.le_of_ble_eq_true rfl, Nat.le_of_ble_eq_true rfl⟩) hS (fun q _ h => hFc q h) hFc (fun u' t H locs ht hvm hw hB hz1 hk1 hS => ?_)
    subst hw
    obtain ⟨hP1, -, hD1⟩ := hB
    rw [ht] at hP1
    obtain ⟨hP, hD⟩ := jJoin (wc := (W_Tree cI (sh a 10) (g_LS_work S))) (w1 := (W_Tree cI (sh a 10) u12)) (ws' := (W_LS cI a (s_LS_work S u12))) hP hD [10, 11] [0, 1, 2, 3, 4, 5, 6, 7, 8, 9, 12] [0, 1, 2, 3, 4, 5, 6, 7, 8, 9, 11, 12, 10] rfl rfl (by decide) (by decide) hk1 hFc hP1 hD1 (by decide) rfl
    refine lv_aload_n hx hb dX4_workOutJoined_7 rfl (lv_at hl 0 rfl) ?_
    refine va_get (D := (dC, dI)) (ci := 4) (v := .ref (a 10)) (C := RX4) (T := TX4) (N := 8) hx hb hts hinX4 hown hK hP 0 rfl rfl 6 (by decide) (hts (Cond.fieldLink RX4 34 "LearnedShapes" "work" "LLearnedShapes$Tree;") (List.mem_of_getElem? (i := 1) rfl)) (fun _ h9 => h9) rfl dX4_workOutJoined_8 ?_
    refine lv_aload_n hx hb dX4_workOutJoined_11 rfl (lv_at hl 1 rfl) ?_
    refine va_get (D := (dC, dI)) (ci := 3) (v := .int (g_Tree_documents (g_State_tree true (g_LS_now S)))) (C := RX3) (T := TX3) (N := 3) hx hb hts hinX3 hown hK hP 8 rfl rfl 2 (by decide) (hts (Cond.fieldLink RX4 226 "LearnedShapes$Tree" "documents" "I") (List.mem_of_getElem? (i := 2) rfl)) (fun _ h9 => h9) rfl dX4_workOutJoined_12 ?_
    refine lv_aload_n hx hb dX4_workOutJoined_15 rfl (lv_at hl 2 rfl) ?_
    refine va_get (D := (dC, dI)) (ci := 3) (v := .int (g_Tree_documents (g_State_tree false (g_LS_now S)))) (C := RX3) (T := TX3) (N := 3) hx hb hts hinX3 hown hK hP 6 rfl rfl 2 (by decide) (hts (Cond.fieldLink RX4 226 "LearnedShapes$Tree" "documents" "I") (List.mem_of_getElem? (i := 2) rfl)) (fun _ h9 => h9) rfl dX4_workOutJoined_16 ?_
    refine lv_iadd hx hb dX4_workOutJoined_19 ?_
    refine va_put (D := (dC, dI)) (ci := 3) (v := .int ((g_Tree_documents (g_State_tree true (g_LS_now S))) + (g_Tree_documents (g_State_tree false (g_LS_now S))))) (ty := .int) (C := RX3) (T := TX3) (N := 3) hx hb hts hinX3 tyX3 tyX3_ok nmX3 hown hK hP hD hS 10 rfl rfl 2 (by decide) (hts (Cond.fieldLink RX4 226 "LearnedShapes$Tree" "documents" "I") (List.mem_of_getElem? (i := 2) rfl)) (fun _ h9 => h9) rfl (by decide +kernel) (rfl) rfl (Nat.le_of_ble_eq_true rfl) dX4_workOutJoined_20 (fun H locs hP hD hS => ?_)
    have hP : va_P (dC, dI) vwCl ((W_LS cI a (s_LS_work S (s_Tree_documents u12 ((g_Tree_documents (g_State_tree true (g_LS_now S))) + (g_Tree_documents (g_State_tree false (g_LS_now S)))))))) H := hP
    have hD : va_D A ((W_LS cI a (s_LS_work S (s_Tree_documents u12 ((g_Tree_documents (g_State_tree true (g_LS_now S))) + (g_Tree_documents (g_State_tree false (g_LS_now S)))))))) := hD
    refine lv_aload_n hx hb dX4_workOutJoined_23 rfl (lv_at hl 1 rfl) ?_
    refine va_get (D := (dC, dI)) (ci := 3) (v := .int (g_Tree_size (g_State_tree true (g_LS_now S)))) (C := RX3) (T := TX3) (N := 3) hx hb hts hinX3 hown hK hP 8 rfl rfl 1 (by decide) (hts (Cond.fieldLink RX4 92 "LearnedShapes$Tree" "size" "I") (List.mem_of_getElem? (i := 3) rfl)) (fun _ h9 => h9) rfl dX4_workOutJoined_24 ?_
    refine lv_if_gt (tgt := 37) hx hb dX4_workOutJoined_27 (by decide) (fun c14 => ?_) (fun c14 => ?_)
    · have hF := F_pos c14 hF
      exact K37 _ _ _ hF hP hD hS _ (lv_sub hl [0, 1, 2] rfl)
    · have hF := F_neg c14 hF
      refine lv_aload_n hx hb dX4_workOutJoined_30 rfl (lv_at hl 2 rfl) ?_
      refine va_get (D := (dC, dI)) (ci := 3) (v := .int (g_Tree_size (g_State_tree false (g_LS_now S)))) (C := RX3) (T := TX3) (N := 3) hx hb hts hinX3 hown hK hP 6 rfl rfl 1 (by decide) (hts (Cond.fieldLink RX4 92 "LearnedShapes$Tree" "size" "I") (List.mem_of_getElem? (i := 3) rfl)) (fun _ h9 => h9) rfl dX4_workOutJoined_31 ?_
      refine lv_if_le (tgt := 71) hx hb dX4_workOutJoined_34 (by decide) (fun c15 => ?_) (fun c15 => ?_)
      · have hF := F_pos c15 hF
        have e50 := Option.some.inj hF
        subst e50
        exact W.vret hx hb hr (fun t ht hW => ⟨⟨(s_LS_work S (s_Tree_documents u12 ((g_Tree_documents (g_State_tree true (g_LS_now S))) + (g_Tree_documents (g_State_tree false (g_LS_now S)))))), rfl, rfl, by rw [ht]; exact hP, va_K.moved hW.alike hK, hD⟩, hS.F ht⟩) hS.2.2 dX4_workOutJoined_71
      · have hF := F_neg c15 hF
        exact K37 _ _ _ hF hP hD hS _ (lv_sub hl [0, 1, 2] rfl)
  exact KE _ _ hP hD hS
set_option maxHeartbeats 4000000 in
set_option maxRecDepth 100000 in
theorem c_X4_shapeNumber (l : Launch) (dC : Nat → ClassId) (dI : Nat → Nat → Nat) (cI : ClassId) (a : Nat → Nat) (sz : Nat) (S : S_Tree) (v2 : Int32) (rr : Int32) (hF : F_X4_shapeNumber S v2 = some rr) : Met l yX4_shapeNumber wsX4_shapeNumber ({ frames := 1, cells := 0, slots := 0, locals := 24 } : Room) (va_Pc [.ref (a 0), .int v2] (jPre (dC, dI) [(cI, .int)] sz ((W_Tree cI a S)))) (va_Qi (fun (r' : Int32) (_ : Unit) => rr = r') (fun _ : Unit => jB (dC, dI) [(cI, .int)] (va_A ((W_Tree cI a S)) sz) ((W_Tree cI a S))) (va_A ((W_Tree cI a S)) sz)) 0 0 (va_A ((W_Tree cI a S)) sz) := by
  refine Met.ofW (cc := cX4_shapeNumber) (maxL := 4) (ret := (some .int)) (by decide) rfl ?_
  intro p e s m args below meth c s₁ B hml hv
  obtain ⟨rfl, hsz, hP, hK, hD0, hN⟩ := hv
  have hx := B.exec
  have hb := B.bytes
  have hr := B.returns
  have hts := atoms_spec (ws := wsX4_shapeNumber) B.pre
  have hown : s.vm.findClass RX4 = some m.cls := findClass_of_methodNamed B.named
  have hlocks := B.notSynchronized
  have hinX3 : ∀ w ∈ u_ws RX3 TX3 3, w ∈ wsX4_shapeNumber := by decide +kernel
  subst hsz
  have hD := hD0.self (sz := s.heap.size)
  generalize hAe : (va_A ((W_Tree cI a S)) s.heap.size) = A at hD ⊢
  have hA : ∀ q : Nat, s.heap.size ≤ q → A q := fun q h => by rw [← hAe]; exact Or.inr h
  have hS : va_S A s.heap s.heap [] := va_S.rf
  have hl := lv_entry ([.ref (a 0), .int v2]) (n := 4) (Nat.le_of_ble_eq_true rfl)
  rw [lg_entry_eq]
  generalize (lg_sl ([.ref (a 0), .int v2]) ++ List.replicate (4 - (lg_sl ([.ref (a 0), .int v2])).length) Slot.unset).toArray = ls at hl ⊢
  have hl : lv_has ls 4 [(0, .ref (a 0)), (1, .int v2)] := hl
  have K32 : ∀ (n32 : Nat) (x2 : Int32) (x3 : Int32) (H : Heap) (locs : List Loc), F_X4_shapeNumber_32 v2 S n32 x2 x3 = some rr → va_P (dC, dI) vwCl ((W_Tree cI a S)) H → va_D A ((W_Tree cI a S)) → va_S A s.heap H locs → ∀ ls : Array Slot, lv_has ls 4 [(0, .ref (a 0)), (1, .int v2), (2, .int x2), (3, .int x3)] → W p l e (headSpec wsX4_shapeNumber ({ frames := 1, cells := 0, slots := 0, locals := 24 } : Room)).room s m ([.ref (a 0), .int v2] : List Value).toArray below meth c H locs 0 0 (MQ below (va_Qi (fun (r' : Int32) (_ : Unit) => rr = r') (fun _ : Unit => jB (dC, dI) [(cI, .int)] A ((W_Tree cI a S))) A) ([.ref (a 0), .int v2] : List Value).toArray s 0 0 A) (F0 m 32 ls []) := by
    intro n32
    induction n32 with
    | zero => intro x2 x3 H locs hF; exact nomatch hF
    | succ n32 ih32 =>
      intro x2 x3 H locs hF hP hD hS ls hl
      rw [F_X4_shapeNumber_32_s] at hF
      have K75 : ∀ (x2 : Int32) (x3 : Int32) (H : Heap) (locs : List Loc), F_X4_shapeNumber_75 v2 S (F_X4_shapeNumber_32 v2 S n32) x2 x3 = some rr → va_P (dC, dI) vwCl ((W_Tree cI a S)) H → va_D A ((W_Tree cI a S)) → va_S A s.heap H locs → ∀ ls : Array Slot, lv_has ls 4 [(0, .ref (a 0)), (1, .int v2), (2, .int x2), (3, .int x3)] → W p l e (headSpec wsX4_shapeNumber ({ frames := 1, cells := 0, slots := 0, locals := 24 } : Room)).room s m ([.ref (a 0), .int v2] : List Value).toArray below meth c H locs 0 0 (MQ below (va_Qi (fun (r' : Int32) (_ : Unit) => rr = r') (fun _ : Unit => jB (dC, dI) [(cI, .int)] A ((W_Tree cI a S))) A) ([.ref (a 0), .int v2] : List Value).toArray s 0 0 A) (F0 m 75 ls []) := by
        intro x2 x3 H locs hF hP hD hS ls hl
        unfold F_X4_shapeNumber_75 at hF
        refine lv_iload_n hx hb dX4_shapeNumber_75 rfl (lv_at hl 1 rfl) ?_
        refine lv_iconst (v := (3 : Int32)) hx hb dX4_shapeNumber_76 (by decide) ?_
        refine lv_icmp_ne (tgt := 91) hx hb dX4_shapeNumber_77 (by decide) (fun c1 => ?_) (fun c1 => ?_)
        · have hF := F_neg c1 hF
          refine lv_iload_n hx hb dX4_shapeNumber_91 rfl (lv_at hl 1 rfl) ?_
          refine lv_iconst (v := (4 : Int32)) hx hb dX4_shapeNumber_92 (by decide) ?_
          refine lv_icmp_ne (tgt := 109) hx hb dX4_shapeNumber_93 (by decide) (fun c2 => ?_) (fun c2 => ?_)
          · have hF := F_neg c2 hF
            refine lv_iinc (v := (x3 + (1 : Int32))) (lv' := [(3, .int (x3 + (1 : Int32))), (0, .ref (a 0)), (1, .int v2), (2, .int x2)]) hx hb dX4_shapeNumber_109 hl (k := 3) rfl rfl (by decide) rfl (fun ls hl => ?_)
            refine lv_goto (tgt := 32) hx hb dX4_shapeNumber_112 (by decide) ?_
            exact ih32 _ _ _ _ hF hP hD hS _ (lv_sub hl [1, 2, 3, 0] rfl)
          · have hF := F_pos c2 hF
            refine lv_aload_n hx hb dX4_shapeNumber_96 rfl (lv_at hl 0 rfl) ?_
            refine lv_iload_n hx hb dX4_shapeNumber_97 rfl (lv_at hl 3 rfl) ?_
            refine lv_iconst (v := (4 : Int32)) hx hb dX4_shapeNumber_98 (by decide) ?_
            obtain ⟨r3, h4, hF⟩ := ob1_some hF
            have hPc : va_P (dC, dI) vwCl ((W_Tree cI a S)) H := hP
            have hDc : va_D A ((W_Tree cI a S)) := hD
            have hFc := jFreeW (ws := (W_Tree cI a S)) hD hS hA
            refine va_calli (va_runV (As := [.int x3, .int (4 : Int32)]) (rest := []) ⟨hx, hb, hml, hown, hts⟩ (c_X3_get l dC dI cI a H.size _ _ _ _ h4) (cwV 2 hts gX4_shapeNumber_X3_get rfl rfl rfl (by decide +kernel) ⟨Nat.le_of_ble_eq_true rfl, Nat.le_of_ble_eq_true rfl⟩) (jPreV hK hPc hDc hN (ci := 3) rfl rfl) rfl rfl hl.1 rfl (lv_room (Nat.le_of_ble_eq_true rfl)) dX4_shapeNumber_99 ⟨Nat.le_of_ble_eq_true rfl, Nat.le_of_ble_eq_true rfl⟩) hS (fun q _ h => hFc q h) hFc (fun r' u' t H locs ht hvm hw hB hz1 hk1 hS => ?_)
            subst hw
            obtain ⟨hP1, -, hD1⟩ := hB
            rw [ht] at hP1
            have hP : va_P (dC, dI) vwCl ((W_Tree cI a S)) H := hP1
            have hD : va_D A ((W_Tree cI a S)) := hD1.weaken (fun _ _ _ h => hFc _ h)
            refine lv_iconst (v := (1 : Int32)) hx hb dX4_shapeNumber_102 (by decide) ?_
            refine lv_icmp_ne (tgt := 109) hx hb dX4_shapeNumber_103 (by decide) (fun c5 => ?_) (fun c5 => ?_)
            · have hF := F_neg c5 hF
              refine lv_iinc (v := (x3 + (1 : Int32))) (lv' := [(3, .int (x3 + (1 : Int32))), (0, .ref (a 0)), (1, .int v2), (2, .int x2)]) hx hb dX4_shapeNumber_109 hl (k := 3) rfl rfl (by decide) rfl (fun ls hl => ?_)
              refine lv_goto (tgt := 32) hx hb dX4_shapeNumber_112 (by decide) ?_
              exact ih32 _ _ _ _ hF hP hD hS _ (lv_sub hl [1, 2, 3, 0] rfl)
            · have hF := F_pos c5 hF
              refine lv_iinc (v := (x2 + (1 : Int32))) (lv' := [(2, .int (x2 + (1 : Int32))), (0, .ref (a 0)), (1, .int v2), (3, .int x3)]) hx hb dX4_shapeNumber_106 hl (k := 2) rfl rfl (by decide) rfl (fun ls hl => ?_)
              refine lv_iinc (v := (x3 + (1 : Int32))) (lv' := [(3, .int (x3 + (1 : Int32))), (2, .int (x2 + (1 : Int32))), (0, .ref (a 0)), (1, .int v2)]) hx hb dX4_shapeNumber_109 hl (k := 3) rfl rfl (by decide) rfl (fun ls hl => ?_)
              refine lv_goto (tgt := 32) hx hb dX4_shapeNumber_112 (by decide) ?_
              exact ih32 _ _ _ _ hF hP hD hS _ (lv_sub hl [2, 3, 1, 0] rfl)
        · have hF := F_pos c1 hF
          refine lv_aload_n hx hb dX4_shapeNumber_80 rfl (lv_at hl 0 rfl) ?_
          refine lv_iload_n hx hb dX4_shapeNumber_81 rfl (lv_at hl 3 rfl) ?_
          refine lv_bipush (v := (8 : Int32)) hx hb dX4_shapeNumber_82 (by decide) ?_
          obtain ⟨r6, h7, hF⟩ := ob1_some hF
          have hPc : va_P (dC, dI) vwCl ((W_Tree cI a S)) H := hP
          have hDc : va_D A ((W_Tree cI a S)) := hD
          have hFc := jFreeW (ws := (W_Tree cI a S)) hD hS hA
          refine va_calli (va_runV (As := [.int x3, .int (8 : Int32)]) (rest := []) ⟨hx, hb, hml, hown, hts⟩ (c_X3_get l dC dI cI a H.size _ _ _ _ h7) (cwV 2 hts gX4_shapeNumber_X3_get rfl rfl rfl (by decide +kernel) ⟨Nat.le_of_ble_eq_true rfl, Nat.le_of_ble_eq_true rfl⟩) (jPreV hK hPc hDc hN (ci := 3) rfl rfl) rfl rfl hl.1 rfl (lv_room (Nat.le_of_ble_eq_true rfl)) dX4_shapeNumber_84 ⟨Nat.le_of_ble_eq_true rfl, Nat.le_of_ble_eq_true rfl⟩) hS (fun q _ h => hFc q h) hFc (fun r' u' t H locs ht hvm hw hB hz1 hk1 hS => ?_)
          subst hw
          obtain ⟨hP1, -, hD1⟩ := hB
          rw [ht] at hP1
          have hP : va_P (dC, dI) vwCl ((W_Tree cI a S)) H := hP1
          have hD : va_D A ((W_Tree cI a S)) := hD1.weaken (fun _ _ _ h => hFc _ h)
          refine lv_iconst (v := (1 : Int32)) hx hb dX4_shapeNumber_87 (by decide) ?_
          refine lv_icmp_eq (tgt := 106) hx hb dX4_shapeNumber_88 (by decide) (fun c8 => ?_) (fun c8 => ?_)
          · have hF := F_pos c8 hF
            refine lv_iinc (v := (x2 + (1 : Int32))) (lv' := [(2, .int (x2 + (1 : Int32))), (0, .ref (a 0)), (1, .int v2), (3, .int x3)]) hx hb dX4_shapeNumber_106 hl (k := 2) rfl rfl (by decide) rfl (fun ls hl => ?_)
            refine lv_iinc (v := (x3 + (1 : Int32))) (lv' := [(3, .int (x3 + (1 : Int32))), (2, .int (x2 + (1 : Int32))), (0, .ref (a 0)), (1, .int v2)]) hx hb dX4_shapeNumber_109 hl (k := 3) rfl rfl (by decide) rfl (fun ls hl => ?_)
            refine lv_goto (tgt := 32) hx hb dX4_shapeNumber_112 (by decide) ?_
            exact ih32 _ _ _ _ hF hP hD hS _ (lv_sub hl [2, 3, 1, 0] rfl)
          · have hF := F_neg c8 hF
            refine lv_iload_n hx hb dX4_shapeNumber_91 rfl (lv_at hl 1 rfl) ?_
            refine lv_iconst (v := (4 : Int32)) hx hb dX4_shapeNumber_92 (by decide) ?_
            refine lv_icmp_ne (tgt := 109) hx hb dX4_shapeNumber_93 (by decide) (fun c9 => ?_) (fun c9 => ?_)
            · have hF := F_neg c9 hF
              refine lv_iinc (v := (x3 + (1 : Int32))) (lv' := [(3, .int (x3 + (1 : Int32))), (0, .ref (a 0)), (1, .int v2), (2, .int x2)]) hx hb dX4_shapeNumber_109 hl (k := 3) rfl rfl (by decide) rfl (fun ls hl => ?_)
              refine lv_goto (tgt := 32) hx hb dX4_shapeNumber_112 (by decide) ?_
              exact ih32 _ _ _ _ hF hP hD hS _ (lv_sub hl [1, 2, 3, 0] rfl)
            · have hF := F_pos c9 hF
              refine lv_aload_n hx hb dX4_shapeNumber_96 rfl (lv_at hl 0 rfl) ?_
              refine lv_iload_n hx hb dX4_shapeNumber_97 rfl (lv_at hl 3 rfl) ?_
              refine lv_iconst (v := (4 : Int32)) hx hb dX4_shapeNumber_98 (by decide) ?_
              obtain ⟨r10, h11, hF⟩ := ob1_some hF
              have hPc : va_P (dC, dI) vwCl ((W_Tree cI a S)) H := hP
              have hDc : va_D A ((W_Tree cI a S)) := hD
              have hFc := jFreeW (ws := (W_Tree cI a S)) hD hS hA
              refine va_calli (va_runV (As := [.int x3, .int (4 : Int32)]) (rest := []) ⟨hx, hb, hml, hown, hts⟩ (c_X3_get l dC dI cI a H.size _ _ _ _ h11) (cwV 2 hts gX4_shapeNumber_X3_get rfl rfl rfl (by decide +kernel) ⟨Nat.le_of_ble_eq_true rfl, Nat.le_of_ble_eq_true rfl⟩) (jPreV hK hPc hDc hN (ci := 3) rfl rfl) rfl rfl hl.1 rfl (lv_room (Nat.le_of_ble_eq_true rfl)) dX4_shapeNumber_99 ⟨Nat.le_of_ble_eq_true rfl, Nat.le_of_ble_eq_true rfl⟩) hS (fun q _ h => hFc q h) hFc (fun r' u' t H locs ht hvm hw hB hz1 hk1 hS => ?_)
              subst hw
              obtain ⟨hP1, -, hD1⟩ := hB
              rw [ht] at hP1
              have hP : va_P (dC, dI) vwCl ((W_Tree cI a S)) H := hP1
              have hD : va_D A ((W_Tree cI a S)) := hD1.weaken (fun _ _ _ h => hFc _ h)
              refine lv_iconst (v := (1 : Int32)) hx hb dX4_shapeNumber_102 (by decide) ?_
              refine lv_icmp_ne (tgt := 109) hx hb dX4_shapeNumber_103 (by decide) (fun c12 => ?_) (fun c12 => ?_)
              · have hF := F_neg c12 hF
                refine lv_iinc (v := (x3 + (1 : Int32))) (lv' := [(3, .int (x3 + (1 : Int32))), (0, .ref (a 0)), (1, .int v2), (2, .int x2)]) hx hb dX4_shapeNumber_109 hl (k := 3) rfl rfl (by decide) rfl (fun ls hl => ?_)
                refine lv_goto (tgt := 32) hx hb dX4_shapeNumber_112 (by decide) ?_
                exact ih32 _ _ _ _ hF hP hD hS _ (lv_sub hl [1, 2, 3, 0] rfl)
              · have hF := F_pos c12 hF
                refine lv_iinc (v := (x2 + (1 : Int32))) (lv' := [(2, .int (x2 + (1 : Int32))), (0, .ref (a 0)), (1, .int v2), (3, .int x3)]) hx hb dX4_shapeNumber_106 hl (k := 2) rfl rfl (by decide) rfl (fun ls hl => ?_)
                refine lv_iinc (v := (x3 + (1 : Int32))) (lv' := [(3, .int (x3 + (1 : Int32))), (2, .int (x2 + (1 : Int32))), (0, .ref (a 0)), (1, .int v2)]) hx hb dX4_shapeNumber_109 hl (k := 3) rfl rfl (by decide) rfl (fun ls hl => ?_)
                refine lv_goto (tgt := 32) hx hb dX4_shapeNumber_112 (by decide) ?_
                exact ih32 _ _ _ _ hF hP hD hS _ (lv_sub hl [2, 3, 1, 0] rfl)
      refine lv_iload_n hx hb dX4_shapeNumber_32 rfl (lv_at hl 3 rfl) ?_
      refine lv_aload_n hx hb dX4_shapeNumber_33 rfl (lv_at hl 0 rfl) ?_
      refine va_get (D := (dC, dI)) (ci := 3) (v := .int (g_Tree_size S)) (C := RX3) (T := TX3) (N := 3) hx hb hts hinX3 hown hK hP 0 rfl rfl 1 (by decide) (hts (Cond.fieldLink RX4 92 "LearnedShapes$Tree" "size" "I") (List.mem_of_getElem? (i := 2) rfl)) (fun _ h9 => h9) rfl dX4_shapeNumber_34 ?_
      refine lv_icmp_ge (tgt := 115) hx hb dX4_shapeNumber_37 (by decide) (fun c13 => ?_) (fun c13 => ?_)
      · have hF := F_pos c13 hF
        refine lv_iload_n hx hb dX4_shapeNumber_115 rfl (lv_at hl 2 rfl) ?_
        have e50 := Option.some.inj hF
        subst e50
        exact W.iret (v := x2) hx hb hr (fun t ht hW => ⟨⟨x2, (), rfl, rfl, by rw [ht]; exact hP, va_K.moved hW.alike hK, hD⟩, hS.F ht⟩) hS.2.2 dX4_shapeNumber_116
      · have hF := F_neg c13 hF
        refine lv_iload_n hx hb dX4_shapeNumber_40 rfl (lv_at hl 1 rfl) ?_
        refine lv_iconst (v := (5 : Int32)) hx hb dX4_shapeNumber_41 (by decide) ?_
        refine lv_icmp_ne (tgt := 59) hx hb dX4_shapeNumber_42 (by decide) (fun c14 => ?_) (fun c14 => ?_)
        · have hF := F_neg c14 hF
          refine lv_iload_n hx hb dX4_shapeNumber_59 rfl (lv_at hl 1 rfl) ?_
          refine lv_iconst (v := (2 : Int32)) hx hb dX4_shapeNumber_60 (by decide) ?_
          refine lv_icmp_ne (tgt := 75) hx hb dX4_shapeNumber_61 (by decide) (fun c15 => ?_) (fun c15 => ?_)
          · have hF := F_neg c15 hF
            exact K75 _ _ _ _ hF hP hD hS _ (lv_sub hl [0, 1, 2, 3] rfl)
          · have hF := F_pos c15 hF
            refine lv_aload_n hx hb dX4_shapeNumber_64 rfl (lv_at hl 0 rfl) ?_
            refine lv_iload_n hx hb dX4_shapeNumber_65 rfl (lv_at hl 3 rfl) ?_
            refine lv_iconst (v := (0 : Int32)) hx hb dX4_shapeNumber_66 (by decide) ?_
            obtain ⟨r16, h17, hF⟩ := ob1_some hF
            have hPc : va_P (dC, dI) vwCl ((W_Tree cI a S)) H := hP
            have hDc : va_D A ((W_Tree cI a S)) := hD
            have hFc := jFreeW (ws := (W_Tree cI a S)) hD hS hA
            refine va_calli (va_runV (As := [.int x3, .int (0 : Int32)]) (rest := []) ⟨hx, hb, hml, hown, hts⟩ (c_X3_get l dC dI cI a H.size _ _ _ _ h17) (cwV 2 hts gX4_shapeNumber_X3_get rfl rfl rfl (by decide +kernel) ⟨Nat.le_of_ble_eq_true rfl, Nat.le_of_ble_eq_true rfl⟩) (jPreV hK hPc hDc hN (ci := 3) rfl rfl) rfl rfl hl.1 rfl (lv_room (Nat.le_of_ble_eq_true rfl)) dX4_shapeNumber_67 ⟨Nat.le_of_ble_eq_true rfl, Nat.le_of_ble_eq_true rfl⟩) hS (fun q _ h => hFc q h) hFc (fun r' u' t H locs ht hvm hw hB hz1 hk1 hS => ?_)
            subst hw
            obtain ⟨hP1, -, hD1⟩ := hB
            rw [ht] at hP1
            have hP : va_P (dC, dI) vwCl ((W_Tree cI a S)) H := hP1
            have hD : va_D A ((W_Tree cI a S)) := hD1.weaken (fun _ _ _ h => hFc _ h)
            refine lv_bipush (v := (7 : Int32)) hx hb dX4_shapeNumber_70 (by decide) ?_
            refine lv_icmp_eq (tgt := 106) hx hb dX4_shapeNumber_72 (by decide) (fun c18 => ?_) (fun c18 => ?_)
            · have hF := F_pos c18 hF
              refine lv_iinc (v := (x2 + (1 : Int32))) (lv' := [(2, .int (x2 + (1 : Int32))), (0, .ref (a 0)), (1, .int v2), (3, .int x3)]) hx hb dX4_shapeNumber_106 hl (k := 2) rfl rfl (by decide) rfl (fun ls hl => ?_)
              refine lv_iinc (v := (x3 + (1 : Int32))) (lv' := [(3, .int (x3 + (1 : Int32))), (2, .int (x2 + (1 : Int32))), (0, .ref (a 0)), (1, .int v2)]) hx hb dX4_shapeNumber_109 hl (k := 3) rfl rfl (by decide) rfl (fun ls hl => ?_)
              refine lv_goto (tgt := 32) hx hb dX4_shapeNumber_112 (by decide) ?_
              exact ih32 _ _ _ _ hF hP hD hS _ (lv_sub hl [2, 3, 1, 0] rfl)
            · have hF := F_neg c18 hF
              exact K75 _ _ _ _ hF hP hD hS _ (lv_sub hl [0, 1, 2, 3] rfl)
        · have hF := F_pos c14 hF
          refine lv_iload_n hx hb dX4_shapeNumber_45 rfl (lv_at hl 2 rfl) ?_
          refine lv_aload_n hx hb dX4_shapeNumber_46 rfl (lv_at hl 0 rfl) ?_
          refine lv_iload_n hx hb dX4_shapeNumber_47 rfl (lv_at hl 3 rfl) ?_
          refine lv_iconst (v := (2 : Int32)) hx hb dX4_shapeNumber_48 (by decide) ?_
          obtain ⟨r19, h20, hF⟩ := ob1_some hF
          have hPc : va_P (dC, dI) vwCl ((W_Tree cI a S)) H := hP
          have hDc : va_D A ((W_Tree cI a S)) := hD
          have hFc := jFreeW (ws := (W_Tree cI a S)) hD hS hA
          refine va_calli (va_runV (As := [.int x3, .int (2 : Int32)]) (rest := [.int x2]) ⟨hx, hb, hml, hown, hts⟩ (c_X3_get l dC dI cI a H.size _ _ _ _ h20) (cwV 2 hts gX4_shapeNumber_X3_get rfl rfl rfl (by decide +kernel) ⟨Nat.le_of_ble_eq_true rfl, Nat.le_of_ble_eq_true rfl⟩) (jPreV hK hPc hDc hN (ci := 3) rfl rfl) rfl rfl hl.1 rfl (lv_room (Nat.le_of_ble_eq_true rfl)) dX4_shapeNumber_49 ⟨Nat.le_of_ble_eq_true rfl, Nat.le_of_ble_eq_true rfl⟩) hS (fun q _ h => hFc q h) hFc (fun r' u' t H locs ht hvm hw hB hz1 hk1 hS => ?_)
          subst hw
          obtain ⟨hP1, -, hD1⟩ := hB
          rw [ht] at hP1
          have hP : va_P (dC, dI) vwCl ((W_Tree cI a S)) H := hP1
          have hD : va_D A ((W_Tree cI a S)) := hD1.weaken (fun _ _ _ h => hFc _ h)
          refine va_mmax hx hb (hml.trans hl.1.symm) hown (hts (Cond.methodLink RX4 229 Lib.Math.max.name) (List.mem_of_getElem? (i := 3) rfl)) (hts (Cond.static Lib.Math.max.name) (List.mem_of_getElem? (i := 4) rfl)) (hts (Cond.initialized "java/lang/Math") (List.mem_of_getElem? (i := 5) rfl)) (hts (Cond.code Lib.Math.max.name Lib.Math.max.code 2 (some .int)) (List.mem_of_getElem? (i := 6) rfl)) (Nat.le_of_ble_eq_true rfl) (Nat.le_of_ble_eq_true rfl) (Nat.le_of_ble_eq_true rfl) (Nat.le_of_ble_eq_true rfl) dX4_shapeNumber_52 ?_
          refine lv_istore_n (lv' := [(2, .int (if x2 < r19 then r19 else x2)), (0, .ref (a 0)), (1, .int v2), (3, .int x3)]) hx hb dX4_shapeNumber_55 rfl hl (by decide) rfl (fun ls hl => ?_)
          refine lv_goto (tgt := 109) hx hb dX4_shapeNumber_56 (by decide) ?_
          refine lv_iinc (v := (x3 + (1 : Int32))) (lv' := [(3, .int (x3 + (1 : Int32))), (2, .int (if x2 < r19 then r19 else x2)), (0, .ref (a 0)), (1, .int v2)]) hx hb dX4_shapeNumber_109 hl (k := 3) rfl rfl (by decide) rfl (fun ls hl => ?_)
          refine lv_goto (tgt := 32) hx hb dX4_shapeNumber_112 (by decide) ?_
          exact ih32 _ _ _ _ hF hP hD hS _ (lv_sub hl [2, 3, 1, 0] rfl)
  have KE : ∀ (H : Heap) (locs : List Loc), va_P (dC, dI) vwCl ((W_Tree cI a S)) H → va_D A ((W_Tree cI a S)) → va_S A s.heap H locs → W p l e (headSpec wsX4_shapeNumber ({ frames := 1, cells := 0, slots := 0, locals := 24 } : Room)).room s m ([.ref (a 0), .int v2] : List Value).toArray below meth c H locs 0 0 (MQ below (va_Qi (fun (r' : Int32) (_ : Unit) => rr = r') (fun _ : Unit => jB (dC, dI) [(cI, .int)] A ((W_Tree cI a S))) A) ([.ref (a 0), .int v2] : List Value).toArray s 0 0 A) (F0 m 0 ls []) := by
    intro H locs hP hD hS
    unfold F_X4_shapeNumber at hF
    refine lv_iload_n hx hb dX4_shapeNumber_0 rfl (lv_at hl 1 rfl) ?_
    refine lv_if_ne (tgt := 9) hx hb dX4_shapeNumber_1 (by decide) (fun c21 => ?_) (fun c21 => ?_)
    · have hF := F_neg c21 hF
      refine lv_iload_n hx hb dX4_shapeNumber_9 rfl (lv_at hl 1 rfl) ?_
      refine lv_iconst (v := (1 : Int32)) hx hb dX4_shapeNumber_10 (by decide) ?_
      refine lv_icmp_ne (tgt := 19) hx hb dX4_shapeNumber_11 (by decide) (fun c22 => ?_) (fun c22 => ?_)
      · have hF := F_neg c22 hF
        refine lv_iload_n hx hb dX4_shapeNumber_19 rfl (lv_at hl 1 rfl) ?_
        refine lv_iconst (v := (5 : Int32)) hx hb dX4_shapeNumber_20 (by decide) ?_
        refine lv_icmp_ne (tgt := 28) hx hb dX4_shapeNumber_21 (by decide) (fun c23 => ?_) (fun c23 => ?_)
        · have hF := F_neg c23 hF
          refine lv_iconst (v := (0 : Int32)) hx hb dX4_shapeNumber_28 (by decide) ?_
          refine lv_istore_n (lv' := [(2, .int (0 : Int32)), (0, .ref (a 0)), (1, .int v2)]) hx hb dX4_shapeNumber_29 rfl hl (by decide) rfl (fun ls hl => ?_)
          refine lv_iconst (v := (0 : Int32)) hx hb dX4_shapeNumber_30 (by decide) ?_
          refine lv_istore_n (lv' := [(3, .int (0 : Int32)), (2, .int (0 : Int32)), (0, .ref (a 0)), (1, .int v2)]) hx hb dX4_shapeNumber_31 rfl hl (by decide) rfl (fun ls hl => ?_)
          exact K32 _ _ _ _ _ hF hP hD hS _ (lv_sub hl [2, 3, 1, 0] rfl)
        · have hF := F_pos c23 hF
          refine lv_iconst (v := (-1 : Int32)) hx hb dX4_shapeNumber_24 (by decide) ?_
          refine lv_goto (tgt := 29) hx hb dX4_shapeNumber_25 (by decide) ?_
          refine lv_istore_n (lv' := [(2, .int (-1 : Int32)), (0, .ref (a 0)), (1, .int v2)]) hx hb dX4_shapeNumber_29 rfl hl (by decide) rfl (fun ls hl => ?_)
          refine lv_iconst (v := (0 : Int32)) hx hb dX4_shapeNumber_30 (by decide) ?_
          refine lv_istore_n (lv' := [(3, .int (0 : Int32)), (2, .int (-1 : Int32)), (0, .ref (a 0)), (1, .int v2)]) hx hb dX4_shapeNumber_31 rfl hl (by decide) rfl (fun ls hl => ?_)
          exact K32 _ _ _ _ _ hF hP hD hS _ (lv_sub hl [2, 3, 1, 0] rfl)
      · have hF := F_pos c22 hF
        refine lv_aload_n hx hb dX4_shapeNumber_14 rfl (lv_at hl 0 rfl) ?_
        refine va_get (D := (dC, dI)) (ci := 3) (v := .int (g_Tree_size S)) (C := RX3) (T := TX3) (N := 3) hx hb hts hinX3 hown hK hP 0 rfl rfl 1 (by decide) (hts (Cond.fieldLink RX4 92 "LearnedShapes$Tree" "size" "I") (List.mem_of_getElem? (i := 2) rfl)) (fun _ h9 => h9) rfl dX4_shapeNumber_15 ?_
        have e50 := Option.some.inj hF
        subst e50
        exact W.iret (v := (g_Tree_size S)) hx hb hr (fun t ht hW => ⟨⟨(g_Tree_size S), (), rfl, rfl, by rw [ht]; exact hP, va_K.moved hW.alike hK, hD⟩, hS.F ht⟩) hS.2.2 dX4_shapeNumber_18
    · have hF := F_pos c21 hF
      refine lv_aload_n hx hb dX4_shapeNumber_4 rfl (lv_at hl 0 rfl) ?_
      refine va_get (D := (dC, dI)) (ci := 3) (v := .int (g_Tree_documents S)) (C := RX3) (T := TX3) (N := 3) hx hb hts hinX3 hown hK hP 0 rfl rfl 2 (by decide) (hts (Cond.fieldLink RX4 226 "LearnedShapes$Tree" "documents" "I") (List.mem_of_getElem? (i := 1) rfl)) (fun _ h9 => h9) rfl dX4_shapeNumber_5 ?_
      have e50 := Option.some.inj hF
      subst e50
      exact W.iret (v := (g_Tree_documents S)) hx hb hr (fun t ht hW => ⟨⟨(g_Tree_documents S), (), rfl, rfl, by rw [ht]; exact hP, va_K.moved hW.alike hK, hD⟩, hS.F ht⟩) hS.2.2 dX4_shapeNumber_8
  exact KE _ _ hP hD hS
set_option maxHeartbeats 4000000 in
set_option maxRecDepth 100000 in
theorem c_X4_nodeNumber (l : Launch) (dC : Nat → ClassId) (dI : Nat → Nat → Nat) (cI : ClassId) (a : Nat → Nat) (sz : Nat) (S : S_Tree) (v2 : Int32) (v3 : Int32) (rr : Int32) (hF : F_X4_nodeNumber S v2 v3 = some rr) : Met l yX4_nodeNumber wsX4_nodeNumber ({ frames := 3, cells := 0, slots := 0, locals := 72 } : Room) (va_Pc [.ref (a 0), .int v2, .int v3] (jPre (dC, dI) [(cI, .int)] sz ((W_Tree cI a S)))) (va_Qi (fun (r' : Int32) (_ : Unit) => rr = r') (fun _ : Unit => jB (dC, dI) [(cI, .int)] (va_A ((W_Tree cI a S)) sz) ((W_Tree cI a S))) (va_A ((W_Tree cI a S)) sz)) 0 0 (va_A ((W_Tree cI a S)) sz) := by
  refine Met.ofW (cc := cX4_nodeNumber) (maxL := 3) (ret := (some .int)) (by decide) rfl ?_
  intro p e s m args below meth c s₁ B hml hv
  obtain ⟨rfl, hsz, hP, hK, hD0, hN⟩ := hv
  have hx := B.exec
  have hb := B.bytes
  have hr := B.returns
  have hts := atoms_spec (ws := wsX4_nodeNumber) B.pre
  have hown : s.vm.findClass RX4 = some m.cls := findClass_of_methodNamed B.named
  have hlocks := B.notSynchronized
  subst hsz
  have hD := hD0.self (sz := s.heap.size)
  generalize hAe : (va_A ((W_Tree cI a S)) s.heap.size) = A at hD ⊢
  have hA : ∀ q : Nat, s.heap.size ≤ q → A q := fun q h => by rw [← hAe]; exact Or.inr h
  have hS : va_S A s.heap s.heap [] := va_S.rf
  have hl := lv_entry ([.ref (a 0), .int v2, .int v3]) (n := 3) (Nat.le_of_ble_eq_true rfl)
  rw [lg_entry_eq]
  generalize (lg_sl ([.ref (a 0), .int v2, .int v3]) ++ List.replicate (3 - (lg_sl ([.ref (a 0), .int v2, .int v3])).length) Slot.unset).toArray = ls at hl ⊢
  have hl : lv_has ls 3 [(0, .ref (a 0)), (1, .int v2), (2, .int v3)] := hl
  have KE : ∀ (H : Heap) (locs : List Loc), va_P (dC, dI) vwCl ((W_Tree cI a S)) H → va_D A ((W_Tree cI a S)) → va_S A s.heap H locs → W p l e (headSpec wsX4_nodeNumber ({ frames := 3, cells := 0, slots := 0, locals := 72 } : Room)).room s m ([.ref (a 0), .int v2, .int v3] : List Value).toArray below meth c H locs 0 0 (MQ below (va_Qi (fun (r' : Int32) (_ : Unit) => rr = r') (fun _ : Unit => jB (dC, dI) [(cI, .int)] A ((W_Tree cI a S))) A) ([.ref (a 0), .int v2, .int v3] : List Value).toArray s 0 0 A) (F0 m 0 ls []) := by
    intro H locs hP hD hS
    unfold F_X4_nodeNumber at hF
    refine lv_iload_n hx hb dX4_nodeNumber_0 rfl (lv_at hl 2 rfl) ?_
    by_cases c1 : v3 = (0 : Int32)
    · have hF := F_pos c1 hF
      refine lv_tableIn (tgt := 52) hx hb dX4_nodeNumber_1 (by rw [c1]; decide) (by rw [c1]; decide) (by rw [c1] <;> rfl) (by decide) ?_
      refine lv_aload_n hx hb dX4_nodeNumber_52 rfl (lv_at hl 0 rfl) ?_
      refine lv_iload_n hx hb dX4_nodeNumber_53 rfl (lv_at hl 1 rfl) ?_
      refine lv_iconst (v := (0 : Int32)) hx hb dX4_nodeNumber_54 (by decide) ?_
      obtain ⟨r2, h3, hF⟩ := ob1_some hF
      have hPc : va_P (dC, dI) vwCl ((W_Tree cI a S)) H := hP
      have hDc : va_D A ((W_Tree cI a S)) := hD
      have hFc := jFreeW (ws := (W_Tree cI a S)) hD hS hA
      refine va_calli (va_runV (As := [.int v2, .int (0 : Int32)]) (rest := []) ⟨hx, hb, hml, hown, hts⟩ (c_X3_get l dC dI cI a H.size _ _ _ _ h3) (cwV 2 hts gX4_nodeNumber_X3_get rfl rfl rfl (by decide +kernel) ⟨Nat.le_of_ble_eq_true rfl, Nat.le_of_ble_eq_true rfl⟩) (jPreV hK hPc hDc hN (ci := 3) rfl rfl) rfl rfl hl.1 rfl (lv_room (Nat.le_of_ble_eq_true rfl)) dX4_nodeNumber_55 ⟨Nat.le_of_ble_eq_true rfl, Nat.le_of_ble_eq_true rfl⟩) hS (fun q _ h => hFc q h) hFc (fun r' u' t H locs ht hvm hw hB hz1 hk1 hS => ?_)
      subst hw
      obtain ⟨hP1, -, hD1⟩ := hB
      rw [ht] at hP1
      have hP : va_P (dC, dI) vwCl ((W_Tree cI a S)) H := hP1
      have hD : va_D A ((W_Tree cI a S)) := hD1.weaken (fun _ _ _ h => hFc _ h)
      have e50 := Option.some.inj hF
      subst e50
      exact W.iret (v := r2) hx hb hr (fun t ht hW => ⟨⟨r2, (), rfl, rfl, by rw [ht]; exact hP, va_K.moved hW.alike hK, hD⟩, hS.F ht⟩) hS.2.2 dX4_nodeNumber_58
    · have hF := F_neg c1 hF
      by_cases c4 : v3 = (1 : Int32)
      · have hF := F_pos c4 hF
        refine lv_tableIn (tgt := 59) hx hb dX4_nodeNumber_1 (by rw [c4]; decide) (by rw [c4]; decide) (by rw [c4] <;> rfl) (by decide) ?_
        refine lv_aload_n hx hb dX4_nodeNumber_59 rfl (lv_at hl 0 rfl) ?_
        refine lv_iload_n hx hb dX4_nodeNumber_60 rfl (lv_at hl 1 rfl) ?_
        refine lv_iconst (v := (1 : Int32)) hx hb dX4_nodeNumber_61 (by decide) ?_
        obtain ⟨r5, h6, hF⟩ := ob1_some hF
        have hPc : va_P (dC, dI) vwCl ((W_Tree cI a S)) H := hP
        have hDc : va_D A ((W_Tree cI a S)) := hD
        have hFc := jFreeW (ws := (W_Tree cI a S)) hD hS hA
        refine va_calli (va_runV (As := [.int v2, .int (1 : Int32)]) (rest := []) ⟨hx, hb, hml, hown, hts⟩ (c_X3_get l dC dI cI a H.size _ _ _ _ h6) (cwV 2 hts gX4_nodeNumber_X3_get rfl rfl rfl (by decide +kernel) ⟨Nat.le_of_ble_eq_true rfl, Nat.le_of_ble_eq_true rfl⟩) (jPreV hK hPc hDc hN (ci := 3) rfl rfl) rfl rfl hl.1 rfl (lv_room (Nat.le_of_ble_eq_true rfl)) dX4_nodeNumber_62 ⟨Nat.le_of_ble_eq_true rfl, Nat.le_of_ble_eq_true rfl⟩) hS (fun q _ h => hFc q h) hFc (fun r' u' t H locs ht hvm hw hB hz1 hk1 hS => ?_)
        subst hw
        obtain ⟨hP1, -, hD1⟩ := hB
        rw [ht] at hP1
        have hP : va_P (dC, dI) vwCl ((W_Tree cI a S)) H := hP1
        have hD : va_D A ((W_Tree cI a S)) := hD1.weaken (fun _ _ _ h => hFc _ h)
        have e50 := Option.some.inj hF
        subst e50
        exact W.iret (v := r5) hx hb hr (fun t ht hW => ⟨⟨r5, (), rfl, rfl, by rw [ht]; exact hP, va_K.moved hW.alike hK, hD⟩, hS.F ht⟩) hS.2.2 dX4_nodeNumber_65
      · have hF := F_neg c4 hF
        by_cases c7 : v3 = (2 : Int32)
        · have hF := F_pos c7 hF
          refine lv_tableIn (tgt := 66) hx hb dX4_nodeNumber_1 (by rw [c7]; decide) (by rw [c7]; decide) (by rw [c7] <;> rfl) (by decide) ?_
          refine lv_aload_n hx hb dX4_nodeNumber_66 rfl (lv_at hl 0 rfl) ?_
          refine lv_iload_n hx hb dX4_nodeNumber_67 rfl (lv_at hl 1 rfl) ?_
          obtain ⟨r8, h9, hF⟩ := ob1_some hF
          have hPc : va_P (dC, dI) vwCl ((W_Tree cI a S)) H := hP
          have hDc : va_D A ((W_Tree cI a S)) := hD
          have hFc := jFreeW (ws := (W_Tree cI a S)) hD hS hA
          refine va_calli (va_runV (As := [.int v2]) (rest := []) ⟨hx, hb, hml, hown, hts⟩ (c_X3_above l dC dI cI a H.size _ _ _ h9) (cwV 1 hts gX4_nodeNumber_X3_above rfl rfl rfl (by decide +kernel) ⟨Nat.le_of_ble_eq_true rfl, Nat.le_of_ble_eq_true rfl⟩) (jPreV hK hPc hDc hN (ci := 3) rfl rfl) rfl rfl hl.1 rfl (lv_room (Nat.le_of_ble_eq_true rfl)) dX4_nodeNumber_68 ⟨Nat.le_of_ble_eq_true rfl, Nat.le_of_ble_eq_true rfl⟩) hS (fun q _ h => hFc q h) hFc (fun r' u' t H locs ht hvm hw hB hz1 hk1 hS => ?_)
          subst hw
          obtain ⟨hP1, -, hD1⟩ := hB
          rw [ht] at hP1
          have hP : va_P (dC, dI) vwCl ((W_Tree cI a S)) H := hP1
          have hD : va_D A ((W_Tree cI a S)) := hD1.weaken (fun _ _ _ h => hFc _ h)
          have e50 := Option.some.inj hF
          subst e50
          exact W.iret (v := r8) hx hb hr (fun t ht hW => ⟨⟨r8, (), rfl, rfl, by rw [ht]; exact hP, va_K.moved hW.alike hK, hD⟩, hS.F ht⟩) hS.2.2 dX4_nodeNumber_71
        · have hF := F_neg c7 hF
          by_cases c10 : v3 = (3 : Int32)
          · have hF := F_pos c10 hF
            refine lv_tableIn (tgt := 72) hx hb dX4_nodeNumber_1 (by rw [c10]; decide) (by rw [c10]; decide) (by rw [c10] <;> rfl) (by decide) ?_
            refine lv_aload_n hx hb dX4_nodeNumber_72 rfl (lv_at hl 0 rfl) ?_
            refine lv_iload_n hx hb dX4_nodeNumber_73 rfl (lv_at hl 1 rfl) ?_
            refine lv_iconst (v := (2 : Int32)) hx hb dX4_nodeNumber_74 (by decide) ?_
            obtain ⟨r11, h12, hF⟩ := ob1_some hF
            have hPc : va_P (dC, dI) vwCl ((W_Tree cI a S)) H := hP
            have hDc : va_D A ((W_Tree cI a S)) := hD
            have hFc := jFreeW (ws := (W_Tree cI a S)) hD hS hA
            refine va_calli (va_runV (As := [.int v2, .int (2 : Int32)]) (rest := []) ⟨hx, hb, hml, hown, hts⟩ (c_X3_get l dC dI cI a H.size _ _ _ _ h12) (cwV 2 hts gX4_nodeNumber_X3_get rfl rfl rfl (by decide +kernel) ⟨Nat.le_of_ble_eq_true rfl, Nat.le_of_ble_eq_true rfl⟩) (jPreV hK hPc hDc hN (ci := 3) rfl rfl) rfl rfl hl.1 rfl (lv_room (Nat.le_of_ble_eq_true rfl)) dX4_nodeNumber_75 ⟨Nat.le_of_ble_eq_true rfl, Nat.le_of_ble_eq_true rfl⟩) hS (fun q _ h => hFc q h) hFc (fun r' u' t H locs ht hvm hw hB hz1 hk1 hS => ?_)
            subst hw
            obtain ⟨hP1, -, hD1⟩ := hB
            rw [ht] at hP1
            have hP : va_P (dC, dI) vwCl ((W_Tree cI a S)) H := hP1
            have hD : va_D A ((W_Tree cI a S)) := hD1.weaken (fun _ _ _ h => hFc _ h)
            have e50 := Option.some.inj hF
            subst e50
            exact W.iret (v := r11) hx hb hr (fun t ht hW => ⟨⟨r11, (), rfl, rfl, by rw [ht]; exact hP, va_K.moved hW.alike hK, hD⟩, hS.F ht⟩) hS.2.2 dX4_nodeNumber_78
          · have hF := F_neg c10 hF
            by_cases c13 : v3 = (4 : Int32)
            · have hF := F_pos c13 hF
              refine lv_tableIn (tgt := 79) hx hb dX4_nodeNumber_1 (by rw [c13]; decide) (by rw [c13]; decide) (by rw [c13] <;> rfl) (by decide) ?_
              refine lv_aload_n hx hb dX4_nodeNumber_79 rfl (lv_at hl 0 rfl) ?_
              refine lv_iload_n hx hb dX4_nodeNumber_80 rfl (lv_at hl 1 rfl) ?_
              refine lv_iconst (v := (3 : Int32)) hx hb dX4_nodeNumber_81 (by decide) ?_
              obtain ⟨r14, h15, hF⟩ := ob1_some hF
              have hPc : va_P (dC, dI) vwCl ((W_Tree cI a S)) H := hP
              have hDc : va_D A ((W_Tree cI a S)) := hD
              have hFc := jFreeW (ws := (W_Tree cI a S)) hD hS hA
              refine va_calli (va_runV (As := [.int v2, .int (3 : Int32)]) (rest := []) ⟨hx, hb, hml, hown, hts⟩ (c_X3_get l dC dI cI a H.size _ _ _ _ h15) (cwV 2 hts gX4_nodeNumber_X3_get rfl rfl rfl (by decide +kernel) ⟨Nat.le_of_ble_eq_true rfl, Nat.le_of_ble_eq_true rfl⟩) (jPreV hK hPc hDc hN (ci := 3) rfl rfl) rfl rfl hl.1 rfl (lv_room (Nat.le_of_ble_eq_true rfl)) dX4_nodeNumber_82 ⟨Nat.le_of_ble_eq_true rfl, Nat.le_of_ble_eq_true rfl⟩) hS (fun q _ h => hFc q h) hFc (fun r' u' t H locs ht hvm hw hB hz1 hk1 hS => ?_)
              subst hw
              obtain ⟨hP1, -, hD1⟩ := hB
              rw [ht] at hP1
              have hP : va_P (dC, dI) vwCl ((W_Tree cI a S)) H := hP1
              have hD : va_D A ((W_Tree cI a S)) := hD1.weaken (fun _ _ _ h => hFc _ h)
              have e50 := Option.some.inj hF
              subst e50
              exact W.iret (v := r14) hx hb hr (fun t ht hW => ⟨⟨r14, (), rfl, rfl, by rw [ht]; exact hP, va_K.moved hW.alike hK, hD⟩, hS.F ht⟩) hS.2.2 dX4_nodeNumber_85
            · have hF := F_neg c13 hF
              by_cases c16 : v3 = (5 : Int32)
              · have hF := F_pos c16 hF
                refine lv_tableIn (tgt := 86) hx hb dX4_nodeNumber_1 (by rw [c16]; decide) (by rw [c16]; decide) (by rw [c16] <;> rfl) (by decide) ?_
                refine lv_aload_n hx hb dX4_nodeNumber_86 rfl (lv_at hl 0 rfl) ?_
                refine lv_iload_n hx hb dX4_nodeNumber_87 rfl (lv_at hl 1 rfl) ?_
                refine lv_iconst (v := (4 : Int32)) hx hb dX4_nodeNumber_88 (by decide) ?_
                obtain ⟨r17, h18, hF⟩ := ob1_some hF
                have hPc : va_P (dC, dI) vwCl ((W_Tree cI a S)) H := hP
                have hDc : va_D A ((W_Tree cI a S)) := hD
                have hFc := jFreeW (ws := (W_Tree cI a S)) hD hS hA
                refine va_calli (va_runV (As := [.int v2, .int (4 : Int32)]) (rest := []) ⟨hx, hb, hml, hown, hts⟩ (c_X3_get l dC dI cI a H.size _ _ _ _ h18) (cwV 2 hts gX4_nodeNumber_X3_get rfl rfl rfl (by decide +kernel) ⟨Nat.le_of_ble_eq_true rfl, Nat.le_of_ble_eq_true rfl⟩) (jPreV hK hPc hDc hN (ci := 3) rfl rfl) rfl rfl hl.1 rfl (lv_room (Nat.le_of_ble_eq_true rfl)) dX4_nodeNumber_89 ⟨Nat.le_of_ble_eq_true rfl, Nat.le_of_ble_eq_true rfl⟩) hS (fun q _ h => hFc q h) hFc (fun r' u' t H locs ht hvm hw hB hz1 hk1 hS => ?_)
                subst hw
                obtain ⟨hP1, -, hD1⟩ := hB
                rw [ht] at hP1
                have hP : va_P (dC, dI) vwCl ((W_Tree cI a S)) H := hP1
                have hD : va_D A ((W_Tree cI a S)) := hD1.weaken (fun _ _ _ h => hFc _ h)
                have e50 := Option.some.inj hF
                subst e50
                exact W.iret (v := r17) hx hb hr (fun t ht hW => ⟨⟨r17, (), rfl, rfl, by rw [ht]; exact hP, va_K.moved hW.alike hK, hD⟩, hS.F ht⟩) hS.2.2 dX4_nodeNumber_92
              · have hF := F_neg c16 hF
                by_cases c19 : v3 = (6 : Int32)
                · have hF := F_pos c19 hF
                  refine lv_tableIn (tgt := 93) hx hb dX4_nodeNumber_1 (by rw [c19]; decide) (by rw [c19]; decide) (by rw [c19] <;> rfl) (by decide) ?_
                  refine lv_aload_n hx hb dX4_nodeNumber_93 rfl (lv_at hl 0 rfl) ?_
                  refine lv_iload_n hx hb dX4_nodeNumber_94 rfl (lv_at hl 1 rfl) ?_
                  refine lv_iconst (v := (5 : Int32)) hx hb dX4_nodeNumber_95 (by decide) ?_
                  obtain ⟨r20, h21, hF⟩ := ob1_some hF
                  have hPc : va_P (dC, dI) vwCl ((W_Tree cI a S)) H := hP
                  have hDc : va_D A ((W_Tree cI a S)) := hD
                  have hFc := jFreeW (ws := (W_Tree cI a S)) hD hS hA
                  refine va_calli (va_runV (As := [.int v2, .int (5 : Int32)]) (rest := []) ⟨hx, hb, hml, hown, hts⟩ (c_X3_get l dC dI cI a H.size _ _ _ _ h21) (cwV 2 hts gX4_nodeNumber_X3_get rfl rfl rfl (by decide +kernel) ⟨Nat.le_of_ble_eq_true rfl, Nat.le_of_ble_eq_true rfl⟩) (jPreV hK hPc hDc hN (ci := 3) rfl rfl) rfl rfl hl.1 rfl (lv_room (Nat.le_of_ble_eq_true rfl)) dX4_nodeNumber_96 ⟨Nat.le_of_ble_eq_true rfl, Nat.le_of_ble_eq_true rfl⟩) hS (fun q _ h => hFc q h) hFc (fun r' u' t H locs ht hvm hw hB hz1 hk1 hS => ?_)
                  subst hw
                  obtain ⟨hP1, -, hD1⟩ := hB
                  rw [ht] at hP1
                  have hP : va_P (dC, dI) vwCl ((W_Tree cI a S)) H := hP1
                  have hD : va_D A ((W_Tree cI a S)) := hD1.weaken (fun _ _ _ h => hFc _ h)
                  have e50 := Option.some.inj hF
                  subst e50
                  exact W.iret (v := r20) hx hb hr (fun t ht hW => ⟨⟨r20, (), rfl, rfl, by rw [ht]; exact hP, va_K.moved hW.alike hK, hD⟩, hS.F ht⟩) hS.2.2 dX4_nodeNumber_99
                · have hF := F_neg c19 hF
                  by_cases c22 : v3 = (7 : Int32)
                  · have hF := F_pos c22 hF
                    refine lv_tableIn (tgt := 100) hx hb dX4_nodeNumber_1 (by rw [c22]; decide) (by rw [c22]; decide) (by rw [c22] <;> rfl) (by decide) ?_
                    refine lv_aload_n hx hb dX4_nodeNumber_100 rfl (lv_at hl 0 rfl) ?_
                    refine lv_iload_n hx hb dX4_nodeNumber_101 rfl (lv_at hl 1 rfl) ?_
                    refine lv_bipush (v := (8 : Int32)) hx hb dX4_nodeNumber_102 (by decide) ?_
                    obtain ⟨r23, h24, hF⟩ := ob1_some hF
                    have hPc : va_P (dC, dI) vwCl ((W_Tree cI a S)) H := hP
                    have hDc : va_D A ((W_Tree cI a S)) := hD
                    have hFc := jFreeW (ws := (W_Tree cI a S)) hD hS hA
                    refine va_calli (va_runV (As := [.int v2, .int (8 : Int32)]) (rest := []) ⟨hx, hb, hml, hown, hts⟩ (c_X3_get l dC dI cI a H.size _ _ _ _ h24) (cwV 2 hts gX4_nodeNumber_X3_get rfl rfl rfl (by decide +kernel) ⟨Nat.le_of_ble_eq_true rfl, Nat.le_of_ble_eq_true rfl⟩) (jPreV hK hPc hDc hN (ci := 3) rfl rfl) rfl rfl hl.1 rfl (lv_room (Nat.le_of_ble_eq_true rfl)) dX4_nodeNumber_104 ⟨Nat.le_of_ble_eq_true rfl, Nat.le_of_ble_eq_true rfl⟩) hS (fun q _ h => hFc q h) hFc (fun r' u' t H locs ht hvm hw hB hz1 hk1 hS => ?_)
                    subst hw
                    obtain ⟨hP1, -, hD1⟩ := hB
                    rw [ht] at hP1
                    have hP : va_P (dC, dI) vwCl ((W_Tree cI a S)) H := hP1
                    have hD : va_D A ((W_Tree cI a S)) := hD1.weaken (fun _ _ _ h => hFc _ h)
                    have e50 := Option.some.inj hF
                    subst e50
                    exact W.iret (v := r23) hx hb hr (fun t ht hW => ⟨⟨r23, (), rfl, rfl, by rw [ht]; exact hP, va_K.moved hW.alike hK, hD⟩, hS.F ht⟩) hS.2.2 dX4_nodeNumber_107
                  · have hF := F_neg c22 hF
                    by_cases c25 : v3 = (8 : Int32)
                    · have hF := F_pos c25 hF
                      refine lv_tableIn (tgt := 108) hx hb dX4_nodeNumber_1 (by rw [c25]; decide) (by rw [c25]; decide) (by rw [c25] <;> rfl) (by decide) ?_
                      refine lv_aload_n hx hb dX4_nodeNumber_108 rfl (lv_at hl 0 rfl) ?_
                      refine lv_iload_n hx hb dX4_nodeNumber_109 rfl (lv_at hl 1 rfl) ?_
                      refine lv_bipush (v := (6 : Int32)) hx hb dX4_nodeNumber_110 (by decide) ?_
                      obtain ⟨r26, h27, hF⟩ := ob1_some hF
                      have hPc : va_P (dC, dI) vwCl ((W_Tree cI a S)) H := hP
                      have hDc : va_D A ((W_Tree cI a S)) := hD
                      have hFc := jFreeW (ws := (W_Tree cI a S)) hD hS hA
                      refine va_calli (va_runV (As := [.int v2, .int (6 : Int32)]) (rest := []) ⟨hx, hb, hml, hown, hts⟩ (c_X3_get l dC dI cI a H.size _ _ _ _ h27) (cwV 2 hts gX4_nodeNumber_X3_get rfl rfl rfl (by decide +kernel) ⟨Nat.le_of_ble_eq_true rfl, Nat.le_of_ble_eq_true rfl⟩) (jPreV hK hPc hDc hN (ci := 3) rfl rfl) rfl rfl hl.1 rfl (lv_room (Nat.le_of_ble_eq_true rfl)) dX4_nodeNumber_112 ⟨Nat.le_of_ble_eq_true rfl, Nat.le_of_ble_eq_true rfl⟩) hS (fun q _ h => hFc q h) hFc (fun r' u' t H locs ht hvm hw hB hz1 hk1 hS => ?_)
                      subst hw
                      obtain ⟨hP1, -, hD1⟩ := hB
                      rw [ht] at hP1
                      have hP : va_P (dC, dI) vwCl ((W_Tree cI a S)) H := hP1
                      have hD : va_D A ((W_Tree cI a S)) := hD1.weaken (fun _ _ _ h => hFc _ h)
                      have e50 := Option.some.inj hF
                      subst e50
                      exact W.iret (v := r26) hx hb hr (fun t ht hW => ⟨⟨r26, (), rfl, rfl, by rw [ht]; exact hP, va_K.moved hW.alike hK, hD⟩, hS.F ht⟩) hS.2.2 dX4_nodeNumber_115
                    · have hF := F_neg c25 hF
                      refine lv_tableOut (tgt := 116) hx hb dX4_nodeNumber_1 (sw_out 0 8 (by decide) (fun k hk1 hk2 => ?_)) (by decide) ?_
                      · rcases (show k = 0 ∨ k = 1 ∨ k = 2 ∨ k = 3 ∨ k = 4 ∨ k = 5 ∨ k = 6 ∨ k = 7 ∨ k = 8 by omega) with rfl | rfl | rfl | rfl | rfl | rfl | rfl | rfl | rfl
                        · exact lv_neT c1 rfl
                        · exact lv_neT c4 rfl
                        · exact lv_neT c7 rfl
                        · exact lv_neT c10 rfl
                        · exact lv_neT c13 rfl
                        · exact lv_neT c16 rfl
                        · exact lv_neT c19 rfl
                        · exact lv_neT c22 rfl
                        · exact lv_neT c25 rfl
                      refine lv_aload_n hx hb dX4_nodeNumber_116 rfl (lv_at hl 0 rfl) ?_
                      refine lv_iload_n hx hb dX4_nodeNumber_117 rfl (lv_at hl 1 rfl) ?_
                      obtain ⟨r28, h29, hF⟩ := ob1_some hF
                      have hPc : va_P (dC, dI) vwCl ((W_Tree cI a S)) H := hP
                      have hDc : va_D A ((W_Tree cI a S)) := hD
                      have hFc := jFreeW (ws := (W_Tree cI a S)) hD hS hA
                      refine va_calli (va_runV (As := [.int v2]) (rest := []) ⟨hx, hb, hml, hown, hts⟩ (c_X3_countBelow l dC dI cI a H.size _ _ _ h29) (cwV 1 hts gX4_nodeNumber_X3_countBelow rfl rfl rfl (by decide +kernel) ⟨Nat.le_of_ble_eq_true rfl, Nat.le_of_ble_eq_true rfl⟩) (jPreV hK hPc hDc hN (ci := 3) rfl rfl) rfl rfl hl.1 rfl (lv_room (Nat.le_of_ble_eq_true rfl)) dX4_nodeNumber_118 ⟨Nat.le_of_ble_eq_true rfl, Nat.le_of_ble_eq_true rfl⟩) hS (fun q _ h => hFc q h) hFc (fun r' u' t H locs ht hvm hw hB hz1 hk1 hS => ?_)
                      subst hw
                      obtain ⟨hP1, -, hD1⟩ := hB
                      rw [ht] at hP1
                      have hP : va_P (dC, dI) vwCl ((W_Tree cI a S)) H := hP1
                      have hD : va_D A ((W_Tree cI a S)) := hD1.weaken (fun _ _ _ h => hFc _ h)
                      have e50 := Option.some.inj hF
                      subst e50
                      exact W.iret (v := r28) hx hb hr (fun t ht hW => ⟨⟨r28, (), rfl, rfl, by rw [ht]; exact hP, va_K.moved hW.alike hK, hD⟩, hS.F ht⟩) hS.2.2 dX4_nodeNumber_121
  exact KE _ _ hP hD hS
set_option maxHeartbeats 4000000 in
set_option maxRecDepth 100000 in
theorem c_X4_mustBeThere (l : Launch) (dC : Nat → ClassId) (dI : Nat → Nat → Nat) (cI : ClassId) (a : Nat → Nat) (sz : Nat) (S : S_Tree) (v2 : Int32) (rr : Bool) (hF : F_X4_mustBeThere S v2 = some rr) : Met l yX4_mustBeThere wsX4_mustBeThere ({ frames := 1, cells := 0, slots := 0, locals := 24 } : Room) (va_Pc [.ref (a 0), .int v2] (jPre (dC, dI) [(cI, .int)] sz ((W_Tree cI a S)))) (va_Qi (fun (r' : Int32) (_ : Unit) => b2i rr = r') (fun _ : Unit => jB (dC, dI) [(cI, .int)] (va_A ((W_Tree cI a S)) sz) ((W_Tree cI a S))) (va_A ((W_Tree cI a S)) sz)) 0 0 (va_A ((W_Tree cI a S)) sz) := by
  refine Met.ofW (cc := cX4_mustBeThere) (maxL := 2) (ret := (some .boolean)) (by decide) rfl ?_
  intro p e s m args below meth c s₁ B hml hv
  obtain ⟨rfl, hsz, hP, hK, hD0, hN⟩ := hv
  have hx := B.exec
  have hb := B.bytes
  have hr := B.returns
  have hts := atoms_spec (ws := wsX4_mustBeThere) B.pre
  have hown : s.vm.findClass RX4 = some m.cls := findClass_of_methodNamed B.named
  have hlocks := B.notSynchronized
  subst hsz
  have hD := hD0.self (sz := s.heap.size)
  generalize hAe : (va_A ((W_Tree cI a S)) s.heap.size) = A at hD ⊢
  have hA : ∀ q : Nat, s.heap.size ≤ q → A q := fun q h => by rw [← hAe]; exact Or.inr h
  have hS : va_S A s.heap s.heap [] := va_S.rf
  have hl := lv_entry ([.ref (a 0), .int v2]) (n := 2) (Nat.le_of_ble_eq_true rfl)
  rw [lg_entry_eq]
  generalize (lg_sl ([.ref (a 0), .int v2]) ++ List.replicate (2 - (lg_sl ([.ref (a 0), .int v2])).length) Slot.unset).toArray = ls at hl ⊢
  have hl : lv_has ls 2 [(0, .ref (a 0)), (1, .int v2)] := hl
  have KE : ∀ (H : Heap) (locs : List Loc), va_P (dC, dI) vwCl ((W_Tree cI a S)) H → va_D A ((W_Tree cI a S)) → va_S A s.heap H locs → W p l e (headSpec wsX4_mustBeThere ({ frames := 1, cells := 0, slots := 0, locals := 24 } : Room)).room s m ([.ref (a 0), .int v2] : List Value).toArray below meth c H locs 0 0 (MQ below (va_Qi (fun (r' : Int32) (_ : Unit) => b2i rr = r') (fun _ : Unit => jB (dC, dI) [(cI, .int)] A ((W_Tree cI a S))) A) ([.ref (a 0), .int v2] : List Value).toArray s 0 0 A) (F0 m 0 ls []) := by
    intro H locs hP hD hS
    unfold F_X4_mustBeThere at hF
    refine lv_aload_n hx hb dX4_mustBeThere_0 rfl (lv_at hl 0 rfl) ?_
    refine lv_iload_n hx hb dX4_mustBeThere_1 rfl (lv_at hl 1 rfl) ?_
    obtain ⟨r1, h2, hF⟩ := ob1_some hF
    have hPc : va_P (dC, dI) vwCl ((W_Tree cI a S)) H := hP
    have hDc : va_D A ((W_Tree cI a S)) := hD
    have hFc := jFreeW (ws := (W_Tree cI a S)) hD hS hA
    refine va_calli (va_runV (As := [.int v2]) (rest := []) ⟨hx, hb, hml, hown, hts⟩ (c_X3_has l dC dI cI a H.size _ _ _ h2) (cwV 1 hts gX4_mustBeThere_X3_has rfl rfl rfl (by decide +kernel) ⟨Nat.le_of_ble_eq_true rfl, Nat.le_of_ble_eq_true rfl⟩) (jPreV hK hPc hDc hN (ci := 3) rfl rfl) rfl rfl hl.1 rfl (lv_room (Nat.le_of_ble_eq_true rfl)) dX4_mustBeThere_2 ⟨Nat.le_of_ble_eq_true rfl, Nat.le_of_ble_eq_true rfl⟩) hS (fun q _ h => hFc q h) hFc (fun r' u' t H locs ht hvm hw hB hz1 hk1 hS => ?_)
    subst hw
    obtain ⟨hP1, -, hD1⟩ := hB
    rw [ht] at hP1
    have hP : va_P (dC, dI) vwCl ((W_Tree cI a S)) H := hP1
    have hD : va_D A ((W_Tree cI a S)) := hD1.weaken (fun _ _ _ h => hFc _ h)
    refine lv_if_eq (tgt := 33) hx hb dX4_mustBeThere_5 (by decide) (fun c3 => ?_) (fun c3 => ?_)
    · have hF := F_pos c3 hF
      refine lv_iconst (v := (0 : Int32)) hx hb dX4_mustBeThere_33 (by decide) ?_
      have e50 := Option.some.inj hF
      subst e50
      exact W.zret (v := (0 : Int32)) hx hb hr (rfl) (fun t ht hW => ⟨⟨(0 : Int32), (), rfl, rfl, by rw [ht]; exact hP, va_K.moved hW.alike hK, hD⟩, hS.F ht⟩) hS.2.2 dX4_mustBeThere_34
    · have hF := F_neg c3 hF
      refine lv_aload_n hx hb dX4_mustBeThere_8 rfl (lv_at hl 0 rfl) ?_
      refine lv_iload_n hx hb dX4_mustBeThere_9 rfl (lv_at hl 1 rfl) ?_
      refine lv_iconst (v := (1 : Int32)) hx hb dX4_mustBeThere_10 (by decide) ?_
      obtain ⟨r4, h5, hF⟩ := ob1_some hF
      have hPc : va_P (dC, dI) vwCl ((W_Tree cI a S)) H := hP
      have hDc : va_D A ((W_Tree cI a S)) := hD
      have hFc := jFreeW (ws := (W_Tree cI a S)) hD hS hA
      refine va_calli (va_runV (As := [.int v2, .int (1 : Int32)]) (rest := []) ⟨hx, hb, hml, hown, hts⟩ (c_X3_get l dC dI cI a H.size _ _ _ _ h5) (cwV 2 hts gX4_mustBeThere_X3_get rfl rfl rfl (by decide +kernel) ⟨Nat.le_of_ble_eq_true rfl, Nat.le_of_ble_eq_true rfl⟩) (jPreV hK hPc hDc hN (ci := 3) rfl rfl) rfl rfl hl.1 rfl (lv_room (Nat.le_of_ble_eq_true rfl)) dX4_mustBeThere_11 ⟨Nat.le_of_ble_eq_true rfl, Nat.le_of_ble_eq_true rfl⟩) hS (fun q _ h => hFc q h) hFc (fun r' u' t H locs ht hvm hw hB hz1 hk1 hS => ?_)
      subst hw
      obtain ⟨hP1, -, hD1⟩ := hB
      rw [ht] at hP1
      have hP : va_P (dC, dI) vwCl ((W_Tree cI a S)) H := hP1
      have hD : va_D A ((W_Tree cI a S)) := hD1.weaken (fun _ _ _ h => hFc _ h)
      refine lv_bipush (v := (8 : Int32)) hx hb dX4_mustBeThere_14 (by decide) ?_
      refine lv_icmp_ge (tgt := 33) hx hb dX4_mustBeThere_16 (by decide) (fun c6 => ?_) (fun c6 => ?_)
      · have hF := F_pos c6 hF
        refine lv_iconst (v := (0 : Int32)) hx hb dX4_mustBeThere_33 (by decide) ?_
        have e50 := Option.some.inj hF
        subst e50
        exact W.zret (v := (0 : Int32)) hx hb hr (rfl) (fun t ht hW => ⟨⟨(0 : Int32), (), rfl, rfl, by rw [ht]; exact hP, va_K.moved hW.alike hK, hD⟩, hS.F ht⟩) hS.2.2 dX4_mustBeThere_34
      · have hF := F_neg c6 hF
        refine lv_aload_n hx hb dX4_mustBeThere_19 rfl (lv_at hl 0 rfl) ?_
        refine lv_iload_n hx hb dX4_mustBeThere_20 rfl (lv_at hl 1 rfl) ?_
        refine lv_bipush (v := (8 : Int32)) hx hb dX4_mustBeThere_21 (by decide) ?_
        obtain ⟨r7, h8, hF⟩ := ob1_some hF
        have hPc : va_P (dC, dI) vwCl ((W_Tree cI a S)) H := hP
        have hDc : va_D A ((W_Tree cI a S)) := hD
        have hFc := jFreeW (ws := (W_Tree cI a S)) hD hS hA
        refine va_calli (va_runV (As := [.int v2, .int (8 : Int32)]) (rest := []) ⟨hx, hb, hml, hown, hts⟩ (c_X3_get l dC dI cI a H.size _ _ _ _ h8) (cwV 2 hts gX4_mustBeThere_X3_get rfl rfl rfl (by decide +kernel) ⟨Nat.le_of_ble_eq_true rfl, Nat.le_of_ble_eq_true rfl⟩) (jPreV hK hPc hDc hN (ci := 3) rfl rfl) rfl rfl hl.1 rfl (lv_room (Nat.le_of_ble_eq_true rfl)) dX4_mustBeThere_23 ⟨Nat.le_of_ble_eq_true rfl, Nat.le_of_ble_eq_true rfl⟩) hS (fun q _ h => hFc q h) hFc (fun r' u' t H locs ht hvm hw hB hz1 hk1 hS => ?_)
        subst hw
        obtain ⟨hP1, -, hD1⟩ := hB
        rw [ht] at hP1
        have hP : va_P (dC, dI) vwCl ((W_Tree cI a S)) H := hP1
        have hD : va_D A ((W_Tree cI a S)) := hD1.weaken (fun _ _ _ h => hFc _ h)
        refine lv_if_ne (tgt := 33) hx hb dX4_mustBeThere_26 (by decide) (fun c9 => ?_) (fun c9 => ?_)
        · have hF := F_neg c9 hF
          refine lv_iconst (v := (0 : Int32)) hx hb dX4_mustBeThere_33 (by decide) ?_
          have e50 := Option.some.inj hF
          subst e50
          exact W.zret (v := (0 : Int32)) hx hb hr (rfl) (fun t ht hW => ⟨⟨(0 : Int32), (), rfl, rfl, by rw [ht]; exact hP, va_K.moved hW.alike hK, hD⟩, hS.F ht⟩) hS.2.2 dX4_mustBeThere_34
        · have hF := F_pos c9 hF
          refine lv_iconst (v := (1 : Int32)) hx hb dX4_mustBeThere_29 (by decide) ?_
          refine lv_goto (tgt := 34) hx hb dX4_mustBeThere_30 (by decide) ?_
          have e50 := Option.some.inj hF
          subst e50
          exact W.zret (v := (1 : Int32)) hx hb hr (rfl) (fun t ht hW => ⟨⟨(1 : Int32), (), rfl, rfl, by rw [ht]; exact hP, va_K.moved hW.alike hK, hD⟩, hS.F ht⟩) hS.2.2 dX4_mustBeThere_34
  exact KE _ _ hP hD hS
set_option maxHeartbeats 4000000 in
set_option maxRecDepth 100000 in
theorem c_X4_showValue (l : Launch) (dC : Nat → ClassId) (dI : Nat → Nat → Nat) (cI : ClassId) (a : Nat → Nat) (sz : Nat) (S : S_LS) (v2 : Int32) (Y : S_LS) (hF : F_X4_showValue S v2 = some Y) : Met l yX4_showValue wsX4_showValue ({ frames := 3, cells := 0, slots := 0, locals := 111 } : Room) (va_Pc [.ref (a 0), .ref (a 3), .int v2] (jPre (dC, dI) [(cI, .int)] sz ((W_LS cI a S)))) (va_Qv (fun u : S_LS => Y = u) (fun u : S_LS => jB (dC, dI) [(cI, .int)] (va_A ((W_LS cI a S)) sz) ((W_LS cI a u))) (va_A ((W_LS cI a S)) sz)) 0 0 (va_A ((W_LS cI a S)) sz) := by
  refine Met.ofW (cc := cX4_showValue) (maxL := 10) (ret := none) (by decide) rfl ?_
  intro p e s m args below meth c s₁ B hml hv
  obtain ⟨rfl, hsz, hP, hK, hD0, hN⟩ := hv
  have hx := B.exec
  have hb := B.bytes
  have hr := B.returns
  have hts := atoms_spec (ws := wsX4_showValue) B.pre
  have hown : s.vm.findClass RX4 = some m.cls := findClass_of_methodNamed B.named
  have hlocks := B.notSynchronized
  have hinX3 : ∀ w ∈ u_ws RX3 TX3 3, w ∈ wsX4_showValue := by decide +kernel
  have hinX4 : ∀ w ∈ u_ws RX4 TX4 8, w ∈ wsX4_showValue := by decide +kernel
  subst hsz
  have hD := hD0.self (sz := s.heap.size)
  generalize hAe : (va_A ((W_LS cI a S)) s.heap.size) = A at hD ⊢
  have hA : ∀ q : Nat, s.heap.size ≤ q → A q := fun q h => by rw [← hAe]; exact Or.inr h
  have hS : va_S A s.heap s.heap [] := va_S.rf
  have hl := lv_entry ([.ref (a 0), .ref (a 3), .int v2]) (n := 10) (Nat.le_of_ble_eq_true rfl)
  rw [lg_entry_eq]
  generalize (lg_sl ([.ref (a 0), .ref (a 3), .int v2]) ++ List.replicate (10 - (lg_sl ([.ref (a 0), .ref (a 3), .int v2])).length) Slot.unset).toArray = ls at hl ⊢
  have hl : lv_has ls 10 [(0, .ref (a 0)), (1, .ref (a 3)), (2, .int v2)] := hl
  have K272 : ∀ (S : S_LS) (x6 : Int32) (x9 : Int32) (H : Heap) (locs : List Loc), F_X4_showValue_272 v2 S x6 x9 = some Y → va_P (dC, dI) vwCl ((W_LS cI a S)) H → va_D A ((W_LS cI a S)) → va_S A s.heap H locs → ∀ ls : Array Slot, lv_has ls 10 [(0, .ref (a 0)), (1, .ref (a 3)), (2, .int v2), (6, .int x6), (9, .int x9)] → W p l e (headSpec wsX4_showValue ({ frames := 3, cells := 0, slots := 0, locals := 111 } : Room)).room s m ([.ref (a 0), .ref (a 3), .int v2] : List Value).toArray below meth c H locs 0 0 (MQ below (va_Qv (fun u : S_LS => Y = u) (fun u : S_LS => jB (dC, dI) [(cI, .int)] A ((W_LS cI a u))) A) ([.ref (a 0), .ref (a 3), .int v2] : List Value).toArray s 0 0 A) (F0 m 272 ls []) := by
    intro S x6 x9 H locs hF hP hD hS ls hl
    unfold F_X4_showValue_272 at hF
    refine lv_iload hx hb dX4_showValue_272 (lv_at hl 4 rfl) ?_
    refine lv_bipush (v := (7 : Int32)) hx hb dX4_showValue_274 (by decide) ?_
    refine lv_icmp_ne (tgt := 291) hx hb dX4_showValue_276 (by decide) (fun c1 => ?_) (fun c1 => ?_)
    · have hF := F_neg c1 hF
      refine lv_aload_n hx hb dX4_showValue_291 rfl (lv_at hl 1 rfl) ?_
      refine lv_iload_n hx hb dX4_showValue_292 rfl (lv_at hl 2 rfl) ?_
      refine lv_bipush (v := (7 : Int32)) hx hb dX4_showValue_293 (by decide) ?_
      refine lv_iload hx hb dX4_showValue_295 (lv_at hl 3 rfl) ?_
      obtain ⟨u2, h3, hF⟩ := ob1_some hF
      have hPc := hP.sub (ws' := (W_Tree cI (sh a 3) (g_Reader_values (g_LS_reader S)))) [3, 4] rfl
      have hDc := hD.sub (ws' := (W_Tree cI (sh a 3) (g_Reader_values (g_LS_reader S)))) [3, 4] (by decide) rfl
      have hFc := va_free (wc := (W_Tree cI (sh a 3) (g_Reader_values (g_LS_reader S)))) hD hS hA [3, 4] rfl
      refine va_callv (va_runV (As := [.int v2, .int (7 : Int32), .int x6]) (rest := []) ⟨hx, hb, hml, hown, hts⟩ (c_X3_put l dC dI cI (sh a 3) H.size _ _ _ _ _ h3) (cwV 3 hts gX4_showValue_X3_put rfl rfl rfl (by decide +kernel) ⟨Nat.le_of_ble_eq_true rfl, Nat.le_of_ble_eq_true rfl⟩) (jPreV hK hPc hDc hN (ci := 3) rfl rfl) rfl rfl hl.1 rfl (lv_room (Nat.le_of_ble_eq_true rfl)) dX4_showValue_297 ⟨Nat.le_of_ble_eq_true rfl, Nat.le_of_ble_eq_true rfl⟩) hS (fun q _ h => hFc q h) hFc (fun u' t H locs ht hvm hw hB hz1 hk1 hS => ?_)
      subst hw
      obtain ⟨hP1, -, hD1⟩ := hB
      rw [ht] at hP1
      obtain ⟨hP, hD⟩ := jJoin (wc := (W_Tree cI (sh a 3) (g_Reader_values (g_LS_reader S)))) (w1 := (W_Tree cI (sh a 3) u2)) (ws' := (W_LS cI a (s_LS_reader S (s_Reader_values (g_LS_reader S) u2)))) hP hD [3, 4] [0, 1, 2, 5, 6, 7, 8, 9, 10, 11, 12] [0, 1, 2, 11, 12, 3, 4, 5, 6, 7, 8, 9, 10] rfl rfl (by decide) (by decide) hk1 hFc hP1 hD1 (by decide) rfl
      have e50 := Option.some.inj hF
      subst e50
      exact W.vret hx hb hr (fun t ht hW => ⟨⟨(s_LS_reader S (s_Reader_values (g_LS_reader S) u2)), rfl, rfl, by rw [ht]; exact hP, va_K.moved hW.alike hK, hD⟩, hS.F ht⟩) hS.2.2 dX4_showValue_300
    · have hF := F_pos c1 hF
      refine lv_aload_n hx hb dX4_showValue_279 rfl (lv_at hl 0 rfl) ?_
      refine va_get (D := (dC, dI)) (ci := 4) (v := .ref (a 10)) (C := RX4) (T := TX4) (N := 8) hx hb hts hinX4 hown hK hP 0 rfl rfl 6 (by decide) (hts (Cond.fieldLink RX4 34 "LearnedShapes" "work" "LLearnedShapes$Tree;") (List.mem_of_getElem? (i := 1) rfl)) (fun _ h9 => h9) rfl dX4_showValue_280 ?_
      refine lv_iload hx hb dX4_showValue_283 (lv_at hl 3 rfl) ?_
      obtain ⟨u4, h5, hF⟩ := ob1_some hF
      have hPc := hP.sub (ws' := (W_Tree cI (sh a 10) (g_LS_work S))) [10, 11] rfl
      have hDc := hD.sub (ws' := (W_Tree cI (sh a 10) (g_LS_work S))) [10, 11] (by decide) rfl
      have hFc := va_free (wc := (W_Tree cI (sh a 10) (g_LS_work S))) hD hS hA [10, 11] rfl
      refine va_callv (va_runV (As := [.int x6]) (rest := []) ⟨hx, hb, hml, hown, hts⟩ (c_X3_dropBelow l dC dI cI (sh a 10) H.size _ _ _ h5) (cwV 1 hts gX4_showValue_X3_dropBelow rfl rfl rfl (by decide +kernel) ⟨Nat.le_of_ble_eq_true rfl, Nat.le_of_ble_eq_true rfl⟩) (jPreV hK hPc hDc hN (ci := 3) rfl rfl) rfl rfl hl.1 rfl (lv_room (Nat.le_of_ble_eq_true rfl)) dX4_showValue_285 ⟨Nat.le_of_ble_eq_true rfl, Nat.le_of_ble_eq_true rfl⟩) hS (fun q _ h => hFc q h) hFc (fun u' t H locs ht hvm hw hB hz1 hk1 hS => ?_)
      subst hw
      obtain ⟨hP1, -, hD1⟩ := hB
      rw [ht] at hP1
      obtain ⟨hP, hD⟩ := jJoin (wc := (W_Tree cI (sh a 10) (g_LS_work S))) (w1 := (W_Tree cI (sh a 10) u4)) (ws' := (W_LS cI a (s_LS_work S u4))) hP hD [10, 11] [0, 1, 2, 3, 4, 5, 6, 7, 8, 9, 12] [0, 1, 2, 3, 4, 5, 6, 7, 8, 9, 11, 12, 10] rfl rfl (by decide) (by decide) hk1 hFc hP1 hD1 (by decide) rfl
      refine lv_goto (tgt := 300) hx hb dX4_showValue_288 (by decide) ?_
      have e50 := Option.some.inj hF
      subst e50
      exact W.vret hx hb hr (fun t ht hW => ⟨⟨(s_LS_work S u4), rfl, rfl, by rw [ht]; exact hP, va_K.moved hW.alike hK, hD⟩, hS.F ht⟩) hS.2.2 dX4_showValue_300
  have K242 : ∀ (S : S_LS) (x6 : Int32) (x9 : Int32) (H : Heap) (locs : List Loc), F_X4_showValue_242 v2 S x6 x9 = some Y → va_P (dC, dI) vwCl ((W_LS cI a S)) H → va_D A ((W_LS cI a S)) → va_S A s.heap H locs → ∀ ls : Array Slot, lv_has ls 10 [(0, .ref (a 0)), (1, .ref (a 3)), (2, .int v2), (6, .int x6), (9, .int x9)] → W p l e (headSpec wsX4_showValue ({ frames := 3, cells := 0, slots := 0, locals := 111 } : Room)).room s m ([.ref (a 0), .ref (a 3), .int v2] : List Value).toArray below meth c H locs 0 0 (MQ below (va_Qv (fun u : S_LS => Y = u) (fun u : S_LS => jB (dC, dI) [(cI, .int)] A ((W_LS cI a u))) A) ([.ref (a 0), .ref (a 3), .int v2] : List Value).toArray s 0 0 A) (F0 m 242 ls []) := by
    intro S x6 x9 H locs hF hP hD hS ls hl
    unfold F_X4_showValue_242 at hF
    refine lv_aload_n hx hb dX4_showValue_242 rfl (lv_at hl 0 rfl) ?_
    refine va_get (D := (dC, dI)) (ci := 4) (v := .ref (a 10)) (C := RX4) (T := TX4) (N := 8) hx hb hts hinX4 hown hK hP 0 rfl rfl 6 (by decide) (hts (Cond.fieldLink RX4 34 "LearnedShapes" "work" "LLearnedShapes$Tree;") (List.mem_of_getElem? (i := 1) rfl)) (fun _ h9 => h9) rfl dX4_showValue_243 ?_
    refine lv_iload hx hb dX4_showValue_246 (lv_at hl 3 rfl) ?_
    refine lv_iconst (v := (0 : Int32)) hx hb dX4_showValue_248 (by decide) ?_
    refine lv_iload hx hb dX4_showValue_249 (lv_at hl 4 rfl) ?_
    obtain ⟨u6, h7, hF⟩ := ob1_some hF
    have hPc := hP.sub (ws' := (W_Tree cI (sh a 10) (g_LS_work S))) [10, 11] rfl
    have hDc := hD.sub (ws' := (W_Tree cI (sh a 10) (g_LS_work S))) [10, 11] (by decide) rfl
    have hFc := va_free (wc := (W_Tree cI (sh a 10) (g_LS_work S))) hD hS hA [10, 11] rfl
    refine va_callv (va_runV (As := [.int x6, .int (0 : Int32), .int x9]) (rest := []) ⟨hx, hb, hml, hown, hts⟩ (c_X3_put l dC dI cI (sh a 10) H.size _ _ _ _ _ h7) (cwV 3 hts gX4_showValue_X3_put rfl rfl rfl (by decide +kernel) ⟨Nat.le_of_ble_eq_true rfl, Nat.le_of_ble_eq_true rfl⟩) (jPreV hK hPc hDc hN (ci := 3) rfl rfl) rfl rfl hl.1 rfl (lv_room (Nat.le_of_ble_eq_true rfl)) dX4_showValue_251 ⟨Nat.le_of_ble_eq_true rfl, Nat.le_of_ble_eq_true rfl⟩) hS (fun q _ h => hFc q h) hFc (fun u' t H locs ht hvm hw hB hz1 hk1 hS => ?_)
    subst hw
    obtain ⟨hP1, -, hD1⟩ := hB
    rw [ht] at hP1
    obtain ⟨hP, hD⟩ := jJoin (wc := (W_Tree cI (sh a 10) (g_LS_work S))) (w1 := (W_Tree cI (sh a 10) u6)) (ws' := (W_LS cI a (s_LS_work S u6))) hP hD [10, 11] [0, 1, 2, 3, 4, 5, 6, 7, 8, 9, 12] [0, 1, 2, 3, 4, 5, 6, 7, 8, 9, 11, 12, 10] rfl rfl (by decide) (by decide) hk1 hFc hP1 hD1 (by decide) rfl
    refine lv_aload_n hx hb dX4_showValue_254 rfl (lv_at hl 0 rfl) ?_
    refine va_get (D := (dC, dI)) (ci := 4) (v := .ref (a 10)) (C := RX4) (T := TX4) (N := 8) hx hb hts hinX4 hown hK hP 0 rfl rfl 6 (by decide) (hts (Cond.fieldLink RX4 34 "LearnedShapes" "work" "LLearnedShapes$Tree;") (List.mem_of_getElem? (i := 1) rfl)) (fun _ h9 => h9) rfl dX4_showValue_255 ?_
    refine lv_iload hx hb dX4_showValue_258 (lv_at hl 3 rfl) ?_
    refine lv_bipush (v := (6 : Int32)) hx hb dX4_showValue_260 (by decide) ?_
    refine lv_aload_n hx hb dX4_showValue_262 rfl (lv_at hl 0 rfl) ?_
    refine va_get (D := (dC, dI)) (ci := 4) (v := .ref (a 10)) (C := RX4) (T := TX4) (N := 8) hx hb hts hinX4 hown hK hP 0 rfl rfl 6 (by decide) (hts (Cond.fieldLink RX4 34 "LearnedShapes" "work" "LLearnedShapes$Tree;") (List.mem_of_getElem? (i := 1) rfl)) (fun _ h9 => h9) rfl dX4_showValue_263 ?_
    refine va_get (D := (dC, dI)) (ci := 3) (v := .int (g_Tree_documents u6)) (C := RX3) (T := TX3) (N := 3) hx hb hts hinX3 hown hK hP 10 rfl rfl 2 (by decide) (hts (Cond.fieldLink RX4 226 "LearnedShapes$Tree" "documents" "I") (List.mem_of_getElem? (i := 3) rfl)) (fun _ h9 => h9) rfl dX4_showValue_266 ?_
    obtain ⟨u8, h9, hF⟩ := ob1_some hF
    have hPc := hP.sub (ws' := (W_Tree cI (sh a 10) u6)) [10, 11] rfl
    have hDc := hD.sub (ws' := (W_Tree cI (sh a 10) u6)) [10, 11] (by decide) rfl
    have hFc := va_free (wc := (W_Tree cI (sh a 10) u6)) hD hS hA [10, 11] rfl
    refine va_callv (va_runV (As := [.int x6, .int (6 : Int32), .int (g_Tree_documents u6)]) (rest := []) ⟨hx, hb, hml, hown, hts⟩ (c_X3_put l dC dI cI (sh a 10) H.size _ _ _ _ _ h9) (cwV 3 hts gX4_showValue_X3_put rfl rfl rfl (by decide +kernel) ⟨Nat.le_of_ble_eq_true rfl, Nat.le_of_ble_eq_true rfl⟩) (jPreV hK hPc hDc hN (ci := 3) rfl rfl) rfl rfl hl.1 rfl (lv_room (Nat.le_of_ble_eq_true rfl)) dX4_showValue_269 ⟨Nat.le_of_ble_eq_true rfl, Nat.le_of_ble_eq_true rfl⟩) hS (fun q _ h => hFc q h) hFc (fun u' t H locs ht hvm hw hB hz1 hk1 hS => ?_)
    subst hw
    obtain ⟨hP1, -, hD1⟩ := hB
    rw [ht] at hP1
    obtain ⟨hP, hD⟩ := jJoin (wc := (W_Tree cI (sh a 10) u6)) (w1 := (W_Tree cI (sh a 10) u8)) (ws' := (W_LS cI a (s_LS_work S u8))) hP hD [10, 11] [0, 1, 2, 3, 4, 5, 6, 7, 8, 9, 12] [0, 1, 2, 3, 4, 5, 6, 7, 8, 9, 11, 12, 10] rfl rfl (by decide) (by decide) hk1 hFc hP1 hD1 (by decide) rfl
    exact K272 _ _ _ _ _ hF hP hD hS _ (lv_sub hl [0, 1, 2, 3, 4] rfl)
  have K206 : ∀ (S : S_LS) (x6 : Int32) (x7 : Bool) (x8 : Int32) (x9 : Int32) (H : Heap) (locs : List Loc), F_X4_showValue_206 v2 S x6 x7 x8 x9 = some Y → va_P (dC, dI) vwCl ((W_LS cI a S)) H → va_D A ((W_LS cI a S)) → va_S A s.heap H locs → ∀ ls : Array Slot, lv_has ls 10 [(0, .ref (a 0)), (1, .ref (a 3)), (2, .int v2), (6, .int x6), (7, .int (b2i x7)), (8, .int x8), (9, .int x9)] → W p l e (headSpec wsX4_showValue ({ frames := 3, cells := 0, slots := 0, locals := 111 } : Room)).room s m ([.ref (a 0), .ref (a 3), .int v2] : List Value).toArray below meth c H locs 0 0 (MQ below (va_Qv (fun u : S_LS => Y = u) (fun u : S_LS => jB (dC, dI) [(cI, .int)] A ((W_LS cI a u))) A) ([.ref (a 0), .ref (a 3), .int v2] : List Value).toArray s 0 0 A) (F0 m 206 ls []) := by
    intro S x6 x7 x8 x9 H locs hF hP hD hS ls hl
    unfold F_X4_showValue_206 at hF
    refine lv_iload hx hb dX4_showValue_206 (lv_at hl 5 rfl) ?_
    refine lv_if_ne (tgt := 222) hx hb dX4_showValue_208 (by decide) (fun c10 => ?_) (fun c10 => ?_)
    · have hF := F_neg c10 hF
      refine lv_iload hx hb dX4_showValue_222 (lv_at hl 4 rfl) ?_
      refine lv_if_ne (tgt := 242) hx hb dX4_showValue_224 (by decide) (fun c11 => ?_) (fun c11 => ?_)
      · have hF := F_neg c11 hF
        exact K242 _ _ _ _ _ hF hP hD hS _ (lv_sub hl [0, 1, 2, 3, 6] rfl)
      · have hF := F_pos c11 hF
        refine lv_iload hx hb dX4_showValue_227 (lv_at hl 6 rfl) ?_
        refine lv_aload_n hx hb dX4_showValue_229 rfl (lv_at hl 0 rfl) ?_
        refine va_get (D := (dC, dI)) (ci := 4) (v := .ref (a 10)) (C := RX4) (T := TX4) (N := 8) hx hb hts hinX4 hown hK hP 0 rfl rfl 6 (by decide) (hts (Cond.fieldLink RX4 34 "LearnedShapes" "work" "LLearnedShapes$Tree;") (List.mem_of_getElem? (i := 1) rfl)) (fun _ h9 => h9) rfl dX4_showValue_230 ?_
        refine lv_iload hx hb dX4_showValue_233 (lv_at hl 3 rfl) ?_
        refine lv_iconst (v := (0 : Int32)) hx hb dX4_showValue_235 (by decide) ?_
        obtain ⟨r12, h13, hF⟩ := ob1_some hF
        have hPc := hP.sub (ws' := (W_Tree cI (sh a 10) (g_LS_work S))) [10, 11] rfl
        have hDc := hD.sub (ws' := (W_Tree cI (sh a 10) (g_LS_work S))) [10, 11] (by decide) rfl
        have hFc := va_free (wc := (W_Tree cI (sh a 10) (g_LS_work S))) hD hS hA [10, 11] rfl
        refine va_calli (va_runV (As := [.int x6, .int (0 : Int32)]) (rest := [.int x9]) ⟨hx, hb, hml, hown, hts⟩ (c_X3_get l dC dI cI (sh a 10) H.size _ _ _ _ h13) (cwV 2 hts gX4_showValue_X3_get rfl rfl rfl (by decide +kernel) ⟨Nat.le_of_ble_eq_true rfl, Nat.le_of_ble_eq_true rfl⟩) (jPreV hK hPc hDc hN (ci := 3) rfl rfl) rfl rfl hl.1 rfl (lv_room (Nat.le_of_ble_eq_true rfl)) dX4_showValue_236 ⟨Nat.le_of_ble_eq_true rfl, Nat.le_of_ble_eq_true rfl⟩) hS (fun q _ h => hFc q h) hFc (fun r' u' t H locs ht hvm hw hB hz1 hk1 hS => ?_)
        subst hw
        obtain ⟨hP1, -, hD1⟩ := hB
        rw [ht] at hP1
        obtain ⟨hP, hD⟩ := jJoin (wc := (W_Tree cI (sh a 10) (g_LS_work S))) (w1 := (W_Tree cI (sh a 10) (g_LS_work S))) (ws' := (W_LS cI a S)) hP hD [10, 11] [0, 1, 2, 3, 4, 5, 6, 7, 8, 9, 12] [0, 1, 2, 3, 4, 5, 6, 7, 8, 9, 11, 12, 10] rfl rfl (by decide) (by decide) hk1 hFc hP1 hD1 (by decide) rfl
        refine lv_icmp_eq (tgt := 272) hx hb dX4_showValue_239 (by decide) (fun c14 => ?_) (fun c14 => ?_)
        · have hF := F_pos c14 hF
          exact K272 _ _ _ _ _ hF hP hD hS _ (lv_sub hl [0, 1, 2, 3, 6] rfl)
        · have hF := F_neg c14 hF
          exact K242 _ _ _ _ _ hF hP hD hS _ (lv_sub hl [0, 1, 2, 3, 6] rfl)
    · have hF := F_pos c10 hF
      refine lv_aload_n hx hb dX4_showValue_211 rfl (lv_at hl 0 rfl) ?_
      refine va_get (D := (dC, dI)) (ci := 4) (v := .ref (a 10)) (C := RX4) (T := TX4) (N := 8) hx hb hts hinX4 hown hK hP 0 rfl rfl 6 (by decide) (hts (Cond.fieldLink RX4 34 "LearnedShapes" "work" "LLearnedShapes$Tree;") (List.mem_of_getElem? (i := 1) rfl)) (fun _ h9 => h9) rfl dX4_showValue_212 ?_
      refine lv_iload hx hb dX4_showValue_215 (lv_at hl 3 rfl) ?_
      refine lv_iconst (v := (4 : Int32)) hx hb dX4_showValue_217 (by decide) ?_
      refine lv_iconst (v := (1 : Int32)) hx hb dX4_showValue_218 (by decide) ?_
      obtain ⟨u15, h16, hF⟩ := ob1_some hF
      have hPc := hP.sub (ws' := (W_Tree cI (sh a 10) (g_LS_work S))) [10, 11] rfl
      have hDc := hD.sub (ws' := (W_Tree cI (sh a 10) (g_LS_work S))) [10, 11] (by decide) rfl
      have hFc := va_free (wc := (W_Tree cI (sh a 10) (g_LS_work S))) hD hS hA [10, 11] rfl
      refine va_callv (va_runV (As := [.int x6, .int (4 : Int32), .int (1 : Int32)]) (rest := []) ⟨hx, hb, hml, hown, hts⟩ (c_X3_put l dC dI cI (sh a 10) H.size _ _ _ _ _ h16) (cwV 3 hts gX4_showValue_X3_put rfl rfl rfl (by decide +kernel) ⟨Nat.le_of_ble_eq_true rfl, Nat.le_of_ble_eq_true rfl⟩) (jPreV hK hPc hDc hN (ci := 3) rfl rfl) rfl rfl hl.1 rfl (lv_room (Nat.le_of_ble_eq_true rfl)) dX4_showValue_219 ⟨Nat.le_of_ble_eq_true rfl, Nat.le_of_ble_eq_true rfl⟩) hS (fun q _ h => hFc q h) hFc (fun u' t H locs ht hvm hw hB hz1 hk1 hS => ?_)
      subst hw
      obtain ⟨hP1, -, hD1⟩ := hB
      rw [ht] at hP1
      obtain ⟨hP, hD⟩ := jJoin (wc := (W_Tree cI (sh a 10) (g_LS_work S))) (w1 := (W_Tree cI (sh a 10) u15)) (ws' := (W_LS cI a (s_LS_work S u15))) hP hD [10, 11] [0, 1, 2, 3, 4, 5, 6, 7, 8, 9, 12] [0, 1, 2, 3, 4, 5, 6, 7, 8, 9, 11, 12, 10] rfl rfl (by decide) (by decide) hk1 hFc hP1 hD1 (by decide) rfl
      refine lv_iload hx hb dX4_showValue_222 (lv_at hl 4 rfl) ?_
      refine lv_if_ne (tgt := 242) hx hb dX4_showValue_224 (by decide) (fun c17 => ?_) (fun c17 => ?_)
      · have hF := F_neg c17 hF
        exact K242 _ _ _ _ _ hF hP hD hS _ (lv_sub hl [0, 1, 2, 3, 6] rfl)
      · have hF := F_pos c17 hF
        refine lv_iload hx hb dX4_showValue_227 (lv_at hl 6 rfl) ?_
        refine lv_aload_n hx hb dX4_showValue_229 rfl (lv_at hl 0 rfl) ?_
        refine va_get (D := (dC, dI)) (ci := 4) (v := .ref (a 10)) (C := RX4) (T := TX4) (N := 8) hx hb hts hinX4 hown hK hP 0 rfl rfl 6 (by decide) (hts (Cond.fieldLink RX4 34 "LearnedShapes" "work" "LLearnedShapes$Tree;") (List.mem_of_getElem? (i := 1) rfl)) (fun _ h9 => h9) rfl dX4_showValue_230 ?_
        refine lv_iload hx hb dX4_showValue_233 (lv_at hl 3 rfl) ?_
        refine lv_iconst (v := (0 : Int32)) hx hb dX4_showValue_235 (by decide) ?_
        obtain ⟨r18, h19, hF⟩ := ob1_some hF
        have hPc := hP.sub (ws' := (W_Tree cI (sh a 10) u15)) [10, 11] rfl
        have hDc := hD.sub (ws' := (W_Tree cI (sh a 10) u15)) [10, 11] (by decide) rfl
        have hFc := va_free (wc := (W_Tree cI (sh a 10) u15)) hD hS hA [10, 11] rfl
        refine va_calli (va_runV (As := [.int x6, .int (0 : Int32)]) (rest := [.int x9]) ⟨hx, hb, hml, hown, hts⟩ (c_X3_get l dC dI cI (sh a 10) H.size _ _ _ _ h19) (cwV 2 hts gX4_showValue_X3_get rfl rfl rfl (by decide +kernel) ⟨Nat.le_of_ble_eq_true rfl, Nat.le_of_ble_eq_true rfl⟩) (jPreV hK hPc hDc hN (ci := 3) rfl rfl) rfl rfl hl.1 rfl (lv_room (Nat.le_of_ble_eq_true rfl)) dX4_showValue_236 ⟨Nat.le_of_ble_eq_true rfl, Nat.le_of_ble_eq_true rfl⟩) hS (fun q _ h => hFc q h) hFc (fun r' u' t H locs ht hvm hw hB hz1 hk1 hS => ?_)
        subst hw
        obtain ⟨hP1, -, hD1⟩ := hB
        rw [ht] at hP1
        obtain ⟨hP, hD⟩ := jJoin (wc := (W_Tree cI (sh a 10) u15)) (w1 := (W_Tree cI (sh a 10) u15)) (ws' := (W_LS cI a (s_LS_work S u15))) hP hD [10, 11] [0, 1, 2, 3, 4, 5, 6, 7, 8, 9, 12] [0, 1, 2, 3, 4, 5, 6, 7, 8, 9, 11, 12, 10] rfl rfl (by decide) (by decide) hk1 hFc hP1 hD1 (by decide) rfl
        refine lv_icmp_eq (tgt := 272) hx hb dX4_showValue_239 (by decide) (fun c20 => ?_) (fun c20 => ?_)
        · have hF := F_pos c20 hF
          exact K272 _ _ _ _ _ hF hP hD hS _ (lv_sub hl [0, 1, 2, 3, 6] rfl)
        · have hF := F_neg c20 hF
          exact K242 _ _ _ _ _ hF hP hD hS _ (lv_sub hl [0, 1, 2, 3, 6] rfl)
  have K153 : ∀ (S : S_LS) (x6 : Int32) (x7 : Bool) (x8 : Int32) (t0 : Int32) (H : Heap) (locs : List Loc), F_X4_showValue_153 v2 S x6 x7 x8 t0 = some Y → va_P (dC, dI) vwCl ((W_LS cI a S)) H → va_D A ((W_LS cI a S)) → va_S A s.heap H locs → ∀ ls : Array Slot, lv_has ls 10 [(0, .ref (a 0)), (1, .ref (a 3)), (2, .int v2), (6, .int x6), (7, .int (b2i x7)), (8, .int x8)] → W p l e (headSpec wsX4_showValue ({ frames := 3, cells := 0, slots := 0, locals := 111 } : Room)).room s m ([.ref (a 0), .ref (a 3), .int v2] : List Value).toArray below meth c H locs 0 0 (MQ below (va_Qv (fun u : S_LS => Y = u) (fun u : S_LS => jB (dC, dI) [(cI, .int)] A ((W_LS cI a u))) A) ([.ref (a 0), .ref (a 3), .int v2] : List Value).toArray s 0 0 A) (F0 m 153 ls [.int t0]) := by
    intro S x6 x7 x8 t0 H locs hF hP hD hS ls hl
    unfold F_X4_showValue_153 at hF
    refine lv_istore (lv' := [(9, .int t0), (0, .ref (a 0)), (1, .ref (a 3)), (2, .int v2), (6, .int x6), (7, .int (b2i x7)), (8, .int x8)]) hx hb dX4_showValue_153 hl (by decide) rfl (fun ls hl => ?_)
    refine lv_aload_n hx hb dX4_showValue_155 rfl (lv_at hl 1 rfl) ?_
    refine va_get (D := (dC, dI)) (ci := 4) (v := .ref (a 10)) (C := RX4) (T := TX4) (N := 8) hx hb hts hinX4 hown hK hP 0 rfl rfl 6 (by decide) (hts (Cond.fieldLink RX4 34 "LearnedShapes" "work" "LLearnedShapes$Tree;") (List.mem_of_getElem? (i := 1) rfl)) (fun _ h9 => h9) rfl dX4_showValue_156 ?_
    refine lv_iload hx hb dX4_showValue_159 (lv_at hl 4 rfl) ?_
    refine lv_iconst (v := (3 : Int32)) hx hb dX4_showValue_161 (by decide) ?_
    refine lv_aload_n hx hb dX4_showValue_162 rfl (lv_at hl 1 rfl) ?_
    refine va_get (D := (dC, dI)) (ci := 4) (v := .ref (a 10)) (C := RX4) (T := TX4) (N := 8) hx hb hts hinX4 hown hK hP 0 rfl rfl 6 (by decide) (hts (Cond.fieldLink RX4 34 "LearnedShapes" "work" "LLearnedShapes$Tree;") (List.mem_of_getElem? (i := 1) rfl)) (fun _ h9 => h9) rfl dX4_showValue_163 ?_
    refine lv_iload hx hb dX4_showValue_166 (lv_at hl 4 rfl) ?_
    refine lv_iconst (v := (3 : Int32)) hx hb dX4_showValue_168 (by decide) ?_
    obtain ⟨r21, h22, hF⟩ := ob1_some hF
    have hPc := hP.sub (ws' := (W_Tree cI (sh a 10) (g_LS_work S))) [10, 11] rfl
    have hDc := hD.sub (ws' := (W_Tree cI (sh a 10) (g_LS_work S))) [10, 11] (by decide) rfl
    have hFc := va_free (wc := (W_Tree cI (sh a 10) (g_LS_work S))) hD hS hA [10, 11] rfl
    refine va_calli (va_runV (As := [.int x6, .int (3 : Int32)]) (rest := [.int (3 : Int32), .int x6, .ref (a 10)]) ⟨hx, hb, hml, hown, hts⟩ (c_X3_get l dC dI cI (sh a 10) H.size _ _ _ _ h22) (cwV 2 hts gX4_showValue_X3_get rfl rfl rfl (by decide +kernel) ⟨Nat.le_of_ble_eq_true rfl, Nat.le_of_ble_eq_true rfl⟩) (jPreV hK hPc hDc hN (ci := 3) rfl rfl) rfl rfl hl.1 rfl (lv_room (Nat.le_of_ble_eq_true rfl)) dX4_showValue_169 ⟨Nat.le_of_ble_eq_true rfl, Nat.le_of_ble_eq_true rfl⟩) hS (fun q _ h => hFc q h) hFc (fun r' u' t H locs ht hvm hw hB hz1 hk1 hS => ?_)
    subst hw
    obtain ⟨hP1, -, hD1⟩ := hB
    rw [ht] at hP1
    obtain ⟨hP, hD⟩ := jJoin (wc := (W_Tree cI (sh a 10) (g_LS_work S))) (w1 := (W_Tree cI (sh a 10) (g_LS_work S))) (ws' := (W_LS cI a S)) hP hD [10, 11] [0, 1, 2, 3, 4, 5, 6, 7, 8, 9, 12] [0, 1, 2, 3, 4, 5, 6, 7, 8, 9, 11, 12, 10] rfl rfl (by decide) (by decide) hk1 hFc hP1 hD1 (by decide) rfl
    refine lv_iconst (v := (1 : Int32)) hx hb dX4_showValue_172 (by decide) ?_
    refine lv_iadd hx hb dX4_showValue_173 ?_
    obtain ⟨u23, h24, hF⟩ := ob1_some hF
    have hPc := hP.sub (ws' := (W_Tree cI (sh a 10) (g_LS_work S))) [10, 11] rfl
    have hDc := hD.sub (ws' := (W_Tree cI (sh a 10) (g_LS_work S))) [10, 11] (by decide) rfl
    have hFc := va_free (wc := (W_Tree cI (sh a 10) (g_LS_work S))) hD hS hA [10, 11] rfl
    refine va_callv (va_runV (As := [.int x6, .int (3 : Int32), .int (r21 + (1 : Int32))]) (rest := []) ⟨hx, hb, hml, hown, hts⟩ (c_X3_put l dC dI cI (sh a 10) H.size _ _ _ _ _ h24) (cwV 3 hts gX4_showValue_X3_put rfl rfl rfl (by decide +kernel) ⟨Nat.le_of_ble_eq_true rfl, Nat.le_of_ble_eq_true rfl⟩) (jPreV hK hPc hDc hN (ci := 3) rfl rfl) rfl rfl hl.1 rfl (lv_room (Nat.le_of_ble_eq_true rfl)) dX4_showValue_174 ⟨Nat.le_of_ble_eq_true rfl, Nat.le_of_ble_eq_true rfl⟩) hS (fun q _ h => hFc q h) hFc (fun u' t H locs ht hvm hw hB hz1 hk1 hS => ?_)
    subst hw
    obtain ⟨hP1, -, hD1⟩ := hB
    rw [ht] at hP1
    obtain ⟨hP, hD⟩ := jJoin (wc := (W_Tree cI (sh a 10) (g_LS_work S))) (w1 := (W_Tree cI (sh a 10) u23)) (ws' := (W_LS cI a (s_LS_work S u23))) hP hD [10, 11] [0, 1, 2, 3, 4, 5, 6, 7, 8, 9, 12] [0, 1, 2, 3, 4, 5, 6, 7, 8, 9, 11, 12, 10] rfl rfl (by decide) (by decide) hk1 hFc hP1 hD1 (by decide) rfl
    refine lv_iload hx hb dX4_showValue_177 (lv_at hl 6 rfl) ?_
    refine lv_bipush (v := (6 : Int32)) hx hb dX4_showValue_179 (by decide) ?_
    refine lv_icmp_ne (tgt := 206) hx hb dX4_showValue_181 (by decide) (fun c25 => ?_) (fun c25 => ?_)
    · have hF := F_neg c25 hF
      exact K206 _ _ _ _ _ _ _ hF hP hD hS _ (lv_sub hl [1, 2, 3, 4, 5, 6, 0] rfl)
    · have hF := F_pos c25 hF
      refine lv_aload_n hx hb dX4_showValue_184 rfl (lv_at hl 1 rfl) ?_
      refine va_get (D := (dC, dI)) (ci := 4) (v := .ref (a 10)) (C := RX4) (T := TX4) (N := 8) hx hb hts hinX4 hown hK hP 0 rfl rfl 6 (by decide) (hts (Cond.fieldLink RX4 34 "LearnedShapes" "work" "LLearnedShapes$Tree;") (List.mem_of_getElem? (i := 1) rfl)) (fun _ h9 => h9) rfl dX4_showValue_185 ?_
      refine lv_iload hx hb dX4_showValue_188 (lv_at hl 4 rfl) ?_
      refine lv_iconst (v := (5 : Int32)) hx hb dX4_showValue_190 (by decide) ?_
      refine lv_aload_n hx hb dX4_showValue_191 rfl (lv_at hl 1 rfl) ?_
      refine va_get (D := (dC, dI)) (ci := 4) (v := .ref (a 10)) (C := RX4) (T := TX4) (N := 8) hx hb hts hinX4 hown hK hP 0 rfl rfl 6 (by decide) (hts (Cond.fieldLink RX4 34 "LearnedShapes" "work" "LLearnedShapes$Tree;") (List.mem_of_getElem? (i := 1) rfl)) (fun _ h9 => h9) rfl dX4_showValue_192 ?_
      refine lv_iload hx hb dX4_showValue_195 (lv_at hl 4 rfl) ?_
      refine lv_iconst (v := (5 : Int32)) hx hb dX4_showValue_197 (by decide) ?_
      obtain ⟨r26, h27, hF⟩ := ob1_some hF
      have hPc := hP.sub (ws' := (W_Tree cI (sh a 10) u23)) [10, 11] rfl
      have hDc := hD.sub (ws' := (W_Tree cI (sh a 10) u23)) [10, 11] (by decide) rfl
      have hFc := va_free (wc := (W_Tree cI (sh a 10) u23)) hD hS hA [10, 11] rfl
      refine va_calli (va_runV (As := [.int x6, .int (5 : Int32)]) (rest := [.int (5 : Int32), .int x6, .ref (a 10)]) ⟨hx, hb, hml, hown, hts⟩ (c_X3_get l dC dI cI (sh a 10) H.size _ _ _ _ h27) (cwV 2 hts gX4_showValue_X3_get rfl rfl rfl (by decide +kernel) ⟨Nat.le_of_ble_eq_true rfl, Nat.le_of_ble_eq_true rfl⟩) (jPreV hK hPc hDc hN (ci := 3) rfl rfl) rfl rfl hl.1 rfl (lv_room (Nat.le_of_ble_eq_true rfl)) dX4_showValue_198 ⟨Nat.le_of_ble_eq_true rfl, Nat.le_of_ble_eq_true rfl⟩) hS (fun q _ h => hFc q h) hFc (fun r' u' t H locs ht hvm hw hB hz1 hk1 hS => ?_)
      subst hw
      obtain ⟨hP1, -, hD1⟩ := hB
      rw [ht] at hP1
      obtain ⟨hP, hD⟩ := jJoin (wc := (W_Tree cI (sh a 10) u23)) (w1 := (W_Tree cI (sh a 10) u23)) (ws' := (W_LS cI a (s_LS_work S u23))) hP hD [10, 11] [0, 1, 2, 3, 4, 5, 6, 7, 8, 9, 12] [0, 1, 2, 3, 4, 5, 6, 7, 8, 9, 11, 12, 10] rfl rfl (by decide) (by decide) hk1 hFc hP1 hD1 (by decide) rfl
      refine lv_iconst (v := (1 : Int32)) hx hb dX4_showValue_201 (by decide) ?_
      refine lv_iadd hx hb dX4_showValue_202 ?_
      obtain ⟨u28, h29, hF⟩ := ob1_some hF
      have hPc := hP.sub (ws' := (W_Tree cI (sh a 10) u23)) [10, 11] rfl
      have hDc := hD.sub (ws' := (W_Tree cI (sh a 10) u23)) [10, 11] (by decide) rfl
      have hFc := va_free (wc := (W_Tree cI (sh a 10) u23)) hD hS hA [10, 11] rfl
      refine va_callv (va_runV (As := [.int x6, .int (5 : Int32), .int (r26 + (1 : Int32))]) (rest := []) ⟨hx, hb, hml, hown, hts⟩ (c_X3_put l dC dI cI (sh a 10) H.size _ _ _ _ _ h29) (cwV 3 hts gX4_showValue_X3_put rfl rfl rfl (by decide +kernel) ⟨Nat.le_of_ble_eq_true rfl, Nat.le_of_ble_eq_true rfl⟩) (jPreV hK hPc hDc hN (ci := 3) rfl rfl) rfl rfl hl.1 rfl (lv_room (Nat.le_of_ble_eq_true rfl)) dX4_showValue_203 ⟨Nat.le_of_ble_eq_true rfl, Nat.le_of_ble_eq_true rfl⟩) hS (fun q _ h => hFc q h) hFc (fun u' t H locs ht hvm hw hB hz1 hk1 hS => ?_)
      subst hw
      obtain ⟨hP1, -, hD1⟩ := hB
      rw [ht] at hP1
      obtain ⟨hP, hD⟩ := jJoin (wc := (W_Tree cI (sh a 10) u23)) (w1 := (W_Tree cI (sh a 10) u28)) (ws' := (W_LS cI a (s_LS_work S u28))) hP hD [10, 11] [0, 1, 2, 3, 4, 5, 6, 7, 8, 9, 12] [0, 1, 2, 3, 4, 5, 6, 7, 8, 9, 11, 12, 10] rfl rfl (by decide) (by decide) hk1 hFc hP1 hD1 (by decide) rfl
      exact K206 _ _ _ _ _ _ _ hF hP hD hS _ (lv_sub hl [1, 2, 3, 4, 5, 6, 0] rfl)
  have K120 : ∀ (S : S_LS) (x6 : Int32) (x7 : Bool) (H : Heap) (locs : List Loc), F_X4_showValue_120 v2 S x6 x7 = some Y → va_P (dC, dI) vwCl ((W_LS cI a S)) H → va_D A ((W_LS cI a S)) → va_S A s.heap H locs → ∀ ls : Array Slot, lv_has ls 10 [(0, .ref (a 0)), (1, .ref (a 3)), (2, .int v2), (6, .int x6), (7, .int (b2i x7))] → W p l e (headSpec wsX4_showValue ({ frames := 3, cells := 0, slots := 0, locals := 111 } : Room)).room s m ([.ref (a 0), .ref (a 3), .int v2] : List Value).toArray below meth c H locs 0 0 (MQ below (va_Qv (fun u : S_LS => Y = u) (fun u : S_LS => jB (dC, dI) [(cI, .int)] A ((W_LS cI a u))) A) ([.ref (a 0), .ref (a 3), .int v2] : List Value).toArray s 0 0 A) (F0 m 120 ls []) := by
    intro S x6 x7 H locs hF hP hD hS ls hl
    unfold F_X4_showValue_120 at hF
    refine lv_aload_n hx hb dX4_showValue_120 rfl (lv_at hl 1 rfl) ?_
    refine lv_iload_n hx hb dX4_showValue_121 rfl (lv_at hl 2 rfl) ?_
    refine lv_iconst (v := (0 : Int32)) hx hb dX4_showValue_122 (by decide) ?_
    obtain ⟨r30, h31, hF⟩ := ob1_some hF
    have hPc := hP.sub (ws' := (W_Tree cI (sh a 3) (g_Reader_values (g_LS_reader S)))) [3, 4] rfl
    have hDc := hD.sub (ws' := (W_Tree cI (sh a 3) (g_Reader_values (g_LS_reader S)))) [3, 4] (by decide) rfl
    have hFc := va_free (wc := (W_Tree cI (sh a 3) (g_Reader_values (g_LS_reader S)))) hD hS hA [3, 4] rfl
    refine va_calli (va_runV (As := [.int v2, .int (0 : Int32)]) (rest := []) ⟨hx, hb, hml, hown, hts⟩ (c_X3_get l dC dI cI (sh a 3) H.size _ _ _ _ h31) (cwV 2 hts gX4_showValue_X3_get rfl rfl rfl (by decide +kernel) ⟨Nat.le_of_ble_eq_true rfl, Nat.le_of_ble_eq_true rfl⟩) (jPreV hK hPc hDc hN (ci := 3) rfl rfl) rfl rfl hl.1 rfl (lv_room (Nat.le_of_ble_eq_true rfl)) dX4_showValue_123 ⟨Nat.le_of_ble_eq_true rfl, Nat.le_of_ble_eq_true rfl⟩) hS (fun q _ h => hFc q h) hFc (fun r' u' t H locs ht hvm hw hB hz1 hk1 hS => ?_)
    subst hw
    obtain ⟨hP1, -, hD1⟩ := hB
    rw [ht] at hP1
    obtain ⟨hP, hD⟩ := jJoin (wc := (W_Tree cI (sh a 3) (g_Reader_values (g_LS_reader S)))) (w1 := (W_Tree cI (sh a 3) (g_Reader_values (g_LS_reader S)))) (ws' := (W_LS cI a S)) hP hD [3, 4] [0, 1, 2, 5, 6, 7, 8, 9, 10, 11, 12] [0, 1, 2, 11, 12, 3, 4, 5, 6, 7, 8, 9, 10] rfl rfl (by decide) (by decide) hk1 hFc hP1 hD1 (by decide) rfl
    refine lv_istore (lv' := [(8, .int r30), (0, .ref (a 0)), (1, .ref (a 3)), (2, .int v2), (6, .int x6), (7, .int (b2i x7))]) hx hb dX4_showValue_126 hl (by decide) rfl (fun ls hl => ?_)
    refine lv_iload hx hb dX4_showValue_128 (lv_at hl 5 rfl) ?_
    refine lv_if_eq (tgt := 138) hx hb dX4_showValue_130 (by decide) (fun c32 => ?_) (fun c32 => ?_)
    · have hF := F_pos c32 hF
      refine lv_aload_n hx hb dX4_showValue_138 rfl (lv_at hl 1 rfl) ?_
      refine va_get (D := (dC, dI)) (ci := 4) (v := .ref (a 10)) (C := RX4) (T := TX4) (N := 8) hx hb hts hinX4 hown hK hP 0 rfl rfl 6 (by decide) (hts (Cond.fieldLink RX4 34 "LearnedShapes" "work" "LLearnedShapes$Tree;") (List.mem_of_getElem? (i := 1) rfl)) (fun _ h9 => h9) rfl dX4_showValue_139 ?_
      refine lv_iload hx hb dX4_showValue_142 (lv_at hl 4 rfl) ?_
      refine lv_iconst (v := (0 : Int32)) hx hb dX4_showValue_144 (by decide) ?_
      obtain ⟨r33, h34, hF⟩ := ob1_some hF
      have hPc := hP.sub (ws' := (W_Tree cI (sh a 10) (g_LS_work S))) [10, 11] rfl
      have hDc := hD.sub (ws' := (W_Tree cI (sh a 10) (g_LS_work S))) [10, 11] (by decide) rfl
      have hFc := va_free (wc := (W_Tree cI (sh a 10) (g_LS_work S))) hD hS hA [10, 11] rfl
      refine va_calli (va_runV (As := [.int x6, .int (0 : Int32)]) (rest := []) ⟨hx, hb, hml, hown, hts⟩ (c_X3_get l dC dI cI (sh a 10) H.size _ _ _ _ h34) (cwV 2 hts gX4_showValue_X3_get rfl rfl rfl (by decide +kernel) ⟨Nat.le_of_ble_eq_true rfl, Nat.le_of_ble_eq_true rfl⟩) (jPreV hK hPc hDc hN (ci := 3) rfl rfl) rfl rfl hl.1 rfl (lv_room (Nat.le_of_ble_eq_true rfl)) dX4_showValue_145 ⟨Nat.le_of_ble_eq_true rfl, Nat.le_of_ble_eq_true rfl⟩) hS (fun q _ h => hFc q h) hFc (fun r' u' t H locs ht hvm hw hB hz1 hk1 hS => ?_)
      subst hw
      obtain ⟨hP1, -, hD1⟩ := hB
      rw [ht] at hP1
      obtain ⟨hP, hD⟩ := jJoin (wc := (W_Tree cI (sh a 10) (g_LS_work S))) (w1 := (W_Tree cI (sh a 10) (g_LS_work S))) (ws' := (W_LS cI a S)) hP hD [10, 11] [0, 1, 2, 3, 4, 5, 6, 7, 8, 9, 12] [0, 1, 2, 3, 4, 5, 6, 7, 8, 9, 11, 12, 10] rfl rfl (by decide) (by decide) hk1 hFc hP1 hD1 (by decide) rfl
      refine lv_iload hx hb dX4_showValue_148 (lv_at hl 0 rfl) ?_
      obtain ⟨r35, h36, hF⟩ := ob1_some hF
      have hPc : va_P (dC, dI) vwCl ([] : va_W) H := fun k q h => by simp at h
      have hDc : va_D A ([] : va_W) := ⟨fun i j p q h => by simp at h, fun k q h => by simp at h⟩
      have hFc := jFreeW (ws := []) hDc hS hA
      refine va_calli (va_runS (As := [.int r33, .int r30]) (rest := []) ⟨hx, hb, hml, hown, hts⟩ (c_X4_joinKinds l dC dI cI  H.size _ _ _ h36) (va_cwS 2 hts gX4_showValue_X4_joinKinds rfl rfl rfl (by decide +kernel) ⟨Nat.le_of_ble_eq_true rfl, Nat.le_of_ble_eq_true rfl⟩) (jPreS hK hPc hDc hN) rfl rfl hl.1 rfl (lv_room (Nat.le_of_ble_eq_true rfl)) dX4_showValue_150 ⟨Nat.le_of_ble_eq_true rfl, Nat.le_of_ble_eq_true rfl⟩) hS (fun q _ h => hFc q h) hFc (fun r' u' t H locs ht hvm hw hB hz1 hk1 hS => ?_)
      subst hw
      obtain ⟨hP1, -, hD1⟩ := hB
      rw [ht] at hP1
      have hP : va_P (dC, dI) vwCl ((W_LS cI a S)) H := jNone hP hk1
      exact K153 _ _ _ _ _ _ _ hF hP hD hS _ (lv_sub hl [1, 2, 3, 4, 5, 0] rfl)
    · have hF := F_neg c32 hF
      refine lv_iload hx hb dX4_showValue_133 (lv_at hl 0 rfl) ?_
      refine lv_goto (tgt := 153) hx hb dX4_showValue_135 (by decide) ?_
      exact K153 _ _ _ _ _ _ _ hF hP hD hS _ (lv_sub hl [1, 2, 3, 4, 5, 0] rfl)
  have K87 : ∀ (S : S_LS) (x4 : Int32) (x5 : Int32) (t0 : Int32) (H : Heap) (locs : List Loc), F_X4_showValue_87 v2 S x4 x5 t0 = some Y → va_P (dC, dI) vwCl ((W_LS cI a S)) H → va_D A ((W_LS cI a S)) → va_S A s.heap H locs → ∀ ls : Array Slot, lv_has ls 10 [(0, .ref (a 0)), (1, .ref (a 3)), (2, .int v2), (4, .int x4), (5, .int x5)] → W p l e (headSpec wsX4_showValue ({ frames := 3, cells := 0, slots := 0, locals := 111 } : Room)).room s m ([.ref (a 0), .ref (a 3), .int v2] : List Value).toArray below meth c H locs 0 0 (MQ below (va_Qv (fun u : S_LS => Y = u) (fun u : S_LS => jB (dC, dI) [(cI, .int)] A ((W_LS cI a u))) A) ([.ref (a 0), .ref (a 3), .int v2] : List Value).toArray s 0 0 A) (F0 m 87 ls [.int t0]) := by
    intro S x4 x5 t0 H locs hF hP hD hS ls hl
    unfold F_X4_showValue_87 at hF
    refine lv_istore (lv' := [(6, .int t0), (0, .ref (a 0)), (1, .ref (a 3)), (2, .int v2), (4, .int x4), (5, .int x5)]) hx hb dX4_showValue_87 hl (by decide) rfl (fun ls hl => ?_)
    refine lv_iload hx hb dX4_showValue_89 (lv_at hl 0 rfl) ?_
    refine lv_iconst (v := (-1 : Int32)) hx hb dX4_showValue_91 (by decide) ?_
    refine lv_icmp_ne (tgt := 99) hx hb dX4_showValue_92 (by decide) (fun c37 => ?_) (fun c37 => ?_)
    · have hF := F_neg c37 hF
      refine lv_iconst (v := (0 : Int32)) hx hb dX4_showValue_99 (by decide) ?_
      refine lv_istore (lv' := [(7, .int (0 : Int32)), (6, .int t0), (0, .ref (a 0)), (1, .ref (a 3)), (2, .int v2), (4, .int x4), (5, .int x5)]) hx hb dX4_showValue_100 hl (by decide) rfl (fun ls hl => ?_)
      refine lv_iload hx hb dX4_showValue_102 (lv_at hl 0 rfl) ?_
      refine lv_if_eq (tgt := 120) hx hb dX4_showValue_104 (by decide) (fun _ => ?_) (fun c => absurd c (by decide))
      exact K120 _ _ _ _ _ hF hP hD hS _ (lv_sub hl [2, 3, 4, 1, 0] rfl)
    · have hF := F_pos c37 hF
      refine lv_iconst (v := (1 : Int32)) hx hb dX4_showValue_95 (by decide) ?_
      refine lv_goto (tgt := 100) hx hb dX4_showValue_96 (by decide) ?_
      refine lv_istore (lv' := [(7, .int (1 : Int32)), (6, .int t0), (0, .ref (a 0)), (1, .ref (a 3)), (2, .int v2), (4, .int x4), (5, .int x5)]) hx hb dX4_showValue_100 hl (by decide) rfl (fun ls hl => ?_)
      refine lv_iload hx hb dX4_showValue_102 (lv_at hl 0 rfl) ?_
      refine lv_if_eq (tgt := 120) hx hb dX4_showValue_104 (by decide) (fun c => absurd c (by decide)) (fun _ => ?_)
      refine lv_aload_n hx hb dX4_showValue_107 rfl (lv_at hl 2 rfl) ?_
      refine va_get (D := (dC, dI)) (ci := 4) (v := .ref (a 10)) (C := RX4) (T := TX4) (N := 8) hx hb hts hinX4 hown hK hP 0 rfl rfl 6 (by decide) (hts (Cond.fieldLink RX4 34 "LearnedShapes" "work" "LLearnedShapes$Tree;") (List.mem_of_getElem? (i := 1) rfl)) (fun _ h9 => h9) rfl dX4_showValue_108 ?_
      refine lv_iload hx hb dX4_showValue_111 (lv_at hl 5 rfl) ?_
      refine lv_iload hx hb dX4_showValue_113 (lv_at hl 6 rfl) ?_
      obtain ⟨r38, u39, h40, hF⟩ := ob2_some hF
      have hPc := hP.sub (ws' := (W_Tree cI (sh a 10) (g_LS_work S))) [10, 11] rfl
      have hDc := hD.sub (ws' := (W_Tree cI (sh a 10) (g_LS_work S))) [10, 11] (by decide) rfl
      have hFc := va_free (wc := (W_Tree cI (sh a 10) (g_LS_work S))) hD hS hA [10, 11] rfl
      refine va_calli (va_runV (As := [.int x4, .int x5]) (rest := []) ⟨hx, hb, hml, hown, hts⟩ (c_X3_insertBelow l dC dI cI (sh a 10) H.size _ _ _ _ _ h40) (cwV 2 hts gX4_showValue_X3_insertBelow rfl rfl rfl (by decide +kernel) ⟨Nat.le_of_ble_eq_true rfl, Nat.le_of_ble_eq_true rfl⟩) (jPreV hK hPc hDc hN (ci := 3) rfl rfl) rfl rfl hl.1 rfl (lv_room (Nat.le_of_ble_eq_true rfl)) dX4_showValue_115 ⟨Nat.le_of_ble_eq_true rfl, Nat.le_of_ble_eq_true rfl⟩) hS (fun q _ h => hFc q h) hFc (fun r' u' t H locs ht hvm hw hB hz1 hk1 hS => ?_)
      obtain ⟨e1, e2⟩ := hw
      subst e1
      subst e2
      obtain ⟨hP1, -, hD1⟩ := hB
      rw [ht] at hP1
      obtain ⟨hP, hD⟩ := jJoin (wc := (W_Tree cI (sh a 10) (g_LS_work S))) (w1 := (W_Tree cI (sh a 10) u39)) (ws' := (W_LS cI a (s_LS_work S u39))) hP hD [10, 11] [0, 1, 2, 3, 4, 5, 6, 7, 8, 9, 12] [0, 1, 2, 3, 4, 5, 6, 7, 8, 9, 11, 12, 10] rfl rfl (by decide) (by decide) hk1 hFc hP1 hD1 (by decide) rfl
      refine lv_istore (lv' := [(6, .int r38), (7, .int (1 : Int32)), (0, .ref (a 0)), (1, .ref (a 3)), (2, .int v2), (4, .int x4), (5, .int x5)]) hx hb dX4_showValue_118 hl (by decide) rfl (fun ls hl => ?_)
      exact K120 _ _ _ _ _ hF hP hD hS _ (lv_sub hl [2, 3, 4, 0, 1] rfl)
  have K45 : ∀ (S : S_LS) (x3 : Int32) (x4 : Int32) (H : Heap) (locs : List Loc), F_X4_showValue_45 v2 S x3 x4 = some Y → va_P (dC, dI) vwCl ((W_LS cI a S)) H → va_D A ((W_LS cI a S)) → va_S A s.heap H locs → ∀ ls : Array Slot, lv_has ls 10 [(0, .ref (a 0)), (1, .ref (a 3)), (2, .int v2), (3, .int x3), (4, .int x4)] → W p l e (headSpec wsX4_showValue ({ frames := 3, cells := 0, slots := 0, locals := 111 } : Room)).room s m ([.ref (a 0), .ref (a 3), .int v2] : List Value).toArray below meth c H locs 0 0 (MQ below (va_Qv (fun u : S_LS => Y = u) (fun u : S_LS => jB (dC, dI) [(cI, .int)] A ((W_LS cI a u))) A) ([.ref (a 0), .ref (a 3), .int v2] : List Value).toArray s 0 0 A) (F0 m 45 ls []) := by
    intro S x3 x4 H locs hF hP hD hS ls hl
    unfold F_X4_showValue_45 at hF
    refine lv_aload_n hx hb dX4_showValue_45 rfl (lv_at hl 1 rfl) ?_
    refine lv_iload_n hx hb dX4_showValue_46 rfl (lv_at hl 2 rfl) ?_
    refine lv_iconst (v := (1 : Int32)) hx hb dX4_showValue_47 (by decide) ?_
    obtain ⟨r41, h42, hF⟩ := ob1_some hF
    have hPc := hP.sub (ws' := (W_Tree cI (sh a 3) (g_Reader_values (g_LS_reader S)))) [3, 4] rfl
    have hDc := hD.sub (ws' := (W_Tree cI (sh a 3) (g_Reader_values (g_LS_reader S)))) [3, 4] (by decide) rfl
    have hFc := va_free (wc := (W_Tree cI (sh a 3) (g_Reader_values (g_LS_reader S)))) hD hS hA [3, 4] rfl
    refine va_calli (va_runV (As := [.int v2, .int (1 : Int32)]) (rest := []) ⟨hx, hb, hml, hown, hts⟩ (c_X3_get l dC dI cI (sh a 3) H.size _ _ _ _ h42) (cwV 2 hts gX4_showValue_X3_get rfl rfl rfl (by decide +kernel) ⟨Nat.le_of_ble_eq_true rfl, Nat.le_of_ble_eq_true rfl⟩) (jPreV hK hPc hDc hN (ci := 3) rfl rfl) rfl rfl hl.1 rfl (lv_room (Nat.le_of_ble_eq_true rfl)) dX4_showValue_48 ⟨Nat.le_of_ble_eq_true rfl, Nat.le_of_ble_eq_true rfl⟩) hS (fun q _ h => hFc q h) hFc (fun r' u' t H locs ht hvm hw hB hz1 hk1 hS => ?_)
    subst hw
    obtain ⟨hP1, -, hD1⟩ := hB
    rw [ht] at hP1
    obtain ⟨hP, hD⟩ := jJoin (wc := (W_Tree cI (sh a 3) (g_Reader_values (g_LS_reader S)))) (w1 := (W_Tree cI (sh a 3) (g_Reader_values (g_LS_reader S)))) (ws' := (W_LS cI a S)) hP hD [3, 4] [0, 1, 2, 5, 6, 7, 8, 9, 10, 11, 12] [0, 1, 2, 11, 12, 3, 4, 5, 6, 7, 8, 9, 10] rfl rfl (by decide) (by decide) hk1 hFc hP1 hD1 (by decide) rfl
    refine lv_istore (lv' := [(5, .int r41), (0, .ref (a 0)), (1, .ref (a 3)), (2, .int v2), (3, .int x3), (4, .int x4)]) hx hb dX4_showValue_51 hl (by decide) rfl (fun ls hl => ?_)
    refine lv_iload_n hx hb dX4_showValue_53 rfl (lv_at hl 4 rfl) ?_
    refine lv_iconst (v := (-1 : Int32)) hx hb dX4_showValue_54 (by decide) ?_
    refine lv_icmp_eq (tgt := 72) hx hb dX4_showValue_55 (by decide) (fun c43 => ?_) (fun c43 => ?_)
    · have hF := F_pos c43 hF
      refine lv_aload_n hx hb dX4_showValue_72 rfl (lv_at hl 1 rfl) ?_
      refine va_get (D := (dC, dI)) (ci := 4) (v := .ref (a 10)) (C := RX4) (T := TX4) (N := 8) hx hb hts hinX4 hown hK hP 0 rfl rfl 6 (by decide) (hts (Cond.fieldLink RX4 34 "LearnedShapes" "work" "LLearnedShapes$Tree;") (List.mem_of_getElem? (i := 1) rfl)) (fun _ h9 => h9) rfl dX4_showValue_73 ?_
      refine va_get (D := (dC, dI)) (ci := 3) (v := .int (g_Tree_size (g_LS_work S))) (C := RX3) (T := TX3) (N := 3) hx hb hts hinX3 hown hK hP 10 rfl rfl 1 (by decide) (hts (Cond.fieldLink RX4 92 "LearnedShapes$Tree" "size" "I") (List.mem_of_getElem? (i := 2) rfl)) (fun _ h9 => h9) rfl dX4_showValue_76 ?_
      refine lv_if_le (tgt := 86) hx hb dX4_showValue_79 (by decide) (fun c44 => ?_) (fun c44 => ?_)
      · have hF := F_pos c44 hF
        refine lv_iconst (v := (-1 : Int32)) hx hb dX4_showValue_86 (by decide) ?_
        exact K87 _ _ _ _ _ _ hF hP hD hS _ (lv_sub hl [1, 2, 3, 5, 0] rfl)
      · have hF := F_neg c44 hF
        refine lv_iconst (v := (0 : Int32)) hx hb dX4_showValue_82 (by decide) ?_
        refine lv_goto (tgt := 87) hx hb dX4_showValue_83 (by decide) ?_
        exact K87 _ _ _ _ _ _ hF hP hD hS _ (lv_sub hl [1, 2, 3, 5, 0] rfl)
    · have hF := F_neg c43 hF
      refine lv_aload_n hx hb dX4_showValue_58 rfl (lv_at hl 1 rfl) ?_
      refine va_get (D := (dC, dI)) (ci := 4) (v := .ref (a 10)) (C := RX4) (T := TX4) (N := 8) hx hb hts hinX4 hown hK hP 0 rfl rfl 6 (by decide) (hts (Cond.fieldLink RX4 34 "LearnedShapes" "work" "LLearnedShapes$Tree;") (List.mem_of_getElem? (i := 1) rfl)) (fun _ h9 => h9) rfl dX4_showValue_59 ?_
      refine lv_iload hx hb dX4_showValue_62 (lv_at hl 5 rfl) ?_
      refine lv_iload hx hb dX4_showValue_64 (lv_at hl 0 rfl) ?_
      obtain ⟨r45, h46, hF⟩ := ob1_some hF
      have hPc := hP.sub (ws' := (W_Tree cI (sh a 10) (g_LS_work S))) [10, 11] rfl
      have hDc := hD.sub (ws' := (W_Tree cI (sh a 10) (g_LS_work S))) [10, 11] (by decide) rfl
      have hFc := va_free (wc := (W_Tree cI (sh a 10) (g_LS_work S))) hD hS hA [10, 11] rfl
      refine va_calli (va_runV (As := [.int x4, .int r41]) (rest := []) ⟨hx, hb, hml, hown, hts⟩ (c_X3_findBelow l dC dI cI (sh a 10) H.size _ _ _ _ h46) (cwV 2 hts gX4_showValue_X3_findBelow rfl rfl rfl (by decide +kernel) ⟨Nat.le_of_ble_eq_true rfl, Nat.le_of_ble_eq_true rfl⟩) (jPreV hK hPc hDc hN (ci := 3) rfl rfl) rfl rfl hl.1 rfl (lv_room (Nat.le_of_ble_eq_true rfl)) dX4_showValue_66 ⟨Nat.le_of_ble_eq_true rfl, Nat.le_of_ble_eq_true rfl⟩) hS (fun q _ h => hFc q h) hFc (fun r' u' t H locs ht hvm hw hB hz1 hk1 hS => ?_)
      subst hw
      obtain ⟨hP1, -, hD1⟩ := hB
      rw [ht] at hP1
      obtain ⟨hP, hD⟩ := jJoin (wc := (W_Tree cI (sh a 10) (g_LS_work S))) (w1 := (W_Tree cI (sh a 10) (g_LS_work S))) (ws' := (W_LS cI a S)) hP hD [10, 11] [0, 1, 2, 3, 4, 5, 6, 7, 8, 9, 12] [0, 1, 2, 3, 4, 5, 6, 7, 8, 9, 11, 12, 10] rfl rfl (by decide) (by decide) hk1 hFc hP1 hD1 (by decide) rfl
      refine lv_goto (tgt := 87) hx hb dX4_showValue_69 (by decide) ?_
      exact K87 _ _ _ _ _ _ hF hP hD hS _ (lv_sub hl [1, 2, 3, 5, 0] rfl)
  have KE : ∀ (H : Heap) (locs : List Loc), va_P (dC, dI) vwCl ((W_LS cI a S)) H → va_D A ((W_LS cI a S)) → va_S A s.heap H locs → W p l e (headSpec wsX4_showValue ({ frames := 3, cells := 0, slots := 0, locals := 111 } : Room)).room s m ([.ref (a 0), .ref (a 3), .int v2] : List Value).toArray below meth c H locs 0 0 (MQ below (va_Qv (fun u : S_LS => Y = u) (fun u : S_LS => jB (dC, dI) [(cI, .int)] A ((W_LS cI a u))) A) ([.ref (a 0), .ref (a 3), .int v2] : List Value).toArray s 0 0 A) (F0 m 0 ls []) := by
    intro H locs hP hD hS
    unfold F_X4_showValue at hF
    refine lv_aload_n hx hb dX4_showValue_0 rfl (lv_at hl 1 rfl) ?_
    refine lv_iload_n hx hb dX4_showValue_1 rfl (lv_at hl 2 rfl) ?_
    refine lv_iconst (v := (5 : Int32)) hx hb dX4_showValue_2 (by decide) ?_
    obtain ⟨r47, h48, hF⟩ := ob1_some hF
    have hPc := hP.sub (ws' := (W_Tree cI (sh a 3) (g_Reader_values (g_LS_reader S)))) [3, 4] rfl
    have hDc := hD.sub (ws' := (W_Tree cI (sh a 3) (g_Reader_values (g_LS_reader S)))) [3, 4] (by decide) rfl
    have hFc := va_free (wc := (W_Tree cI (sh a 3) (g_Reader_values (g_LS_reader S)))) hD hS hA [3, 4] rfl
    refine va_calli (va_runV (As := [.int v2, .int (5 : Int32)]) (rest := []) ⟨hx, hb, hml, hown, hts⟩ (c_X3_get l dC dI cI (sh a 3) H.size _ _ _ _ h48) (cwV 2 hts gX4_showValue_X3_get rfl rfl rfl (by decide +kernel) ⟨Nat.le_of_ble_eq_true rfl, Nat.le_of_ble_eq_true rfl⟩) (jPreV hK hPc hDc hN (ci := 3) rfl rfl) rfl rfl hl.1 rfl (lv_room (Nat.le_of_ble_eq_true rfl)) dX4_showValue_3 ⟨Nat.le_of_ble_eq_true rfl, Nat.le_of_ble_eq_true rfl⟩) hS (fun q _ h => hFc q h) hFc (fun r' u' t H locs ht hvm hw hB hz1 hk1 hS => ?_)
    subst hw
    obtain ⟨hP1, -, hD1⟩ := hB
    rw [ht] at hP1
    obtain ⟨hP, hD⟩ := jJoin (wc := (W_Tree cI (sh a 3) (g_Reader_values (g_LS_reader S)))) (w1 := (W_Tree cI (sh a 3) (g_Reader_values (g_LS_reader S)))) (ws' := (W_LS cI a S)) hP hD [3, 4] [0, 1, 2, 5, 6, 7, 8, 9, 10, 11, 12] [0, 1, 2, 11, 12, 3, 4, 5, 6, 7, 8, 9, 10] rfl rfl (by decide) (by decide) hk1 hFc hP1 hD1 (by decide) rfl
    refine lv_istore_n (lv' := [(3, .int r47), (0, .ref (a 0)), (1, .ref (a 3)), (2, .int v2)]) hx hb dX4_showValue_6 rfl hl (by decide) rfl (fun ls hl => ?_)
    refine lv_iload_n hx hb dX4_showValue_7 rfl (lv_at hl 0 rfl) ?_
    refine lv_iconst (v := (-1 : Int32)) hx hb dX4_showValue_8 (by decide) ?_
    refine lv_icmp_ne (tgt := 16) hx hb dX4_showValue_9 (by decide) (fun c49 => ?_) (fun c49 => ?_)
    · have hF := F_neg c49 hF
      refine lv_aload_n hx hb dX4_showValue_16 rfl (lv_at hl 2 rfl) ?_
      refine lv_iload_n hx hb dX4_showValue_17 rfl (lv_at hl 0 rfl) ?_
      refine lv_bipush (v := (7 : Int32)) hx hb dX4_showValue_18 (by decide) ?_
      obtain ⟨r50, h51, hF⟩ := ob1_some hF
      have hPc := hP.sub (ws' := (W_Tree cI (sh a 3) (g_Reader_values (g_LS_reader S)))) [3, 4] rfl
      have hDc := hD.sub (ws' := (W_Tree cI (sh a 3) (g_Reader_values (g_LS_reader S)))) [3, 4] (by decide) rfl
      have hFc := va_free (wc := (W_Tree cI (sh a 3) (g_Reader_values (g_LS_reader S)))) hD hS hA [3, 4] rfl
      refine va_calli (va_runV (As := [.int r47, .int (7 : Int32)]) (rest := []) ⟨hx, hb, hml, hown, hts⟩ (c_X3_get l dC dI cI (sh a 3) H.size _ _ _ _ h51) (cwV 2 hts gX4_showValue_X3_get rfl rfl rfl (by decide +kernel) ⟨Nat.le_of_ble_eq_true rfl, Nat.le_of_ble_eq_true rfl⟩) (jPreV hK hPc hDc hN (ci := 3) rfl rfl) rfl rfl hl.1 rfl (lv_room (Nat.le_of_ble_eq_true rfl)) dX4_showValue_20 ⟨Nat.le_of_ble_eq_true rfl, Nat.le_of_ble_eq_true rfl⟩) hS (fun q _ h => hFc q h) hFc (fun r' u' t H locs ht hvm hw hB hz1 hk1 hS => ?_)
      subst hw
      obtain ⟨hP1, -, hD1⟩ := hB
      rw [ht] at hP1
      obtain ⟨hP, hD⟩ := jJoin (wc := (W_Tree cI (sh a 3) (g_Reader_values (g_LS_reader S)))) (w1 := (W_Tree cI (sh a 3) (g_Reader_values (g_LS_reader S)))) (ws' := (W_LS cI a S)) hP hD [3, 4] [0, 1, 2, 5, 6, 7, 8, 9, 10, 11, 12] [0, 1, 2, 11, 12, 3, 4, 5, 6, 7, 8, 9, 10] rfl rfl (by decide) (by decide) hk1 hFc hP1 hD1 (by decide) rfl
      refine lv_istore (lv' := [(4, .int r50), (3, .int r47), (0, .ref (a 0)), (1, .ref (a 3)), (2, .int v2)]) hx hb dX4_showValue_23 hl (by decide) rfl (fun ls hl => ?_)
      refine lv_aload_n hx hb dX4_showValue_25 rfl (lv_at hl 3 rfl) ?_
      refine lv_iload_n hx hb dX4_showValue_26 rfl (lv_at hl 4 rfl) ?_
      refine lv_bipush (v := (7 : Int32)) hx hb dX4_showValue_27 (by decide) ?_
      refine lv_iconst (v := (-1 : Int32)) hx hb dX4_showValue_29 (by decide) ?_
      obtain ⟨u52, h53, hF⟩ := ob1_some hF
      have hPc := hP.sub (ws' := (W_Tree cI (sh a 3) (g_Reader_values (g_LS_reader S)))) [3, 4] rfl
      have hDc := hD.sub (ws' := (W_Tree cI (sh a 3) (g_Reader_values (g_LS_reader S)))) [3, 4] (by decide) rfl
      have hFc := va_free (wc := (W_Tree cI (sh a 3) (g_Reader_values (g_LS_reader S)))) hD hS hA [3, 4] rfl
      refine va_callv (va_runV (As := [.int v2, .int (7 : Int32), .int (-1 : Int32)]) (rest := []) ⟨hx, hb, hml, hown, hts⟩ (c_X3_put l dC dI cI (sh a 3) H.size _ _ _ _ _ h53) (cwV 3 hts gX4_showValue_X3_put rfl rfl rfl (by decide +kernel) ⟨Nat.le_of_ble_eq_true rfl, Nat.le_of_ble_eq_true rfl⟩) (jPreV hK hPc hDc hN (ci := 3) rfl rfl) rfl rfl hl.1 rfl (lv_room (Nat.le_of_ble_eq_true rfl)) dX4_showValue_30 ⟨Nat.le_of_ble_eq_true rfl, Nat.le_of_ble_eq_true rfl⟩) hS (fun q _ h => hFc q h) hFc (fun u' t H locs ht hvm hw hB hz1 hk1 hS => ?_)
      subst hw
      obtain ⟨hP1, -, hD1⟩ := hB
      rw [ht] at hP1
      obtain ⟨hP, hD⟩ := jJoin (wc := (W_Tree cI (sh a 3) (g_Reader_values (g_LS_reader S)))) (w1 := (W_Tree cI (sh a 3) u52)) (ws' := (W_LS cI a (s_LS_reader S (s_Reader_values (g_LS_reader S) u52)))) hP hD [3, 4] [0, 1, 2, 5, 6, 7, 8, 9, 10, 11, 12] [0, 1, 2, 11, 12, 3, 4, 5, 6, 7, 8, 9, 10] rfl rfl (by decide) (by decide) hk1 hFc hP1 hD1 (by decide) rfl
      refine lv_iload_n hx hb dX4_showValue_33 rfl (lv_at hl 1 rfl) ?_
      refine lv_iconst (v := (-1 : Int32)) hx hb dX4_showValue_34 (by decide) ?_
      refine lv_icmp_eq (tgt := 45) hx hb dX4_showValue_35 (by decide) (fun c54 => ?_) (fun c54 => ?_)
      · have hF := F_pos c54 hF
        exact K45 _ _ _ _ _ hF hP hD hS _ (lv_sub hl [2, 3, 4, 1, 0] rfl)
      · have hF := F_neg c54 hF
        refine lv_iload hx hb dX4_showValue_38 (lv_at hl 0 rfl) ?_
        refine lv_iconst (v := (-1 : Int32)) hx hb dX4_showValue_40 (by decide) ?_
        refine lv_icmp_ne (tgt := 45) hx hb dX4_showValue_41 (by decide) (fun c55 => ?_) (fun c55 => ?_)
        · have hF := F_neg c55 hF
          exact K45 _ _ _ _ _ hF hP hD hS _ (lv_sub hl [2, 3, 4, 1, 0] rfl)
        · have hF := F_pos c55 hF
          have e50 := Option.some.inj hF
          subst e50
          exact W.vret hx hb hr (fun t ht hW => ⟨⟨(s_LS_reader S (s_Reader_values (g_LS_reader S) u52)), rfl, rfl, by rw [ht]; exact hP, va_K.moved hW.alike hK, hD⟩, hS.F ht⟩) hS.2.2 dX4_showValue_44
    · have hF := F_pos c49 hF
      refine lv_iconst (v := (-1 : Int32)) hx hb dX4_showValue_12 (by decide) ?_
      refine lv_goto (tgt := 23) hx hb dX4_showValue_13 (by decide) ?_
      refine lv_istore (lv' := [(4, .int (-1 : Int32)), (3, .int r47), (0, .ref (a 0)), (1, .ref (a 3)), (2, .int v2)]) hx hb dX4_showValue_23 hl (by decide) rfl (fun ls hl => ?_)
      refine lv_aload_n hx hb dX4_showValue_25 rfl (lv_at hl 3 rfl) ?_
      refine lv_iload_n hx hb dX4_showValue_26 rfl (lv_at hl 4 rfl) ?_
      refine lv_bipush (v := (7 : Int32)) hx hb dX4_showValue_27 (by decide) ?_
      refine lv_iconst (v := (-1 : Int32)) hx hb dX4_showValue_29 (by decide) ?_
      obtain ⟨u56, h57, hF⟩ := ob1_some hF
      have hPc := hP.sub (ws' := (W_Tree cI (sh a 3) (g_Reader_values (g_LS_reader S)))) [3, 4] rfl
      have hDc := hD.sub (ws' := (W_Tree cI (sh a 3) (g_Reader_values (g_LS_reader S)))) [3, 4] (by decide) rfl
      have hFc := va_free (wc := (W_Tree cI (sh a 3) (g_Reader_values (g_LS_reader S)))) hD hS hA [3, 4] rfl
      refine va_callv (va_runV (As := [.int v2, .int (7 : Int32), .int (-1 : Int32)]) (rest := []) ⟨hx, hb, hml, hown, hts⟩ (c_X3_put l dC dI cI (sh a 3) H.size _ _ _ _ _ h57) (cwV 3 hts gX4_showValue_X3_put rfl rfl rfl (by decide +kernel) ⟨Nat.le_of_ble_eq_true rfl, Nat.le_of_ble_eq_true rfl⟩) (jPreV hK hPc hDc hN (ci := 3) rfl rfl) rfl rfl hl.1 rfl (lv_room (Nat.le_of_ble_eq_true rfl)) dX4_showValue_30 ⟨Nat.le_of_ble_eq_true rfl, Nat.le_of_ble_eq_true rfl⟩) hS (fun q _ h => hFc q h) hFc (fun u' t H locs ht hvm hw hB hz1 hk1 hS => ?_)
      subst hw
      obtain ⟨hP1, -, hD1⟩ := hB
      rw [ht] at hP1
      obtain ⟨hP, hD⟩ := jJoin (wc := (W_Tree cI (sh a 3) (g_Reader_values (g_LS_reader S)))) (w1 := (W_Tree cI (sh a 3) u56)) (ws' := (W_LS cI a (s_LS_reader S (s_Reader_values (g_LS_reader S) u56)))) hP hD [3, 4] [0, 1, 2, 5, 6, 7, 8, 9, 10, 11, 12] [0, 1, 2, 11, 12, 3, 4, 5, 6, 7, 8, 9, 10] rfl rfl (by decide) (by decide) hk1 hFc hP1 hD1 (by decide) rfl
      refine lv_iload_n hx hb dX4_showValue_33 rfl (lv_at hl 1 rfl) ?_
      refine lv_iconst (v := (-1 : Int32)) hx hb dX4_showValue_34 (by decide) ?_
      refine lv_icmp_eq (tgt := 45) hx hb dX4_showValue_35 (by decide) (fun c58 => ?_) (fun c58 => ?_)
      · have hF := F_pos c58 hF
        exact K45 _ _ _ _ _ hF hP hD hS _ (lv_sub hl [2, 3, 4, 1, 0] rfl)
      · have hF := F_neg c58 hF
        refine lv_iload hx hb dX4_showValue_38 (lv_at hl 0 rfl) ?_
        refine lv_iconst (v := (-1 : Int32)) hx hb dX4_showValue_40 (by decide) ?_
        refine lv_icmp_ne (tgt := 45) hx hb dX4_showValue_41 (by decide) (fun c => absurd c (by decide)) (fun _ => ?_)
        have e50 := Option.some.inj hF
        subst e50
        exact W.vret hx hb hr (fun t ht hW => ⟨⟨(s_LS_reader S (s_Reader_values (g_LS_reader S) u56)), rfl, rfl, by rw [ht]; exact hP, va_K.moved hW.alike hK, hD⟩, hS.F ht⟩) hS.2.2 dX4_showValue_44
  exact KE _ _ hP hD hS
set_option maxHeartbeats 4000000 in
set_option maxRecDepth 100000 in
theorem c_X4_workOutLearned_false (l : Launch) (dC : Nat → ClassId) (dI : Nat → Nat → Nat) (cI : ClassId) (a : Nat → Nat) (sz : Nat) (S : S_LS)  (Y : S_LS) (hF : F_X4_workOutLearned S false  = some Y) : Met l yX4_workOutLearned wsX4_workOutLearned ({ frames := 4, cells := 0, slots := 0, locals := 140 } : Room) (va_Pc [.ref (a 0), .ref (a 6)] (jPre (dC, dI) [(cI, .int)] sz ((W_LS cI a S)))) (va_Qv (fun u : S_LS => Y = u) (fun u : S_LS => jB (dC, dI) [(cI, .int)] (va_A ((W_LS cI a S)) sz) ((W_LS cI a u))) (va_A ((W_LS cI a S)) sz)) 0 0 (va_A ((W_LS cI a S)) sz) := by
  refine Met.ofW (cc := cX4_workOutLearned) (maxL := 5) (ret := none) (by decide) rfl ?_
  intro p e s m args below meth c s₁ B hml hv
  obtain ⟨rfl, hsz, hP, hK, hD0, hN⟩ := hv
  have hx := B.exec
  have hb := B.bytes
  have hr := B.returns
  have hts := atoms_spec (ws := wsX4_workOutLearned) B.pre
  have hown : s.vm.findClass RX4 = some m.cls := findClass_of_methodNamed B.named
  have hlocks := B.notSynchronized
  have hinX1 : ∀ w ∈ u_ws RX1 TX1 7, w ∈ wsX4_workOutLearned := by decide +kernel
  have hinX3 : ∀ w ∈ u_ws RX3 TX3 3, w ∈ wsX4_workOutLearned := by decide +kernel
  have hinX4 : ∀ w ∈ u_ws RX4 TX4 8, w ∈ wsX4_workOutLearned := by decide +kernel
  subst hsz
  have hD := hD0.self (sz := s.heap.size)
  generalize hAe : (va_A ((W_LS cI a S)) s.heap.size) = A at hD ⊢
  have hA : ∀ q : Nat, s.heap.size ≤ q → A q := fun q h => by rw [← hAe]; exact Or.inr h
  have hS : va_S A s.heap s.heap [] := va_S.rf
  have hl := lv_entry ([.ref (a 0), .ref (a 6)]) (n := 5) (Nat.le_of_ble_eq_true rfl)
  rw [lg_entry_eq]
  generalize (lg_sl ([.ref (a 0), .ref (a 6)]) ++ List.replicate (5 - (lg_sl ([.ref (a 0), .ref (a 6)])).length) Slot.unset).toArray = ls at hl ⊢
  have hl : lv_has ls 5 [(0, .ref (a 0)), (1, .ref (a 6))] := hl
  have K67 : ∀ (n67 : Nat) (S : S_LS) (x3 : Int32) (x4 : Int32) (H : Heap) (locs : List Loc), F_X4_workOutLearned_67 n67 S x3 x4 = some Y → va_P (dC, dI) vwCl ((W_LS cI a S)) H → va_D A ((W_LS cI a S)) → va_S A s.heap H locs → ∀ ls : Array Slot, lv_has ls 5 [(0, .ref (a 0)), (2, .ref (a 3)), (3, .int x3), (4, .int x4)] → W p l e (headSpec wsX4_workOutLearned ({ frames := 4, cells := 0, slots := 0, locals := 140 } : Room)).room s m ([.ref (a 0), .ref (a 6)] : List Value).toArray below meth c H locs 0 0 (MQ below (va_Qv (fun u : S_LS => Y = u) (fun u : S_LS => jB (dC, dI) [(cI, .int)] A ((W_LS cI a u))) A) ([.ref (a 0), .ref (a 6)] : List Value).toArray s 0 0 A) (F0 m 67 ls []) := by
    intro n67
    induction n67 with
    | zero => intro S x3 x4 H locs hF; exact nomatch hF
    | succ n67 ih67 =>
      intro S x3 x4 H locs hF hP hD hS ls hl
      rw [F_X4_workOutLearned_67_s] at hF
      refine lv_iload hx hb dX4_workOutLearned_67 (lv_at hl 3 rfl) ?_
      refine lv_iload_n hx hb dX4_workOutLearned_69 rfl (lv_at hl 2 rfl) ?_
      refine lv_icmp_ge (tgt := 86) hx hb dX4_workOutLearned_70 (by decide) (fun c1 => ?_) (fun c1 => ?_)
      · have hF := F_pos c1 hF
        have e50 := Option.some.inj hF
        subst e50
        exact W.vret hx hb hr (fun t ht hW => ⟨⟨S, rfl, rfl, by rw [ht]; exact hP, va_K.moved hW.alike hK, hD⟩, hS.F ht⟩) hS.2.2 dX4_workOutLearned_86
      · have hF := F_neg c1 hF
        refine lv_aload_n hx hb dX4_workOutLearned_73 rfl (lv_at hl 0 rfl) ?_
        refine lv_aload_n hx hb dX4_workOutLearned_74 rfl (lv_at hl 1 rfl) ?_
        refine lv_iload hx hb dX4_workOutLearned_75 (lv_at hl 3 rfl) ?_
        obtain ⟨u2, h3, hF⟩ := ob1_some hF
        have hPc : va_P (dC, dI) vwCl ((W_LS cI a S)) H := hP
        have hDc : va_D A ((W_LS cI a S)) := hD
        have hFc := jFreeW (ws := (W_LS cI a S)) hD hS hA
        refine va_callv (va_runV (As := [.ref (a 3), .int x4]) (rest := []) ⟨hx, hb, hml, hown, hts⟩ (c_X4_showValue l dC dI cI a H.size _ _ _ h3) (cwV 2 hts gX4_workOutLearned_X4_showValue rfl rfl rfl (by decide +kernel) ⟨Nat.le_of_ble_eq_true rfl, Nat.le_of_ble_eq_true rfl⟩) (jPreV hK hPc hDc hN (ci := 4) rfl rfl) rfl rfl hl.1 rfl (lv_room (Nat.le_of_ble_eq_true rfl)) dX4_workOutLearned_77 ⟨Nat.le_of_ble_eq_true rfl, Nat.le_of_ble_eq_true rfl⟩) hS (fun q _ h => hFc q h) hFc (fun u' t H locs ht hvm hw hB hz1 hk1 hS => ?_)
        subst hw
        obtain ⟨hP1, -, hD1⟩ := hB
        rw [ht] at hP1
        have hP : va_P (dC, dI) vwCl ((W_LS cI a u2)) H := hP1
        have hD : va_D A ((W_LS cI a u2)) := hD1.weaken (fun _ _ _ h => hFc _ h)
        refine lv_iinc (v := (x4 + (1 : Int32))) (lv' := [(4, .int (x4 + (1 : Int32))), (0, .ref (a 0)), (2, .ref (a 3)), (3, .int x3)]) hx hb dX4_workOutLearned_80 hl (k := 3) rfl rfl (by decide) rfl (fun ls hl => ?_)
        refine lv_goto (tgt := 67) hx hb dX4_workOutLearned_83 (by decide) ?_
        exact ih67 _ _ _ _ _ hF hP hD hS _ (lv_sub hl [1, 2, 3, 0] rfl)
  have K31 : ∀ (n31 : Nat) (S : S_LS) (x3 : Int32) (H : Heap) (locs : List Loc), F_X4_workOutLearned_31 n31 S x3 = some Y → va_P (dC, dI) vwCl ((W_LS cI a S)) H → va_D A ((W_LS cI a S)) → va_S A s.heap H locs → ∀ ls : Array Slot, lv_has ls 5 [(0, .ref (a 0)), (2, .ref (a 3)), (3, .int x3)] → W p l e (headSpec wsX4_workOutLearned ({ frames := 4, cells := 0, slots := 0, locals := 140 } : Room)).room s m ([.ref (a 0), .ref (a 6)] : List Value).toArray below meth c H locs 0 0 (MQ below (va_Qv (fun u : S_LS => Y = u) (fun u : S_LS => jB (dC, dI) [(cI, .int)] A ((W_LS cI a u))) A) ([.ref (a 0), .ref (a 6)] : List Value).toArray s 0 0 A) (F0 m 31 ls []) := by
    intro n31
    induction n31 with
    | zero => intro S x3 H locs hF; exact nomatch hF
    | succ n31 ih31 =>
      intro S x3 H locs hF hP hD hS ls hl
      rw [F_X4_workOutLearned_31_s] at hF
      refine lv_iload_n hx hb dX4_workOutLearned_31 rfl (lv_at hl 2 rfl) ?_
      refine lv_aload_n hx hb dX4_workOutLearned_32 rfl (lv_at hl 0 rfl) ?_
      refine va_get (D := (dC, dI)) (ci := 4) (v := .ref (a 10)) (C := RX4) (T := TX4) (N := 8) hx hb hts hinX4 hown hK hP 0 rfl rfl 6 (by decide) (hts (Cond.fieldLink RX4 34 "LearnedShapes" "work" "LLearnedShapes$Tree;") (List.mem_of_getElem? (i := 2) rfl)) (fun _ h9 => h9) rfl dX4_workOutLearned_33 ?_
      refine va_get (D := (dC, dI)) (ci := 3) (v := .int (g_Tree_size (g_LS_work S))) (C := RX3) (T := TX3) (N := 3) hx hb hts hinX3 hown hK hP 10 rfl rfl 1 (by decide) (hts (Cond.fieldLink RX4 92 "LearnedShapes$Tree" "size" "I") (List.mem_of_getElem? (i := 4) rfl)) (fun _ h9 => h9) rfl dX4_workOutLearned_36 ?_
      refine lv_icmp_ge (tgt := 59) hx hb dX4_workOutLearned_39 (by decide) (fun c4 => ?_) (fun c4 => ?_)
      · have hF := F_pos c4 hF
        refine lv_aload_n hx hb dX4_workOutLearned_59 rfl (lv_at hl 1 rfl) ?_
        refine va_get (D := (dC, dI)) (ci := 3) (v := .int (g_Tree_size (g_Reader_values (g_LS_reader S)))) (C := RX3) (T := TX3) (N := 3) hx hb hts hinX3 hown hK hP 3 rfl rfl 1 (by decide) (hts (Cond.fieldLink RX4 92 "LearnedShapes$Tree" "size" "I") (List.mem_of_getElem? (i := 4) rfl)) (fun _ h9 => h9) rfl dX4_workOutLearned_60 ?_
        refine lv_istore_n (lv' := [(3, .int (g_Tree_size (g_Reader_values (g_LS_reader S)))), (0, .ref (a 0)), (2, .ref (a 3))]) hx hb dX4_workOutLearned_63 rfl hl (by decide) rfl (fun ls hl => ?_)
        refine lv_iconst (v := (0 : Int32)) hx hb dX4_workOutLearned_64 (by decide) ?_
        refine lv_istore (lv' := [(4, .int (0 : Int32)), (3, .int (g_Tree_size (g_Reader_values (g_LS_reader S)))), (0, .ref (a 0)), (2, .ref (a 3))]) hx hb dX4_workOutLearned_65 hl (by decide) rfl (fun ls hl => ?_)
        exact K67 _ _ _ _ _ _ hF hP hD hS _ (lv_sub hl [2, 3, 1, 0] rfl)
      · have hF := F_neg c4 hF
        refine lv_aload_n hx hb dX4_workOutLearned_42 rfl (lv_at hl 0 rfl) ?_
        refine va_get (D := (dC, dI)) (ci := 4) (v := .ref (a 10)) (C := RX4) (T := TX4) (N := 8) hx hb hts hinX4 hown hK hP 0 rfl rfl 6 (by decide) (hts (Cond.fieldLink RX4 34 "LearnedShapes" "work" "LLearnedShapes$Tree;") (List.mem_of_getElem? (i := 2) rfl)) (fun _ h9 => h9) rfl dX4_workOutLearned_43 ?_
        refine lv_iload_n hx hb dX4_workOutLearned_46 rfl (lv_at hl 2 rfl) ?_
        refine lv_bipush (v := (7 : Int32)) hx hb dX4_workOutLearned_47 (by decide) ?_
        refine lv_iload_n hx hb dX4_workOutLearned_49 rfl (lv_at hl 2 rfl) ?_
        obtain ⟨u5, h6, hF⟩ := ob1_some hF
        have hPc := hP.sub (ws' := (W_Tree cI (sh a 10) (g_LS_work S))) [10, 11] rfl
        have hDc := hD.sub (ws' := (W_Tree cI (sh a 10) (g_LS_work S))) [10, 11] (by decide) rfl
        have hFc := va_free (wc := (W_Tree cI (sh a 10) (g_LS_work S))) hD hS hA [10, 11] rfl
        refine va_callv (va_runV (As := [.int x3, .int (7 : Int32), .int x3]) (rest := []) ⟨hx, hb, hml, hown, hts⟩ (c_X3_put l dC dI cI (sh a 10) H.size _ _ _ _ _ h6) (cwV 3 hts gX4_workOutLearned_X3_put rfl rfl rfl (by decide +kernel) ⟨Nat.le_of_ble_eq_true rfl, Nat.le_of_ble_eq_true rfl⟩) (jPreV hK hPc hDc hN (ci := 3) rfl rfl) rfl rfl hl.1 rfl (lv_room (Nat.le_of_ble_eq_true rfl)) dX4_workOutLearned_50 ⟨Nat.le_of_ble_eq_true rfl, Nat.le_of_ble_eq_true rfl⟩) hS (fun q _ h => hFc q h) hFc (fun u' t H locs ht hvm hw hB hz1 hk1 hS => ?_)
        subst hw
        obtain ⟨hP1, -, hD1⟩ := hB
        rw [ht] at hP1
        obtain ⟨hP, hD⟩ := jJoin (wc := (W_Tree cI (sh a 10) (g_LS_work S))) (w1 := (W_Tree cI (sh a 10) u5)) (ws' := (W_LS cI a (s_LS_work S u5))) hP hD [10, 11] [0, 1, 2, 3, 4, 5, 6, 7, 8, 9, 12] [0, 1, 2, 3, 4, 5, 6, 7, 8, 9, 11, 12, 10] rfl rfl (by decide) (by decide) hk1 hFc hP1 hD1 (by decide) rfl
        refine lv_iinc (v := (x3 + (1 : Int32))) (lv' := [(3, .int (x3 + (1 : Int32))), (0, .ref (a 0)), (2, .ref (a 3))]) hx hb dX4_workOutLearned_53 hl (k := 2) rfl rfl (by decide) rfl (fun ls hl => ?_)
        refine lv_goto (tgt := 31) hx hb dX4_workOutLearned_56 (by decide) ?_
        exact ih31 _ _ _ _ hF hP hD hS _ (lv_sub hl [1, 2, 0] rfl)
  have KE : ∀ (H : Heap) (locs : List Loc), va_P (dC, dI) vwCl ((W_LS cI a S)) H → va_D A ((W_LS cI a S)) → va_S A s.heap H locs → W p l e (headSpec wsX4_workOutLearned ({ frames := 4, cells := 0, slots := 0, locals := 140 } : Room)).room s m ([.ref (a 0), .ref (a 6)] : List Value).toArray below meth c H locs 0 0 (MQ below (va_Qv (fun u : S_LS => Y = u) (fun u : S_LS => jB (dC, dI) [(cI, .int)] A ((W_LS cI a u))) A) ([.ref (a 0), .ref (a 6)] : List Value).toArray s 0 0 A) (F0 m 0 ls []) := by
    intro H locs hP hD hS
    unfold F_X4_workOutLearned at hF
    refine lv_aload_n hx hb dX4_workOutLearned_0 rfl (lv_at hl 0 rfl) ?_
    refine va_get (D := (dC, dI)) (ci := 4) (v := .ref (a 2)) (C := RX4) (T := TX4) (N := 8) hx hb hts hinX4 hown hK hP 0 rfl rfl 2 (by decide) (hts (Cond.fieldLink RX4 16 "LearnedShapes" "reader" "LLearnedShapes$Reader;") (List.mem_of_getElem? (i := 1) rfl)) (fun _ h9 => h9) rfl dX4_workOutLearned_1 ?_
    refine va_getN (D := (dC, dI)) (ci := 1) (v := .ref (a 3)) (C := RX1) (T := TX1) (N := 7) hx hb hts hinX1 hown hK hP 2 rfl rfl 0 (by decide) (va_Nw.use rfl (hN.1 _ (List.mem_of_getElem? (i := 1) rfl))) (fun _ h9 => h9) rfl dX4_workOutLearned_4 ?_
    refine lv_astore_n (lv' := [(2, .ref (a 3)), (0, .ref (a 0)), (1, .ref (a 6))]) hx hb dX4_workOutLearned_7 rfl hl (by decide) rfl (fun ls hl => ?_)
    refine lv_aload_n hx hb dX4_workOutLearned_8 rfl (lv_at hl 1 rfl) ?_
    refine va_get (D := (dC, dI)) (ci := 4) (v := .ref (a 10)) (C := RX4) (T := TX4) (N := 8) hx hb hts hinX4 hown hK hP 0 rfl rfl 6 (by decide) (hts (Cond.fieldLink RX4 34 "LearnedShapes" "work" "LLearnedShapes$Tree;") (List.mem_of_getElem? (i := 2) rfl)) (fun _ h9 => h9) rfl dX4_workOutLearned_9 ?_
    refine lv_aload_n hx hb dX4_workOutLearned_12 rfl (lv_at hl 2 rfl) ?_
    obtain ⟨u7, h8, hF⟩ := ob1_some hF
    have hPc := hP.sub (ws' := (W_Tree cI (sh a 10) (g_LS_work S)) ++ (W_Tree cI (sh a 6) (g_State_tree false (g_LS_now S)))) [10, 11, 6, 7] rfl
    have hDc := hD.sub (ws' := (W_Tree cI (sh a 10) (g_LS_work S)) ++ (W_Tree cI (sh a 6) (g_State_tree false (g_LS_now S)))) [10, 11, 6, 7] (by decide) rfl
    have hFc := va_free (wc := (W_Tree cI (sh a 10) (g_LS_work S)) ++ (W_Tree cI (sh a 6) (g_State_tree false (g_LS_now S)))) hD hS hA [10, 11, 6, 7] rfl
    refine va_callv (va_runV (As := [.ref (a 6)]) (rest := []) ⟨hx, hb, hml, hown, hts⟩ (c_X3_copyFrom l dC dI cI (sh a 10) (sh a 6) H.size _ _ _ h8) (cwV 1 hts gX4_workOutLearned_X3_copyFrom rfl rfl rfl (by decide +kernel) ⟨Nat.le_of_ble_eq_true rfl, Nat.le_of_ble_eq_true rfl⟩) (jPreV hK hPc hDc hN (ci := 3) rfl rfl) rfl rfl hl.1 rfl (lv_room (Nat.le_of_ble_eq_true rfl)) dX4_workOutLearned_13 ⟨Nat.le_of_ble_eq_true rfl, Nat.le_of_ble_eq_true rfl⟩) hS (fun q _ h => hFc q h) hFc (fun u' t H locs ht hvm hw hB hz1 hk1 hS => ?_)
    subst hw
    obtain ⟨hP1, -, hD1⟩ := hB
    rw [ht] at hP1
    obtain ⟨hP, hD⟩ := jJoin (wc := (W_Tree cI (sh a 10) (g_LS_work S)) ++ (W_Tree cI (sh a 6) (g_State_tree false (g_LS_now S)))) (w1 := (W_Tree cI (sh a 10) u7) ++ (W_Tree cI (sh a 6) (g_State_tree false (g_LS_now S)))) (ws' := (W_LS cI a (s_LS_work S u7))) hP hD [10, 11, 6, 7] [0, 1, 2, 3, 4, 5, 8, 9, 12] [0, 1, 2, 3, 4, 5, 11, 12, 6, 7, 9, 10, 8] rfl rfl (by decide) (by decide) hk1 hFc hP1 hD1 (by decide) rfl
    refine lv_aload_n hx hb dX4_workOutLearned_16 rfl (lv_at hl 1 rfl) ?_
    refine va_get (D := (dC, dI)) (ci := 4) (v := .ref (a 10)) (C := RX4) (T := TX4) (N := 8) hx hb hts hinX4 hown hK hP 0 rfl rfl 6 (by decide) (hts (Cond.fieldLink RX4 34 "LearnedShapes" "work" "LLearnedShapes$Tree;") (List.mem_of_getElem? (i := 2) rfl)) (fun _ h9 => h9) rfl dX4_workOutLearned_17 ?_
    refine lv_aload_n hx hb dX4_workOutLearned_20 rfl (lv_at hl 2 rfl) ?_
    refine va_get (D := (dC, dI)) (ci := 3) (v := .int (g_Tree_documents (g_State_tree false (g_LS_now S)))) (C := RX3) (T := TX3) (N := 3) hx hb hts hinX3 hown hK hP 6 rfl rfl 2 (by decide) (hts (Cond.fieldLink RX4 226 "LearnedShapes$Tree" "documents" "I") (List.mem_of_getElem? (i := 3) rfl)) (fun _ h9 => h9) rfl dX4_workOutLearned_21 ?_
    refine lv_iconst (v := (1 : Int32)) hx hb dX4_workOutLearned_24 (by decide) ?_
    refine lv_iadd hx hb dX4_workOutLearned_25 ?_
    refine va_put (D := (dC, dI)) (ci := 3) (v := .int ((g_Tree_documents (g_State_tree false (g_LS_now S))) + (1 : Int32))) (ty := .int) (C := RX3) (T := TX3) (N := 3) hx hb hts hinX3 tyX3 tyX3_ok nmX3 hown hK hP hD hS 10 rfl rfl 2 (by decide) (hts (Cond.fieldLink RX4 226 "LearnedShapes$Tree" "documents" "I") (List.mem_of_getElem? (i := 3) rfl)) (fun _ h9 => h9) rfl (by decide +kernel) (rfl) rfl (Nat.le_of_ble_eq_true rfl) dX4_workOutLearned_26 (fun H locs hP hD hS => ?_)
    have hP : va_P (dC, dI) vwCl ((W_LS cI a (s_LS_work S (s_Tree_documents u7 ((g_Tree_documents (g_State_tree false (g_LS_now S))) + (1 : Int32)))))) H := hP
    have hD : va_D A ((W_LS cI a (s_LS_work S (s_Tree_documents u7 ((g_Tree_documents (g_State_tree false (g_LS_now S))) + (1 : Int32)))))) := hD
    refine lv_iconst (v := (0 : Int32)) hx hb dX4_workOutLearned_29 (by decide) ?_
    refine lv_istore_n (lv' := [(3, .int (0 : Int32)), (2, .ref (a 3)), (0, .ref (a 0)), (1, .ref (a 6))]) hx hb dX4_workOutLearned_30 rfl hl (by decide) rfl (fun ls hl => ?_)
    exact K31 _ _ _ _ _ hF hP hD hS _ (lv_sub hl [2, 1, 0] rfl)
  exact KE _ _ hP hD hS
set_option maxHeartbeats 4000000 in
set_option maxRecDepth 100000 in
theorem c_X4_workOutLearned_true (l : Launch) (dC : Nat → ClassId) (dI : Nat → Nat → Nat) (cI : ClassId) (a : Nat → Nat) (sz : Nat) (S : S_LS)  (Y : S_LS) (hF : F_X4_workOutLearned S true  = some Y) : Met l yX4_workOutLearned wsX4_workOutLearned ({ frames := 4, cells := 0, slots := 0, locals := 140 } : Room) (va_Pc [.ref (a 0), .ref (a 8)] (jPre (dC, dI) [(cI, .int)] sz ((W_LS cI a S)))) (va_Qv (fun u : S_LS => Y = u) (fun u : S_LS => jB (dC, dI) [(cI, .int)] (va_A ((W_LS cI a S)) sz) ((W_LS cI a u))) (va_A ((W_LS cI a S)) sz)) 0 0 (va_A ((W_LS cI a S)) sz) := by
  refine Met.ofW (cc := cX4_workOutLearned) (maxL := 5) (ret := none) (by decide) rfl ?_
  intro p e s m args below meth c s₁ B hml hv
  obtain ⟨rfl, hsz, hP, hK, hD0, hN⟩ := hv
  have hx := B.exec
  have hb := B.bytes
  have hr := B.returns
  have hts := atoms_spec (ws := wsX4_workOutLearned) B.pre
  have hown : s.vm.findClass RX4 = some m.cls := findClass_of_methodNamed B.named
  have hlocks := B.notSynchronized
  have hinX1 : ∀ w ∈ u_ws RX1 TX1 7, w ∈ wsX4_workOutLearned := by decide +kernel
  have hinX3 : ∀ w ∈ u_ws RX3 TX3 3, w ∈ wsX4_workOutLearned := by decide +kernel
  have hinX4 : ∀ w ∈ u_ws RX4 TX4 8, w ∈ wsX4_workOutLearned := by decide +kernel
  subst hsz
  have hD := hD0.self (sz := s.heap.size)
  generalize hAe : (va_A ((W_LS cI a S)) s.heap.size) = A at hD ⊢
  have hA : ∀ q : Nat, s.heap.size ≤ q → A q := fun q h => by rw [← hAe]; exact Or.inr h
  have hS : va_S A s.heap s.heap [] := va_S.rf
  have hl := lv_entry ([.ref (a 0), .ref (a 8)]) (n := 5) (Nat.le_of_ble_eq_true rfl)
  rw [lg_entry_eq]
  generalize (lg_sl ([.ref (a 0), .ref (a 8)]) ++ List.replicate (5 - (lg_sl ([.ref (a 0), .ref (a 8)])).length) Slot.unset).toArray = ls at hl ⊢
  have hl : lv_has ls 5 [(0, .ref (a 0)), (1, .ref (a 8))] := hl
  have K67 : ∀ (n67 : Nat) (S : S_LS) (x3 : Int32) (x4 : Int32) (H : Heap) (locs : List Loc), F_X4_workOutLearned_67 n67 S x3 x4 = some Y → va_P (dC, dI) vwCl ((W_LS cI a S)) H → va_D A ((W_LS cI a S)) → va_S A s.heap H locs → ∀ ls : Array Slot, lv_has ls 5 [(0, .ref (a 0)), (2, .ref (a 3)), (3, .int x3), (4, .int x4)] → W p l e (headSpec wsX4_workOutLearned ({ frames := 4, cells := 0, slots := 0, locals := 140 } : Room)).room s m ([.ref (a 0), .ref (a 8)] : List Value).toArray below meth c H locs 0 0 (MQ below (va_Qv (fun u : S_LS => Y = u) (fun u : S_LS => jB (dC, dI) [(cI, .int)] A ((W_LS cI a u))) A) ([.ref (a 0), .ref (a 8)] : List Value).toArray s 0 0 A) (F0 m 67 ls []) := by
    intro n67
    induction n67 with
    | zero => intro S x3 x4 H locs hF; exact nomatch hF
    | succ n67 ih67 =>
      intro S x3 x4 H locs hF hP hD hS ls hl
      rw [F_X4_workOutLearned_67_s] at hF
      refine lv_iload hx hb dX4_workOutLearned_67 (lv_at hl 3 rfl) ?_
      refine lv_iload_n hx hb dX4_workOutLearned_69 rfl (lv_at hl 2 rfl) ?_
      refine lv_icmp_ge (tgt := 86) hx hb dX4_workOutLearned_70 (by decide) (fun c1 => ?_) (fun c1 => ?_)
      · have hF := F_pos c1 hF
        have e50 := Option.some.inj hF
        subst e50
        exact W.vret hx hb hr (fun t ht hW => ⟨⟨S, rfl, rfl, by rw [ht]; exact hP, va_K.moved hW.alike hK, hD⟩, hS.F ht⟩) hS.2.2 dX4_workOutLearned_86
      · have hF := F_neg c1 hF
        refine lv_aload_n hx hb dX4_workOutLearned_73 rfl (lv_at hl 0 rfl) ?_
        refine lv_aload_n hx hb dX4_workOutLearned_74 rfl (lv_at hl 1 rfl) ?_
        refine lv_iload hx hb dX4_workOutLearned_75 (lv_at hl 3 rfl) ?_
        obtain ⟨u2, h3, hF⟩ := ob1_some hF
        have hPc : va_P (dC, dI) vwCl ((W_LS cI a S)) H := hP
        have hDc : va_D A ((W_LS cI a S)) := hD
        have hFc := jFreeW (ws := (W_LS cI a S)) hD hS hA
        refine va_callv (va_runV (As := [.ref (a 3), .int x4]) (rest := []) ⟨hx, hb, hml, hown, hts⟩ (c_X4_showValue l dC dI cI a H.size _ _ _ h3) (cwV 2 hts gX4_workOutLearned_X4_showValue rfl rfl rfl (by decide +kernel) ⟨Nat.le_of_ble_eq_true rfl, Nat.le_of_ble_eq_true rfl⟩) (jPreV hK hPc hDc hN (ci := 4) rfl rfl) rfl rfl hl.1 rfl (lv_room (Nat.le_of_ble_eq_true rfl)) dX4_workOutLearned_77 ⟨Nat.le_of_ble_eq_true rfl, Nat.le_of_ble_eq_true rfl⟩) hS (fun q _ h => hFc q h) hFc (fun u' t H locs ht hvm hw hB hz1 hk1 hS => ?_)
        subst hw
        obtain ⟨hP1, -, hD1⟩ := hB
        rw [ht] at hP1
        have hP : va_P (dC, dI) vwCl ((W_LS cI a u2)) H := hP1
        have hD : va_D A ((W_LS cI a u2)) := hD1.weaken (fun _ _ _ h => hFc _ h)
        refine lv_iinc (v := (x4 + (1 : Int32))) (lv' := [(4, .int (x4 + (1 : Int32))), (0, .ref (a 0)), (2, .ref (a 3)), (3, .int x3)]) hx hb dX4_workOutLearned_80 hl (k := 3) rfl rfl (by decide) rfl (fun ls hl => ?_)
        refine lv_goto (tgt := 67) hx hb dX4_workOutLearned_83 (by decide) ?_
        exact ih67 _ _ _ _ _ hF hP hD hS _ (lv_sub hl [1, 2, 3, 0] rfl)
  have K31 : ∀ (n31 : Nat) (S : S_LS) (x3 : Int32) (H : Heap) (locs : List Loc), F_X4_workOutLearned_31 n31 S x3 = some Y → va_P (dC, dI) vwCl ((W_LS cI a S)) H → va_D A ((W_LS cI a S)) → va_S A s.heap H locs → ∀ ls : Array Slot, lv_has ls 5 [(0, .ref (a 0)), (2, .ref (a 3)), (3, .int x3)] → W p l e (headSpec wsX4_workOutLearned ({ frames := 4, cells := 0, slots := 0, locals := 140 } : Room)).room s m ([.ref (a 0), .ref (a 8)] : List Value).toArray below meth c H locs 0 0 (MQ below (va_Qv (fun u : S_LS => Y = u) (fun u : S_LS => jB (dC, dI) [(cI, .int)] A ((W_LS cI a u))) A) ([.ref (a 0), .ref (a 8)] : List Value).toArray s 0 0 A) (F0 m 31 ls []) := by
    intro n31
    induction n31 with
    | zero => intro S x3 H locs hF; exact nomatch hF
    | succ n31 ih31 =>
      intro S x3 H locs hF hP hD hS ls hl
      rw [F_X4_workOutLearned_31_s] at hF
      refine lv_iload_n hx hb dX4_workOutLearned_31 rfl (lv_at hl 2 rfl) ?_
      refine lv_aload_n hx hb dX4_workOutLearned_32 rfl (lv_at hl 0 rfl) ?_
      refine va_get (D := (dC, dI)) (ci := 4) (v := .ref (a 10)) (C := RX4) (T := TX4) (N := 8) hx hb hts hinX4 hown hK hP 0 rfl rfl 6 (by decide) (hts (Cond.fieldLink RX4 34 "LearnedShapes" "work" "LLearnedShapes$Tree;") (List.mem_of_getElem? (i := 2) rfl)) (fun _ h9 => h9) rfl dX4_workOutLearned_33 ?_
      refine va_get (D := (dC, dI)) (ci := 3) (v := .int (g_Tree_size (g_LS_work S))) (C := RX3) (T := TX3) (N := 3) hx hb hts hinX3 hown hK hP 10 rfl rfl 1 (by decide) (hts (Cond.fieldLink RX4 92 "LearnedShapes$Tree" "size" "I") (List.mem_of_getElem? (i := 4) rfl)) (fun _ h9 => h9) rfl dX4_workOutLearned_36 ?_
      refine lv_icmp_ge (tgt := 59) hx hb dX4_workOutLearned_39 (by decide) (fun c4 => ?_) (fun c4 => ?_)
      · have hF := F_pos c4 hF
        refine lv_aload_n hx hb dX4_workOutLearned_59 rfl (lv_at hl 1 rfl) ?_
        refine va_get (D := (dC, dI)) (ci := 3) (v := .int (g_Tree_size (g_Reader_values (g_LS_reader S)))) (C := RX3) (T := TX3) (N := 3) hx hb hts hinX3 hown hK hP 3 rfl rfl 1 (by decide) (hts (Cond.fieldLink RX4 92 "LearnedShapes$Tree" "size" "I") (List.mem_of_getElem? (i := 4) rfl)) (fun _ h9 => h9) rfl dX4_workOutLearned_60 ?_
        refine lv_istore_n (lv' := [(3, .int (g_Tree_size (g_Reader_values (g_LS_reader S)))), (0, .ref (a 0)), (2, .ref (a 3))]) hx hb dX4_workOutLearned_63 rfl hl (by decide) rfl (fun ls hl => ?_)
        refine lv_iconst (v := (0 : Int32)) hx hb dX4_workOutLearned_64 (by decide) ?_
        refine lv_istore (lv' := [(4, .int (0 : Int32)), (3, .int (g_Tree_size (g_Reader_values (g_LS_reader S)))), (0, .ref (a 0)), (2, .ref (a 3))]) hx hb dX4_workOutLearned_65 hl (by decide) rfl (fun ls hl => ?_)
        exact K67 _ _ _ _ _ _ hF hP hD hS _ (lv_sub hl [2, 3, 1, 0] rfl)
      · have hF := F_neg c4 hF
        refine lv_aload_n hx hb dX4_workOutLearned_42 rfl (lv_at hl 0 rfl) ?_
        refine va_get (D := (dC, dI)) (ci := 4) (v := .ref (a 10)) (C := RX4) (T := TX4) (N := 8) hx hb hts hinX4 hown hK hP 0 rfl rfl 6 (by decide) (hts (Cond.fieldLink RX4 34 "LearnedShapes" "work" "LLearnedShapes$Tree;") (List.mem_of_getElem? (i := 2) rfl)) (fun _ h9 => h9) rfl dX4_workOutLearned_43 ?_
        refine lv_iload_n hx hb dX4_workOutLearned_46 rfl (lv_at hl 2 rfl) ?_
        refine lv_bipush (v := (7 : Int32)) hx hb dX4_workOutLearned_47 (by decide) ?_
        refine lv_iload_n hx hb dX4_workOutLearned_49 rfl (lv_at hl 2 rfl) ?_
        obtain ⟨u5, h6, hF⟩ := ob1_some hF
        have hPc := hP.sub (ws' := (W_Tree cI (sh a 10) (g_LS_work S))) [10, 11] rfl
        have hDc := hD.sub (ws' := (W_Tree cI (sh a 10) (g_LS_work S))) [10, 11] (by decide) rfl
        have hFc := va_free (wc := (W_Tree cI (sh a 10) (g_LS_work S))) hD hS hA [10, 11] rfl
        refine va_callv (va_runV (As := [.int x3, .int (7 : Int32), .int x3]) (rest := []) ⟨hx, hb, hml, hown, hts⟩ (c_X3_put l dC dI cI (sh a 10) H.size _ _ _ _ _ h6) (cwV 3 hts gX4_workOutLearned_X3_put rfl rfl rfl (by decide +kernel) ⟨Nat.le_of_ble_eq_true rfl, Nat.le_of_ble_eq_true rfl⟩) (jPreV hK hPc hDc hN (ci := 3) rfl rfl) rfl rfl hl.1 rfl (lv_room (Nat.le_of_ble_eq_true rfl)) dX4_workOutLearned_50 ⟨Nat.le_of_ble_eq_true rfl, Nat.le_of_ble_eq_true rfl⟩) hS (fun q _ h => hFc q h) hFc (fun u' t H locs ht hvm hw hB hz1 hk1 hS => ?_)
        subst hw
        obtain ⟨hP1, -, hD1⟩ := hB
        rw [ht] at hP1
        obtain ⟨hP, hD⟩ := jJoin (wc := (W_Tree cI (sh a 10) (g_LS_work S))) (w1 := (W_Tree cI (sh a 10) u5)) (ws' := (W_LS cI a (s_LS_work S u5))) hP hD [10, 11] [0, 1, 2, 3, 4, 5, 6, 7, 8, 9, 12] [0, 1, 2, 3, 4, 5, 6, 7, 8, 9, 11, 12, 10] rfl rfl (by decide) (by decide) hk1 hFc hP1 hD1 (by decide) rfl
        refine lv_iinc (v := (x3 + (1 : Int32))) (lv' := [(3, .int (x3 + (1 : Int32))), (0, .ref (a 0)), (2, .ref (a 3))]) hx hb dX4_workOutLearned_53 hl (k := 2) rfl rfl (by decide) rfl (fun ls hl => ?_)
        refine lv_goto (tgt := 31) hx hb dX4_workOutLearned_56 (by decide) ?_
        exact ih31 _ _ _ _ hF hP hD hS _ (lv_sub hl [1, 2, 0] rfl)
  have KE : ∀ (H : Heap) (locs : List Loc), va_P (dC, dI) vwCl ((W_LS cI a S)) H → va_D A ((W_LS cI a S)) → va_S A s.heap H locs → W p l e (headSpec wsX4_workOutLearned ({ frames := 4, cells := 0, slots := 0, locals := 140 } : Room)).room s m ([.ref (a 0), .ref (a 8)] : List Value).toArray below meth c H locs 0 0 (MQ below (va_Qv (fun u : S_LS => Y = u) (fun u : S_LS => jB (dC, dI) [(cI, .int)] A ((W_LS cI a u))) A) ([.ref (a 0), .ref (a 8)] : List Value).toArray s 0 0 A) (F0 m 0 ls []) := by
    intro H locs hP hD hS
    unfold F_X4_workOutLearned at hF
    refine lv_aload_n hx hb dX4_workOutLearned_0 rfl (lv_at hl 0 rfl) ?_
    refine va_get (D := (dC, dI)) (ci := 4) (v := .ref (a 2)) (C := RX4) (T := TX4) (N := 8) hx hb hts hinX4 hown hK hP 0 rfl rfl 2 (by decide) (hts (Cond.fieldLink RX4 16 "LearnedShapes" "reader" "LLearnedShapes$Reader;") (List.mem_of_getElem? (i := 1) rfl)) (fun _ h9 => h9) rfl dX4_workOutLearned_1 ?_
    refine va_getN (D := (dC, dI)) (ci := 1) (v := .ref (a 3)) (C := RX1) (T := TX1) (N := 7) hx hb hts hinX1 hown hK hP 2 rfl rfl 0 (by decide) (va_Nw.use rfl (hN.1 _ (List.mem_of_getElem? (i := 1) rfl))) (fun _ h9 => h9) rfl dX4_workOutLearned_4 ?_
    refine lv_astore_n (lv' := [(2, .ref (a 3)), (0, .ref (a 0)), (1, .ref (a 8))]) hx hb dX4_workOutLearned_7 rfl hl (by decide) rfl (fun ls hl => ?_)
    refine lv_aload_n hx hb dX4_workOutLearned_8 rfl (lv_at hl 1 rfl) ?_
    refine va_get (D := (dC, dI)) (ci := 4) (v := .ref (a 10)) (C := RX4) (T := TX4) (N := 8) hx hb hts hinX4 hown hK hP 0 rfl rfl 6 (by decide) (hts (Cond.fieldLink RX4 34 "LearnedShapes" "work" "LLearnedShapes$Tree;") (List.mem_of_getElem? (i := 2) rfl)) (fun _ h9 => h9) rfl dX4_workOutLearned_9 ?_
    refine lv_aload_n hx hb dX4_workOutLearned_12 rfl (lv_at hl 2 rfl) ?_
    obtain ⟨u7, h8, hF⟩ := ob1_some hF
    have hPc := hP.sub (ws' := (W_Tree cI (sh a 10) (g_LS_work S)) ++ (W_Tree cI (sh a 8) (g_State_tree true (g_LS_now S)))) [10, 11, 8, 9] rfl
    have hDc := hD.sub (ws' := (W_Tree cI (sh a 10) (g_LS_work S)) ++ (W_Tree cI (sh a 8) (g_State_tree true (g_LS_now S)))) [10, 11, 8, 9] (by decide) rfl
    have hFc := va_free (wc := (W_Tree cI (sh a 10) (g_LS_work S)) ++ (W_Tree cI (sh a 8) (g_State_tree true (g_LS_now S)))) hD hS hA [10, 11, 8, 9] rfl
    refine va_callv (va_runV (As := [.ref (a 8)]) (rest := []) ⟨hx, hb, hml, hown, hts⟩ (c_X3_copyFrom l dC dI cI (sh a 10) (sh a 8) H.size _ _ _ h8) (cwV 1 hts gX4_workOutLearned_X3_copyFrom rfl rfl rfl (by decide +kernel) ⟨Nat.le_of_ble_eq_true rfl, Nat.le_of_ble_eq_true rfl⟩) (jPreV hK hPc hDc hN (ci := 3) rfl rfl) rfl rfl hl.1 rfl (lv_room (Nat.le_of_ble_eq_true rfl)) dX4_workOutLearned_13 ⟨Nat.le_of_ble_eq_true rfl, Nat.le_of_ble_eq_true rfl⟩) hS (fun q _ h => hFc q h) hFc (fun u' t H locs ht hvm hw hB hz1 hk1 hS => ?_)
    subst hw
    obtain ⟨hP1, -, hD1⟩ := hB
    rw [ht] at hP1
    obtain ⟨hP, hD⟩ := jJoin (wc := (W_Tree cI (sh a 10) (g_LS_work S)) ++ (W_Tree cI (sh a 8) (g_State_tree true (g_LS_now S)))) (w1 := (W_Tree cI (sh a 10) u7) ++ (W_Tree cI (sh a 8) (g_State_tree true (g_LS_now S)))) (ws' := (W_LS cI a (s_LS_work S u7))) hP hD [10, 11, 8, 9] [0, 1, 2, 3, 4, 5, 6, 7, 12] [0, 1, 2, 3, 4, 5, 6, 7, 11, 12, 9, 10, 8] rfl rfl (by decide) (by decide) hk1 hFc hP1 hD1 (by decide) rfl
    refine lv_aload_n hx hb dX4_workOutLearned_16 rfl (lv_at hl 1 rfl) ?_
    refine va_get (D := (dC, dI)) (ci := 4) (v := .ref (a 10)) (C := RX4) (T := TX4) (N := 8) hx hb hts hinX4 hown hK hP 0 rfl rfl 6 (by decide) (hts (Cond.fieldLink RX4 34 "LearnedShapes" "work" "LLearnedShapes$Tree;") (List.mem_of_getElem? (i := 2) rfl)) (fun _ h9 => h9) rfl dX4_workOutLearned_17 ?_
    refine lv_aload_n hx hb dX4_workOutLearned_20 rfl (lv_at hl 2 rfl) ?_
    refine va_get (D := (dC, dI)) (ci := 3) (v := .int (g_Tree_documents (g_State_tree true (g_LS_now S)))) (C := RX3) (T := TX3) (N := 3) hx hb hts hinX3 hown hK hP 8 rfl rfl 2 (by decide) (hts (Cond.fieldLink RX4 226 "LearnedShapes$Tree" "documents" "I") (List.mem_of_getElem? (i := 3) rfl)) (fun _ h9 => h9) rfl dX4_workOutLearned_21 ?_
    refine lv_iconst (v := (1 : Int32)) hx hb dX4_workOutLearned_24 (by decide) ?_
    refine lv_iadd hx hb dX4_workOutLearned_25 ?_
    refine va_put (D := (dC, dI)) (ci := 3) (v := .int ((g_Tree_documents (g_State_tree true (g_LS_now S))) + (1 : Int32))) (ty := .int) (C := RX3) (T := TX3) (N := 3) hx hb hts hinX3 tyX3 tyX3_ok nmX3 hown hK hP hD hS 10 rfl rfl 2 (by decide) (hts (Cond.fieldLink RX4 226 "LearnedShapes$Tree" "documents" "I") (List.mem_of_getElem? (i := 3) rfl)) (fun _ h9 => h9) rfl (by decide +kernel) (rfl) rfl (Nat.le_of_ble_eq_true rfl) dX4_workOutLearned_26 (fun H locs hP hD hS => ?_)
    have hP : va_P (dC, dI) vwCl ((W_LS cI a (s_LS_work S (s_Tree_documents u7 ((g_Tree_documents (g_State_tree true (g_LS_now S))) + (1 : Int32)))))) H := hP
    have hD : va_D A ((W_LS cI a (s_LS_work S (s_Tree_documents u7 ((g_Tree_documents (g_State_tree true (g_LS_now S))) + (1 : Int32)))))) := hD
    refine lv_iconst (v := (0 : Int32)) hx hb dX4_workOutLearned_29 (by decide) ?_
    refine lv_istore_n (lv' := [(3, .int (0 : Int32)), (2, .ref (a 3)), (0, .ref (a 0)), (1, .ref (a 8))]) hx hb dX4_workOutLearned_30 rfl hl (by decide) rfl (fun ls hl => ?_)
    exact K31 _ _ _ _ _ hF hP hD hS _ (lv_sub hl [2, 1, 0] rfl)
  exact KE _ _ hP hD hS
set_option maxHeartbeats 4000000 in
set_option maxRecDepth 100000 in
theorem c_X4_bringsAny_false (l : Launch) (dC : Nat → ClassId) (dI : Nat → Nat → Nat) (cI : ClassId) (a : Nat → Nat) (sz : Nat) (S : S_LS)  (rr : Bool) (hF : F_X4_bringsAny S false  = some rr) : Met l yX4_bringsAny wsX4_bringsAny ({ frames := 1, cells := 0, slots := 0, locals := 24 } : Room) (va_Pc [.ref (a 0), .ref (a 6)] (jPre (dC, dI) [(cI, .int)] sz ((W_LS cI a S)))) (va_Qi (fun (r' : Int32) (_ : Unit) => b2i rr = r') (fun _ : Unit => jB (dC, dI) [(cI, .int)] (va_A ((W_LS cI a S)) sz) ((W_LS cI a S))) (va_A ((W_LS cI a S)) sz)) 0 0 (va_A ((W_LS cI a S)) sz) := by
  refine Met.ofW (cc := cX4_bringsAny) (maxL := 4) (ret := (some .boolean)) (by decide) rfl ?_
  intro p e s m args below meth c s₁ B hml hv
  obtain ⟨rfl, hsz, hP, hK, hD0, hN⟩ := hv
  have hx := B.exec
  have hb := B.bytes
  have hr := B.returns
  have hts := atoms_spec (ws := wsX4_bringsAny) B.pre
  have hown : s.vm.findClass RX4 = some m.cls := findClass_of_methodNamed B.named
  have hlocks := B.notSynchronized
  have hinX3 : ∀ w ∈ u_ws RX3 TX3 3, w ∈ wsX4_bringsAny := by decide +kernel
  have hinX4 : ∀ w ∈ u_ws RX4 TX4 8, w ∈ wsX4_bringsAny := by decide +kernel
  subst hsz
  have hD := hD0.self (sz := s.heap.size)
  generalize hAe : (va_A ((W_LS cI a S)) s.heap.size) = A at hD ⊢
  have hA : ∀ q : Nat, s.heap.size ≤ q → A q := fun q h => by rw [← hAe]; exact Or.inr h
  have hS : va_S A s.heap s.heap [] := va_S.rf
  have hl := lv_entry ([.ref (a 0), .ref (a 6)]) (n := 4) (Nat.le_of_ble_eq_true rfl)
  rw [lg_entry_eq]
  generalize (lg_sl ([.ref (a 0), .ref (a 6)]) ++ List.replicate (4 - (lg_sl ([.ref (a 0), .ref (a 6)])).length) Slot.unset).toArray = ls at hl ⊢
  have hl : lv_has ls 4 [(0, .ref (a 0)), (1, .ref (a 6))] := hl
  have K2 : ∀ (n2 : Nat) (x2 : Int32) (H : Heap) (locs : List Loc), F_X4_bringsAny_2 S false n2 x2 = some rr → va_P (dC, dI) vwCl ((W_LS cI a S)) H → va_D A ((W_LS cI a S)) → va_S A s.heap H locs → ∀ ls : Array Slot, lv_has ls 4 [(0, .ref (a 0)), (1, .ref (a 6)), (2, .int x2)] → W p l e (headSpec wsX4_bringsAny ({ frames := 1, cells := 0, slots := 0, locals := 24 } : Room)).room s m ([.ref (a 0), .ref (a 6)] : List Value).toArray below meth c H locs 0 0 (MQ below (va_Qi (fun (r' : Int32) (_ : Unit) => b2i rr = r') (fun _ : Unit => jB (dC, dI) [(cI, .int)] A ((W_LS cI a S))) A) ([.ref (a 0), .ref (a 6)] : List Value).toArray s 0 0 A) (F0 m 2 ls []) := by
    intro n2
    induction n2 with
    | zero => intro x2 H locs hF; exact nomatch hF
    | succ n2 ih2 =>
      intro x2 H locs hF hP hD hS ls hl
      rw [F_X4_bringsAny_2_s] at hF
      refine lv_iload_n hx hb dX4_bringsAny_2 rfl (lv_at hl 2 rfl) ?_
      refine lv_aload_n hx hb dX4_bringsAny_3 rfl (lv_at hl 0 rfl) ?_
      refine va_get (D := (dC, dI)) (ci := 4) (v := .ref (a 10)) (C := RX4) (T := TX4) (N := 8) hx hb hts hinX4 hown hK hP 0 rfl rfl 6 (by decide) (hts (Cond.fieldLink RX4 34 "LearnedShapes" "work" "LLearnedShapes$Tree;") (List.mem_of_getElem? (i := 1) rfl)) (fun _ h9 => h9) rfl dX4_bringsAny_4 ?_
      refine va_get (D := (dC, dI)) (ci := 3) (v := .int (g_Tree_size (g_LS_work S))) (C := RX3) (T := TX3) (N := 3) hx hb hts hinX3 hown hK hP 10 rfl rfl 1 (by decide) (hts (Cond.fieldLink RX4 92 "LearnedShapes$Tree" "size" "I") (List.mem_of_getElem? (i := 2) rfl)) (fun _ h9 => h9) rfl dX4_bringsAny_7 ?_
      refine lv_icmp_ge (tgt := 62) hx hb dX4_bringsAny_10 (by decide) (fun c1 => ?_) (fun c1 => ?_)
      · have hF := F_pos c1 hF
        refine lv_iconst (v := (0 : Int32)) hx hb dX4_bringsAny_62 (by decide) ?_
        have e50 := Option.some.inj hF
        subst e50
        exact W.zret (v := (0 : Int32)) hx hb hr (rfl) (fun t ht hW => ⟨⟨(0 : Int32), (), rfl, rfl, by rw [ht]; exact hP, va_K.moved hW.alike hK, hD⟩, hS.F ht⟩) hS.2.2 dX4_bringsAny_63
      · have hF := F_neg c1 hF
        refine lv_aload_n hx hb dX4_bringsAny_13 rfl (lv_at hl 0 rfl) ?_
        refine va_get (D := (dC, dI)) (ci := 4) (v := .ref (a 10)) (C := RX4) (T := TX4) (N := 8) hx hb hts hinX4 hown hK hP 0 rfl rfl 6 (by decide) (hts (Cond.fieldLink RX4 34 "LearnedShapes" "work" "LLearnedShapes$Tree;") (List.mem_of_getElem? (i := 1) rfl)) (fun _ h9 => h9) rfl dX4_bringsAny_14 ?_
        refine lv_iload_n hx hb dX4_bringsAny_17 rfl (lv_at hl 2 rfl) ?_
        refine lv_bipush (v := (7 : Int32)) hx hb dX4_bringsAny_18 (by decide) ?_
        obtain ⟨r2, h3, hF⟩ := ob1_some hF
        have hPc := hP.sub (ws' := (W_Tree cI (sh a 10) (g_LS_work S))) [10, 11] rfl
        have hDc := hD.sub (ws' := (W_Tree cI (sh a 10) (g_LS_work S))) [10, 11] (by decide) rfl
        have hFc := va_free (wc := (W_Tree cI (sh a 10) (g_LS_work S))) hD hS hA [10, 11] rfl
        refine va_calli (va_runV (As := [.int x2, .int (7 : Int32)]) (rest := []) ⟨hx, hb, hml, hown, hts⟩ (c_X3_get l dC dI cI (sh a 10) H.size _ _ _ _ h3) (cwV 2 hts gX4_bringsAny_X3_get rfl rfl rfl (by decide +kernel) ⟨Nat.le_of_ble_eq_true rfl, Nat.le_of_ble_eq_true rfl⟩) (jPreV hK hPc hDc hN (ci := 3) rfl rfl) rfl rfl hl.1 rfl (lv_room (Nat.le_of_ble_eq_true rfl)) dX4_bringsAny_20 ⟨Nat.le_of_ble_eq_true rfl, Nat.le_of_ble_eq_true rfl⟩) hS (fun q _ h => hFc q h) hFc (fun r' u' t H locs ht hvm hw hB hz1 hk1 hS => ?_)
        subst hw
        obtain ⟨hP1, -, hD1⟩ := hB
        rw [ht] at hP1
        obtain ⟨hP, hD⟩ := jJoin (wc := (W_Tree cI (sh a 10) (g_LS_work S))) (w1 := (W_Tree cI (sh a 10) (g_LS_work S))) (ws' := (W_LS cI a S)) hP hD [10, 11] [0, 1, 2, 3, 4, 5, 6, 7, 8, 9, 12] [0, 1, 2, 3, 4, 5, 6, 7, 8, 9, 11, 12, 10] rfl rfl (by decide) (by decide) hk1 hFc hP1 hD1 (by decide) rfl
        refine lv_istore_n (lv' := [(3, .int r2), (0, .ref (a 0)), (1, .ref (a 6)), (2, .int x2)]) hx hb dX4_bringsAny_23 rfl hl (by decide) rfl (fun ls hl => ?_)
        refine lv_aload_n hx hb dX4_bringsAny_24 rfl (lv_at hl 1 rfl) ?_
        refine va_get (D := (dC, dI)) (ci := 4) (v := .ref (a 10)) (C := RX4) (T := TX4) (N := 8) hx hb hts hinX4 hown hK hP 0 rfl rfl 6 (by decide) (hts (Cond.fieldLink RX4 34 "LearnedShapes" "work" "LLearnedShapes$Tree;") (List.mem_of_getElem? (i := 1) rfl)) (fun _ h9 => h9) rfl dX4_bringsAny_25 ?_
        refine lv_iload_n hx hb dX4_bringsAny_28 rfl (lv_at hl 3 rfl) ?_
        refine lv_iconst (v := (0 : Int32)) hx hb dX4_bringsAny_29 (by decide) ?_
        obtain ⟨r4, h5, hF⟩ := ob1_some hF
        have hPc := hP.sub (ws' := (W_Tree cI (sh a 10) (g_LS_work S))) [10, 11] rfl
        have hDc := hD.sub (ws' := (W_Tree cI (sh a 10) (g_LS_work S))) [10, 11] (by decide) rfl
        have hFc := va_free (wc := (W_Tree cI (sh a 10) (g_LS_work S))) hD hS hA [10, 11] rfl
        refine va_calli (va_runV (As := [.int x2, .int (0 : Int32)]) (rest := []) ⟨hx, hb, hml, hown, hts⟩ (c_X3_get l dC dI cI (sh a 10) H.size _ _ _ _ h5) (cwV 2 hts gX4_bringsAny_X3_get rfl rfl rfl (by decide +kernel) ⟨Nat.le_of_ble_eq_true rfl, Nat.le_of_ble_eq_true rfl⟩) (jPreV hK hPc hDc hN (ci := 3) rfl rfl) rfl rfl hl.1 rfl (lv_room (Nat.le_of_ble_eq_true rfl)) dX4_bringsAny_30 ⟨Nat.le_of_ble_eq_true rfl, Nat.le_of_ble_eq_true rfl⟩) hS (fun q _ h => hFc q h) hFc (fun r' u' t H locs ht hvm hw hB hz1 hk1 hS => ?_)
        subst hw
        obtain ⟨hP1, -, hD1⟩ := hB
        rw [ht] at hP1
        obtain ⟨hP, hD⟩ := jJoin (wc := (W_Tree cI (sh a 10) (g_LS_work S))) (w1 := (W_Tree cI (sh a 10) (g_LS_work S))) (ws' := (W_LS cI a S)) hP hD [10, 11] [0, 1, 2, 3, 4, 5, 6, 7, 8, 9, 12] [0, 1, 2, 3, 4, 5, 6, 7, 8, 9, 11, 12, 10] rfl rfl (by decide) (by decide) hk1 hFc hP1 hD1 (by decide) rfl
        refine lv_bipush (v := (7 : Int32)) hx hb dX4_bringsAny_33 (by decide) ?_
        refine lv_icmp_ne (tgt := 56) hx hb dX4_bringsAny_35 (by decide) (fun c6 => ?_) (fun c6 => ?_)
        · have hF := F_neg c6 hF
          refine lv_iinc (v := (x2 + (1 : Int32))) (lv' := [(2, .int (x2 + (1 : Int32))), (3, .int r2), (0, .ref (a 0)), (1, .ref (a 6))]) hx hb dX4_bringsAny_56 hl (k := 3) rfl rfl (by decide) rfl (fun ls hl => ?_)
          refine lv_goto (tgt := 2) hx hb dX4_bringsAny_59 (by decide) ?_
          exact ih2 _ _ _ hF hP hD hS _ (lv_sub hl [2, 3, 0] rfl)
        · have hF := F_pos c6 hF
          refine lv_iload_n hx hb dX4_bringsAny_38 rfl (lv_at hl 0 rfl) ?_
          refine lv_iconst (v := (-1 : Int32)) hx hb dX4_bringsAny_39 (by decide) ?_
          refine lv_icmp_eq (tgt := 54) hx hb dX4_bringsAny_40 (by decide) (fun c7 => ?_) (fun c7 => ?_)
          · have hF := F_pos c7 hF
            refine lv_iconst (v := (1 : Int32)) hx hb dX4_bringsAny_54 (by decide) ?_
            have e50 := Option.some.inj hF
            subst e50
            exact W.zret (v := (1 : Int32)) hx hb hr (rfl) (fun t ht hW => ⟨⟨(1 : Int32), (), rfl, rfl, by rw [ht]; exact hP, va_K.moved hW.alike hK, hD⟩, hS.F ht⟩) hS.2.2 dX4_bringsAny_55
          · have hF := F_neg c7 hF
            refine lv_aload_n hx hb dX4_bringsAny_43 rfl (lv_at hl 2 rfl) ?_
            refine lv_iload_n hx hb dX4_bringsAny_44 rfl (lv_at hl 0 rfl) ?_
            refine lv_iconst (v := (0 : Int32)) hx hb dX4_bringsAny_45 (by decide) ?_
            obtain ⟨r8, h9, hF⟩ := ob1_some hF
            have hPc := hP.sub (ws' := (W_Tree cI (sh a 6) (g_State_tree false (g_LS_now S)))) [6, 7] rfl
            have hDc := hD.sub (ws' := (W_Tree cI (sh a 6) (g_State_tree false (g_LS_now S)))) [6, 7] (by decide) rfl
            have hFc := va_free (wc := (W_Tree cI (sh a 6) (g_State_tree false (g_LS_now S)))) hD hS hA [6, 7] rfl
            refine va_calli (va_runV (As := [.int r2, .int (0 : Int32)]) (rest := []) ⟨hx, hb, hml, hown, hts⟩ (c_X3_get l dC dI cI (sh a 6) H.size _ _ _ _ h9) (cwV 2 hts gX4_bringsAny_X3_get rfl rfl rfl (by decide +kernel) ⟨Nat.le_of_ble_eq_true rfl, Nat.le_of_ble_eq_true rfl⟩) (jPreV hK hPc hDc hN (ci := 3) rfl rfl) rfl rfl hl.1 rfl (lv_room (Nat.le_of_ble_eq_true rfl)) dX4_bringsAny_46 ⟨Nat.le_of_ble_eq_true rfl, Nat.le_of_ble_eq_true rfl⟩) hS (fun q _ h => hFc q h) hFc (fun r' u' t H locs ht hvm hw hB hz1 hk1 hS => ?_)
            subst hw
            obtain ⟨hP1, -, hD1⟩ := hB
            rw [ht] at hP1
            obtain ⟨hP, hD⟩ := jJoin (wc := (W_Tree cI (sh a 6) (g_State_tree false (g_LS_now S)))) (w1 := (W_Tree cI (sh a 6) (g_State_tree false (g_LS_now S)))) (ws' := (W_LS cI a S)) hP hD [6, 7] [0, 1, 2, 3, 4, 5, 8, 9, 10, 11, 12] [0, 1, 2, 3, 4, 5, 11, 12, 6, 7, 8, 9, 10] rfl rfl (by decide) (by decide) hk1 hFc hP1 hD1 (by decide) rfl
            refine lv_bipush (v := (7 : Int32)) hx hb dX4_bringsAny_49 (by decide) ?_
            refine lv_icmp_eq (tgt := 56) hx hb dX4_bringsAny_51 (by decide) (fun c10 => ?_) (fun c10 => ?_)
            · have hF := F_pos c10 hF
              refine lv_iinc (v := (x2 + (1 : Int32))) (lv' := [(2, .int (x2 + (1 : Int32))), (3, .int r2), (0, .ref (a 0)), (1, .ref (a 6))]) hx hb dX4_bringsAny_56 hl (k := 3) rfl rfl (by decide) rfl (fun ls hl => ?_)
              refine lv_goto (tgt := 2) hx hb dX4_bringsAny_59 (by decide) ?_
              exact ih2 _ _ _ hF hP hD hS _ (lv_sub hl [2, 3, 0] rfl)
            · have hF := F_neg c10 hF
              refine lv_iconst (v := (1 : Int32)) hx hb dX4_bringsAny_54 (by decide) ?_
              have e50 := Option.some.inj hF
              subst e50
              exact W.zret (v := (1 : Int32)) hx hb hr (rfl) (fun t ht hW => ⟨⟨(1 : Int32), (), rfl, rfl, by rw [ht]; exact hP, va_K.moved hW.alike hK, hD⟩, hS.F ht⟩) hS.2.2 dX4_bringsAny_55
  have KE : ∀ (H : Heap) (locs : List Loc), va_P (dC, dI) vwCl ((W_LS cI a S)) H → va_D A ((W_LS cI a S)) → va_S A s.heap H locs → W p l e (headSpec wsX4_bringsAny ({ frames := 1, cells := 0, slots := 0, locals := 24 } : Room)).room s m ([.ref (a 0), .ref (a 6)] : List Value).toArray below meth c H locs 0 0 (MQ below (va_Qi (fun (r' : Int32) (_ : Unit) => b2i rr = r') (fun _ : Unit => jB (dC, dI) [(cI, .int)] A ((W_LS cI a S))) A) ([.ref (a 0), .ref (a 6)] : List Value).toArray s 0 0 A) (F0 m 0 ls []) := by
    intro H locs hP hD hS
    unfold F_X4_bringsAny at hF
    refine lv_iconst (v := (0 : Int32)) hx hb dX4_bringsAny_0 (by decide) ?_
    refine lv_istore_n (lv' := [(2, .int (0 : Int32)), (0, .ref (a 0)), (1, .ref (a 6))]) hx hb dX4_bringsAny_1 rfl hl (by decide) rfl (fun ls hl => ?_)
    exact K2 _ _ _ _ hF hP hD hS _ (lv_sub hl [1, 2, 0] rfl)
  exact KE _ _ hP hD hS
set_option maxHeartbeats 4000000 in
set_option maxRecDepth 100000 in
theorem c_X4_bringsAny_true (l : Launch) (dC : Nat → ClassId) (dI : Nat → Nat → Nat) (cI : ClassId) (a : Nat → Nat) (sz : Nat) (S : S_LS)  (rr : Bool) (hF : F_X4_bringsAny S true  = some rr) : Met l yX4_bringsAny wsX4_bringsAny ({ frames := 1, cells := 0, slots := 0, locals := 24 } : Room) (va_Pc [.ref (a 0), .ref (a 8)] (jPre (dC, dI) [(cI, .int)] sz ((W_LS cI a S)))) (va_Qi (fun (r' : Int32) (_ : Unit) => b2i rr = r') (fun _ : Unit => jB (dC, dI) [(cI, .int)] (va_A ((W_LS cI a S)) sz) ((W_LS cI a S))) (va_A ((W_LS cI a S)) sz)) 0 0 (va_A ((W_LS cI a S)) sz) := by
  refine Met.ofW (cc := cX4_bringsAny) (maxL := 4) (ret := (some .boolean)) (by decide) rfl ?_
  intro p e s m args below meth c s₁ B hml hv
  obtain ⟨rfl, hsz, hP, hK, hD0, hN⟩ := hv
  have hx := B.exec
  have hb := B.bytes
  have hr := B.returns
  have hts := atoms_spec (ws := wsX4_bringsAny) B.pre
  have hown : s.vm.findClass RX4 = some m.cls := findClass_of_methodNamed B.named
  have hlocks := B.notSynchronized
  have hinX3 : ∀ w ∈ u_ws RX3 TX3 3, w ∈ wsX4_bringsAny := by decide +kernel
  have hinX4 : ∀ w ∈ u_ws RX4 TX4 8, w ∈ wsX4_bringsAny := by decide +kernel
  subst hsz
  have hD := hD0.self (sz := s.heap.size)
  generalize hAe : (va_A ((W_LS cI a S)) s.heap.size) = A at hD ⊢
  have hA : ∀ q : Nat, s.heap.size ≤ q → A q := fun q h => by rw [← hAe]; exact Or.inr h
  have hS : va_S A s.heap s.heap [] := va_S.rf
  have hl := lv_entry ([.ref (a 0), .ref (a 8)]) (n := 4) (Nat.le_of_ble_eq_true rfl)
  rw [lg_entry_eq]
  generalize (lg_sl ([.ref (a 0), .ref (a 8)]) ++ List.replicate (4 - (lg_sl ([.ref (a 0), .ref (a 8)])).length) Slot.unset).toArray = ls at hl ⊢
  have hl : lv_has ls 4 [(0, .ref (a 0)), (1, .ref (a 8))] := hl
  have K2 : ∀ (n2 : Nat) (x2 : Int32) (H : Heap) (locs : List Loc), F_X4_bringsAny_2 S true n2 x2 = some rr → va_P (dC, dI) vwCl ((W_LS cI a S)) H → va_D A ((W_LS cI a S)) → va_S A s.heap H locs → ∀ ls : Array Slot, lv_has ls 4 [(0, .ref (a 0)), (1, .ref (a 8)), (2, .int x2)] → W p l e (headSpec wsX4_bringsAny ({ frames := 1, cells := 0, slots := 0, locals := 24 } : Room)).room s m ([.ref (a 0), .ref (a 8)] : List Value).toArray below meth c H locs 0 0 (MQ below (va_Qi (fun (r' : Int32) (_ : Unit) => b2i rr = r') (fun _ : Unit => jB (dC, dI) [(cI, .int)] A ((W_LS cI a S))) A) ([.ref (a 0), .ref (a 8)] : List Value).toArray s 0 0 A) (F0 m 2 ls []) := by
    intro n2
    induction n2 with
    | zero => intro x2 H locs hF; exact nomatch hF
    | succ n2 ih2 =>
      intro x2 H locs hF hP hD hS ls hl
      rw [F_X4_bringsAny_2_s] at hF
      refine lv_iload_n hx hb dX4_bringsAny_2 rfl (lv_at hl 2 rfl) ?_
      refine lv_aload_n hx hb dX4_bringsAny_3 rfl (lv_at hl 0 rfl) ?_
      refine va_get (D := (dC, dI)) (ci := 4) (v := .ref (a 10)) (C := RX4) (T := TX4) (N := 8) hx hb hts hinX4 hown hK hP 0 rfl rfl 6 (by decide) (hts (Cond.fieldLink RX4 34 "LearnedShapes" "work" "LLearnedShapes$Tree;") (List.mem_of_getElem? (i := 1) rfl)) (fun _ h9 => h9) rfl dX4_bringsAny_4 ?_
      refine va_get (D := (dC, dI)) (ci := 3) (v := .int (g_Tree_size (g_LS_work S))) (C := RX3) (T := TX3) (N := 3) hx hb hts hinX3 hown hK hP 10 rfl rfl 1 (by decide) (hts (Cond.fieldLink RX4 92 "LearnedShapes$Tree" "size" "I") (List.mem_of_getElem? (i := 2) rfl)) (fun _ h9 => h9) rfl dX4_bringsAny_7 ?_
      refine lv_icmp_ge (tgt := 62) hx hb dX4_bringsAny_10 (by decide) (fun c1 => ?_) (fun c1 => ?_)
      · have hF := F_pos c1 hF
        refine lv_iconst (v := (0 : Int32)) hx hb dX4_bringsAny_62 (by decide) ?_
        have e50 := Option.some.inj hF
        subst e50
        exact W.zret (v := (0 : Int32)) hx hb hr (rfl) (fun t ht hW => ⟨⟨(0 : Int32), (), rfl, rfl, by rw [ht]; exact hP, va_K.moved hW.alike hK, hD⟩, hS.F ht⟩) hS.2.2 dX4_bringsAny_63
      · have hF := F_neg c1 hF
        refine lv_aload_n hx hb dX4_bringsAny_13 rfl (lv_at hl 0 rfl) ?_
        refine va_get (D := (dC, dI)) (ci := 4) (v := .ref (a 10)) (C := RX4) (T := TX4) (N := 8) hx hb hts hinX4 hown hK hP 0 rfl rfl 6 (by decide) (hts (Cond.fieldLink RX4 34 "LearnedShapes" "work" "LLearnedShapes$Tree;") (List.mem_of_getElem? (i := 1) rfl)) (fun _ h9 => h9) rfl dX4_bringsAny_14 ?_
        refine lv_iload_n hx hb dX4_bringsAny_17 rfl (lv_at hl 2 rfl) ?_
        refine lv_bipush (v := (7 : Int32)) hx hb dX4_bringsAny_18 (by decide) ?_
        obtain ⟨r2, h3, hF⟩ := ob1_some hF
        have hPc := hP.sub (ws' := (W_Tree cI (sh a 10) (g_LS_work S))) [10, 11] rfl
        have hDc := hD.sub (ws' := (W_Tree cI (sh a 10) (g_LS_work S))) [10, 11] (by decide) rfl
        have hFc := va_free (wc := (W_Tree cI (sh a 10) (g_LS_work S))) hD hS hA [10, 11] rfl
        refine va_calli (va_runV (As := [.int x2, .int (7 : Int32)]) (rest := []) ⟨hx, hb, hml, hown, hts⟩ (c_X3_get l dC dI cI (sh a 10) H.size _ _ _ _ h3) (cwV 2 hts gX4_bringsAny_X3_get rfl rfl rfl (by decide +kernel) ⟨Nat.le_of_ble_eq_true rfl, Nat.le_of_ble_eq_true rfl⟩) (jPreV hK hPc hDc hN (ci := 3) rfl rfl) rfl rfl hl.1 rfl (lv_room (Nat.le_of_ble_eq_true rfl)) dX4_bringsAny_20 ⟨Nat.le_of_ble_eq_true rfl, Nat.le_of_ble_eq_true rfl⟩) hS (fun q _ h => hFc q h) hFc (fun r' u' t H locs ht hvm hw hB hz1 hk1 hS => ?_)
        subst hw
        obtain ⟨hP1, -, hD1⟩ := hB
        rw [ht] at hP1
        obtain ⟨hP, hD⟩ := jJoin (wc := (W_Tree cI (sh a 10) (g_LS_work S))) (w1 := (W_Tree cI (sh a 10) (g_LS_work S))) (ws' := (W_LS cI a S)) hP hD [10, 11] [0, 1, 2, 3, 4, 5, 6, 7, 8, 9, 12] [0, 1, 2, 3, 4, 5, 6, 7, 8, 9, 11, 12, 10] rfl rfl (by decide) (by decide) hk1 hFc hP1 hD1 (by decide) rfl
        refine lv_istore_n (lv' := [(3, .int r2), (0, .ref (a 0)), (1, .ref (a 8)), (2, .int x2)]) hx hb dX4_bringsAny_23 rfl hl (by decide) rfl (fun ls hl => ?_)
        refine lv_aload_n hx hb dX4_bringsAny_24 rfl (lv_at hl 1 rfl) ?_
        refine va_get (D := (dC, dI)) (ci := 4) (v := .ref (a 10)) (C := RX4) (T := TX4) (N := 8) hx hb hts hinX4 hown hK hP 0 rfl rfl 6 (by decide) (hts (Cond.fieldLink RX4 34 "LearnedShapes" "work" "LLearnedShapes$Tree;") (List.mem_of_getElem? (i := 1) rfl)) (fun _ h9 => h9) rfl dX4_bringsAny_25 ?_
        refine lv_iload_n hx hb dX4_bringsAny_28 rfl (lv_at hl 3 rfl) ?_
        refine lv_iconst (v := (0 : Int32)) hx hb dX4_bringsAny_29 (by decide) ?_
        obtain ⟨r4, h5, hF⟩ := ob1_some hF
        have hPc := hP.sub (ws' := (W_Tree cI (sh a 10) (g_LS_work S))) [10, 11] rfl
        have hDc := hD.sub (ws' := (W_Tree cI (sh a 10) (g_LS_work S))) [10, 11] (by decide) rfl
        have hFc := va_free (wc := (W_Tree cI (sh a 10) (g_LS_work S))) hD hS hA [10, 11] rfl
        refine va_calli (va_runV (As := [.int x2, .int (0 : Int32)]) (rest := []) ⟨hx, hb, hml, hown, hts⟩ (c_X3_get l dC dI cI (sh a 10) H.size _ _ _ _ h5) (cwV 2 hts gX4_bringsAny_X3_get rfl rfl rfl (by decide +kernel) ⟨Nat.le_of_ble_eq_true rfl, Nat.le_of_ble_eq_true rfl⟩) (jPreV hK hPc hDc hN (ci := 3) rfl rfl) rfl rfl hl.1 rfl (lv_room (Nat.le_of_ble_eq_true rfl)) dX4_bringsAny_30 ⟨Nat.le_of_ble_eq_true rfl, Nat.le_of_ble_eq_true rfl⟩) hS (fun q _ h => hFc q h) hFc (fun r' u' t H locs ht hvm hw hB hz1 hk1 hS => ?_)
        subst hw
        obtain ⟨hP1, -, hD1⟩ := hB
        rw [ht] at hP1
        obtain ⟨hP, hD⟩ := jJoin (wc := (W_Tree cI (sh a 10) (g_LS_work S))) (w1 := (W_Tree cI (sh a 10) (g_LS_work S))) (ws' := (W_LS cI a S)) hP hD [10, 11] [0, 1, 2, 3, 4, 5, 6, 7, 8, 9, 12] [0, 1, 2, 3, 4, 5, 6, 7, 8, 9, 11, 12, 10] rfl rfl (by decide) (by decide) hk1 hFc hP1 hD1 (by decide) rfl
        refine lv_bipush (v := (7 : Int32)) hx hb dX4_bringsAny_33 (by decide) ?_
        refine lv_icmp_ne (tgt := 56) hx hb dX4_bringsAny_35 (by decide) (fun c6 => ?_) (fun c6 => ?_)
        · have hF := F_neg c6 hF
          refine lv_iinc (v := (x2 + (1 : Int32))) (lv' := [(2, .int (x2 + (1 : Int32))), (3, .int r2), (0, .ref (a 0)), (1, .ref (a 8))]) hx hb dX4_bringsAny_56 hl (k := 3) rfl rfl (by decide) rfl (fun ls hl => ?_)
          refine lv_goto (tgt := 2) hx hb dX4_bringsAny_59 (by decide) ?_
          exact ih2 _ _ _ hF hP hD hS _ (lv_sub hl [2, 3, 0] rfl)
        · have hF := F_pos c6 hF
          refine lv_iload_n hx hb dX4_bringsAny_38 rfl (lv_at hl 0 rfl) ?_
          refine lv_iconst (v := (-1 : Int32)) hx hb dX4_bringsAny_39 (by decide) ?_
          refine lv_icmp_eq (tgt := 54) hx hb dX4_bringsAny_40 (by decide) (fun c7 => ?_) (fun c7 => ?_)
          · have hF := F_pos c7 hF
            refine lv_iconst (v := (1 : Int32)) hx hb dX4_bringsAny_54 (by decide) ?_
            have e50 := Option.some.inj hF
            subst e50
            exact W.zret (v := (1 : Int32)) hx hb hr (rfl) (fun t ht hW => ⟨⟨(1 : Int32), (), rfl, rfl, by rw [ht]; exact hP, va_K.moved hW.alike hK, hD⟩, hS.F ht⟩) hS.2.2 dX4_bringsAny_55
          · have hF := F_neg c7 hF
            refine lv_aload_n hx hb dX4_bringsAny_43 rfl (lv_at hl 2 rfl) ?_
            refine lv_iload_n hx hb dX4_bringsAny_44 rfl (lv_at hl 0 rfl) ?_
            refine lv_iconst (v := (0 : Int32)) hx hb dX4_bringsAny_45 (by decide) ?_
            obtain ⟨r8, h9, hF⟩ := ob1_some hF
            have hPc := hP.sub (ws' := (W_Tree cI (sh a 8) (g_State_tree true (g_LS_now S)))) [8, 9] rfl
            have hDc := hD.sub (ws' := (W_Tree cI (sh a 8) (g_State_tree true (g_LS_now S)))) [8, 9] (by decide) rfl
            have hFc := va_free (wc := (W_Tree cI (sh a 8) (g_State_tree true (g_LS_now S)))) hD hS hA [8, 9] rfl
            refine va_calli (va_runV (As := [.int r2, .int (0 : Int32)]) (rest := []) ⟨hx, hb, hml, hown, hts⟩ (c_X3_get l dC dI cI (sh a 8) H.size _ _ _ _ h9) (cwV 2 hts gX4_bringsAny_X3_get rfl rfl rfl (by decide +kernel) ⟨Nat.le_of_ble_eq_true rfl, Nat.le_of_ble_eq_true rfl⟩) (jPreV hK hPc hDc hN (ci := 3) rfl rfl) rfl rfl hl.1 rfl (lv_room (Nat.le_of_ble_eq_true rfl)) dX4_bringsAny_46 ⟨Nat.le_of_ble_eq_true rfl, Nat.le_of_ble_eq_true rfl⟩) hS (fun q _ h => hFc q h) hFc (fun r' u' t H locs ht hvm hw hB hz1 hk1 hS => ?_)
            subst hw
            obtain ⟨hP1, -, hD1⟩ := hB
            rw [ht] at hP1
            obtain ⟨hP, hD⟩ := jJoin (wc := (W_Tree cI (sh a 8) (g_State_tree true (g_LS_now S)))) (w1 := (W_Tree cI (sh a 8) (g_State_tree true (g_LS_now S)))) (ws' := (W_LS cI a S)) hP hD [8, 9] [0, 1, 2, 3, 4, 5, 6, 7, 10, 11, 12] [0, 1, 2, 3, 4, 5, 6, 7, 11, 12, 8, 9, 10] rfl rfl (by decide) (by decide) hk1 hFc hP1 hD1 (by decide) rfl
            refine lv_bipush (v := (7 : Int32)) hx hb dX4_bringsAny_49 (by decide) ?_
            refine lv_icmp_eq (tgt := 56) hx hb dX4_bringsAny_51 (by decide) (fun c10 => ?_) (fun c10 => ?_)
            · have hF := F_pos c10 hF
              refine lv_iinc (v := (x2 + (1 : Int32))) (lv' := [(2, .int (x2 + (1 : Int32))), (3, .int r2), (0, .ref (a 0)), (1, .ref (a 8))]) hx hb dX4_bringsAny_56 hl (k := 3) rfl rfl (by decide) rfl (fun ls hl => ?_)
              refine lv_goto (tgt := 2) hx hb dX4_bringsAny_59 (by decide) ?_
              exact ih2 _ _ _ hF hP hD hS _ (lv_sub hl [2, 3, 0] rfl)
            · have hF := F_neg c10 hF
              refine lv_iconst (v := (1 : Int32)) hx hb dX4_bringsAny_54 (by decide) ?_
              have e50 := Option.some.inj hF
              subst e50
              exact W.zret (v := (1 : Int32)) hx hb hr (rfl) (fun t ht hW => ⟨⟨(1 : Int32), (), rfl, rfl, by rw [ht]; exact hP, va_K.moved hW.alike hK, hD⟩, hS.F ht⟩) hS.2.2 dX4_bringsAny_55
  have KE : ∀ (H : Heap) (locs : List Loc), va_P (dC, dI) vwCl ((W_LS cI a S)) H → va_D A ((W_LS cI a S)) → va_S A s.heap H locs → W p l e (headSpec wsX4_bringsAny ({ frames := 1, cells := 0, slots := 0, locals := 24 } : Room)).room s m ([.ref (a 0), .ref (a 8)] : List Value).toArray below meth c H locs 0 0 (MQ below (va_Qi (fun (r' : Int32) (_ : Unit) => b2i rr = r') (fun _ : Unit => jB (dC, dI) [(cI, .int)] A ((W_LS cI a S))) A) ([.ref (a 0), .ref (a 8)] : List Value).toArray s 0 0 A) (F0 m 0 ls []) := by
    intro H locs hP hD hS
    unfold F_X4_bringsAny at hF
    refine lv_iconst (v := (0 : Int32)) hx hb dX4_bringsAny_0 (by decide) ?_
    refine lv_istore_n (lv' := [(2, .int (0 : Int32)), (0, .ref (a 0)), (1, .ref (a 8))]) hx hb dX4_bringsAny_1 rfl hl (by decide) rfl (fun ls hl => ?_)
    exact K2 _ _ _ _ hF hP hD hS _ (lv_sub hl [1, 2, 0] rfl)
  exact KE _ _ hP hD hS
set_option maxHeartbeats 4000000 in
set_option maxRecDepth 100000 in
theorem c_X4_isRefused_false (l : Launch) (dC : Nat → ClassId) (dI : Nat → Nat → Nat) (cI : ClassId) (a : Nat → Nat) (sz : Nat) (S : S_LS)  (rr : Bool) (hF : F_X4_isRefused S false  = some rr) : Met l yX4_isRefused wsX4_isRefused ({ frames := 2, cells := 0, slots := 0, locals := 47 } : Room) (va_Pc [.ref (a 0), .ref (a 6)] (jPre (dC, dI) [(cI, .int)] sz ((W_LS cI a S)))) (va_Qi (fun (r' : Int32) (_ : Unit) => b2i rr = r') (fun _ : Unit => jB (dC, dI) [(cI, .int)] (va_A ((W_LS cI a S)) sz) ((W_LS cI a S))) (va_A ((W_LS cI a S)) sz)) 0 0 (va_A ((W_LS cI a S)) sz) := by
  refine Met.ofW (cc := cX4_isRefused) (maxL := 2) (ret := (some .boolean)) (by decide) rfl ?_
  intro p e s m args below meth c s₁ B hml hv
  obtain ⟨rfl, hsz, hP, hK, hD0, hN⟩ := hv
  have hx := B.exec
  have hb := B.bytes
  have hr := B.returns
  have hts := atoms_spec (ws := wsX4_isRefused) B.pre
  have hown : s.vm.findClass RX4 = some m.cls := findClass_of_methodNamed B.named
  have hlocks := B.notSynchronized
  have hinX2 : ∀ w ∈ u_ws RX2 TX2 3, w ∈ wsX4_isRefused := by decide +kernel
  have hinX3 : ∀ w ∈ u_ws RX3 TX3 3, w ∈ wsX4_isRefused := by decide +kernel
  have hinX4 : ∀ w ∈ u_ws RX4 TX4 8, w ∈ wsX4_isRefused := by decide +kernel
  subst hsz
  have hD := hD0.self (sz := s.heap.size)
  generalize hAe : (va_A ((W_LS cI a S)) s.heap.size) = A at hD ⊢
  have hA : ∀ q : Nat, s.heap.size ≤ q → A q := fun q h => by rw [← hAe]; exact Or.inr h
  have hS : va_S A s.heap s.heap [] := va_S.rf
  have hl := lv_entry ([.ref (a 0), .ref (a 6)]) (n := 2) (Nat.le_of_ble_eq_true rfl)
  rw [lg_entry_eq]
  generalize (lg_sl ([.ref (a 0), .ref (a 6)]) ++ List.replicate (2 - (lg_sl ([.ref (a 0), .ref (a 6)])).length) Slot.unset).toArray = ls at hl ⊢
  have hl : lv_has ls 2 [(0, .ref (a 0)), (1, .ref (a 6))] := hl
  have KE : ∀ (H : Heap) (locs : List Loc), va_P (dC, dI) vwCl ((W_LS cI a S)) H → va_D A ((W_LS cI a S)) → va_S A s.heap H locs → W p l e (headSpec wsX4_isRefused ({ frames := 2, cells := 0, slots := 0, locals := 47 } : Room)).room s m ([.ref (a 0), .ref (a 6)] : List Value).toArray below meth c H locs 0 0 (MQ below (va_Qi (fun (r' : Int32) (_ : Unit) => b2i rr = r') (fun _ : Unit => jB (dC, dI) [(cI, .int)] A ((W_LS cI a S))) A) ([.ref (a 0), .ref (a 6)] : List Value).toArray s 0 0 A) (F0 m 0 ls []) := by
    intro H locs hP hD hS
    unfold F_X4_isRefused at hF
    refine lv_aload_n hx hb dX4_isRefused_0 rfl (lv_at hl 0 rfl) ?_
    refine va_get (D := (dC, dI)) (ci := 4) (v := .ref (a 10)) (C := RX4) (T := TX4) (N := 8) hx hb hts hinX4 hown hK hP 0 rfl rfl 6 (by decide) (hts (Cond.fieldLink RX4 34 "LearnedShapes" "work" "LLearnedShapes$Tree;") (List.mem_of_getElem? (i := 1) rfl)) (fun _ h9 => h9) rfl dX4_isRefused_1 ?_
    refine va_get (D := (dC, dI)) (ci := 3) (v := .int (g_Tree_size (g_LS_work S))) (C := RX3) (T := TX3) (N := 3) hx hb hts hinX3 hown hK hP 10 rfl rfl 1 (by decide) (hts (Cond.fieldLink RX4 92 "LearnedShapes$Tree" "size" "I") (List.mem_of_getElem? (i := 2) rfl)) (fun _ h9 => h9) rfl dX4_isRefused_4 ?_
    refine lv_bipush (v := (30 : Int32)) hx hb dX4_isRefused_7 (by decide) ?_
    refine lv_icmp_gt (tgt := 31) hx hb dX4_isRefused_9 (by decide) (fun c1 => ?_) (fun c1 => ?_)
    · have hF := F_pos c1 hF
      refine lv_iconst (v := (1 : Int32)) hx hb dX4_isRefused_31 (by decide) ?_
      refine lv_goto (tgt := 36) hx hb dX4_isRefused_32 (by decide) ?_
      have e50 := Option.some.inj hF
      subst e50
      exact W.zret (v := (1 : Int32)) hx hb hr (rfl) (fun t ht hW => ⟨⟨(1 : Int32), (), rfl, rfl, by rw [ht]; exact hP, va_K.moved hW.alike hK, hD⟩, hS.F ht⟩) hS.2.2 dX4_isRefused_36
    · have hF := F_neg c1 hF
      refine lv_aload_n hx hb dX4_isRefused_12 rfl (lv_at hl 0 rfl) ?_
      refine va_get (D := (dC, dI)) (ci := 4) (v := .ref (a 5)) (C := RX4) (T := TX4) (N := 8) hx hb hts hinX4 hown hK hP 0 rfl rfl 3 (by decide) (hts (Cond.fieldLink RX4 23 "LearnedShapes" "now" "LLearnedShapes$State;") (List.mem_of_getElem? (i := 3) rfl)) (fun _ h9 => h9) rfl dX4_isRefused_13 ?_
      refine va_get (D := (dC, dI)) (ci := 2) (v := .int (g_State_setting (g_LS_now S))) (C := RX2) (T := TX2) (N := 3) hx hb hts hinX2 hown hK hP 5 rfl rfl 2 (by decide) (hts (Cond.fieldLink RX4 115 "LearnedShapes$State" "setting" "I") (List.mem_of_getElem? (i := 4) rfl)) (fun _ h9 => h9) rfl dX4_isRefused_16 ?_
      refine lv_iconst (v := (1 : Int32)) hx hb dX4_isRefused_19 (by decide) ?_
      refine lv_icmp_ne (tgt := 35) hx hb dX4_isRefused_20 (by decide) (fun c2 => ?_) (fun c2 => ?_)
      · have hF := F_neg c2 hF
        refine lv_iconst (v := (0 : Int32)) hx hb dX4_isRefused_35 (by decide) ?_
        have e50 := Option.some.inj hF
        subst e50
        exact W.zret (v := (0 : Int32)) hx hb hr (rfl) (fun t ht hW => ⟨⟨(0 : Int32), (), rfl, rfl, by rw [ht]; exact hP, va_K.moved hW.alike hK, hD⟩, hS.F ht⟩) hS.2.2 dX4_isRefused_36
      · have hF := F_pos c2 hF
        refine lv_aload_n hx hb dX4_isRefused_23 rfl (lv_at hl 0 rfl) ?_
        refine lv_aload_n hx hb dX4_isRefused_24 rfl (lv_at hl 1 rfl) ?_
        obtain ⟨r3, h4, hF⟩ := ob1_some hF
        have hPc : va_P (dC, dI) vwCl ((W_LS cI a S)) H := hP
        have hDc : va_D A ((W_LS cI a S)) := hD
        have hFc := jFreeW (ws := (W_LS cI a S)) hD hS hA
        refine va_calli (va_runV (As := [.ref (a 6)]) (rest := []) ⟨hx, hb, hml, hown, hts⟩ (c_X4_bringsAny_false l dC dI cI a H.size _ _ h4) (cwV 1 hts gX4_isRefused_X4_bringsAny rfl rfl rfl (by decide +kernel) ⟨Nat.le_of_ble_eq_true rfl, Nat.le_of_ble_eq_true rfl⟩) (jPreV hK hPc hDc hN (ci := 4) rfl rfl) rfl rfl hl.1 rfl (lv_room (Nat.le_of_ble_eq_true rfl)) dX4_isRefused_25 ⟨Nat.le_of_ble_eq_true rfl, Nat.le_of_ble_eq_true rfl⟩) hS (fun q _ h => hFc q h) hFc (fun r' u' t H locs ht hvm hw hB hz1 hk1 hS => ?_)
        subst hw
        obtain ⟨hP1, -, hD1⟩ := hB
        rw [ht] at hP1
        have hP : va_P (dC, dI) vwCl ((W_LS cI a S)) H := hP1
        have hD : va_D A ((W_LS cI a S)) := hD1.weaken (fun _ _ _ h => hFc _ h)
        refine lv_if_eq (tgt := 35) hx hb dX4_isRefused_28 (by decide) (fun c5 => ?_) (fun c5 => ?_)
        · have hF := F_pos c5 hF
          refine lv_iconst (v := (0 : Int32)) hx hb dX4_isRefused_35 (by decide) ?_
          have e50 := Option.some.inj hF
          subst e50
          exact W.zret (v := (0 : Int32)) hx hb hr (rfl) (fun t ht hW => ⟨⟨(0 : Int32), (), rfl, rfl, by rw [ht]; exact hP, va_K.moved hW.alike hK, hD⟩, hS.F ht⟩) hS.2.2 dX4_isRefused_36
        · have hF := F_neg c5 hF
          refine lv_iconst (v := (1 : Int32)) hx hb dX4_isRefused_31 (by decide) ?_
          refine lv_goto (tgt := 36) hx hb dX4_isRefused_32 (by decide) ?_
          have e50 := Option.some.inj hF
          subst e50
          exact W.zret (v := (1 : Int32)) hx hb hr (rfl) (fun t ht hW => ⟨⟨(1 : Int32), (), rfl, rfl, by rw [ht]; exact hP, va_K.moved hW.alike hK, hD⟩, hS.F ht⟩) hS.2.2 dX4_isRefused_36
  exact KE _ _ hP hD hS
set_option maxHeartbeats 4000000 in
set_option maxRecDepth 100000 in
theorem c_X4_isRefused_true (l : Launch) (dC : Nat → ClassId) (dI : Nat → Nat → Nat) (cI : ClassId) (a : Nat → Nat) (sz : Nat) (S : S_LS)  (rr : Bool) (hF : F_X4_isRefused S true  = some rr) : Met l yX4_isRefused wsX4_isRefused ({ frames := 2, cells := 0, slots := 0, locals := 47 } : Room) (va_Pc [.ref (a 0), .ref (a 8)] (jPre (dC, dI) [(cI, .int)] sz ((W_LS cI a S)))) (va_Qi (fun (r' : Int32) (_ : Unit) => b2i rr = r') (fun _ : Unit => jB (dC, dI) [(cI, .int)] (va_A ((W_LS cI a S)) sz) ((W_LS cI a S))) (va_A ((W_LS cI a S)) sz)) 0 0 (va_A ((W_LS cI a S)) sz) := by
  refine Met.ofW (cc := cX4_isRefused) (maxL := 2) (ret := (some .boolean)) (by decide) rfl ?_
  intro p e s m args below meth c s₁ B hml hv
  obtain ⟨rfl, hsz, hP, hK, hD0, hN⟩ := hv
  have hx := B.exec
  have hb := B.bytes
  have hr := B.returns
  have hts := atoms_spec (ws := wsX4_isRefused) B.pre
  have hown : s.vm.findClass RX4 = some m.cls := findClass_of_methodNamed B.named
  have hlocks := B.notSynchronized
  have hinX2 : ∀ w ∈ u_ws RX2 TX2 3, w ∈ wsX4_isRefused := by decide +kernel
  have hinX3 : ∀ w ∈ u_ws RX3 TX3 3, w ∈ wsX4_isRefused := by decide +kernel
  have hinX4 : ∀ w ∈ u_ws RX4 TX4 8, w ∈ wsX4_isRefused := by decide +kernel
  subst hsz
  have hD := hD0.self (sz := s.heap.size)
  generalize hAe : (va_A ((W_LS cI a S)) s.heap.size) = A at hD ⊢
  have hA : ∀ q : Nat, s.heap.size ≤ q → A q := fun q h => by rw [← hAe]; exact Or.inr h
  have hS : va_S A s.heap s.heap [] := va_S.rf
  have hl := lv_entry ([.ref (a 0), .ref (a 8)]) (n := 2) (Nat.le_of_ble_eq_true rfl)
  rw [lg_entry_eq]
  generalize (lg_sl ([.ref (a 0), .ref (a 8)]) ++ List.replicate (2 - (lg_sl ([.ref (a 0), .ref (a 8)])).length) Slot.unset).toArray = ls at hl ⊢
  have hl : lv_has ls 2 [(0, .ref (a 0)), (1, .ref (a 8))] := hl
  have KE : ∀ (H : Heap) (locs : List Loc), va_P (dC, dI) vwCl ((W_LS cI a S)) H → va_D A ((W_LS cI a S)) → va_S A s.heap H locs → W p l e (headSpec wsX4_isRefused ({ frames := 2, cells := 0, slots := 0, locals := 47 } : Room)).room s m ([.ref (a 0), .ref (a 8)] : List Value).toArray below meth c H locs 0 0 (MQ below (va_Qi (fun (r' : Int32) (_ : Unit) => b2i rr = r') (fun _ : Unit => jB (dC, dI) [(cI, .int)] A ((W_LS cI a S))) A) ([.ref (a 0), .ref (a 8)] : List Value).toArray s 0 0 A) (F0 m 0 ls []) := by
    intro H locs hP hD hS
    unfold F_X4_isRefused at hF
    refine lv_aload_n hx hb dX4_isRefused_0 rfl (lv_at hl 0 rfl) ?_
    refine va_get (D := (dC, dI)) (ci := 4) (v := .ref (a 10)) (C := RX4) (T := TX4) (N := 8) hx hb hts hinX4 hown hK hP 0 rfl rfl 6 (by decide) (hts (Cond.fieldLink RX4 34 "LearnedShapes" "work" "LLearnedShapes$Tree;") (List.mem_of_getElem? (i := 1) rfl)) (fun _ h9 => h9) rfl dX4_isRefused_1 ?_
    refine va_get (D := (dC, dI)) (ci := 3) (v := .int (g_Tree_size (g_LS_work S))) (C := RX3) (T := TX3) (N := 3) hx hb hts hinX3 hown hK hP 10 rfl rfl 1 (by decide) (hts (Cond.fieldLink RX4 92 "LearnedShapes$Tree" "size" "I") (List.mem_of_getElem? (i := 2) rfl)) (fun _ h9 => h9) rfl dX4_isRefused_4 ?_
    refine lv_bipush (v := (30 : Int32)) hx hb dX4_isRefused_7 (by decide) ?_
    refine lv_icmp_gt (tgt := 31) hx hb dX4_isRefused_9 (by decide) (fun c1 => ?_) (fun c1 => ?_)
    · have hF := F_pos c1 hF
      refine lv_iconst (v := (1 : Int32)) hx hb dX4_isRefused_31 (by decide) ?_
      refine lv_goto (tgt := 36) hx hb dX4_isRefused_32 (by decide) ?_
      have e50 := Option.some.inj hF
      subst e50
      exact W.zret (v := (1 : Int32)) hx hb hr (rfl) (fun t ht hW => ⟨⟨(1 : Int32), (), rfl, rfl, by rw [ht]; exact hP, va_K.moved hW.alike hK, hD⟩, hS.F ht⟩) hS.2.2 dX4_isRefused_36
    · have hF := F_neg c1 hF
      refine lv_aload_n hx hb dX4_isRefused_12 rfl (lv_at hl 0 rfl) ?_
      refine va_get (D := (dC, dI)) (ci := 4) (v := .ref (a 5)) (C := RX4) (T := TX4) (N := 8) hx hb hts hinX4 hown hK hP 0 rfl rfl 3 (by decide) (hts (Cond.fieldLink RX4 23 "LearnedShapes" "now" "LLearnedShapes$State;") (List.mem_of_getElem? (i := 3) rfl)) (fun _ h9 => h9) rfl dX4_isRefused_13 ?_
      refine va_get (D := (dC, dI)) (ci := 2) (v := .int (g_State_setting (g_LS_now S))) (C := RX2) (T := TX2) (N := 3) hx hb hts hinX2 hown hK hP 5 rfl rfl 2 (by decide) (hts (Cond.fieldLink RX4 115 "LearnedShapes$State" "setting" "I") (List.mem_of_getElem? (i := 4) rfl)) (fun _ h9 => h9) rfl dX4_isRefused_16 ?_
      refine lv_iconst (v := (1 : Int32)) hx hb dX4_isRefused_19 (by decide) ?_
      refine lv_icmp_ne (tgt := 35) hx hb dX4_isRefused_20 (by decide) (fun c2 => ?_) (fun c2 => ?_)
      · have hF := F_neg c2 hF
        refine lv_iconst (v := (0 : Int32)) hx hb dX4_isRefused_35 (by decide) ?_
        have e50 := Option.some.inj hF
        subst e50
        exact W.zret (v := (0 : Int32)) hx hb hr (rfl) (fun t ht hW => ⟨⟨(0 : Int32), (), rfl, rfl, by rw [ht]; exact hP, va_K.moved hW.alike hK, hD⟩, hS.F ht⟩) hS.2.2 dX4_isRefused_36
      · have hF := F_pos c2 hF
        refine lv_aload_n hx hb dX4_isRefused_23 rfl (lv_at hl 0 rfl) ?_
        refine lv_aload_n hx hb dX4_isRefused_24 rfl (lv_at hl 1 rfl) ?_
        obtain ⟨r3, h4, hF⟩ := ob1_some hF
        have hPc : va_P (dC, dI) vwCl ((W_LS cI a S)) H := hP
        have hDc : va_D A ((W_LS cI a S)) := hD
        have hFc := jFreeW (ws := (W_LS cI a S)) hD hS hA
        refine va_calli (va_runV (As := [.ref (a 8)]) (rest := []) ⟨hx, hb, hml, hown, hts⟩ (c_X4_bringsAny_true l dC dI cI a H.size _ _ h4) (cwV 1 hts gX4_isRefused_X4_bringsAny rfl rfl rfl (by decide +kernel) ⟨Nat.le_of_ble_eq_true rfl, Nat.le_of_ble_eq_true rfl⟩) (jPreV hK hPc hDc hN (ci := 4) rfl rfl) rfl rfl hl.1 rfl (lv_room (Nat.le_of_ble_eq_true rfl)) dX4_isRefused_25 ⟨Nat.le_of_ble_eq_true rfl, Nat.le_of_ble_eq_true rfl⟩) hS (fun q _ h => hFc q h) hFc (fun r' u' t H locs ht hvm hw hB hz1 hk1 hS => ?_)
        subst hw
        obtain ⟨hP1, -, hD1⟩ := hB
        rw [ht] at hP1
        have hP : va_P (dC, dI) vwCl ((W_LS cI a S)) H := hP1
        have hD : va_D A ((W_LS cI a S)) := hD1.weaken (fun _ _ _ h => hFc _ h)
        refine lv_if_eq (tgt := 35) hx hb dX4_isRefused_28 (by decide) (fun c5 => ?_) (fun c5 => ?_)
        · have hF := F_pos c5 hF
          refine lv_iconst (v := (0 : Int32)) hx hb dX4_isRefused_35 (by decide) ?_
          have e50 := Option.some.inj hF
          subst e50
          exact W.zret (v := (0 : Int32)) hx hb hr (rfl) (fun t ht hW => ⟨⟨(0 : Int32), (), rfl, rfl, by rw [ht]; exact hP, va_K.moved hW.alike hK, hD⟩, hS.F ht⟩) hS.2.2 dX4_isRefused_36
        · have hF := F_neg c5 hF
          refine lv_iconst (v := (1 : Int32)) hx hb dX4_isRefused_31 (by decide) ?_
          refine lv_goto (tgt := 36) hx hb dX4_isRefused_32 (by decide) ?_
          have e50 := Option.some.inj hF
          subst e50
          exact W.zret (v := (1 : Int32)) hx hb hr (rfl) (fun t ht hW => ⟨⟨(1 : Int32), (), rfl, rfl, by rw [ht]; exact hP, va_K.moved hW.alike hK, hD⟩, hS.F ht⟩) hS.2.2 dX4_isRefused_36
  exact KE _ _ hP hD hS
set_option maxHeartbeats 4000000 in
set_option maxRecDepth 100000 in
theorem c_X4_outlookNumber_false (l : Launch) (dC : Nat → ClassId) (dI : Nat → Nat → Nat) (cI : ClassId) (a : Nat → Nat) (sz : Nat) (S : S_LS) (v2 : Int32) (rr : Int32) (hF : F_X4_outlookNumber S false v2 = some rr) : Met l yX4_outlookNumber wsX4_outlookNumber ({ frames := 3, cells := 0, slots := 0, locals := 68 } : Room) (va_Pc [.ref (a 0), .ref (a 6), .int v2] (jPre (dC, dI) [(cI, .int)] sz ((W_LS cI a S)))) (va_Qi (fun (r' : Int32) (_ : Unit) => rr = r') (fun _ : Unit => jB (dC, dI) [(cI, .int)] (va_A ((W_LS cI a S)) sz) ((W_LS cI a S))) (va_A ((W_LS cI a S)) sz)) 0 0 (va_A ((W_LS cI a S)) sz) := by
  refine Met.ofW (cc := cX4_outlookNumber) (maxL := 10) (ret := (some .int)) (by decide) rfl ?_
  intro p e s m args below meth c s₁ B hml hv
  obtain ⟨rfl, hsz, hP, hK, hD0, hN⟩ := hv
  have hx := B.exec
  have hb := B.bytes
  have hr := B.returns
  have hts := atoms_spec (ws := wsX4_outlookNumber) B.pre
  have hown : s.vm.findClass RX4 = some m.cls := findClass_of_methodNamed B.named
  have hlocks := B.notSynchronized
  have hinX3 : ∀ w ∈ u_ws RX3 TX3 3, w ∈ wsX4_outlookNumber := by decide +kernel
  have hinX4 : ∀ w ∈ u_ws RX4 TX4 8, w ∈ wsX4_outlookNumber := by decide +kernel
  subst hsz
  have hD := hD0.self (sz := s.heap.size)
  generalize hAe : (va_A ((W_LS cI a S)) s.heap.size) = A at hD ⊢
  have hA : ∀ q : Nat, s.heap.size ≤ q → A q := fun q h => by rw [← hAe]; exact Or.inr h
  have hS : va_S A s.heap s.heap [] := va_S.rf
  have hl := lv_entry ([.ref (a 0), .ref (a 6), .int v2]) (n := 10) (Nat.le_of_ble_eq_true rfl)
  rw [lg_entry_eq]
  generalize (lg_sl ([.ref (a 0), .ref (a 6), .int v2]) ++ List.replicate (10 - (lg_sl ([.ref (a 0), .ref (a 6), .int v2])).length) Slot.unset).toArray = ls at hl ⊢
  have hl : lv_has ls 10 [(0, .ref (a 0)), (1, .ref (a 6)), (2, .int v2)] := hl
  have K42 : ∀ (n42 : Nat) (x3 : Int32) (x4 : Int32) (x5 : Int32) (x6 : Int32) (H : Heap) (locs : List Loc), F_X4_outlookNumber_42 v2 S false n42 x3 x4 x5 x6 = some rr → va_P (dC, dI) vwCl ((W_LS cI a S)) H → va_D A ((W_LS cI a S)) → va_S A s.heap H locs → ∀ ls : Array Slot, lv_has ls 10 [(0, .ref (a 0)), (1, .ref (a 6)), (2, .int v2), (3, .int x3), (4, .int x4), (5, .int x5), (6, .int x6)] → W p l e (headSpec wsX4_outlookNumber ({ frames := 3, cells := 0, slots := 0, locals := 68 } : Room)).room s m ([.ref (a 0), .ref (a 6), .int v2] : List Value).toArray below meth c H locs 0 0 (MQ below (va_Qi (fun (r' : Int32) (_ : Unit) => rr = r') (fun _ : Unit => jB (dC, dI) [(cI, .int)] A ((W_LS cI a S))) A) ([.ref (a 0), .ref (a 6), .int v2] : List Value).toArray s 0 0 A) (F0 m 42 ls []) := by
    intro n42
    induction n42 with
    | zero => intro x3 x4 x5 x6 H locs hF; exact nomatch hF
    | succ n42 ih42 =>
      intro x3 x4 x5 x6 H locs hF hP hD hS ls hl
      rw [F_X4_outlookNumber_42_s] at hF
      have K119 : ∀ (x3 : Int32) (x5 : Int32) (x6 : Int32) (x8 : Int32) (x9 : Bool) (t0 : Int32) (t1 : Bool) (H : Heap) (locs : List Loc), F_X4_outlookNumber_119 v2 S false (F_X4_outlookNumber_42 v2 S false n42) x3 x5 x6 x8 x9 t0 t1 = some rr → va_P (dC, dI) vwCl ((W_LS cI a S)) H → va_D A ((W_LS cI a S)) → va_S A s.heap H locs → ∀ ls : Array Slot, lv_has ls 10 [(0, .ref (a 0)), (1, .ref (a 6)), (2, .int v2), (3, .int x3), (5, .int x5), (6, .int x6), (8, .int x8), (9, .int (b2i x9))] → W p l e (headSpec wsX4_outlookNumber ({ frames := 3, cells := 0, slots := 0, locals := 68 } : Room)).room s m ([.ref (a 0), .ref (a 6), .int v2] : List Value).toArray below meth c H locs 0 0 (MQ below (va_Qi (fun (r' : Int32) (_ : Unit) => rr = r') (fun _ : Unit => jB (dC, dI) [(cI, .int)] A ((W_LS cI a S))) A) ([.ref (a 0), .ref (a 6), .int v2] : List Value).toArray s 0 0 A) (F0 m 119 ls [.int (b2i t1), .int t0]) := by
        intro x3 x5 x6 x8 x9 t0 t1 H locs hF hP hD hS ls hl
        unfold F_X4_outlookNumber_119 at hF
        refine lv_iadd hx hb dX4_outlookNumber_119 ?_
        refine lv_istore (lv' := [(4, .int (t0 + (b2i t1))), (0, .ref (a 0)), (1, .ref (a 6)), (2, .int v2), (3, .int x3), (5, .int x5), (6, .int x6), (8, .int x8), (9, .int (b2i x9))]) hx hb dX4_outlookNumber_120 hl (by decide) rfl (fun ls hl => ?_)
        refine lv_iload hx hb dX4_outlookNumber_122 (lv_at hl 5 rfl) ?_
        refine lv_iload hx hb dX4_outlookNumber_124 (lv_at hl 8 rfl) ?_
        refine lv_if_eq (tgt := 140) hx hb dX4_outlookNumber_126 (by decide) (fun c1 => ?_) (fun c1 => ?_)
        · have hF := F_pos c1 hF
          refine lv_iconst (v := (0 : Int32)) hx hb dX4_outlookNumber_140 (by decide) ?_
          refine lv_iadd hx hb dX4_outlookNumber_141 ?_
          refine lv_istore (lv' := [(5, .int (x5 + (0 : Int32))), (4, .int (t0 + (b2i t1))), (0, .ref (a 0)), (1, .ref (a 6)), (2, .int v2), (3, .int x3), (6, .int x6), (8, .int x8), (9, .int (b2i x9))]) hx hb dX4_outlookNumber_142 hl (by decide) rfl (fun ls hl => ?_)
          refine lv_iinc (v := (x6 + (1 : Int32))) (lv' := [(6, .int (x6 + (1 : Int32))), (5, .int (x5 + (0 : Int32))), (4, .int (t0 + (b2i t1))), (0, .ref (a 0)), (1, .ref (a 6)), (2, .int v2), (3, .int x3), (8, .int x8), (9, .int (b2i x9))]) hx hb dX4_outlookNumber_144 hl (k := 6) rfl rfl (by decide) rfl (fun ls hl => ?_)
          refine lv_goto (tgt := 42) hx hb dX4_outlookNumber_147 (by decide) ?_
          exact ih42 _ _ _ _ _ _ hF hP hD hS _ (lv_sub hl [3, 4, 5, 6, 2, 1, 0] rfl)
        · have hF := F_neg c1 hF
          refine lv_iload hx hb dX4_outlookNumber_129 (lv_at hl 7 rfl) ?_
          refine lv_bipush (v := (7 : Int32)) hx hb dX4_outlookNumber_131 (by decide) ?_
          refine lv_icmp_ne (tgt := 140) hx hb dX4_outlookNumber_133 (by decide) (fun c2 => ?_) (fun c2 => ?_)
          · have hF := F_neg c2 hF
            refine lv_iconst (v := (0 : Int32)) hx hb dX4_outlookNumber_140 (by decide) ?_
            refine lv_iadd hx hb dX4_outlookNumber_141 ?_
            refine lv_istore (lv' := [(5, .int (x5 + (0 : Int32))), (4, .int (t0 + (b2i t1))), (0, .ref (a 0)), (1, .ref (a 6)), (2, .int v2), (3, .int x3), (6, .int x6), (8, .int x8), (9, .int (b2i x9))]) hx hb dX4_outlookNumber_142 hl (by decide) rfl (fun ls hl => ?_)
            refine lv_iinc (v := (x6 + (1 : Int32))) (lv' := [(6, .int (x6 + (1 : Int32))), (5, .int (x5 + (0 : Int32))), (4, .int (t0 + (b2i t1))), (0, .ref (a 0)), (1, .ref (a 6)), (2, .int v2), (3, .int x3), (8, .int x8), (9, .int (b2i x9))]) hx hb dX4_outlookNumber_144 hl (k := 6) rfl rfl (by decide) rfl (fun ls hl => ?_)
            refine lv_goto (tgt := 42) hx hb dX4_outlookNumber_147 (by decide) ?_
            exact ih42 _ _ _ _ _ _ hF hP hD hS _ (lv_sub hl [3, 4, 5, 6, 2, 1, 0] rfl)
          · have hF := F_pos c2 hF
            refine lv_iconst (v := (1 : Int32)) hx hb dX4_outlookNumber_136 (by decide) ?_
            refine lv_goto (tgt := 141) hx hb dX4_outlookNumber_137 (by decide) ?_
            refine lv_iadd hx hb dX4_outlookNumber_141 ?_
            refine lv_istore (lv' := [(5, .int (x5 + (1 : Int32))), (4, .int (t0 + (b2i t1))), (0, .ref (a 0)), (1, .ref (a 6)), (2, .int v2), (3, .int x3), (6, .int x6), (8, .int x8), (9, .int (b2i x9))]) hx hb dX4_outlookNumber_142 hl (by decide) rfl (fun ls hl => ?_)
            refine lv_iinc (v := (x6 + (1 : Int32))) (lv' := [(6, .int (x6 + (1 : Int32))), (5, .int (x5 + (1 : Int32))), (4, .int (t0 + (b2i t1))), (0, .ref (a 0)), (1, .ref (a 6)), (2, .int v2), (3, .int x3), (8, .int x8), (9, .int (b2i x9))]) hx hb dX4_outlookNumber_144 hl (k := 6) rfl rfl (by decide) rfl (fun ls hl => ?_)
            refine lv_goto (tgt := 42) hx hb dX4_outlookNumber_147 (by decide) ?_
            exact ih42 _ _ _ _ _ _ hF hP hD hS _ (lv_sub hl [3, 4, 5, 6, 2, 1, 0] rfl)
      refine lv_iload hx hb dX4_outlookNumber_42 (lv_at hl 6 rfl) ?_
      refine lv_aload_n hx hb dX4_outlookNumber_44 rfl (lv_at hl 0 rfl) ?_
      refine va_get (D := (dC, dI)) (ci := 4) (v := .ref (a 10)) (C := RX4) (T := TX4) (N := 8) hx hb hts hinX4 hown hK hP 0 rfl rfl 6 (by decide) (hts (Cond.fieldLink RX4 34 "LearnedShapes" "work" "LLearnedShapes$Tree;") (List.mem_of_getElem? (i := 1) rfl)) (fun _ h9 => h9) rfl dX4_outlookNumber_45 ?_
      refine va_get (D := (dC, dI)) (ci := 3) (v := .int (g_Tree_size (g_LS_work S))) (C := RX3) (T := TX3) (N := 3) hx hb hts hinX3 hown hK hP 10 rfl rfl 1 (by decide) (hts (Cond.fieldLink RX4 92 "LearnedShapes$Tree" "size" "I") (List.mem_of_getElem? (i := 2) rfl)) (fun _ h9 => h9) rfl dX4_outlookNumber_48 ?_
      refine lv_icmp_ge (tgt := 150) hx hb dX4_outlookNumber_51 (by decide) (fun c3 => ?_) (fun c3 => ?_)
      · have hF := F_pos c3 hF
        refine lv_iload_n hx hb dX4_outlookNumber_150 rfl (lv_at hl 2 rfl) ?_
        refine lv_iconst (v := (1 : Int32)) hx hb dX4_outlookNumber_151 (by decide) ?_
        refine lv_icmp_ne (tgt := 160) hx hb dX4_outlookNumber_152 (by decide) (fun c4 => ?_) (fun c4 => ?_)
        · have hF := F_neg c4 hF
          refine lv_iload_n hx hb dX4_outlookNumber_160 rfl (lv_at hl 2 rfl) ?_
          refine lv_iconst (v := (2 : Int32)) hx hb dX4_outlookNumber_161 (by decide) ?_
          refine lv_icmp_ne (tgt := 170) hx hb dX4_outlookNumber_162 (by decide) (fun c5 => ?_) (fun c5 => ?_)
          · have hF := F_neg c5 hF
            refine lv_aload_n hx hb dX4_outlookNumber_170 rfl (lv_at hl 1 rfl) ?_
            refine va_get (D := (dC, dI)) (ci := 3) (v := .int (g_Tree_size (g_State_tree false (g_LS_now S)))) (C := RX3) (T := TX3) (N := 3) hx hb hts hinX3 hown hK hP 6 rfl rfl 1 (by decide) (hts (Cond.fieldLink RX4 92 "LearnedShapes$Tree" "size" "I") (List.mem_of_getElem? (i := 2) rfl)) (fun _ h9 => h9) rfl dX4_outlookNumber_171 ?_
            refine lv_iload_n hx hb dX4_outlookNumber_174 rfl (lv_at hl 3 rfl) ?_
            refine lv_isub hx hb dX4_outlookNumber_175 ?_
            have e50 := Option.some.inj hF
            subst e50
            exact W.iret (v := ((g_Tree_size (g_State_tree false (g_LS_now S))) - x3)) hx hb hr (fun t ht hW => ⟨⟨((g_Tree_size (g_State_tree false (g_LS_now S))) - x3), (), rfl, rfl, by rw [ht]; exact hP, va_K.moved hW.alike hK, hD⟩, hS.F ht⟩) hS.2.2 dX4_outlookNumber_176
          · have hF := F_pos c5 hF
            refine lv_iload hx hb dX4_outlookNumber_165 (lv_at hl 5 rfl) ?_
            refine lv_goto (tgt := 176) hx hb dX4_outlookNumber_167 (by decide) ?_
            have e50 := Option.some.inj hF
            subst e50
            exact W.iret (v := x5) hx hb hr (fun t ht hW => ⟨⟨x5, (), rfl, rfl, by rw [ht]; exact hP, va_K.moved hW.alike hK, hD⟩, hS.F ht⟩) hS.2.2 dX4_outlookNumber_176
        · have hF := F_pos c4 hF
          refine lv_iload hx hb dX4_outlookNumber_155 (lv_at hl 4 rfl) ?_
          refine lv_goto (tgt := 176) hx hb dX4_outlookNumber_157 (by decide) ?_
          have e50 := Option.some.inj hF
          subst e50
          exact W.iret (v := x4) hx hb hr (fun t ht hW => ⟨⟨x4, (), rfl, rfl, by rw [ht]; exact hP, va_K.moved hW.alike hK, hD⟩, hS.F ht⟩) hS.2.2 dX4_outlookNumber_176
      · have hF := F_neg c3 hF
        refine lv_aload_n hx hb dX4_outlookNumber_54 rfl (lv_at hl 0 rfl) ?_
        refine va_get (D := (dC, dI)) (ci := 4) (v := .ref (a 10)) (C := RX4) (T := TX4) (N := 8) hx hb hts hinX4 hown hK hP 0 rfl rfl 6 (by decide) (hts (Cond.fieldLink RX4 34 "LearnedShapes" "work" "LLearnedShapes$Tree;") (List.mem_of_getElem? (i := 1) rfl)) (fun _ h9 => h9) rfl dX4_outlookNumber_55 ?_
        refine lv_iload hx hb dX4_outlookNumber_58 (lv_at hl 6 rfl) ?_
        refine lv_bipush (v := (7 : Int32)) hx hb dX4_outlookNumber_60 (by decide) ?_
        obtain ⟨r6, h7, hF⟩ := ob1_some hF
        have hPc := hP.sub (ws' := (W_Tree cI (sh a 10) (g_LS_work S))) [10, 11] rfl
        have hDc := hD.sub (ws' := (W_Tree cI (sh a 10) (g_LS_work S))) [10, 11] (by decide) rfl
        have hFc := va_free (wc := (W_Tree cI (sh a 10) (g_LS_work S))) hD hS hA [10, 11] rfl
        refine va_calli (va_runV (As := [.int x6, .int (7 : Int32)]) (rest := []) ⟨hx, hb, hml, hown, hts⟩ (c_X3_get l dC dI cI (sh a 10) H.size _ _ _ _ h7) (cwV 2 hts gX4_outlookNumber_X3_get rfl rfl rfl (by decide +kernel) ⟨Nat.le_of_ble_eq_true rfl, Nat.le_of_ble_eq_true rfl⟩) (jPreV hK hPc hDc hN (ci := 3) rfl rfl) rfl rfl hl.1 rfl (lv_room (Nat.le_of_ble_eq_true rfl)) dX4_outlookNumber_62 ⟨Nat.le_of_ble_eq_true rfl, Nat.le_of_ble_eq_true rfl⟩) hS (fun q _ h => hFc q h) hFc (fun r' u' t H locs ht hvm hw hB hz1 hk1 hS => ?_)
        subst hw
        obtain ⟨hP1, -, hD1⟩ := hB
        rw [ht] at hP1
        obtain ⟨hP, hD⟩ := jJoin (wc := (W_Tree cI (sh a 10) (g_LS_work S))) (w1 := (W_Tree cI (sh a 10) (g_LS_work S))) (ws' := (W_LS cI a S)) hP hD [10, 11] [0, 1, 2, 3, 4, 5, 6, 7, 8, 9, 12] [0, 1, 2, 3, 4, 5, 6, 7, 8, 9, 11, 12, 10] rfl rfl (by decide) (by decide) hk1 hFc hP1 hD1 (by decide) rfl
        refine lv_istore (lv' := [(7, .int r6), (0, .ref (a 0)), (1, .ref (a 6)), (2, .int v2), (3, .int x3), (4, .int x4), (5, .int x5), (6, .int x6)]) hx hb dX4_outlookNumber_65 hl (by decide) rfl (fun ls hl => ?_)
        refine lv_aload_n hx hb dX4_outlookNumber_67 rfl (lv_at hl 1 rfl) ?_
        refine va_get (D := (dC, dI)) (ci := 4) (v := .ref (a 10)) (C := RX4) (T := TX4) (N := 8) hx hb hts hinX4 hown hK hP 0 rfl rfl 6 (by decide) (hts (Cond.fieldLink RX4 34 "LearnedShapes" "work" "LLearnedShapes$Tree;") (List.mem_of_getElem? (i := 1) rfl)) (fun _ h9 => h9) rfl dX4_outlookNumber_68 ?_
        refine lv_iload hx hb dX4_outlookNumber_71 (lv_at hl 7 rfl) ?_
        refine lv_iconst (v := (0 : Int32)) hx hb dX4_outlookNumber_73 (by decide) ?_
        obtain ⟨r8, h9, hF⟩ := ob1_some hF
        have hPc := hP.sub (ws' := (W_Tree cI (sh a 10) (g_LS_work S))) [10, 11] rfl
        have hDc := hD.sub (ws' := (W_Tree cI (sh a 10) (g_LS_work S))) [10, 11] (by decide) rfl
        have hFc := va_free (wc := (W_Tree cI (sh a 10) (g_LS_work S))) hD hS hA [10, 11] rfl
        refine va_calli (va_runV (As := [.int x6, .int (0 : Int32)]) (rest := []) ⟨hx, hb, hml, hown, hts⟩ (c_X3_get l dC dI cI (sh a 10) H.size _ _ _ _ h9) (cwV 2 hts gX4_outlookNumber_X3_get rfl rfl rfl (by decide +kernel) ⟨Nat.le_of_ble_eq_true rfl, Nat.le_of_ble_eq_true rfl⟩) (jPreV hK hPc hDc hN (ci := 3) rfl rfl) rfl rfl hl.1 rfl (lv_room (Nat.le_of_ble_eq_true rfl)) dX4_outlookNumber_74 ⟨Nat.le_of_ble_eq_true rfl, Nat.le_of_ble_eq_true rfl⟩) hS (fun q _ h => hFc q h) hFc (fun r' u' t H locs ht hvm hw hB hz1 hk1 hS => ?_)
        subst hw
        obtain ⟨hP1, -, hD1⟩ := hB
        rw [ht] at hP1
        obtain ⟨hP, hD⟩ := jJoin (wc := (W_Tree cI (sh a 10) (g_LS_work S))) (w1 := (W_Tree cI (sh a 10) (g_LS_work S))) (ws' := (W_LS cI a S)) hP hD [10, 11] [0, 1, 2, 3, 4, 5, 6, 7, 8, 9, 12] [0, 1, 2, 3, 4, 5, 6, 7, 8, 9, 11, 12, 10] rfl rfl (by decide) (by decide) hk1 hFc hP1 hD1 (by decide) rfl
        refine lv_istore (lv' := [(8, .int r8), (7, .int r6), (0, .ref (a 0)), (1, .ref (a 6)), (2, .int v2), (3, .int x3), (4, .int x4), (5, .int x5), (6, .int x6)]) hx hb dX4_outlookNumber_77 hl (by decide) rfl (fun ls hl => ?_)
        refine lv_iload hx hb dX4_outlookNumber_79 (lv_at hl 1 rfl) ?_
        refine lv_iconst (v := (-1 : Int32)) hx hb dX4_outlookNumber_81 (by decide) ?_
        refine lv_icmp_eq (tgt := 144) hx hb dX4_outlookNumber_82 (by decide) (fun c10 => ?_) (fun c10 => ?_)
        · have hF := F_pos c10 hF
          refine lv_iinc (v := (x6 + (1 : Int32))) (lv' := [(6, .int (x6 + (1 : Int32))), (8, .int r8), (7, .int r6), (0, .ref (a 0)), (1, .ref (a 6)), (2, .int v2), (3, .int x3), (4, .int x4), (5, .int x5)]) hx hb dX4_outlookNumber_144 hl (k := 8) rfl rfl (by decide) rfl (fun ls hl => ?_)
          refine lv_goto (tgt := 42) hx hb dX4_outlookNumber_147 (by decide) ?_
          exact ih42 _ _ _ _ _ _ hF hP hD hS _ (lv_sub hl [3, 4, 5, 6, 7, 8, 0] rfl)
        · have hF := F_neg c10 hF
          refine lv_iinc (v := (x3 + (1 : Int32))) (lv' := [(3, .int (x3 + (1 : Int32))), (8, .int r8), (7, .int r6), (0, .ref (a 0)), (1, .ref (a 6)), (2, .int v2), (4, .int x4), (5, .int x5), (6, .int x6)]) hx hb dX4_outlookNumber_85 hl (k := 5) rfl rfl (by decide) rfl (fun ls hl => ?_)
          refine lv_iload hx hb dX4_outlookNumber_88 (lv_at hl 1 rfl) ?_
          refine lv_aload_n hx hb dX4_outlookNumber_90 rfl (lv_at hl 4 rfl) ?_
          refine lv_iload hx hb dX4_outlookNumber_91 (lv_at hl 2 rfl) ?_
          refine lv_iconst (v := (0 : Int32)) hx hb dX4_outlookNumber_93 (by decide) ?_
          obtain ⟨r11, h12, hF⟩ := ob1_some hF
          have hPc := hP.sub (ws' := (W_Tree cI (sh a 6) (g_State_tree false (g_LS_now S)))) [6, 7] rfl
          have hDc := hD.sub (ws' := (W_Tree cI (sh a 6) (g_State_tree false (g_LS_now S)))) [6, 7] (by decide) rfl
          have hFc := va_free (wc := (W_Tree cI (sh a 6) (g_State_tree false (g_LS_now S)))) hD hS hA [6, 7] rfl
          refine va_calli (va_runV (As := [.int r6, .int (0 : Int32)]) (rest := [.int r8]) ⟨hx, hb, hml, hown, hts⟩ (c_X3_get l dC dI cI (sh a 6) H.size _ _ _ _ h12) (cwV 2 hts gX4_outlookNumber_X3_get rfl rfl rfl (by decide +kernel) ⟨Nat.le_of_ble_eq_true rfl, Nat.le_of_ble_eq_true rfl⟩) (jPreV hK hPc hDc hN (ci := 3) rfl rfl) rfl rfl hl.1 rfl (lv_room (Nat.le_of_ble_eq_true rfl)) dX4_outlookNumber_94 ⟨Nat.le_of_ble_eq_true rfl, Nat.le_of_ble_eq_true rfl⟩) hS (fun q _ h => hFc q h) hFc (fun r' u' t H locs ht hvm hw hB hz1 hk1 hS => ?_)
          subst hw
          obtain ⟨hP1, -, hD1⟩ := hB
          rw [ht] at hP1
          obtain ⟨hP, hD⟩ := jJoin (wc := (W_Tree cI (sh a 6) (g_State_tree false (g_LS_now S)))) (w1 := (W_Tree cI (sh a 6) (g_State_tree false (g_LS_now S)))) (ws' := (W_LS cI a S)) hP hD [6, 7] [0, 1, 2, 3, 4, 5, 8, 9, 10, 11, 12] [0, 1, 2, 3, 4, 5, 11, 12, 6, 7, 8, 9, 10] rfl rfl (by decide) (by decide) hk1 hFc hP1 hD1 (by decide) rfl
          refine lv_icmp_eq (tgt := 104) hx hb dX4_outlookNumber_97 (by decide) (fun c13 => ?_) (fun c13 => ?_)
          · have hF := F_pos c13 hF
            refine lv_iconst (v := (0 : Int32)) hx hb dX4_outlookNumber_104 (by decide) ?_
            refine lv_istore (lv' := [(9, .int (0 : Int32)), (3, .int (x3 + (1 : Int32))), (8, .int r8), (7, .int r6), (0, .ref (a 0)), (1, .ref (a 6)), (2, .int v2), (4, .int x4), (5, .int x5), (6, .int x6)]) hx hb dX4_outlookNumber_105 hl (by decide) rfl (fun ls hl => ?_)
            refine lv_iload hx hb dX4_outlookNumber_107 (lv_at hl 7 rfl) ?_
            refine lv_iload hx hb dX4_outlookNumber_109 (lv_at hl 0 rfl) ?_
            refine lv_if_eq (tgt := 118) hx hb dX4_outlookNumber_111 (by decide) (fun _ => ?_) (fun c => absurd c (by decide))
            refine lv_iconst (v := (0 : Int32)) hx hb dX4_outlookNumber_118 (by decide) ?_
            exact K119 _ _ _ _ _ _ _ _ _ hF hP hD hS _ (lv_sub hl [4, 5, 6, 1, 8, 9, 2, 0] rfl)
          · have hF := F_neg c13 hF
            refine lv_iconst (v := (1 : Int32)) hx hb dX4_outlookNumber_100 (by decide) ?_
            refine lv_goto (tgt := 105) hx hb dX4_outlookNumber_101 (by decide) ?_
            refine lv_istore (lv' := [(9, .int (1 : Int32)), (3, .int (x3 + (1 : Int32))), (8, .int r8), (7, .int r6), (0, .ref (a 0)), (1, .ref (a 6)), (2, .int v2), (4, .int x4), (5, .int x5), (6, .int x6)]) hx hb dX4_outlookNumber_105 hl (by decide) rfl (fun ls hl => ?_)
            refine lv_iload hx hb dX4_outlookNumber_107 (lv_at hl 7 rfl) ?_
            refine lv_iload hx hb dX4_outlookNumber_109 (lv_at hl 0 rfl) ?_
            refine lv_if_eq (tgt := 118) hx hb dX4_outlookNumber_111 (by decide) (fun c => absurd c (by decide)) (fun _ => ?_)
            refine lv_iconst (v := (1 : Int32)) hx hb dX4_outlookNumber_114 (by decide) ?_
            refine lv_goto (tgt := 119) hx hb dX4_outlookNumber_115 (by decide) ?_
            exact K119 _ _ _ _ _ _ _ _ _ hF hP hD hS _ (lv_sub hl [4, 5, 6, 1, 8, 9, 2, 0] rfl)
  have KE : ∀ (H : Heap) (locs : List Loc), va_P (dC, dI) vwCl ((W_LS cI a S)) H → va_D A ((W_LS cI a S)) → va_S A s.heap H locs → W p l e (headSpec wsX4_outlookNumber ({ frames := 3, cells := 0, slots := 0, locals := 68 } : Room)).room s m ([.ref (a 0), .ref (a 6), .int v2] : List Value).toArray below meth c H locs 0 0 (MQ below (va_Qi (fun (r' : Int32) (_ : Unit) => rr = r') (fun _ : Unit => jB (dC, dI) [(cI, .int)] A ((W_LS cI a S))) A) ([.ref (a 0), .ref (a 6), .int v2] : List Value).toArray s 0 0 A) (F0 m 0 ls []) := by
    intro H locs hP hD hS
    unfold F_X4_outlookNumber at hF
    refine lv_iload_n hx hb dX4_outlookNumber_0 rfl (lv_at hl 2 rfl) ?_
    refine lv_if_ne (tgt := 12) hx hb dX4_outlookNumber_1 (by decide) (fun c14 => ?_) (fun c14 => ?_)
    · have hF := F_neg c14 hF
      refine lv_iload_n hx hb dX4_outlookNumber_12 rfl (lv_at hl 2 rfl) ?_
      refine lv_iconst (v := (4 : Int32)) hx hb dX4_outlookNumber_13 (by decide) ?_
      refine lv_icmp_ne (tgt := 31) hx hb dX4_outlookNumber_14 (by decide) (fun c15 => ?_) (fun c15 => ?_)
      · have hF := F_neg c15 hF
        refine lv_iconst (v := (0 : Int32)) hx hb dX4_outlookNumber_31 (by decide) ?_
        refine lv_istore_n (lv' := [(3, .int (0 : Int32)), (0, .ref (a 0)), (1, .ref (a 6)), (2, .int v2)]) hx hb dX4_outlookNumber_32 rfl hl (by decide) rfl (fun ls hl => ?_)
        refine lv_iconst (v := (0 : Int32)) hx hb dX4_outlookNumber_33 (by decide) ?_
        refine lv_istore (lv' := [(4, .int (0 : Int32)), (3, .int (0 : Int32)), (0, .ref (a 0)), (1, .ref (a 6)), (2, .int v2)]) hx hb dX4_outlookNumber_34 hl (by decide) rfl (fun ls hl => ?_)
        refine lv_iconst (v := (0 : Int32)) hx hb dX4_outlookNumber_36 (by decide) ?_
        refine lv_istore (lv' := [(5, .int (0 : Int32)), (4, .int (0 : Int32)), (3, .int (0 : Int32)), (0, .ref (a 0)), (1, .ref (a 6)), (2, .int v2)]) hx hb dX4_outlookNumber_37 hl (by decide) rfl (fun ls hl => ?_)
        refine lv_iconst (v := (0 : Int32)) hx hb dX4_outlookNumber_39 (by decide) ?_
        refine lv_istore (lv' := [(6, .int (0 : Int32)), (5, .int (0 : Int32)), (4, .int (0 : Int32)), (3, .int (0 : Int32)), (0, .ref (a 0)), (1, .ref (a 6)), (2, .int v2)]) hx hb dX4_outlookNumber_40 hl (by decide) rfl (fun ls hl => ?_)
        exact K42 _ _ _ _ _ _ _ hF hP hD hS _ (lv_sub hl [4, 5, 6, 3, 2, 1, 0] rfl)
      · have hF := F_pos c15 hF
        refine lv_aload_n hx hb dX4_outlookNumber_17 rfl (lv_at hl 0 rfl) ?_
        refine lv_aload_n hx hb dX4_outlookNumber_18 rfl (lv_at hl 1 rfl) ?_
        obtain ⟨r16, h17, hF⟩ := ob1_some hF
        have hPc : va_P (dC, dI) vwCl ((W_LS cI a S)) H := hP
        have hDc : va_D A ((W_LS cI a S)) := hD
        have hFc := jFreeW (ws := (W_LS cI a S)) hD hS hA
        refine va_calli (va_runV (As := [.ref (a 6)]) (rest := []) ⟨hx, hb, hml, hown, hts⟩ (c_X4_isRefused_false l dC dI cI a H.size _ _ h17) (cwV 1 hts gX4_outlookNumber_X4_isRefused rfl rfl rfl (by decide +kernel) ⟨Nat.le_of_ble_eq_true rfl, Nat.le_of_ble_eq_true rfl⟩) (jPreV hK hPc hDc hN (ci := 4) rfl rfl) rfl rfl hl.1 rfl (lv_room (Nat.le_of_ble_eq_true rfl)) dX4_outlookNumber_19 ⟨Nat.le_of_ble_eq_true rfl, Nat.le_of_ble_eq_true rfl⟩) hS (fun q _ h => hFc q h) hFc (fun r' u' t H locs ht hvm hw hB hz1 hk1 hS => ?_)
        subst hw
        obtain ⟨hP1, -, hD1⟩ := hB
        rw [ht] at hP1
        have hP : va_P (dC, dI) vwCl ((W_LS cI a S)) H := hP1
        have hD : va_D A ((W_LS cI a S)) := hD1.weaken (fun _ _ _ h => hFc _ h)
        refine lv_if_eq (tgt := 29) hx hb dX4_outlookNumber_22 (by decide) (fun c18 => ?_) (fun c18 => ?_)
        · have hF := F_pos c18 hF
          refine lv_iconst (v := (0 : Int32)) hx hb dX4_outlookNumber_29 (by decide) ?_
          have e50 := Option.some.inj hF
          subst e50
          exact W.iret (v := (0 : Int32)) hx hb hr (fun t ht hW => ⟨⟨(0 : Int32), (), rfl, rfl, by rw [ht]; exact hP, va_K.moved hW.alike hK, hD⟩, hS.F ht⟩) hS.2.2 dX4_outlookNumber_30
        · have hF := F_neg c18 hF
          refine lv_iconst (v := (1 : Int32)) hx hb dX4_outlookNumber_25 (by decide) ?_
          refine lv_goto (tgt := 30) hx hb dX4_outlookNumber_26 (by decide) ?_
          have e50 := Option.some.inj hF
          subst e50
          exact W.iret (v := (1 : Int32)) hx hb hr (fun t ht hW => ⟨⟨(1 : Int32), (), rfl, rfl, by rw [ht]; exact hP, va_K.moved hW.alike hK, hD⟩, hS.F ht⟩) hS.2.2 dX4_outlookNumber_30
    · have hF := F_pos c14 hF
      refine lv_aload_n hx hb dX4_outlookNumber_4 rfl (lv_at hl 0 rfl) ?_
      refine va_get (D := (dC, dI)) (ci := 4) (v := .ref (a 10)) (C := RX4) (T := TX4) (N := 8) hx hb hts hinX4 hown hK hP 0 rfl rfl 6 (by decide) (hts (Cond.fieldLink RX4 34 "LearnedShapes" "work" "LLearnedShapes$Tree;") (List.mem_of_getElem? (i := 1) rfl)) (fun _ h9 => h9) rfl dX4_outlookNumber_5 ?_
      refine va_get (D := (dC, dI)) (ci := 3) (v := .int (g_Tree_size (g_LS_work S))) (C := RX3) (T := TX3) (N := 3) hx hb hts hinX3 hown hK hP 10 rfl rfl 1 (by decide) (hts (Cond.fieldLink RX4 92 "LearnedShapes$Tree" "size" "I") (List.mem_of_getElem? (i := 2) rfl)) (fun _ h9 => h9) rfl dX4_outlookNumber_8 ?_
      have e50 := Option.some.inj hF
      subst e50
      exact W.iret (v := (g_Tree_size (g_LS_work S))) hx hb hr (fun t ht hW => ⟨⟨(g_Tree_size (g_LS_work S)), (), rfl, rfl, by rw [ht]; exact hP, va_K.moved hW.alike hK, hD⟩, hS.F ht⟩) hS.2.2 dX4_outlookNumber_11
  exact KE _ _ hP hD hS
set_option maxHeartbeats 4000000 in
set_option maxRecDepth 100000 in
theorem c_X4_outlookNumber_true (l : Launch) (dC : Nat → ClassId) (dI : Nat → Nat → Nat) (cI : ClassId) (a : Nat → Nat) (sz : Nat) (S : S_LS) (v2 : Int32) (rr : Int32) (hF : F_X4_outlookNumber S true v2 = some rr) : Met l yX4_outlookNumber wsX4_outlookNumber ({ frames := 3, cells := 0, slots := 0, locals := 68 } : Room) (va_Pc [.ref (a 0), .ref (a 8), .int v2] (jPre (dC, dI) [(cI, .int)] sz ((W_LS cI a S)))) (va_Qi (fun (r' : Int32) (_ : Unit) => rr = r') (fun _ : Unit => jB (dC, dI) [(cI, .int)] (va_A ((W_LS cI a S)) sz) ((W_LS cI a S))) (va_A ((W_LS cI a S)) sz)) 0 0 (va_A ((W_LS cI a S)) sz) := by
  refine Met.ofW (cc := cX4_outlookNumber) (maxL := 10) (ret := (some .int)) (by decide) rfl ?_
  intro p e s m args below meth c s₁ B hml hv
  obtain ⟨rfl, hsz, hP, hK, hD0, hN⟩ := hv
  have hx := B.exec
  have hb := B.bytes
  have hr := B.returns
  have hts := atoms_spec (ws := wsX4_outlookNumber) B.pre
  have hown : s.vm.findClass RX4 = some m.cls := findClass_of_methodNamed B.named
  have hlocks := B.notSynchronized
  have hinX3 : ∀ w ∈ u_ws RX3 TX3 3, w ∈ wsX4_outlookNumber := by decide +kernel
  have hinX4 : ∀ w ∈ u_ws RX4 TX4 8, w ∈ wsX4_outlookNumber := by decide +kernel
  subst hsz
  have hD := hD0.self (sz := s.heap.size)
  generalize hAe : (va_A ((W_LS cI a S)) s.heap.size) = A at hD ⊢
  have hA : ∀ q : Nat, s.heap.size ≤ q → A q := fun q h => by rw [← hAe]; exact Or.inr h
  have hS : va_S A s.heap s.heap [] := va_S.rf
  have hl := lv_entry ([.ref (a 0), .ref (a 8), .int v2]) (n := 10) (Nat.le_of_ble_eq_true rfl)
  rw [lg_entry_eq]
  generalize (lg_sl ([.ref (a 0), .ref (a 8), .int v2]) ++ List.replicate (10 - (lg_sl ([.ref (a 0), .ref (a 8), .int v2])).length) Slot.unset).toArray = ls at hl ⊢
  have hl : lv_has ls 10 [(0, .ref (a 0)), (1, .ref (a 8)), (2, .int v2)] := hl
  have K42 : ∀ (n42 : Nat) (x3 : Int32) (x4 : Int32) (x5 : Int32) (x6 : Int32) (H : Heap) (locs : List Loc), F_X4_outlookNumber_42 v2 S true n42 x3 x4 x5 x6 = some rr → va_P (dC, dI) vwCl ((W_LS cI a S)) H → va_D A ((W_LS cI a S)) → va_S A s.heap H locs → ∀ ls : Array Slot, lv_has ls 10 [(0, .ref (a 0)), (1, .ref (a 8)), (2, .int v2), (3, .int x3), (4, .int x4), (5, .int x5), (6, .int x6)] → W p l e (headSpec wsX4_outlookNumber ({ frames := 3, cells := 0, slots := 0, locals := 68 } : Room)).room s m ([.ref (a 0), .ref (a 8), .int v2] : List Value).toArray below meth c H locs 0 0 (MQ below (va_Qi (fun (r' : Int32) (_ : Unit) => rr = r') (fun _ : Unit => jB (dC, dI) [(cI, .int)] A ((W_LS cI a S))) A) ([.ref (a 0), .ref (a 8), .int v2] : List Value).toArray s 0 0 A) (F0 m 42 ls []) := by
    intro n42
    induction n42 with
    | zero => intro x3 x4 x5 x6 H locs hF; exact nomatch hF
    | succ n42 ih42 =>
      intro x3 x4 x5 x6 H locs hF hP hD hS ls hl
      rw [F_X4_outlookNumber_42_s] at hF
      have K119 : ∀ (x3 : Int32) (x5 : Int32) (x6 : Int32) (x8 : Int32) (x9 : Bool) (t0 : Int32) (t1 : Bool) (H : Heap) (locs : List Loc), F_X4_outlookNumber_119 v2 S true (F_X4_outlookNumber_42 v2 S true n42) x3 x5 x6 x8 x9 t0 t1 = some rr → va_P (dC, dI) vwCl ((W_LS cI a S)) H → va_D A ((W_LS cI a S)) → va_S A s.heap H locs → ∀ ls : Array Slot, lv_has ls 10 [(0, .ref (a 0)), (1, .ref (a 8)), (2, .int v2), (3, .int x3), (5, .int x5), (6, .int x6), (8, .int x8), (9, .int (b2i x9))] → W p l e (headSpec wsX4_outlookNumber ({ frames := 3, cells := 0, slots := 0, locals := 68 } : Room)).room s m ([.ref (a 0), .ref (a 8), .int v2] : List Value).toArray below meth c H locs 0 0 (MQ below (va_Qi (fun (r' : Int32) (_ : Unit) => rr = r') (fun _ : Unit => jB (dC, dI) [(cI, .int)] A ((W_LS cI a S))) A) ([.ref (a 0), .ref (a 8), .int v2] : List Value).toArray s 0 0 A) (F0 m 119 ls [.int (b2i t1), .int t0]) := by
        intro x3 x5 x6 x8 x9 t0 t1 H locs hF hP hD hS ls hl
        unfold F_X4_outlookNumber_119 at hF
        refine lv_iadd hx hb dX4_outlookNumber_119 ?_
        refine lv_istore (lv' := [(4, .int (t0 + (b2i t1))), (0, .ref (a 0)), (1, .ref (a 8)), (2, .int v2), (3, .int x3), (5, .int x5), (6, .int x6), (8, .int x8), (9, .int (b2i x9))]) hx hb dX4_outlookNumber_120 hl (by decide) rfl (fun ls hl => ?_)
        refine lv_iload hx hb dX4_outlookNumber_122 (lv_at hl 5 rfl) ?_
        refine lv_iload hx hb dX4_outlookNumber_124 (lv_at hl 8 rfl) ?_
        refine lv_if_eq (tgt := 140) hx hb dX4_outlookNumber_126 (by decide) (fun c1 => ?_) (fun c1 => ?_)
        · have hF := F_pos c1 hF
          refine lv_iconst (v := (0 : Int32)) hx hb dX4_outlookNumber_140 (by decide) ?_
          refine lv_iadd hx hb dX4_outlookNumber_141 ?_
          refine lv_istore (lv' := [(5, .int (x5 + (0 : Int32))), (4, .int (t0 + (b2i t1))), (0, .ref (a 0)), (1, .ref (a 8)), (2, .int v2), (3, .int x3), (6, .int x6), (8, .int x8), (9, .int (b2i x9))]) hx hb dX4_outlookNumber_142 hl (by decide) rfl (fun ls hl => ?_)
          refine lv_iinc (v := (x6 + (1 : Int32))) (lv' := [(6, .int (x6 + (1 : Int32))), (5, .int (x5 + (0 : Int32))), (4, .int (t0 + (b2i t1))), (0, .ref (a 0)), (1, .ref (a 8)), (2, .int v2), (3, .int x3), (8, .int x8), (9, .int (b2i x9))]) hx hb dX4_outlookNumber_144 hl (k := 6) rfl rfl (by decide) rfl (fun ls hl => ?_)
          refine lv_goto (tgt := 42) hx hb dX4_outlookNumber_147 (by decide) ?_
          exact ih42 _ _ _ _ _ _ hF hP hD hS _ (lv_sub hl [3, 4, 5, 6, 2, 1, 0] rfl)
        · have hF := F_neg c1 hF
          refine lv_iload hx hb dX4_outlookNumber_129 (lv_at hl 7 rfl) ?_
          refine lv_bipush (v := (7 : Int32)) hx hb dX4_outlookNumber_131 (by decide) ?_
          refine lv_icmp_ne (tgt := 140) hx hb dX4_outlookNumber_133 (by decide) (fun c2 => ?_) (fun c2 => ?_)
          · have hF := F_neg c2 hF
            refine lv_iconst (v := (0 : Int32)) hx hb dX4_outlookNumber_140 (by decide) ?_
            refine lv_iadd hx hb dX4_outlookNumber_141 ?_
            refine lv_istore (lv' := [(5, .int (x5 + (0 : Int32))), (4, .int (t0 + (b2i t1))), (0, .ref (a 0)), (1, .ref (a 8)), (2, .int v2), (3, .int x3), (6, .int x6), (8, .int x8), (9, .int (b2i x9))]) hx hb dX4_outlookNumber_142 hl (by decide) rfl (fun ls hl => ?_)
            refine lv_iinc (v := (x6 + (1 : Int32))) (lv' := [(6, .int (x6 + (1 : Int32))), (5, .int (x5 + (0 : Int32))), (4, .int (t0 + (b2i t1))), (0, .ref (a 0)), (1, .ref (a 8)), (2, .int v2), (3, .int x3), (8, .int x8), (9, .int (b2i x9))]) hx hb dX4_outlookNumber_144 hl (k := 6) rfl rfl (by decide) rfl (fun ls hl => ?_)
            refine lv_goto (tgt := 42) hx hb dX4_outlookNumber_147 (by decide) ?_
            exact ih42 _ _ _ _ _ _ hF hP hD hS _ (lv_sub hl [3, 4, 5, 6, 2, 1, 0] rfl)
          · have hF := F_pos c2 hF
            refine lv_iconst (v := (1 : Int32)) hx hb dX4_outlookNumber_136 (by decide) ?_
            refine lv_goto (tgt := 141) hx hb dX4_outlookNumber_137 (by decide) ?_
            refine lv_iadd hx hb dX4_outlookNumber_141 ?_
            refine lv_istore (lv' := [(5, .int (x5 + (1 : Int32))), (4, .int (t0 + (b2i t1))), (0, .ref (a 0)), (1, .ref (a 8)), (2, .int v2), (3, .int x3), (6, .int x6), (8, .int x8), (9, .int (b2i x9))]) hx hb dX4_outlookNumber_142 hl (by decide) rfl (fun ls hl => ?_)
            refine lv_iinc (v := (x6 + (1 : Int32))) (lv' := [(6, .int (x6 + (1 : Int32))), (5, .int (x5 + (1 : Int32))), (4, .int (t0 + (b2i t1))), (0, .ref (a 0)), (1, .ref (a 8)), (2, .int v2), (3, .int x3), (8, .int x8), (9, .int (b2i x9))]) hx hb dX4_outlookNumber_144 hl (k := 6) rfl rfl (by decide) rfl (fun ls hl => ?_)
            refine lv_goto (tgt := 42) hx hb dX4_outlookNumber_147 (by decide) ?_
            exact ih42 _ _ _ _ _ _ hF hP hD hS _ (lv_sub hl [3, 4, 5, 6, 2, 1, 0] rfl)
      refine lv_iload hx hb dX4_outlookNumber_42 (lv_at hl 6 rfl) ?_
      refine lv_aload_n hx hb dX4_outlookNumber_44 rfl (lv_at hl 0 rfl) ?_
      refine va_get (D := (dC, dI)) (ci := 4) (v := .ref (a 10)) (C := RX4) (T := TX4) (N := 8) hx hb hts hinX4 hown hK hP 0 rfl rfl 6 (by decide) (hts (Cond.fieldLink RX4 34 "LearnedShapes" "work" "LLearnedShapes$Tree;") (List.mem_of_getElem? (i := 1) rfl)) (fun _ h9 => h9) rfl dX4_outlookNumber_45 ?_
      refine va_get (D := (dC, dI)) (ci := 3) (v := .int (g_Tree_size (g_LS_work S))) (C := RX3) (T := TX3) (N := 3) hx hb hts hinX3 hown hK hP 10 rfl rfl 1 (by decide) (hts (Cond.fieldLink RX4 92 "LearnedShapes$Tree" "size" "I") (List.mem_of_getElem? (i := 2) rfl)) (fun _ h9 => h9) rfl dX4_outlookNumber_48 ?_
      refine lv_icmp_ge (tgt := 150) hx hb dX4_outlookNumber_51 (by decide) (fun c3 => ?_) (fun c3 => ?_)
      · have hF := F_pos c3 hF
        refine lv_iload_n hx hb dX4_outlookNumber_150 rfl (lv_at hl 2 rfl) ?_
        refine lv_iconst (v := (1 : Int32)) hx hb dX4_outlookNumber_151 (by decide) ?_
        refine lv_icmp_ne (tgt := 160) hx hb dX4_outlookNumber_152 (by decide) (fun c4 => ?_) (fun c4 => ?_)
        · have hF := F_neg c4 hF
          refine lv_iload_n hx hb dX4_outlookNumber_160 rfl (lv_at hl 2 rfl) ?_
          refine lv_iconst (v := (2 : Int32)) hx hb dX4_outlookNumber_161 (by decide) ?_
          refine lv_icmp_ne (tgt := 170) hx hb dX4_outlookNumber_162 (by decide) (fun c5 => ?_) (fun c5 => ?_)
          · have hF := F_neg c5 hF
            refine lv_aload_n hx hb dX4_outlookNumber_170 rfl (lv_at hl 1 rfl) ?_
            refine va_get (D := (dC, dI)) (ci := 3) (v := .int (g_Tree_size (g_State_tree true (g_LS_now S)))) (C := RX3) (T := TX3) (N := 3) hx hb hts hinX3 hown hK hP 8 rfl rfl 1 (by decide) (hts (Cond.fieldLink RX4 92 "LearnedShapes$Tree" "size" "I") (List.mem_of_getElem? (i := 2) rfl)) (fun _ h9 => h9) rfl dX4_outlookNumber_171 ?_
            refine lv_iload_n hx hb dX4_outlookNumber_174 rfl (lv_at hl 3 rfl) ?_
            refine lv_isub hx hb dX4_outlookNumber_175 ?_
            have e50 := Option.some.inj hF
            subst e50
            exact W.iret (v := ((g_Tree_size (g_State_tree true (g_LS_now S))) - x3)) hx hb hr (fun t ht hW => ⟨⟨((g_Tree_size (g_State_tree true (g_LS_now S))) - x3), (), rfl, rfl, by rw [ht]; exact hP, va_K.moved hW.alike hK, hD⟩, hS.F ht⟩) hS.2.2 dX4_outlookNumber_176
          · have hF := F_pos c5 hF
            refine lv_iload hx hb dX4_outlookNumber_165 (lv_at hl 5 rfl) ?_
            refine lv_goto (tgt := 176) hx hb dX4_outlookNumber_167 (by decide) ?_
            have e50 := Option.some.inj hF
            subst e50
            exact W.iret (v := x5) hx hb hr (fun t ht hW => ⟨⟨x5, (), rfl, rfl, by rw [ht]; exact hP, va_K.moved hW.alike hK, hD⟩, hS.F ht⟩) hS.2.2 dX4_outlookNumber_176
        · have hF := F_pos c4 hF
          refine lv_iload hx hb dX4_outlookNumber_155 (lv_at hl 4 rfl) ?_
          refine lv_goto (tgt := 176) hx hb dX4_outlookNumber_157 (by decide) ?_
          have e50 := Option.some.inj hF
          subst e50
          exact W.iret (v := x4) hx hb hr (fun t ht hW => ⟨⟨x4, (), rfl, rfl, by rw [ht]; exact hP, va_K.moved hW.alike hK, hD⟩, hS.F ht⟩) hS.2.2 dX4_outlookNumber_176
      · have hF := F_neg c3 hF
        refine lv_aload_n hx hb dX4_outlookNumber_54 rfl (lv_at hl 0 rfl) ?_
        refine va_get (D := (dC, dI)) (ci := 4) (v := .ref (a 10)) (C := RX4) (T := TX4) (N := 8) hx hb hts hinX4 hown hK hP 0 rfl rfl 6 (by decide) (hts (Cond.fieldLink RX4 34 "LearnedShapes" "work" "LLearnedShapes$Tree;") (List.mem_of_getElem? (i := 1) rfl)) (fun _ h9 => h9) rfl dX4_outlookNumber_55 ?_
        refine lv_iload hx hb dX4_outlookNumber_58 (lv_at hl 6 rfl) ?_
        refine lv_bipush (v := (7 : Int32)) hx hb dX4_outlookNumber_60 (by decide) ?_
        obtain ⟨r6, h7, hF⟩ := ob1_some hF
        have hPc := hP.sub (ws' := (W_Tree cI (sh a 10) (g_LS_work S))) [10, 11] rfl
        have hDc := hD.sub (ws' := (W_Tree cI (sh a 10) (g_LS_work S))) [10, 11] (by decide) rfl
        have hFc := va_free (wc := (W_Tree cI (sh a 10) (g_LS_work S))) hD hS hA [10, 11] rfl
        refine va_calli (va_runV (As := [.int x6, .int (7 : Int32)]) (rest := []) ⟨hx, hb, hml, hown, hts⟩ (c_X3_get l dC dI cI (sh a 10) H.size _ _ _ _ h7) (cwV 2 hts gX4_outlookNumber_X3_get rfl rfl rfl (by decide +kernel) ⟨Nat.le_of_ble_eq_true rfl, Nat.le_of_ble_eq_true rfl⟩) (jPreV hK hPc hDc hN (ci := 3) rfl rfl) rfl rfl hl.1 rfl (lv_room (Nat.le_of_ble_eq_true rfl)) dX4_outlookNumber_62 ⟨Nat.le_of_ble_eq_true rfl, Nat.le_of_ble_eq_true rfl⟩) hS (fun q _ h => hFc q h) hFc (fun r' u' t H locs ht hvm hw hB hz1 hk1 hS => ?_)
        subst hw
        obtain ⟨hP1, -, hD1⟩ := hB
        rw [ht] at hP1
        obtain ⟨hP, hD⟩ := jJoin (wc := (W_Tree cI (sh a 10) (g_LS_work S))) (w1 := (W_Tree cI (sh a 10) (g_LS_work S))) (ws' := (W_LS cI a S)) hP hD [10, 11] [0, 1, 2, 3, 4, 5, 6, 7, 8, 9, 12] [0, 1, 2, 3, 4, 5, 6, 7, 8, 9, 11, 12, 10] rfl rfl (by decide) (by decide) hk1 hFc hP1 hD1 (by decide) rfl
        refine lv_istore (lv' := [(7, .int r6), (0, .ref (a 0)), (1, .ref (a 8)), (2, .int v2), (3, .int x3), (4, .int x4), (5, .int x5), (6, .int x6)]) hx hb dX4_outlookNumber_65 hl (by decide) rfl (fun ls hl => ?_)
        refine lv_aload_n hx hb dX4_outlookNumber_67 rfl (lv_at hl 1 rfl) ?_
        refine va_get (D := (dC, dI)) (ci := 4) (v := .ref (a 10)) (C := RX4) (T := TX4) (N := 8) hx hb hts hinX4 hown hK hP 0 rfl rfl 6 (by decide) (hts (Cond.fieldLink RX4 34 "LearnedShapes" "work" "LLearnedShapes$Tree;") (List.mem_of_getElem? (i := 1) rfl)) (fun _ h9 => h9) rfl dX4_outlookNumber_68 ?_
        refine lv_iload hx hb dX4_outlookNumber_71 (lv_at hl 7 rfl) ?_
        refine lv_iconst (v := (0 : Int32)) hx hb dX4_outlookNumber_73 (by decide) ?_
        obtain ⟨r8, h9, hF⟩ := ob1_some hF
        have hPc := hP.sub (ws' := (W_Tree cI (sh a 10) (g_LS_work S))) [10, 11] rfl
        have hDc := hD.sub (ws' := (W_Tree cI (sh a 10) (g_LS_work S))) [10, 11] (by decide) rfl
        have hFc := va_free (wc := (W_Tree cI (sh a 10) (g_LS_work S))) hD hS hA [10, 11] rfl
        refine va_calli (va_runV (As := [.int x6, .int (0 : Int32)]) (rest := []) ⟨hx, hb, hml, hown, hts⟩ (c_X3_get l dC dI cI (sh a 10) H.size _ _ _ _ h9) (cwV 2 hts gX4_outlookNumber_X3_get rfl rfl rfl (by decide +kernel) ⟨Nat.le_of_ble_eq_true rfl, Nat.le_of_ble_eq_true rfl⟩) (jPreV hK hPc hDc hN (ci := 3) rfl rfl) rfl rfl hl.1 rfl (lv_room (Nat.le_of_ble_eq_true rfl)) dX4_outlookNumber_74 ⟨Nat.le_of_ble_eq_true rfl, Nat.le_of_ble_eq_true rfl⟩) hS (fun q _ h => hFc q h) hFc (fun r' u' t H locs ht hvm hw hB hz1 hk1 hS => ?_)
        subst hw
        obtain ⟨hP1, -, hD1⟩ := hB
        rw [ht] at hP1
        obtain ⟨hP, hD⟩ := jJoin (wc := (W_Tree cI (sh a 10) (g_LS_work S))) (w1 := (W_Tree cI (sh a 10) (g_LS_work S))) (ws' := (W_LS cI a S)) hP hD [10, 11] [0, 1, 2, 3, 4, 5, 6, 7, 8, 9, 12] [0, 1, 2, 3, 4, 5, 6, 7, 8, 9, 11, 12, 10] rfl rfl (by decide) (by decide) hk1 hFc hP1 hD1 (by decide) rfl
        refine lv_istore (lv' := [(8, .int r8), (7, .int r6), (0, .ref (a 0)), (1, .ref (a 8)), (2, .int v2), (3, .int x3), (4, .int x4), (5, .int x5), (6, .int x6)]) hx hb dX4_outlookNumber_77 hl (by decide) rfl (fun ls hl => ?_)
        refine lv_iload hx hb dX4_outlookNumber_79 (lv_at hl 1 rfl) ?_
        refine lv_iconst (v := (-1 : Int32)) hx hb dX4_outlookNumber_81 (by decide) ?_
        refine lv_icmp_eq (tgt := 144) hx hb dX4_outlookNumber_82 (by decide) (fun c10 => ?_) (fun c10 => ?_)
        · have hF := F_pos c10 hF
          refine lv_iinc (v := (x6 + (1 : Int32))) (lv' := [(6, .int (x6 + (1 : Int32))), (8, .int r8), (7, .int r6), (0, .ref (a 0)), (1, .ref (a 8)), (2, .int v2), (3, .int x3), (4, .int x4), (5, .int x5)]) hx hb dX4_outlookNumber_144 hl (k := 8) rfl rfl (by decide) rfl (fun ls hl => ?_)
          refine lv_goto (tgt := 42) hx hb dX4_outlookNumber_147 (by decide) ?_
          exact ih42 _ _ _ _ _ _ hF hP hD hS _ (lv_sub hl [3, 4, 5, 6, 7, 8, 0] rfl)
        · have hF := F_neg c10 hF
          refine lv_iinc (v := (x3 + (1 : Int32))) (lv' := [(3, .int (x3 + (1 : Int32))), (8, .int r8), (7, .int r6), (0, .ref (a 0)), (1, .ref (a 8)), (2, .int v2), (4, .int x4), (5, .int x5), (6, .int x6)]) hx hb dX4_outlookNumber_85 hl (k := 5) rfl rfl (by decide) rfl (fun ls hl => ?_)
          refine lv_iload hx hb dX4_outlookNumber_88 (lv_at hl 1 rfl) ?_
          refine lv_aload_n hx hb dX4_outlookNumber_90 rfl (lv_at hl 4 rfl) ?_
          refine lv_iload hx hb dX4_outlookNumber_91 (lv_at hl 2 rfl) ?_
          refine lv_iconst (v := (0 : Int32)) hx hb dX4_outlookNumber_93 (by decide) ?_
          obtain ⟨r11, h12, hF⟩ := ob1_some hF
          have hPc := hP.sub (ws' := (W_Tree cI (sh a 8) (g_State_tree true (g_LS_now S)))) [8, 9] rfl
          have hDc := hD.sub (ws' := (W_Tree cI (sh a 8) (g_State_tree true (g_LS_now S)))) [8, 9] (by decide) rfl
          have hFc := va_free (wc := (W_Tree cI (sh a 8) (g_State_tree true (g_LS_now S)))) hD hS hA [8, 9] rfl
          refine va_calli (va_runV (As := [.int r6, .int (0 : Int32)]) (rest := [.int r8]) ⟨hx, hb, hml, hown, hts⟩ (c_X3_get l dC dI cI (sh a 8) H.size _ _ _ _ h12) (cwV 2 hts gX4_outlookNumber_X3_get rfl rfl rfl (by decide +kernel) ⟨Nat.le_of_ble_eq_true rfl, Nat.le_of_ble_eq_true rfl⟩) (jPreV hK hPc hDc hN (ci := 3) rfl rfl) rfl rfl hl.1 rfl (lv_room (Nat.le_of_ble_eq_true rfl)) dX4_outlookNumber_94 ⟨Nat.le_of_ble_eq_true rfl, Nat.le_of_ble_eq_true rfl⟩) hS (fun q _ h => hFc q h) hFc (fun r' u' t H locs ht hvm hw hB hz1 hk1 hS => ?_)
          subst hw
          obtain ⟨hP1, -, hD1⟩ := hB
          rw [ht] at hP1
          obtain ⟨hP, hD⟩ := jJoin (wc := (W_Tree cI (sh a 8) (g_State_tree true (g_LS_now S)))) (w1 := (W_Tree cI (sh a 8) (g_State_tree true (g_LS_now S)))) (ws' := (W_LS cI a S)) hP hD [8, 9] [0, 1, 2, 3, 4, 5, 6, 7, 10, 11, 12] [0, 1, 2, 3, 4, 5, 6, 7, 11, 12, 8, 9, 10] rfl rfl (by decide) (by decide) hk1 hFc hP1 hD1 (by decide) rfl
          refine lv_icmp_eq (tgt := 104) hx hb dX4_outlookNumber_97 (by decide) (fun c13 => ?_) (fun c13 => ?_)
          · have hF := F_pos c13 hF
            refine lv_iconst (v := (0 : Int32)) hx hb dX4_outlookNumber_104 (by decide) ?_
            refine lv_istore (lv' := [(9, .int (0 : Int32)), (3, .int (x3 + (1 : Int32))), (8, .int r8), (7, .int r6), (0, .ref (a 0)), (1, .ref (a 8)), (2, .int v2), (4, .int x4), (5, .int x5), (6, .int x6)]) hx hb dX4_outlookNumber_105 hl (by decide) rfl (fun ls hl => ?_)
            refine lv_iload hx hb dX4_outlookNumber_107 (lv_at hl 7 rfl) ?_
            refine lv_iload hx hb dX4_outlookNumber_109 (lv_at hl 0 rfl) ?_
            refine lv_if_eq (tgt := 118) hx hb dX4_outlookNumber_111 (by decide) (fun _ => ?_) (fun c => absurd c (by decide))
            refine lv_iconst (v := (0 : Int32)) hx hb dX4_outlookNumber_118 (by decide) ?_
            exact K119 _ _ _ _ _ _ _ _ _ hF hP hD hS _ (lv_sub hl [4, 5, 6, 1, 8, 9, 2, 0] rfl)
          · have hF := F_neg c13 hF
            refine lv_iconst (v := (1 : Int32)) hx hb dX4_outlookNumber_100 (by decide) ?_
            refine lv_goto (tgt := 105) hx hb dX4_outlookNumber_101 (by decide) ?_
            refine lv_istore (lv' := [(9, .int (1 : Int32)), (3, .int (x3 + (1 : Int32))), (8, .int r8), (7, .int r6), (0, .ref (a 0)), (1, .ref (a 8)), (2, .int v2), (4, .int x4), (5, .int x5), (6, .int x6)]) hx hb dX4_outlookNumber_105 hl (by decide) rfl (fun ls hl => ?_)
            refine lv_iload hx hb dX4_outlookNumber_107 (lv_at hl 7 rfl) ?_
            refine lv_iload hx hb dX4_outlookNumber_109 (lv_at hl 0 rfl) ?_
            refine lv_if_eq (tgt := 118) hx hb dX4_outlookNumber_111 (by decide) (fun c => absurd c (by decide)) (fun _ => ?_)
            refine lv_iconst (v := (1 : Int32)) hx hb dX4_outlookNumber_114 (by decide) ?_
            refine lv_goto (tgt := 119) hx hb dX4_outlookNumber_115 (by decide) ?_
            exact K119 _ _ _ _ _ _ _ _ _ hF hP hD hS _ (lv_sub hl [4, 5, 6, 1, 8, 9, 2, 0] rfl)
  have KE : ∀ (H : Heap) (locs : List Loc), va_P (dC, dI) vwCl ((W_LS cI a S)) H → va_D A ((W_LS cI a S)) → va_S A s.heap H locs → W p l e (headSpec wsX4_outlookNumber ({ frames := 3, cells := 0, slots := 0, locals := 68 } : Room)).room s m ([.ref (a 0), .ref (a 8), .int v2] : List Value).toArray below meth c H locs 0 0 (MQ below (va_Qi (fun (r' : Int32) (_ : Unit) => rr = r') (fun _ : Unit => jB (dC, dI) [(cI, .int)] A ((W_LS cI a S))) A) ([.ref (a 0), .ref (a 8), .int v2] : List Value).toArray s 0 0 A) (F0 m 0 ls []) := by
    intro H locs hP hD hS
    unfold F_X4_outlookNumber at hF
    refine lv_iload_n hx hb dX4_outlookNumber_0 rfl (lv_at hl 2 rfl) ?_
    refine lv_if_ne (tgt := 12) hx hb dX4_outlookNumber_1 (by decide) (fun c14 => ?_) (fun c14 => ?_)
    · have hF := F_neg c14 hF
      refine lv_iload_n hx hb dX4_outlookNumber_12 rfl (lv_at hl 2 rfl) ?_
      refine lv_iconst (v := (4 : Int32)) hx hb dX4_outlookNumber_13 (by decide) ?_
      refine lv_icmp_ne (tgt := 31) hx hb dX4_outlookNumber_14 (by decide) (fun c15 => ?_) (fun c15 => ?_)
      · have hF := F_neg c15 hF
        refine lv_iconst (v := (0 : Int32)) hx hb dX4_outlookNumber_31 (by decide) ?_
        refine lv_istore_n (lv' := [(3, .int (0 : Int32)), (0, .ref (a 0)), (1, .ref (a 8)), (2, .int v2)]) hx hb dX4_outlookNumber_32 rfl hl (by decide) rfl (fun ls hl => ?_)
        refine lv_iconst (v := (0 : Int32)) hx hb dX4_outlookNumber_33 (by decide) ?_
        refine lv_istore (lv' := [(4, .int (0 : Int32)), (3, .int (0 : Int32)), (0, .ref (a 0)), (1, .ref (a 8)), (2, .int v2)]) hx hb dX4_outlookNumber_34 hl (by decide) rfl (fun ls hl => ?_)
        refine lv_iconst (v := (0 : Int32)) hx hb dX4_outlookNumber_36 (by decide) ?_
        refine lv_istore (lv' := [(5, .int (0 : Int32)), (4, .int (0 : Int32)), (3, .int (0 : Int32)), (0, .ref (a 0)), (1, .ref (a 8)), (2, .int v2)]) hx hb dX4_outlookNumber_37 hl (by decide) rfl (fun ls hl => ?_)
        refine lv_iconst (v := (0 : Int32)) hx hb dX4_outlookNumber_39 (by decide) ?_
        refine lv_istore (lv' := [(6, .int (0 : Int32)), (5, .int (0 : Int32)), (4, .int (0 : Int32)), (3, .int (0 : Int32)), (0, .ref (a 0)), (1, .ref (a 8)), (2, .int v2)]) hx hb dX4_outlookNumber_40 hl (by decide) rfl (fun ls hl => ?_)
        exact K42 _ _ _ _ _ _ _ hF hP hD hS _ (lv_sub hl [4, 5, 6, 3, 2, 1, 0] rfl)
      · have hF := F_pos c15 hF
        refine lv_aload_n hx hb dX4_outlookNumber_17 rfl (lv_at hl 0 rfl) ?_
        refine lv_aload_n hx hb dX4_outlookNumber_18 rfl (lv_at hl 1 rfl) ?_
        obtain ⟨r16, h17, hF⟩ := ob1_some hF
        have hPc : va_P (dC, dI) vwCl ((W_LS cI a S)) H := hP
        have hDc : va_D A ((W_LS cI a S)) := hD
        have hFc := jFreeW (ws := (W_LS cI a S)) hD hS hA
        refine va_calli (va_runV (As := [.ref (a 8)]) (rest := []) ⟨hx, hb, hml, hown, hts⟩ (c_X4_isRefused_true l dC dI cI a H.size _ _ h17) (cwV 1 hts gX4_outlookNumber_X4_isRefused rfl rfl rfl (by decide +kernel) ⟨Nat.le_of_ble_eq_true rfl, Nat.le_of_ble_eq_true rfl⟩) (jPreV hK hPc hDc hN (ci := 4) rfl rfl) rfl rfl hl.1 rfl (lv_room (Nat.le_of_ble_eq_true rfl)) dX4_outlookNumber_19 ⟨Nat.le_of_ble_eq_true rfl, Nat.le_of_ble_eq_true rfl⟩) hS (fun q _ h => hFc q h) hFc (fun r' u' t H locs ht hvm hw hB hz1 hk1 hS => ?_)
        subst hw
        obtain ⟨hP1, -, hD1⟩ := hB
        rw [ht] at hP1
        have hP : va_P (dC, dI) vwCl ((W_LS cI a S)) H := hP1
        have hD : va_D A ((W_LS cI a S)) := hD1.weaken (fun _ _ _ h => hFc _ h)
        refine lv_if_eq (tgt := 29) hx hb dX4_outlookNumber_22 (by decide) (fun c18 => ?_) (fun c18 => ?_)
        · have hF := F_pos c18 hF
          refine lv_iconst (v := (0 : Int32)) hx hb dX4_outlookNumber_29 (by decide) ?_
          have e50 := Option.some.inj hF
          subst e50
          exact W.iret (v := (0 : Int32)) hx hb hr (fun t ht hW => ⟨⟨(0 : Int32), (), rfl, rfl, by rw [ht]; exact hP, va_K.moved hW.alike hK, hD⟩, hS.F ht⟩) hS.2.2 dX4_outlookNumber_30
        · have hF := F_neg c18 hF
          refine lv_iconst (v := (1 : Int32)) hx hb dX4_outlookNumber_25 (by decide) ?_
          refine lv_goto (tgt := 30) hx hb dX4_outlookNumber_26 (by decide) ?_
          have e50 := Option.some.inj hF
          subst e50
          exact W.iret (v := (1 : Int32)) hx hb hr (fun t ht hW => ⟨⟨(1 : Int32), (), rfl, rfl, by rw [ht]; exact hP, va_K.moved hW.alike hK, hD⟩, hS.F ht⟩) hS.2.2 dX4_outlookNumber_30
    · have hF := F_pos c14 hF
      refine lv_aload_n hx hb dX4_outlookNumber_4 rfl (lv_at hl 0 rfl) ?_
      refine va_get (D := (dC, dI)) (ci := 4) (v := .ref (a 10)) (C := RX4) (T := TX4) (N := 8) hx hb hts hinX4 hown hK hP 0 rfl rfl 6 (by decide) (hts (Cond.fieldLink RX4 34 "LearnedShapes" "work" "LLearnedShapes$Tree;") (List.mem_of_getElem? (i := 1) rfl)) (fun _ h9 => h9) rfl dX4_outlookNumber_5 ?_
      refine va_get (D := (dC, dI)) (ci := 3) (v := .int (g_Tree_size (g_LS_work S))) (C := RX3) (T := TX3) (N := 3) hx hb hts hinX3 hown hK hP 10 rfl rfl 1 (by decide) (hts (Cond.fieldLink RX4 92 "LearnedShapes$Tree" "size" "I") (List.mem_of_getElem? (i := 2) rfl)) (fun _ h9 => h9) rfl dX4_outlookNumber_8 ?_
      have e50 := Option.some.inj hF
      subst e50
      exact W.iret (v := (g_Tree_size (g_LS_work S))) hx hb hr (fun t ht hW => ⟨⟨(g_Tree_size (g_LS_work S)), (), rfl, rfl, by rw [ht]; exact hP, va_K.moved hW.alike hK, hD⟩, hS.F ht⟩) hS.2.2 dX4_outlookNumber_11
  exact KE _ _ hP hD hS
set_option maxHeartbeats 4000000 in
set_option maxRecDepth 100000 in
theorem c_X4_coversNode (l : Launch) (dC : Nat → ClassId) (dI : Nat → Nat → Nat) (cI : ClassId) (a b : Nat → Nat) : ∀ (n : Nat) (sz : Nat) (S : S_Tree) (S1 : S_Tree) (v2 : Int32) (v4 : Int32) (v5 : Int32) (rr : Bool) (hF : F_X4_coversNode n S S1 v2 v4 v5 = some rr), Met l yX4_coversNode wsX4_coversNode ({ frames := 2 + n, cells := 0, slots := 0, locals := 48 + n * 29 } : Room) (va_Pc [.ref (a 0), .int v2, .ref (b 0), .int v4, .int v5] (jPre (dC, dI) [(cI, .int)] sz ((W_Tree cI a S) ++ (W_Tree cI b S1)))) (va_Qi (fun (r' : Int32) (_ : Unit) => b2i rr = r') (fun _ : Unit => jB (dC, dI) [(cI, .int)] (va_A ((W_Tree cI a S) ++ (W_Tree cI b S1)) sz) ((W_Tree cI a S) ++ (W_Tree cI b S1))) (va_A ((W_Tree cI a S) ++ (W_Tree cI b S1)) sz)) 0 0 (va_A ((W_Tree cI a S) ++ (W_Tree cI b S1)) sz) := by
  intro n
  induction n with
  | zero => intro sz S S1 v2 v4 v5 rr hF; exact nomatch hF
  | succ n ihn =>
    intro sz S S1 v2 v4 v5 rr hF
    refine Met.ofW (cc := cX4_coversNode) (maxL := 10) (ret := (some .boolean)) (by decide) rfl ?_
    intro p e s m args below meth c s₁ B hml hv
    obtain ⟨rfl, hsz, hP, hK, hD0, hN⟩ := hv
    have hx := B.exec
    have hb := B.bytes
    have hr := B.returns
    have hts := atoms_spec (ws := wsX4_coversNode) B.pre
    have hown : s.vm.findClass RX4 = some m.cls := findClass_of_methodNamed B.named
    have hlocks := B.notSynchronized
    subst hsz
    have hD := hD0.self (sz := s.heap.size)
    generalize hAe : (va_A ((W_Tree cI a S) ++ (W_Tree cI b S1)) s.heap.size) = A at hD ⊢
    have hA : ∀ q : Nat, s.heap.size ≤ q → A q := fun q h => by rw [← hAe]; exact Or.inr h
    have hS : va_S A s.heap s.heap [] := va_S.rf
    have hl := lv_entry ([.ref (a 0), .int v2, .ref (b 0), .int v4, .int v5]) (n := 10) (Nat.le_of_ble_eq_true rfl)
    rw [lg_entry_eq]
    generalize (lg_sl ([.ref (a 0), .int v2, .ref (b 0), .int v4, .int v5]) ++ List.replicate (10 - (lg_sl ([.ref (a 0), .int v2, .ref (b 0), .int v4, .int v5])).length) Slot.unset).toArray = ls at hl ⊢
    have hl : lv_has ls 10 [(0, .ref (a 0)), (1, .int v2), (2, .ref (b 0)), (3, .int v4), (4, .int v5)] := hl
    have K65 : ∀ (n65 : Nat) (x6 : Int32) (x7 : Int32) (H : Heap) (locs : List Loc), F_X4_coversNode_65 v2 v4 v5 S S1 (F_X4_coversNode n) n65 x6 x7 = some rr → va_P (dC, dI) vwCl ((W_Tree cI a S) ++ (W_Tree cI b S1)) H → va_D A ((W_Tree cI a S) ++ (W_Tree cI b S1)) → va_S A s.heap H locs → ∀ ls : Array Slot, lv_has ls 10 [(0, .ref (a 0)), (1, .int v2), (2, .ref (b 0)), (3, .int v4), (4, .int v5), (6, .int x6), (7, .int x7)] → W p l e (headSpec wsX4_coversNode ({ frames := 2 + (n + 1), cells := 0, slots := 0, locals := 48 + (n + 1) * 29 } : Room)).room s m ([.ref (a 0), .int v2, .ref (b 0), .int v4, .int v5] : List Value).toArray below meth c H locs 0 0 (MQ below (va_Qi (fun (r' : Int32) (_ : Unit) => b2i rr = r') (fun _ : Unit => jB (dC, dI) [(cI, .int)] A ((W_Tree cI a S) ++ (W_Tree cI b S1))) A) ([.ref (a 0), .int v2, .ref (b 0), .int v4, .int v5] : List Value).toArray s 0 0 A) (F0 m 65 ls []) := by
      intro n65
      induction n65 with
      | zero => intro x6 x7 H locs hF; exact nomatch hF
      | succ n65 ih65 =>
        intro x6 x7 H locs hF hP hD hS ls hl
        rw [F_X4_coversNode_65_s] at hF
        have K120 : ∀ (x6 : Int32) (x7 : Int32) (x8 : Int32) (x9 : Int32) (H : Heap) (locs : List Loc), F_X4_coversNode_120 v2 v4 v5 S S1 (F_X4_coversNode n) (F_X4_coversNode_65 v2 v4 v5 S S1 (F_X4_coversNode n) n65) x6 x7 x8 x9 = some rr → va_P (dC, dI) vwCl ((W_Tree cI a S) ++ (W_Tree cI b S1)) H → va_D A ((W_Tree cI a S) ++ (W_Tree cI b S1)) → va_S A s.heap H locs → ∀ ls : Array Slot, lv_has ls 10 [(0, .ref (a 0)), (1, .int v2), (2, .ref (b 0)), (3, .int v4), (4, .int v5), (6, .int x6), (7, .int x7), (8, .int x8), (9, .int x9)] → W p l e (headSpec wsX4_coversNode ({ frames := 2 + (n + 1), cells := 0, slots := 0, locals := 48 + (n + 1) * 29 } : Room)).room s m ([.ref (a 0), .int v2, .ref (b 0), .int v4, .int v5] : List Value).toArray below meth c H locs 0 0 (MQ below (va_Qi (fun (r' : Int32) (_ : Unit) => b2i rr = r') (fun _ : Unit => jB (dC, dI) [(cI, .int)] A ((W_Tree cI a S) ++ (W_Tree cI b S1))) A) ([.ref (a 0), .int v2, .ref (b 0), .int v4, .int v5] : List Value).toArray s 0 0 A) (F0 m 120 ls []) := by
          intro x6 x7 x8 x9 H locs hF hP hD hS ls hl
          unfold F_X4_coversNode_120 at hF
          refine lv_iload hx hb dX4_coversNode_120 (lv_at hl 5 rfl) ?_
          refine lv_bipush (v := (6 : Int32)) hx hb dX4_coversNode_122 (by decide) ?_
          refine lv_icmp_ne (tgt := 147) hx hb dX4_coversNode_124 (by decide) (fun c1 => ?_) (fun c1 => ?_)
          · have hF := F_neg c1 hF
            refine lv_iinc (v := (x7 + (1 : Int32))) (lv' := [(7, .int (x7 + (1 : Int32))), (0, .ref (a 0)), (1, .int v2), (2, .ref (b 0)), (3, .int v4), (4, .int v5), (6, .int x6), (8, .int x8), (9, .int x9)]) hx hb dX4_coversNode_147 hl (k := 6) rfl rfl (by decide) rfl (fun ls hl => ?_)
            refine lv_goto (tgt := 65) hx hb dX4_coversNode_150 (by decide) ?_
            exact ih65 _ _ _ _ hF hP hD hS _ (lv_sub hl [1, 2, 3, 4, 5, 6, 0] rfl)
          · have hF := F_pos c1 hF
            refine lv_aload_n hx hb dX4_coversNode_127 rfl (lv_at hl 0 rfl) ?_
            refine lv_iload hx hb dX4_coversNode_128 (lv_at hl 7 rfl) ?_
            obtain ⟨r2, h3, hF⟩ := ob1_some hF
            have hPc := hP.sub (ws' := (W_Tree cI a S)) [0, 1] rfl
            have hDc := hD.sub (ws' := (W_Tree cI a S)) [0, 1] (by decide) rfl
            have hFc := va_free (wc := (W_Tree cI a S)) hD hS hA [0, 1] rfl
            refine va_calli (va_runS (As := [.ref (a 0), .int x8]) (rest := []) ⟨hx, hb, hml, hown, hts⟩ (c_X4_mustBeThere l dC dI cI a H.size _ _ _ h3) (va_cwS 2 hts gX4_coversNode_X4_mustBeThere rfl rfl rfl (by decide +kernel) ⟨(by dsimp only [headSpec]; omega), (by dsimp only [headSpec]; omega)⟩) (jPreS hK hPc hDc hN) rfl rfl hl.1 rfl (lv_room (Nat.le_of_ble_eq_true rfl)) dX4_coversNode_130 ⟨(by dsimp only [headSpec]; omega), (by dsimp only [headSpec]; omega)⟩) hS (fun q _ h => hFc q h) hFc (fun r' u' t H locs ht hvm hw hB hz1 hk1 hS => ?_)
            subst hw
            obtain ⟨hP1, -, hD1⟩ := hB
            rw [ht] at hP1
            obtain ⟨hP, hD⟩ := jJoin (wc := (W_Tree cI a S)) (w1 := (W_Tree cI a S)) (ws' := (W_Tree cI a S) ++ (W_Tree cI b S1)) hP hD [0, 1] [2, 3] [2, 3, 0, 1] rfl rfl (by decide) (by decide) hk1 hFc hP1 hD1 (by decide) rfl
            refine lv_if_eq (tgt := 147) hx hb dX4_coversNode_133 (by decide) (fun c4 => ?_) (fun c4 => ?_)
            · have hF := F_pos c4 hF
              refine lv_iinc (v := (x7 + (1 : Int32))) (lv' := [(7, .int (x7 + (1 : Int32))), (0, .ref (a 0)), (1, .int v2), (2, .ref (b 0)), (3, .int v4), (4, .int v5), (6, .int x6), (8, .int x8), (9, .int x9)]) hx hb dX4_coversNode_147 hl (k := 6) rfl rfl (by decide) rfl (fun ls hl => ?_)
              refine lv_goto (tgt := 65) hx hb dX4_coversNode_150 (by decide) ?_
              exact ih65 _ _ _ _ hF hP hD hS _ (lv_sub hl [1, 2, 3, 4, 5, 6, 0] rfl)
            · have hF := F_neg c4 hF
              refine lv_aload_n hx hb dX4_coversNode_136 rfl (lv_at hl 2 rfl) ?_
              refine lv_iload hx hb dX4_coversNode_137 (lv_at hl 8 rfl) ?_
              obtain ⟨r5, h6, hF⟩ := ob1_some hF
              have hPc := hP.sub (ws' := (W_Tree cI b S1)) [2, 3] rfl
              have hDc := hD.sub (ws' := (W_Tree cI b S1)) [2, 3] (by decide) rfl
              have hFc := va_free (wc := (W_Tree cI b S1)) hD hS hA [2, 3] rfl
              refine va_calli (va_runS (As := [.ref (b 0), .int x9]) (rest := []) ⟨hx, hb, hml, hown, hts⟩ (c_X4_mustBeThere l dC dI cI b H.size _ _ _ h6) (va_cwS 2 hts gX4_coversNode_X4_mustBeThere rfl rfl rfl (by decide +kernel) ⟨(by dsimp only [headSpec]; omega), (by dsimp only [headSpec]; omega)⟩) (jPreS hK hPc hDc hN) rfl rfl hl.1 rfl (lv_room (Nat.le_of_ble_eq_true rfl)) dX4_coversNode_139 ⟨(by dsimp only [headSpec]; omega), (by dsimp only [headSpec]; omega)⟩) hS (fun q _ h => hFc q h) hFc (fun r' u' t H locs ht hvm hw hB hz1 hk1 hS => ?_)
              subst hw
              obtain ⟨hP1, -, hD1⟩ := hB
              rw [ht] at hP1
              obtain ⟨hP, hD⟩ := jJoin (wc := (W_Tree cI b S1)) (w1 := (W_Tree cI b S1)) (ws' := (W_Tree cI a S) ++ (W_Tree cI b S1)) hP hD [2, 3] [0, 1] [0, 1, 2, 3] rfl rfl (by decide) (by decide) hk1 hFc hP1 hD1 (by decide) rfl
              refine lv_if_ne (tgt := 147) hx hb dX4_coversNode_142 (by decide) (fun c7 => ?_) (fun c7 => ?_)
              · have hF := F_neg c7 hF
                refine lv_iinc (v := (x7 + (1 : Int32))) (lv' := [(7, .int (x7 + (1 : Int32))), (0, .ref (a 0)), (1, .int v2), (2, .ref (b 0)), (3, .int v4), (4, .int v5), (6, .int x6), (8, .int x8), (9, .int x9)]) hx hb dX4_coversNode_147 hl (k := 6) rfl rfl (by decide) rfl (fun ls hl => ?_)
                refine lv_goto (tgt := 65) hx hb dX4_coversNode_150 (by decide) ?_
                exact ih65 _ _ _ _ hF hP hD hS _ (lv_sub hl [1, 2, 3, 4, 5, 6, 0] rfl)
              · have hF := F_pos c7 hF
                refine lv_iconst (v := (0 : Int32)) hx hb dX4_coversNode_145 (by decide) ?_
                have e50 := Option.some.inj hF
                subst e50
                exact W.zret (v := (0 : Int32)) hx hb hr (rfl) (fun t ht hW => ⟨⟨(0 : Int32), (), rfl, rfl, by rw [ht]; exact hP, va_K.moved hW.alike hK, hD⟩, hS.F ht⟩) hS.2.2 dX4_coversNode_146
        refine lv_iload hx hb dX4_coversNode_65 (lv_at hl 6 rfl) ?_
        refine lv_bipush (v := (8 : Int32)) hx hb dX4_coversNode_67 (by decide) ?_
        refine lv_icmp_gt (tgt := 153) hx hb dX4_coversNode_69 (by decide) (fun c8 => ?_) (fun c8 => ?_)
        · have hF := F_pos c8 hF
          refine lv_iconst (v := (1 : Int32)) hx hb dX4_coversNode_153 (by decide) ?_
          have e50 := Option.some.inj hF
          subst e50
          exact W.zret (v := (1 : Int32)) hx hb hr (rfl) (fun t ht hW => ⟨⟨(1 : Int32), (), rfl, rfl, by rw [ht]; exact hP, va_K.moved hW.alike hK, hD⟩, hS.F ht⟩) hS.2.2 dX4_coversNode_154
        · have hF := F_neg c8 hF
          refine lv_aload_n hx hb dX4_coversNode_72 rfl (lv_at hl 0 rfl) ?_
          refine lv_iload_n hx hb dX4_coversNode_73 rfl (lv_at hl 1 rfl) ?_
          refine lv_iload hx hb dX4_coversNode_74 (lv_at hl 6 rfl) ?_
          obtain ⟨r9, h10, hF⟩ := ob1_some hF
          have hPc := hP.sub (ws' := (W_Tree cI a S)) [0, 1] rfl
          have hDc := hD.sub (ws' := (W_Tree cI a S)) [0, 1] (by decide) rfl
          have hFc := va_free (wc := (W_Tree cI a S)) hD hS hA [0, 1] rfl
          refine va_calli (va_runV (As := [.int v2, .int x7]) (rest := []) ⟨hx, hb, hml, hown, hts⟩ (c_X3_findBelow l dC dI cI a H.size _ _ _ _ h10) (cwV 2 hts gX4_coversNode_X3_findBelow rfl rfl rfl (by decide +kernel) ⟨(by dsimp only [headSpec]; omega), (by dsimp only [headSpec]; omega)⟩) (jPreV hK hPc hDc hN (ci := 3) rfl rfl) rfl rfl hl.1 rfl (lv_room (Nat.le_of_ble_eq_true rfl)) dX4_coversNode_76 ⟨(by dsimp only [headSpec]; omega), (by dsimp only [headSpec]; omega)⟩) hS (fun q _ h => hFc q h) hFc (fun r' u' t H locs ht hvm hw hB hz1 hk1 hS => ?_)
          subst hw
          obtain ⟨hP1, -, hD1⟩ := hB
          rw [ht] at hP1
          obtain ⟨hP, hD⟩ := jJoin (wc := (W_Tree cI a S)) (w1 := (W_Tree cI a S)) (ws' := (W_Tree cI a S) ++ (W_Tree cI b S1)) hP hD [0, 1] [2, 3] [2, 3, 0, 1] rfl rfl (by decide) (by decide) hk1 hFc hP1 hD1 (by decide) rfl
          refine lv_istore (lv' := [(8, .int r9), (0, .ref (a 0)), (1, .int v2), (2, .ref (b 0)), (3, .int v4), (4, .int v5), (6, .int x6), (7, .int x7)]) hx hb dX4_coversNode_79 hl (by decide) rfl (fun ls hl => ?_)
          refine lv_aload_n hx hb dX4_coversNode_81 rfl (lv_at hl 3 rfl) ?_
          refine lv_iload_n hx hb dX4_coversNode_82 rfl (lv_at hl 4 rfl) ?_
          refine lv_iload hx hb dX4_coversNode_83 (lv_at hl 7 rfl) ?_
          obtain ⟨r11, h12, hF⟩ := ob1_some hF
          have hPc := hP.sub (ws' := (W_Tree cI b S1)) [2, 3] rfl
          have hDc := hD.sub (ws' := (W_Tree cI b S1)) [2, 3] (by decide) rfl
          have hFc := va_free (wc := (W_Tree cI b S1)) hD hS hA [2, 3] rfl
          refine va_calli (va_runV (As := [.int v4, .int x7]) (rest := []) ⟨hx, hb, hml, hown, hts⟩ (c_X3_findBelow l dC dI cI b H.size _ _ _ _ h12) (cwV 2 hts gX4_coversNode_X3_findBelow rfl rfl rfl (by decide +kernel) ⟨(by dsimp only [headSpec]; omega), (by dsimp only [headSpec]; omega)⟩) (jPreV hK hPc hDc hN (ci := 3) rfl rfl) rfl rfl hl.1 rfl (lv_room (Nat.le_of_ble_eq_true rfl)) dX4_coversNode_85 ⟨(by dsimp only [headSpec]; omega), (by dsimp only [headSpec]; omega)⟩) hS (fun q _ h => hFc q h) hFc (fun r' u' t H locs ht hvm hw hB hz1 hk1 hS => ?_)
          subst hw
          obtain ⟨hP1, -, hD1⟩ := hB
          rw [ht] at hP1
          obtain ⟨hP, hD⟩ := jJoin (wc := (W_Tree cI b S1)) (w1 := (W_Tree cI b S1)) (ws' := (W_Tree cI a S) ++ (W_Tree cI b S1)) hP hD [2, 3] [0, 1] [0, 1, 2, 3] rfl rfl (by decide) (by decide) hk1 hFc hP1 hD1 (by decide) rfl
          refine lv_istore (lv' := [(9, .int r11), (8, .int r9), (0, .ref (a 0)), (1, .int v2), (2, .ref (b 0)), (3, .int v4), (4, .int v5), (6, .int x6), (7, .int x7)]) hx hb dX4_coversNode_88 hl (by decide) rfl (fun ls hl => ?_)
          refine lv_iload hx hb dX4_coversNode_90 (lv_at hl 0 rfl) ?_
          refine lv_iconst (v := (-1 : Int32)) hx hb dX4_coversNode_92 (by decide) ?_
          refine lv_icmp_eq (tgt := 120) hx hb dX4_coversNode_93 (by decide) (fun c13 => ?_) (fun c13 => ?_)
          · have hF := F_pos c13 hF
            exact K120 _ _ _ _ _ _ hF hP hD hS _ (lv_sub hl [2, 3, 4, 5, 6, 7, 8, 1, 0] rfl)
          · have hF := F_neg c13 hF
            refine lv_iload hx hb dX4_coversNode_96 (lv_at hl 1 rfl) ?_
            refine lv_iconst (v := (-1 : Int32)) hx hb dX4_coversNode_98 (by decide) ?_
            refine lv_icmp_eq (tgt := 118) hx hb dX4_coversNode_99 (by decide) (fun c14 => ?_) (fun c14 => ?_)
            · have hF := F_pos c14 hF
              refine lv_iconst (v := (0 : Int32)) hx hb dX4_coversNode_118 (by decide) ?_
              have e50 := Option.some.inj hF
              subst e50
              exact W.zret (v := (0 : Int32)) hx hb hr (rfl) (fun t ht hW => ⟨⟨(0 : Int32), (), rfl, rfl, by rw [ht]; exact hP, va_K.moved hW.alike hK, hD⟩, hS.F ht⟩) hS.2.2 dX4_coversNode_119
            · have hF := F_neg c14 hF
              refine lv_aload_n hx hb dX4_coversNode_102 rfl (lv_at hl 2 rfl) ?_
              refine lv_iload hx hb dX4_coversNode_103 (lv_at hl 1 rfl) ?_
              refine lv_aload_n hx hb dX4_coversNode_105 rfl (lv_at hl 4 rfl) ?_
              refine lv_iload hx hb dX4_coversNode_106 (lv_at hl 0 rfl) ?_
              refine lv_iload hx hb dX4_coversNode_108 (lv_at hl 6 rfl) ?_
              refine lv_iconst (v := (1 : Int32)) hx hb dX4_coversNode_110 (by decide) ?_
              refine lv_iadd hx hb dX4_coversNode_111 ?_
              obtain ⟨r15, h16, hF⟩ := ob1_some hF
              have hPc : va_P (dC, dI) vwCl ((W_Tree cI a S) ++ (W_Tree cI b S1)) H := hP
              have hDc : va_D A ((W_Tree cI a S) ++ (W_Tree cI b S1)) := hD
              have hFc := jFreeW (ws := (W_Tree cI a S) ++ (W_Tree cI b S1)) hD hS hA
              refine va_calli (va_runS (As := [.ref (a 0), .int r9, .ref (b 0), .int r11, .int (v5 + (1 : Int32))]) (rest := []) ⟨hx, hb, hml, hown, hts⟩ (ihn H.size _ _ _ _ _ _ h16) (va_cwS 5 hts gX4_coversNode_X4_coversNode rfl rfl rfl (by decide +kernel) ⟨(by dsimp only [headSpec]; omega), (by dsimp only [headSpec]; omega)⟩) (jPreS hK hPc hDc hN) rfl rfl hl.1 rfl (lv_room (Nat.le_of_ble_eq_true rfl)) dX4_coversNode_112 ⟨(by dsimp only [headSpec]; omega), (by dsimp only [headSpec]; omega)⟩) hS (fun q _ h => hFc q h) hFc (fun r' u' t H locs ht hvm hw hB hz1 hk1 hS => ?_)
              subst hw
              obtain ⟨hP1, -, hD1⟩ := hB
              rw [ht] at hP1
              have hP : va_P (dC, dI) vwCl ((W_Tree cI a S) ++ (W_Tree cI b S1)) H := hP1
              have hD : va_D A ((W_Tree cI a S) ++ (W_Tree cI b S1)) := hD1.weaken (fun _ _ _ h => hFc _ h)
              refine lv_if_ne (tgt := 120) hx hb dX4_coversNode_115 (by decide) (fun c17 => ?_) (fun c17 => ?_)
              · have hF := F_neg c17 hF
                exact K120 _ _ _ _ _ _ hF hP hD hS _ (lv_sub hl [2, 3, 4, 5, 6, 7, 8, 1, 0] rfl)
              · have hF := F_pos c17 hF
                refine lv_iconst (v := (0 : Int32)) hx hb dX4_coversNode_118 (by decide) ?_
                have e50 := Option.some.inj hF
                subst e50
                exact W.zret (v := (0 : Int32)) hx hb hr (rfl) (fun t ht hW => ⟨⟨(0 : Int32), (), rfl, rfl, by rw [ht]; exact hP, va_K.moved hW.alike hK, hD⟩, hS.F ht⟩) hS.2.2 dX4_coversNode_119
    have KE : ∀ (H : Heap) (locs : List Loc), va_P (dC, dI) vwCl ((W_Tree cI a S) ++ (W_Tree cI b S1)) H → va_D A ((W_Tree cI a S) ++ (W_Tree cI b S1)) → va_S A s.heap H locs → W p l e (headSpec wsX4_coversNode ({ frames := 2 + (n + 1), cells := 0, slots := 0, locals := 48 + (n + 1) * 29 } : Room)).room s m ([.ref (a 0), .int v2, .ref (b 0), .int v4, .int v5] : List Value).toArray below meth c H locs 0 0 (MQ below (va_Qi (fun (r' : Int32) (_ : Unit) => b2i rr = r') (fun _ : Unit => jB (dC, dI) [(cI, .int)] A ((W_Tree cI a S) ++ (W_Tree cI b S1))) A) ([.ref (a 0), .int v2, .ref (b 0), .int v4, .int v5] : List Value).toArray s 0 0 A) (F0 m 0 ls []) := by
      intro H locs hP hD hS
      rw [F_X4_coversNode_s] at hF
      refine lv_iload hx hb dX4_coversNode_0 (lv_at hl 4 rfl) ?_
      refine lv_iconst (v := (4 : Int32)) hx hb dX4_coversNode_2 (by decide) ?_
      refine lv_icmp_le (tgt := 8) hx hb dX4_coversNode_3 (by decide) (fun c18 => ?_) (fun c18 => ?_)
      · have hF := F_pos c18 hF
        refine lv_aload_n hx hb dX4_coversNode_8 rfl (lv_at hl 0 rfl) ?_
        refine lv_iload_n hx hb dX4_coversNode_9 rfl (lv_at hl 1 rfl) ?_
        refine lv_iconst (v := (0 : Int32)) hx hb dX4_coversNode_10 (by decide) ?_
        obtain ⟨r19, h20, hF⟩ := ob1_some hF
        have hPc := hP.sub (ws' := (W_Tree cI a S)) [0, 1] rfl
        have hDc := hD.sub (ws' := (W_Tree cI a S)) [0, 1] (by decide) rfl
        have hFc := va_free (wc := (W_Tree cI a S)) hD hS hA [0, 1] rfl
        refine va_calli (va_runV (As := [.int v2, .int (0 : Int32)]) (rest := []) ⟨hx, hb, hml, hown, hts⟩ (c_X3_get l dC dI cI a H.size _ _ _ _ h20) (cwV 2 hts gX4_coversNode_X3_get rfl rfl rfl (by decide +kernel) ⟨(by dsimp only [headSpec]; omega), (by dsimp only [headSpec]; omega)⟩) (jPreV hK hPc hDc hN (ci := 3) rfl rfl) rfl rfl hl.1 rfl (lv_room (Nat.le_of_ble_eq_true rfl)) dX4_coversNode_11 ⟨(by dsimp only [headSpec]; omega), (by dsimp only [headSpec]; omega)⟩) hS (fun q _ h => hFc q h) hFc (fun r' u' t H locs ht hvm hw hB hz1 hk1 hS => ?_)
        subst hw
        obtain ⟨hP1, -, hD1⟩ := hB
        rw [ht] at hP1
        obtain ⟨hP, hD⟩ := jJoin (wc := (W_Tree cI a S)) (w1 := (W_Tree cI a S)) (ws' := (W_Tree cI a S) ++ (W_Tree cI b S1)) hP hD [0, 1] [2, 3] [2, 3, 0, 1] rfl rfl (by decide) (by decide) hk1 hFc hP1 hD1 (by decide) rfl
        refine lv_istore (lv' := [(5, .int r19), (0, .ref (a 0)), (1, .int v2), (2, .ref (b 0)), (3, .int v4), (4, .int v5)]) hx hb dX4_coversNode_14 hl (by decide) rfl (fun ls hl => ?_)
        refine lv_aload_n hx hb dX4_coversNode_16 rfl (lv_at hl 3 rfl) ?_
        refine lv_iload_n hx hb dX4_coversNode_17 rfl (lv_at hl 4 rfl) ?_
        refine lv_iconst (v := (0 : Int32)) hx hb dX4_coversNode_18 (by decide) ?_
        obtain ⟨r21, h22, hF⟩ := ob1_some hF
        have hPc := hP.sub (ws' := (W_Tree cI b S1)) [2, 3] rfl
        have hDc := hD.sub (ws' := (W_Tree cI b S1)) [2, 3] (by decide) rfl
        have hFc := va_free (wc := (W_Tree cI b S1)) hD hS hA [2, 3] rfl
        refine va_calli (va_runV (As := [.int v4, .int (0 : Int32)]) (rest := []) ⟨hx, hb, hml, hown, hts⟩ (c_X3_get l dC dI cI b H.size _ _ _ _ h22) (cwV 2 hts gX4_coversNode_X3_get rfl rfl rfl (by decide +kernel) ⟨(by dsimp only [headSpec]; omega), (by dsimp only [headSpec]; omega)⟩) (jPreV hK hPc hDc hN (ci := 3) rfl rfl) rfl rfl hl.1 rfl (lv_room (Nat.le_of_ble_eq_true rfl)) dX4_coversNode_19 ⟨(by dsimp only [headSpec]; omega), (by dsimp only [headSpec]; omega)⟩) hS (fun q _ h => hFc q h) hFc (fun r' u' t H locs ht hvm hw hB hz1 hk1 hS => ?_)
        subst hw
        obtain ⟨hP1, -, hD1⟩ := hB
        rw [ht] at hP1
        obtain ⟨hP, hD⟩ := jJoin (wc := (W_Tree cI b S1)) (w1 := (W_Tree cI b S1)) (ws' := (W_Tree cI a S) ++ (W_Tree cI b S1)) hP hD [2, 3] [0, 1] [0, 1, 2, 3] rfl rfl (by decide) (by decide) hk1 hFc hP1 hD1 (by decide) rfl
        refine lv_istore (lv' := [(6, .int r21), (5, .int r19), (0, .ref (a 0)), (1, .int v2), (2, .ref (b 0)), (3, .int v4), (4, .int v5)]) hx hb dX4_coversNode_22 hl (by decide) rfl (fun ls hl => ?_)
        refine lv_iload hx hb dX4_coversNode_24 (lv_at hl 1 rfl) ?_
        refine lv_iload hx hb dX4_coversNode_26 (lv_at hl 0 rfl) ?_
        obtain ⟨r23, h24, hF⟩ := ob1_some hF
        have hPc : va_P (dC, dI) vwCl ([] : va_W) H := fun k q h => by simp at h
        have hDc : va_D A ([] : va_W) := ⟨fun i j p q h => by simp at h, fun k q h => by simp at h⟩
        have hFc := jFreeW (ws := []) hDc hS hA
        refine va_calli (va_runS (As := [.int r19, .int r21]) (rest := []) ⟨hx, hb, hml, hown, hts⟩ (c_X4_joinKinds l dC dI cI  H.size _ _ _ h24) (va_cwS 2 hts gX4_coversNode_X4_joinKinds rfl rfl rfl (by decide +kernel) ⟨(by dsimp only [headSpec]; omega), (by dsimp only [headSpec]; omega)⟩) (jPreS hK hPc hDc hN) rfl rfl hl.1 rfl (lv_room (Nat.le_of_ble_eq_true rfl)) dX4_coversNode_28 ⟨(by dsimp only [headSpec]; omega), (by dsimp only [headSpec]; omega)⟩) hS (fun q _ h => hFc q h) hFc (fun r' u' t H locs ht hvm hw hB hz1 hk1 hS => ?_)
        subst hw
        obtain ⟨hP1, -, hD1⟩ := hB
        rw [ht] at hP1
        have hP : va_P (dC, dI) vwCl ((W_Tree cI a S) ++ (W_Tree cI b S1)) H := jNone hP hk1
        refine lv_iload hx hb dX4_coversNode_31 (lv_at hl 1 rfl) ?_
        refine lv_icmp_ne (tgt := 51) hx hb dX4_coversNode_33 (by decide) (fun c25 => ?_) (fun c25 => ?_)
        · have hF := F_neg c25 hF
          refine lv_iconst (v := (0 : Int32)) hx hb dX4_coversNode_51 (by decide) ?_
          have e50 := Option.some.inj hF
          subst e50
          exact W.zret (v := (0 : Int32)) hx hb hr (rfl) (fun t ht hW => ⟨⟨(0 : Int32), (), rfl, rfl, by rw [ht]; exact hP, va_K.moved hW.alike hK, hD⟩, hS.F ht⟩) hS.2.2 dX4_coversNode_52
        · have hF := F_pos c25 hF
          refine lv_aload_n hx hb dX4_coversNode_36 rfl (lv_at hl 4 rfl) ?_
          refine lv_iload_n hx hb dX4_coversNode_37 rfl (lv_at hl 5 rfl) ?_
          refine lv_iconst (v := (4 : Int32)) hx hb dX4_coversNode_38 (by decide) ?_
          obtain ⟨r26, h27, hF⟩ := ob1_some hF
          have hPc := hP.sub (ws' := (W_Tree cI b S1)) [2, 3] rfl
          have hDc := hD.sub (ws' := (W_Tree cI b S1)) [2, 3] (by decide) rfl
          have hFc := va_free (wc := (W_Tree cI b S1)) hD hS hA [2, 3] rfl
          refine va_calli (va_runV (As := [.int v4, .int (4 : Int32)]) (rest := []) ⟨hx, hb, hml, hown, hts⟩ (c_X3_get l dC dI cI b H.size _ _ _ _ h27) (cwV 2 hts gX4_coversNode_X3_get rfl rfl rfl (by decide +kernel) ⟨(by dsimp only [headSpec]; omega), (by dsimp only [headSpec]; omega)⟩) (jPreV hK hPc hDc hN (ci := 3) rfl rfl) rfl rfl hl.1 rfl (lv_room (Nat.le_of_ble_eq_true rfl)) dX4_coversNode_39 ⟨(by dsimp only [headSpec]; omega), (by dsimp only [headSpec]; omega)⟩) hS (fun q _ h => hFc q h) hFc (fun r' u' t H locs ht hvm hw hB hz1 hk1 hS => ?_)
          subst hw
          obtain ⟨hP1, -, hD1⟩ := hB
          rw [ht] at hP1
          obtain ⟨hP, hD⟩ := jJoin (wc := (W_Tree cI b S1)) (w1 := (W_Tree cI b S1)) (ws' := (W_Tree cI a S) ++ (W_Tree cI b S1)) hP hD [2, 3] [0, 1] [0, 1, 2, 3] rfl rfl (by decide) (by decide) hk1 hFc hP1 hD1 (by decide) rfl
          refine lv_aload_n hx hb dX4_coversNode_42 rfl (lv_at hl 2 rfl) ?_
          refine lv_iload_n hx hb dX4_coversNode_43 rfl (lv_at hl 3 rfl) ?_
          refine lv_iconst (v := (4 : Int32)) hx hb dX4_coversNode_44 (by decide) ?_
          obtain ⟨r28, h29, hF⟩ := ob1_some hF
          have hPc := hP.sub (ws' := (W_Tree cI a S)) [0, 1] rfl
          have hDc := hD.sub (ws' := (W_Tree cI a S)) [0, 1] (by decide) rfl
          have hFc := va_free (wc := (W_Tree cI a S)) hD hS hA [0, 1] rfl
          refine va_calli (va_runV (As := [.int v2, .int (4 : Int32)]) (rest := [.int r26]) ⟨hx, hb, hml, hown, hts⟩ (c_X3_get l dC dI cI a H.size _ _ _ _ h29) (cwV 2 hts gX4_coversNode_X3_get rfl rfl rfl (by decide +kernel) ⟨(by dsimp only [headSpec]; omega), (by dsimp only [headSpec]; omega)⟩) (jPreV hK hPc hDc hN (ci := 3) rfl rfl) rfl rfl hl.1 rfl (lv_room (Nat.le_of_ble_eq_true rfl)) dX4_coversNode_45 ⟨(by dsimp only [headSpec]; omega), (by dsimp only [headSpec]; omega)⟩) hS (fun q _ h => hFc q h) hFc (fun r' u' t H locs ht hvm hw hB hz1 hk1 hS => ?_)
          subst hw
          obtain ⟨hP1, -, hD1⟩ := hB
          rw [ht] at hP1
          obtain ⟨hP, hD⟩ := jJoin (wc := (W_Tree cI a S)) (w1 := (W_Tree cI a S)) (ws' := (W_Tree cI a S) ++ (W_Tree cI b S1)) hP hD [0, 1] [2, 3] [2, 3, 0, 1] rfl rfl (by decide) (by decide) hk1 hFc hP1 hD1 (by decide) rfl
          refine lv_icmp_le (tgt := 53) hx hb dX4_coversNode_48 (by decide) (fun c30 => ?_) (fun c30 => ?_)
          · have hF := F_pos c30 hF
            refine lv_iload hx hb dX4_coversNode_53 (lv_at hl 1 rfl) ?_
            refine lv_bipush (v := (7 : Int32)) hx hb dX4_coversNode_55 (by decide) ?_
            refine lv_icmp_ne (tgt := 62) hx hb dX4_coversNode_57 (by decide) (fun c31 => ?_) (fun c31 => ?_)
            · have hF := F_neg c31 hF
              refine lv_iconst (v := (0 : Int32)) hx hb dX4_coversNode_62 (by decide) ?_
              refine lv_istore (lv' := [(7, .int (0 : Int32)), (6, .int r21), (5, .int r19), (0, .ref (a 0)), (1, .int v2), (2, .ref (b 0)), (3, .int v4), (4, .int v5)]) hx hb dX4_coversNode_63 hl (by decide) rfl (fun ls hl => ?_)
              exact K65 _ _ _ _ _ hF hP hD hS _ (lv_sub hl [3, 4, 5, 6, 7, 1, 0] rfl)
            · have hF := F_pos c31 hF
              refine lv_iconst (v := (1 : Int32)) hx hb dX4_coversNode_60 (by decide) ?_
              have e50 := Option.some.inj hF
              subst e50
              exact W.zret (v := (1 : Int32)) hx hb hr (rfl) (fun t ht hW => ⟨⟨(1 : Int32), (), rfl, rfl, by rw [ht]; exact hP, va_K.moved hW.alike hK, hD⟩, hS.F ht⟩) hS.2.2 dX4_coversNode_61
          · have hF := F_neg c30 hF
            refine lv_iconst (v := (0 : Int32)) hx hb dX4_coversNode_51 (by decide) ?_
            have e50 := Option.some.inj hF
            subst e50
            exact W.zret (v := (0 : Int32)) hx hb hr (rfl) (fun t ht hW => ⟨⟨(0 : Int32), (), rfl, rfl, by rw [ht]; exact hP, va_K.moved hW.alike hK, hD⟩, hS.F ht⟩) hS.2.2 dX4_coversNode_52
      · have hF := F_neg c18 hF
        refine lv_iconst (v := (0 : Int32)) hx hb dX4_coversNode_6 (by decide) ?_
        have e50 := Option.some.inj hF
        subst e50
        exact W.zret (v := (0 : Int32)) hx hb hr (rfl) (fun t ht hW => ⟨⟨(0 : Int32), (), rfl, rfl, by rw [ht]; exact hP, va_K.moved hW.alike hK, hD⟩, hS.F ht⟩) hS.2.2 dX4_coversNode_7
    exact KE _ _ hP hD hS
set_option maxHeartbeats 4000000 in
set_option maxRecDepth 100000 in
theorem c_X4_coversOther (l : Launch) (dC : Nat → ClassId) (dI : Nat → Nat → Nat) (cI : ClassId) (a : Nat → Nat) (sz : Nat) (S : S_LS) (v1 : Int32) (rr : Bool) (hF : F_X4_coversOther S v1 = some rr) : Met l yX4_coversOther wsX4_coversOther ({ frames := 11, cells := 0, slots := 0, locals := 309 } : Room) (va_Pc [.ref (a 0), .int v1] (jPre (dC, dI) [(cI, .int)] sz ((W_LS cI a S)))) (va_Qi (fun (r' : Int32) (_ : Unit) => b2i rr = r') (fun _ : Unit => jB (dC, dI) [(cI, .int)] (va_A ((W_LS cI a S)) sz) ((W_LS cI a S))) (va_A ((W_LS cI a S)) sz)) 0 0 (va_A ((W_LS cI a S)) sz) := by
  refine Met.ofW (cc := cX4_coversOther) (maxL := 4) (ret := (some .boolean)) (by decide) rfl ?_
  intro p e s m args below meth c s₁ B hml hv
  obtain ⟨rfl, hsz, hP, hK, hD0, hN⟩ := hv
  have hx := B.exec
  have hb := B.bytes
  have hr := B.returns
  have hts := atoms_spec (ws := wsX4_coversOther) B.pre
  have hown : s.vm.findClass RX4 = some m.cls := findClass_of_methodNamed B.named
  have hlocks := B.notSynchronized
  have hinX3 : ∀ w ∈ u_ws RX3 TX3 3, w ∈ wsX4_coversOther := by decide +kernel
  have hinX4 : ∀ w ∈ u_ws RX4 TX4 8, w ∈ wsX4_coversOther := by decide +kernel
  subst hsz
  have hD := hD0.self (sz := s.heap.size)
  generalize hAe : (va_A ((W_LS cI a S)) s.heap.size) = A at hD ⊢
  have hA : ∀ q : Nat, s.heap.size ≤ q → A q := fun q h => by rw [← hAe]; exact Or.inr h
  have hS : va_S A s.heap s.heap [] := va_S.rf
  have hl := lv_entry ([.ref (a 0), .int v1]) (n := 4) (Nat.le_of_ble_eq_true rfl)
  rw [lg_entry_eq]
  generalize (lg_sl ([.ref (a 0), .int v1]) ++ List.replicate (4 - (lg_sl ([.ref (a 0), .int v1])).length) Slot.unset).toArray = ls at hl ⊢
  have hl : lv_has ls 4 [(0, .ref (a 0)), (1, .int v1)] := hl
  have KE : ∀ (H : Heap) (locs : List Loc), va_P (dC, dI) vwCl ((W_LS cI a S)) H → va_D A ((W_LS cI a S)) → va_S A s.heap H locs → W p l e (headSpec wsX4_coversOther ({ frames := 11, cells := 0, slots := 0, locals := 309 } : Room)).room s m ([.ref (a 0), .int v1] : List Value).toArray below meth c H locs 0 0 (MQ below (va_Qi (fun (r' : Int32) (_ : Unit) => b2i rr = r') (fun _ : Unit => jB (dC, dI) [(cI, .int)] A ((W_LS cI a S))) A) ([.ref (a 0), .int v1] : List Value).toArray s 0 0 A) (F0 m 0 ls []) := by
    intro H locs hP hD hS
    unfold F_X4_coversOther at hF
    refine lv_aload_n hx hb dX4_coversOther_0 rfl (lv_at hl 0 rfl) ?_
    refine va_get (D := (dC, dI)) (ci := 4) (v := .ref (a 5)) (C := RX4) (T := TX4) (N := 8) hx hb hts hinX4 hown hK hP 0 rfl rfl 3 (by decide) (hts (Cond.fieldLink RX4 23 "LearnedShapes" "now" "LLearnedShapes$State;") (List.mem_of_getElem? (i := 1) rfl)) (fun _ h9 => h9) rfl dX4_coversOther_1 ?_
    refine lv_iload_n hx hb dX4_coversOther_4 rfl (lv_at hl 1 rfl) ?_
    by_cases c1 : v1 = 0
    · have hF := F_pos c1 hF
      have hPc := hP.sub (ws' := (W_State cI (sh a 5) (g_LS_now S))) [5, 6, 7, 8, 9] rfl
      have hDc := hD.sub (ws' := (W_State cI (sh a 5) (g_LS_now S))) [5, 6, 7, 8, 9] (by decide) rfl
      have hFc := va_free (wc := (W_State cI (sh a 5) (g_LS_now S))) hD hS hA [5, 6, 7, 8, 9] rfl
      refine va_callr (va_runV (As := [.int v1]) (rest := []) ⟨hx, hb, hml, hown, hts⟩ (c_X2_tree_first l dC dI cI (sh a 5) H.size _ _ c1) (cwV 1 hts gX4_coversOther_X2_tree rfl rfl rfl (by decide +kernel) ⟨Nat.le_of_ble_eq_true rfl, Nat.le_of_ble_eq_true rfl⟩) (jPreV hK hPc hDc hN (ci := 2) rfl rfl) rfl rfl hl.1 rfl (lv_room (Nat.le_of_ble_eq_true rfl)) dX4_coversOther_5 ⟨Nat.le_of_ble_eq_true rfl, Nat.le_of_ble_eq_true rfl⟩) hS (fun q _ h => hFc q h) hFc (fun u q9 t H locs ht hvm hw hB hz1 hk1 hS => ?_)
      obtain ⟨e9, hP1, -, hD1⟩ := hB
      subst e9
      rw [ht] at hP1
      obtain ⟨hP, hD⟩ := jJoin (wc := (W_State cI (sh a 5) (g_LS_now S))) (w1 := (W_State cI (sh a 5) (g_LS_now S))) (ws' := (W_LS cI a S)) hP hD [5, 6, 7, 8, 9] [0, 1, 2, 3, 4, 10, 11, 12] [0, 1, 2, 3, 4, 8, 9, 10, 11, 12, 5, 6, 7] rfl rfl (by decide) (by decide) hk1 hFc hP1 hD1 (by decide) rfl
      refine lv_astore_n (lv' := [(2, .ref (a 6)), (0, .ref (a 0)), (1, .int v1)]) hx hb dX4_coversOther_8 rfl hl (by decide) rfl (fun ls hl => ?_)
      refine lv_aload_n hx hb dX4_coversOther_9 rfl (lv_at hl 1 rfl) ?_
      refine va_get (D := (dC, dI)) (ci := 4) (v := .ref (a 5)) (C := RX4) (T := TX4) (N := 8) hx hb hts hinX4 hown hK hP 0 rfl rfl 3 (by decide) (hts (Cond.fieldLink RX4 23 "LearnedShapes" "now" "LLearnedShapes$State;") (List.mem_of_getElem? (i := 1) rfl)) (fun _ h9 => h9) rfl dX4_coversOther_10 ?_
      refine lv_iconst (v := (1 : Int32)) hx hb dX4_coversOther_13 (by decide) ?_
      refine lv_iload_n hx hb dX4_coversOther_14 rfl (lv_at hl 2 rfl) ?_
      refine lv_isub hx hb dX4_coversOther_15 ?_
      by_cases c2 : ((1 : Int32) - v1) = 0
      · have hF := F_pos c2 hF
        have hPc := hP.sub (ws' := (W_State cI (sh a 5) (g_LS_now S))) [5, 6, 7, 8, 9] rfl
        have hDc := hD.sub (ws' := (W_State cI (sh a 5) (g_LS_now S))) [5, 6, 7, 8, 9] (by decide) rfl
        have hFc := va_free (wc := (W_State cI (sh a 5) (g_LS_now S))) hD hS hA [5, 6, 7, 8, 9] rfl
        refine va_callr (va_runV (As := [.int ((1 : Int32) - v1)]) (rest := []) ⟨hx, hb, hml, hown, hts⟩ (c_X2_tree_first l dC dI cI (sh a 5) H.size _ _ c2) (cwV 1 hts gX4_coversOther_X2_tree rfl rfl rfl (by decide +kernel) ⟨Nat.le_of_ble_eq_true rfl, Nat.le_of_ble_eq_true rfl⟩) (jPreV hK hPc hDc hN (ci := 2) rfl rfl) rfl rfl hl.1 rfl (lv_room (Nat.le_of_ble_eq_true rfl)) dX4_coversOther_16 ⟨Nat.le_of_ble_eq_true rfl, Nat.le_of_ble_eq_true rfl⟩) hS (fun q _ h => hFc q h) hFc (fun u q9 t H locs ht hvm hw hB hz1 hk1 hS => ?_)
        obtain ⟨e9, hP1, -, hD1⟩ := hB
        subst e9
        rw [ht] at hP1
        obtain ⟨hP, hD⟩ := jJoin (wc := (W_State cI (sh a 5) (g_LS_now S))) (w1 := (W_State cI (sh a 5) (g_LS_now S))) (ws' := (W_LS cI a S)) hP hD [5, 6, 7, 8, 9] [0, 1, 2, 3, 4, 10, 11, 12] [0, 1, 2, 3, 4, 8, 9, 10, 11, 12, 5, 6, 7] rfl rfl (by decide) (by decide) hk1 hFc hP1 hD1 (by decide) rfl
        refine lv_astore_n (lv' := [(3, .ref (a 6)), (2, .ref (a 6)), (0, .ref (a 0)), (1, .int v1)]) hx hb dX4_coversOther_19 rfl hl (by decide) rfl (fun ls hl => ?_)
        refine lv_aload_n hx hb dX4_coversOther_20 rfl (lv_at hl 1 rfl) ?_
        refine va_get (D := (dC, dI)) (ci := 3) (v := .int (g_Tree_size (g_State_first (g_LS_now S)))) (C := RX3) (T := TX3) (N := 3) hx hb hts hinX3 hown hK hP 6 rfl rfl 1 (by decide) (hts (Cond.fieldLink RX4 92 "LearnedShapes$Tree" "size" "I") (List.mem_of_getElem? (i := 2) rfl)) (fun _ h9 => h9) rfl dX4_coversOther_21 ?_
        refine lv_if_eq (tgt := 34) hx hb dX4_coversOther_24 (by decide) (fun c3 => ?_) (fun c3 => ?_)
        · have hF := F_pos c3 hF
          refine lv_aload_n hx hb dX4_coversOther_34 rfl (lv_at hl 0 rfl) ?_
          refine va_get (D := (dC, dI)) (ci := 3) (v := .int (g_Tree_size (g_State_first (g_LS_now S)))) (C := RX3) (T := TX3) (N := 3) hx hb hts hinX3 hown hK hP 6 rfl rfl 1 (by decide) (hts (Cond.fieldLink RX4 92 "LearnedShapes$Tree" "size" "I") (List.mem_of_getElem? (i := 2) rfl)) (fun _ h9 => h9) rfl dX4_coversOther_35 ?_
          refine lv_if_ne (tgt := 45) hx hb dX4_coversOther_38 (by decide) (fun c4 => ?_) (fun c4 => ?_)
          · have hF := F_neg c4 hF
            refine lv_iconst (v := (0 : Int32)) hx hb dX4_coversOther_45 (by decide) ?_
            have e50 := Option.some.inj hF
            subst e50
            exact W.zret (v := (0 : Int32)) hx hb hr (rfl) (fun t ht hW => ⟨⟨(0 : Int32), (), rfl, rfl, by rw [ht]; exact hP, va_K.moved hW.alike hK, hD⟩, hS.F ht⟩) hS.2.2 dX4_coversOther_46
          · have hF := F_pos c4 hF
            refine lv_iconst (v := (1 : Int32)) hx hb dX4_coversOther_41 (by decide) ?_
            refine lv_goto (tgt := 46) hx hb dX4_coversOther_42 (by decide) ?_
            have e50 := Option.some.inj hF
            subst e50
            exact W.zret (v := (1 : Int32)) hx hb hr (rfl) (fun t ht hW => ⟨⟨(1 : Int32), (), rfl, rfl, by rw [ht]; exact hP, va_K.moved hW.alike hK, hD⟩, hS.F ht⟩) hS.2.2 dX4_coversOther_46
        · have hF := F_neg c3 hF
          refine lv_aload_n hx hb dX4_coversOther_27 rfl (lv_at hl 0 rfl) ?_
          refine va_get (D := (dC, dI)) (ci := 3) (v := .int (g_Tree_size (g_State_first (g_LS_now S)))) (C := RX3) (T := TX3) (N := 3) hx hb hts hinX3 hown hK hP 6 rfl rfl 1 (by decide) (hts (Cond.fieldLink RX4 92 "LearnedShapes$Tree" "size" "I") (List.mem_of_getElem? (i := 2) rfl)) (fun _ h9 => h9) rfl dX4_coversOther_28 ?_
          refine lv_if_ne (tgt := 47) hx hb dX4_coversOther_31 (by decide) (fun c5 => ?_) (fun c5 => ?_)
          · have hF := F_neg c5 hF
            refine lv_aload_n hx hb dX4_coversOther_47 rfl (lv_at hl 1 rfl) ?_
            refine lv_iconst (v := (0 : Int32)) hx hb dX4_coversOther_48 (by decide) ?_
            refine lv_aload_n hx hb dX4_coversOther_49 rfl (lv_at hl 0 rfl) ?_
            refine lv_iconst (v := (0 : Int32)) hx hb dX4_coversOther_50 (by decide) ?_
            refine lv_iconst (v := (0 : Int32)) hx hb dX4_coversOther_51 (by decide) ?_
            exact nomatch hF
          · have hF := F_pos c5 hF
            refine lv_aload_n hx hb dX4_coversOther_34 rfl (lv_at hl 0 rfl) ?_
            refine va_get (D := (dC, dI)) (ci := 3) (v := .int (g_Tree_size (g_State_first (g_LS_now S)))) (C := RX3) (T := TX3) (N := 3) hx hb hts hinX3 hown hK hP 6 rfl rfl 1 (by decide) (hts (Cond.fieldLink RX4 92 "LearnedShapes$Tree" "size" "I") (List.mem_of_getElem? (i := 2) rfl)) (fun _ h9 => h9) rfl dX4_coversOther_35 ?_
            refine lv_if_ne (tgt := 45) hx hb dX4_coversOther_38 (by decide) (fun c6 => ?_) (fun c6 => ?_)
            · have hF := F_neg c6 hF
              refine lv_iconst (v := (0 : Int32)) hx hb dX4_coversOther_45 (by decide) ?_
              have e50 := Option.some.inj hF
              subst e50
              exact W.zret (v := (0 : Int32)) hx hb hr (rfl) (fun t ht hW => ⟨⟨(0 : Int32), (), rfl, rfl, by rw [ht]; exact hP, va_K.moved hW.alike hK, hD⟩, hS.F ht⟩) hS.2.2 dX4_coversOther_46
            · have hF := F_pos c6 hF
              refine lv_iconst (v := (1 : Int32)) hx hb dX4_coversOther_41 (by decide) ?_
              refine lv_goto (tgt := 46) hx hb dX4_coversOther_42 (by decide) ?_
              have e50 := Option.some.inj hF
              subst e50
              exact W.zret (v := (1 : Int32)) hx hb hr (rfl) (fun t ht hW => ⟨⟨(1 : Int32), (), rfl, rfl, by rw [ht]; exact hP, va_K.moved hW.alike hK, hD⟩, hS.F ht⟩) hS.2.2 dX4_coversOther_46
      · have hF := F_neg c2 hF
        have hPc := hP.sub (ws' := (W_State cI (sh a 5) (g_LS_now S))) [5, 6, 7, 8, 9] rfl
        have hDc := hD.sub (ws' := (W_State cI (sh a 5) (g_LS_now S))) [5, 6, 7, 8, 9] (by decide) rfl
        have hFc := va_free (wc := (W_State cI (sh a 5) (g_LS_now S))) hD hS hA [5, 6, 7, 8, 9] rfl
        refine va_callr (va_runV (As := [.int ((1 : Int32) - v1)]) (rest := []) ⟨hx, hb, hml, hown, hts⟩ (c_X2_tree_second l dC dI cI (sh a 5) H.size _ _ c2) (cwV 1 hts gX4_coversOther_X2_tree rfl rfl rfl (by decide +kernel) ⟨Nat.le_of_ble_eq_true rfl, Nat.le_of_ble_eq_true rfl⟩) (jPreV hK hPc hDc hN (ci := 2) rfl rfl) rfl rfl hl.1 rfl (lv_room (Nat.le_of_ble_eq_true rfl)) dX4_coversOther_16 ⟨Nat.le_of_ble_eq_true rfl, Nat.le_of_ble_eq_true rfl⟩) hS (fun q _ h => hFc q h) hFc (fun u q9 t H locs ht hvm hw hB hz1 hk1 hS => ?_)
        obtain ⟨e9, hP1, -, hD1⟩ := hB
        subst e9
        rw [ht] at hP1
        obtain ⟨hP, hD⟩ := jJoin (wc := (W_State cI (sh a 5) (g_LS_now S))) (w1 := (W_State cI (sh a 5) (g_LS_now S))) (ws' := (W_LS cI a S)) hP hD [5, 6, 7, 8, 9] [0, 1, 2, 3, 4, 10, 11, 12] [0, 1, 2, 3, 4, 8, 9, 10, 11, 12, 5, 6, 7] rfl rfl (by decide) (by decide) hk1 hFc hP1 hD1 (by decide) rfl
        refine lv_astore_n (lv' := [(3, .ref (a 8)), (2, .ref (a 6)), (0, .ref (a 0)), (1, .int v1)]) hx hb dX4_coversOther_19 rfl hl (by decide) rfl (fun ls hl => ?_)
        refine lv_aload_n hx hb dX4_coversOther_20 rfl (lv_at hl 1 rfl) ?_
        refine va_get (D := (dC, dI)) (ci := 3) (v := .int (g_Tree_size (g_State_first (g_LS_now S)))) (C := RX3) (T := TX3) (N := 3) hx hb hts hinX3 hown hK hP 6 rfl rfl 1 (by decide) (hts (Cond.fieldLink RX4 92 "LearnedShapes$Tree" "size" "I") (List.mem_of_getElem? (i := 2) rfl)) (fun _ h9 => h9) rfl dX4_coversOther_21 ?_
        refine lv_if_eq (tgt := 34) hx hb dX4_coversOther_24 (by decide) (fun c7 => ?_) (fun c7 => ?_)
        · have hF := F_pos c7 hF
          refine lv_aload_n hx hb dX4_coversOther_34 rfl (lv_at hl 0 rfl) ?_
          refine va_get (D := (dC, dI)) (ci := 3) (v := .int (g_Tree_size (g_State_second (g_LS_now S)))) (C := RX3) (T := TX3) (N := 3) hx hb hts hinX3 hown hK hP 8 rfl rfl 1 (by decide) (hts (Cond.fieldLink RX4 92 "LearnedShapes$Tree" "size" "I") (List.mem_of_getElem? (i := 2) rfl)) (fun _ h9 => h9) rfl dX4_coversOther_35 ?_
          refine lv_if_ne (tgt := 45) hx hb dX4_coversOther_38 (by decide) (fun c8 => ?_) (fun c8 => ?_)
          · have hF := F_neg c8 hF
            refine lv_iconst (v := (0 : Int32)) hx hb dX4_coversOther_45 (by decide) ?_
            have e50 := Option.some.inj hF
            subst e50
            exact W.zret (v := (0 : Int32)) hx hb hr (rfl) (fun t ht hW => ⟨⟨(0 : Int32), (), rfl, rfl, by rw [ht]; exact hP, va_K.moved hW.alike hK, hD⟩, hS.F ht⟩) hS.2.2 dX4_coversOther_46
          · have hF := F_pos c8 hF
            refine lv_iconst (v := (1 : Int32)) hx hb dX4_coversOther_41 (by decide) ?_
            refine lv_goto (tgt := 46) hx hb dX4_coversOther_42 (by decide) ?_
            have e50 := Option.some.inj hF
            subst e50
            exact W.zret (v := (1 : Int32)) hx hb hr (rfl) (fun t ht hW => ⟨⟨(1 : Int32), (), rfl, rfl, by rw [ht]; exact hP, va_K.moved hW.alike hK, hD⟩, hS.F ht⟩) hS.2.2 dX4_coversOther_46
        · have hF := F_neg c7 hF
          refine lv_aload_n hx hb dX4_coversOther_27 rfl (lv_at hl 0 rfl) ?_
          refine va_get (D := (dC, dI)) (ci := 3) (v := .int (g_Tree_size (g_State_second (g_LS_now S)))) (C := RX3) (T := TX3) (N := 3) hx hb hts hinX3 hown hK hP 8 rfl rfl 1 (by decide) (hts (Cond.fieldLink RX4 92 "LearnedShapes$Tree" "size" "I") (List.mem_of_getElem? (i := 2) rfl)) (fun _ h9 => h9) rfl dX4_coversOther_28 ?_
          refine lv_if_ne (tgt := 47) hx hb dX4_coversOther_31 (by decide) (fun c9 => ?_) (fun c9 => ?_)
          · have hF := F_neg c9 hF
            refine lv_aload_n hx hb dX4_coversOther_47 rfl (lv_at hl 1 rfl) ?_
            refine lv_iconst (v := (0 : Int32)) hx hb dX4_coversOther_48 (by decide) ?_
            refine lv_aload_n hx hb dX4_coversOther_49 rfl (lv_at hl 0 rfl) ?_
            refine lv_iconst (v := (0 : Int32)) hx hb dX4_coversOther_50 (by decide) ?_
            refine lv_iconst (v := (0 : Int32)) hx hb dX4_coversOther_51 (by decide) ?_
            obtain ⟨r10, h11, hF⟩ := ob1_some hF
            have hPc := hP.sub (ws' := (W_Tree cI (sh a 6) (g_State_first (g_LS_now S))) ++ (W_Tree cI (sh a 8) (g_State_second (g_LS_now S)))) [6, 7, 8, 9] rfl
            have hDc := hD.sub (ws' := (W_Tree cI (sh a 6) (g_State_first (g_LS_now S))) ++ (W_Tree cI (sh a 8) (g_State_second (g_LS_now S)))) [6, 7, 8, 9] (by decide) rfl
            have hFc := va_free (wc := (W_Tree cI (sh a 6) (g_State_first (g_LS_now S))) ++ (W_Tree cI (sh a 8) (g_State_second (g_LS_now S)))) hD hS hA [6, 7, 8, 9] rfl
            refine va_calli (va_runS (As := [.ref (a 6), .int (0 : Int32), .ref (a 8), .int (0 : Int32), .int (0 : Int32)]) (rest := []) ⟨hx, hb, hml, hown, hts⟩ (c_X4_coversNode l dC dI cI (sh a 6) (sh a 8) 8 H.size _ _ _ _ _ _ h11) (va_cwS 5 hts gX4_coversOther_X4_coversNode rfl rfl rfl (by decide +kernel) ⟨Nat.le_of_ble_eq_true rfl, Nat.le_of_ble_eq_true rfl⟩) (jPreS hK hPc hDc hN) rfl rfl hl.1 rfl (lv_room (Nat.le_of_ble_eq_true rfl)) dX4_coversOther_52 ⟨Nat.le_of_ble_eq_true rfl, Nat.le_of_ble_eq_true rfl⟩) hS (fun q _ h => hFc q h) hFc (fun r' u' t H locs ht hvm hw hB hz1 hk1 hS => ?_)
            subst hw
            obtain ⟨hP1, -, hD1⟩ := hB
            rw [ht] at hP1
            obtain ⟨hP, hD⟩ := jJoin (wc := (W_Tree cI (sh a 6) (g_State_first (g_LS_now S))) ++ (W_Tree cI (sh a 8) (g_State_second (g_LS_now S)))) (w1 := (W_Tree cI (sh a 6) (g_State_first (g_LS_now S))) ++ (W_Tree cI (sh a 8) (g_State_second (g_LS_now S)))) (ws' := (W_LS cI a S)) hP hD [6, 7, 8, 9] [0, 1, 2, 3, 4, 5, 10, 11, 12] [0, 1, 2, 3, 4, 5, 9, 10, 11, 12, 6, 7, 8] rfl rfl (by decide) (by decide) hk1 hFc hP1 hD1 (by decide) rfl
            have e50 := Option.some.inj hF
            subst e50
            exact W.zret (v := (b2i r10)) hx hb hr (nb2i _) (fun t ht hW => ⟨⟨(b2i r10), (), rfl, rfl, by rw [ht]; exact hP, va_K.moved hW.alike hK, hD⟩, hS.F ht⟩) hS.2.2 dX4_coversOther_55
          · have hF := F_pos c9 hF
            refine lv_aload_n hx hb dX4_coversOther_34 rfl (lv_at hl 0 rfl) ?_
            refine va_get (D := (dC, dI)) (ci := 3) (v := .int (g_Tree_size (g_State_second (g_LS_now S)))) (C := RX3) (T := TX3) (N := 3) hx hb hts hinX3 hown hK hP 8 rfl rfl 1 (by decide) (hts (Cond.fieldLink RX4 92 "LearnedShapes$Tree" "size" "I") (List.mem_of_getElem? (i := 2) rfl)) (fun _ h9 => h9) rfl dX4_coversOther_35 ?_
            refine lv_if_ne (tgt := 45) hx hb dX4_coversOther_38 (by decide) (fun c12 => ?_) (fun c12 => ?_)
            · have hF := F_neg c12 hF
              refine lv_iconst (v := (0 : Int32)) hx hb dX4_coversOther_45 (by decide) ?_
              have e50 := Option.some.inj hF
              subst e50
              exact W.zret (v := (0 : Int32)) hx hb hr (rfl) (fun t ht hW => ⟨⟨(0 : Int32), (), rfl, rfl, by rw [ht]; exact hP, va_K.moved hW.alike hK, hD⟩, hS.F ht⟩) hS.2.2 dX4_coversOther_46
            · have hF := F_pos c12 hF
              refine lv_iconst (v := (1 : Int32)) hx hb dX4_coversOther_41 (by decide) ?_
              refine lv_goto (tgt := 46) hx hb dX4_coversOther_42 (by decide) ?_
              have e50 := Option.some.inj hF
              subst e50
              exact W.zret (v := (1 : Int32)) hx hb hr (rfl) (fun t ht hW => ⟨⟨(1 : Int32), (), rfl, rfl, by rw [ht]; exact hP, va_K.moved hW.alike hK, hD⟩, hS.F ht⟩) hS.2.2 dX4_coversOther_46
    · have hF := F_neg c1 hF
      have hPc := hP.sub (ws' := (W_State cI (sh a 5) (g_LS_now S))) [5, 6, 7, 8, 9] rfl
      have hDc := hD.sub (ws' := (W_State cI (sh a 5) (g_LS_now S))) [5, 6, 7, 8, 9] (by decide) rfl
      have hFc := va_free (wc := (W_State cI (sh a 5) (g_LS_now S))) hD hS hA [5, 6, 7, 8, 9] rfl
      refine va_callr (va_runV (As := [.int v1]) (rest := []) ⟨hx, hb, hml, hown, hts⟩ (c_X2_tree_second l dC dI cI (sh a 5) H.size _ _ c1) (cwV 1 hts gX4_coversOther_X2_tree rfl rfl rfl (by decide +kernel) ⟨Nat.le_of_ble_eq_true rfl, Nat.le_of_ble_eq_true rfl⟩) (jPreV hK hPc hDc hN (ci := 2) rfl rfl) rfl rfl hl.1 rfl (lv_room (Nat.le_of_ble_eq_true rfl)) dX4_coversOther_5 ⟨Nat.le_of_ble_eq_true rfl, Nat.le_of_ble_eq_true rfl⟩) hS (fun q _ h => hFc q h) hFc (fun u q9 t H locs ht hvm hw hB hz1 hk1 hS => ?_)
      obtain ⟨e9, hP1, -, hD1⟩ := hB
      subst e9
      rw [ht] at hP1
      obtain ⟨hP, hD⟩ := jJoin (wc := (W_State cI (sh a 5) (g_LS_now S))) (w1 := (W_State cI (sh a 5) (g_LS_now S))) (ws' := (W_LS cI a S)) hP hD [5, 6, 7, 8, 9] [0, 1, 2, 3, 4, 10, 11, 12] [0, 1, 2, 3, 4, 8, 9, 10, 11, 12, 5, 6, 7] rfl rfl (by decide) (by decide) hk1 hFc hP1 hD1 (by decide) rfl
      refine lv_astore_n (lv' := [(2, .ref (a 8)), (0, .ref (a 0)), (1, .int v1)]) hx hb dX4_coversOther_8 rfl hl (by decide) rfl (fun ls hl => ?_)
      refine lv_aload_n hx hb dX4_coversOther_9 rfl (lv_at hl 1 rfl) ?_
      refine va_get (D := (dC, dI)) (ci := 4) (v := .ref (a 5)) (C := RX4) (T := TX4) (N := 8) hx hb hts hinX4 hown hK hP 0 rfl rfl 3 (by decide) (hts (Cond.fieldLink RX4 23 "LearnedShapes" "now" "LLearnedShapes$State;") (List.mem_of_getElem? (i := 1) rfl)) (fun _ h9 => h9) rfl dX4_coversOther_10 ?_
      refine lv_iconst (v := (1 : Int32)) hx hb dX4_coversOther_13 (by decide) ?_
      refine lv_iload_n hx hb dX4_coversOther_14 rfl (lv_at hl 2 rfl) ?_
      refine lv_isub hx hb dX4_coversOther_15 ?_
      by_cases c13 : ((1 : Int32) - v1) = 0
      · have hF := F_pos c13 hF
        have hPc := hP.sub (ws' := (W_State cI (sh a 5) (g_LS_now S))) [5, 6, 7, 8, 9] rfl
        have hDc := hD.sub (ws' := (W_State cI (sh a 5) (g_LS_now S))) [5, 6, 7, 8, 9] (by decide) rfl
        have hFc := va_free (wc := (W_State cI (sh a 5) (g_LS_now S))) hD hS hA [5, 6, 7, 8, 9] rfl
        refine va_callr (va_runV (As := [.int ((1 : Int32) - v1)]) (rest := []) ⟨hx, hb, hml, hown, hts⟩ (c_X2_tree_first l dC dI cI (sh a 5) H.size _ _ c13) (cwV 1 hts gX4_coversOther_X2_tree rfl rfl rfl (by decide +kernel) ⟨Nat.le_of_ble_eq_true rfl, Nat.le_of_ble_eq_true rfl⟩) (jPreV hK hPc hDc hN (ci := 2) rfl rfl) rfl rfl hl.1 rfl (lv_room (Nat.le_of_ble_eq_true rfl)) dX4_coversOther_16 ⟨Nat.le_of_ble_eq_true rfl, Nat.le_of_ble_eq_true rfl⟩) hS (fun q _ h => hFc q h) hFc (fun u q9 t H locs ht hvm hw hB hz1 hk1 hS => ?_)
        obtain ⟨e9, hP1, -, hD1⟩ := hB
        subst e9
        rw [ht] at hP1
        obtain ⟨hP, hD⟩ := jJoin (wc := (W_State cI (sh a 5) (g_LS_now S))) (w1 := (W_State cI (sh a 5) (g_LS_now S))) (ws' := (W_LS cI a S)) hP hD [5, 6, 7, 8, 9] [0, 1, 2, 3, 4, 10, 11, 12] [0, 1, 2, 3, 4, 8, 9, 10, 11, 12, 5, 6, 7] rfl rfl (by decide) (by decide) hk1 hFc hP1 hD1 (by decide) rfl
        refine lv_astore_n (lv' := [(3, .ref (a 6)), (2, .ref (a 8)), (0, .ref (a 0)), (1, .int v1)]) hx hb dX4_coversOther_19 rfl hl (by decide) rfl (fun ls hl => ?_)
        refine lv_aload_n hx hb dX4_coversOther_20 rfl (lv_at hl 1 rfl) ?_
        refine va_get (D := (dC, dI)) (ci := 3) (v := .int (g_Tree_size (g_State_second (g_LS_now S)))) (C := RX3) (T := TX3) (N := 3) hx hb hts hinX3 hown hK hP 8 rfl rfl 1 (by decide) (hts (Cond.fieldLink RX4 92 "LearnedShapes$Tree" "size" "I") (List.mem_of_getElem? (i := 2) rfl)) (fun _ h9 => h9) rfl dX4_coversOther_21 ?_
        refine lv_if_eq (tgt := 34) hx hb dX4_coversOther_24 (by decide) (fun c14 => ?_) (fun c14 => ?_)
        · have hF := F_pos c14 hF
          refine lv_aload_n hx hb dX4_coversOther_34 rfl (lv_at hl 0 rfl) ?_
          refine va_get (D := (dC, dI)) (ci := 3) (v := .int (g_Tree_size (g_State_first (g_LS_now S)))) (C := RX3) (T := TX3) (N := 3) hx hb hts hinX3 hown hK hP 6 rfl rfl 1 (by decide) (hts (Cond.fieldLink RX4 92 "LearnedShapes$Tree" "size" "I") (List.mem_of_getElem? (i := 2) rfl)) (fun _ h9 => h9) rfl dX4_coversOther_35 ?_
          refine lv_if_ne (tgt := 45) hx hb dX4_coversOther_38 (by decide) (fun c15 => ?_) (fun c15 => ?_)
          · have hF := F_neg c15 hF
            refine lv_iconst (v := (0 : Int32)) hx hb dX4_coversOther_45 (by decide) ?_
            have e50 := Option.some.inj hF
            subst e50
            exact W.zret (v := (0 : Int32)) hx hb hr (rfl) (fun t ht hW => ⟨⟨(0 : Int32), (), rfl, rfl, by rw [ht]; exact hP, va_K.moved hW.alike hK, hD⟩, hS.F ht⟩) hS.2.2 dX4_coversOther_46
          · have hF := F_pos c15 hF
            refine lv_iconst (v := (1 : Int32)) hx hb dX4_coversOther_41 (by decide) ?_
            refine lv_goto (tgt := 46) hx hb dX4_coversOther_42 (by decide) ?_
            have e50 := Option.some.inj hF
            subst e50
            exact W.zret (v := (1 : Int32)) hx hb hr (rfl) (fun t ht hW => ⟨⟨(1 : Int32), (), rfl, rfl, by rw [ht]; exact hP, va_K.moved hW.alike hK, hD⟩, hS.F ht⟩) hS.2.2 dX4_coversOther_46
        · have hF := F_neg c14 hF
          refine lv_aload_n hx hb dX4_coversOther_27 rfl (lv_at hl 0 rfl) ?_
          refine va_get (D := (dC, dI)) (ci := 3) (v := .int (g_Tree_size (g_State_first (g_LS_now S)))) (C := RX3) (T := TX3) (N := 3) hx hb hts hinX3 hown hK hP 6 rfl rfl 1 (by decide) (hts (Cond.fieldLink RX4 92 "LearnedShapes$Tree" "size" "I") (List.mem_of_getElem? (i := 2) rfl)) (fun _ h9 => h9) rfl dX4_coversOther_28 ?_
          refine lv_if_ne (tgt := 47) hx hb dX4_coversOther_31 (by decide) (fun c16 => ?_) (fun c16 => ?_)
          · have hF := F_neg c16 hF
            refine lv_aload_n hx hb dX4_coversOther_47 rfl (lv_at hl 1 rfl) ?_
            refine lv_iconst (v := (0 : Int32)) hx hb dX4_coversOther_48 (by decide) ?_
            refine lv_aload_n hx hb dX4_coversOther_49 rfl (lv_at hl 0 rfl) ?_
            refine lv_iconst (v := (0 : Int32)) hx hb dX4_coversOther_50 (by decide) ?_
            refine lv_iconst (v := (0 : Int32)) hx hb dX4_coversOther_51 (by decide) ?_
            obtain ⟨r17, h18, hF⟩ := ob1_some hF
            have hPc := hP.sub (ws' := (W_Tree cI (sh a 8) (g_State_second (g_LS_now S))) ++ (W_Tree cI (sh a 6) (g_State_first (g_LS_now S)))) [8, 9, 6, 7] rfl
            have hDc := hD.sub (ws' := (W_Tree cI (sh a 8) (g_State_second (g_LS_now S))) ++ (W_Tree cI (sh a 6) (g_State_first (g_LS_now S)))) [8, 9, 6, 7] (by decide) rfl
            have hFc := va_free (wc := (W_Tree cI (sh a 8) (g_State_second (g_LS_now S))) ++ (W_Tree cI (sh a 6) (g_State_first (g_LS_now S)))) hD hS hA [8, 9, 6, 7] rfl
            refine va_calli (va_runS (As := [.ref (a 8), .int (0 : Int32), .ref (a 6), .int (0 : Int32), .int (0 : Int32)]) (rest := []) ⟨hx, hb, hml, hown, hts⟩ (c_X4_coversNode l dC dI cI (sh a 8) (sh a 6) 8 H.size _ _ _ _ _ _ h18) (va_cwS 5 hts gX4_coversOther_X4_coversNode rfl rfl rfl (by decide +kernel) ⟨Nat.le_of_ble_eq_true rfl, Nat.le_of_ble_eq_true rfl⟩) (jPreS hK hPc hDc hN) rfl rfl hl.1 rfl (lv_room (Nat.le_of_ble_eq_true rfl)) dX4_coversOther_52 ⟨Nat.le_of_ble_eq_true rfl, Nat.le_of_ble_eq_true rfl⟩) hS (fun q _ h => hFc q h) hFc (fun r' u' t H locs ht hvm hw hB hz1 hk1 hS => ?_)
            subst hw
            obtain ⟨hP1, -, hD1⟩ := hB
            rw [ht] at hP1
            obtain ⟨hP, hD⟩ := jJoin (wc := (W_Tree cI (sh a 8) (g_State_second (g_LS_now S))) ++ (W_Tree cI (sh a 6) (g_State_first (g_LS_now S)))) (w1 := (W_Tree cI (sh a 8) (g_State_second (g_LS_now S))) ++ (W_Tree cI (sh a 6) (g_State_first (g_LS_now S)))) (ws' := (W_LS cI a S)) hP hD [8, 9, 6, 7] [0, 1, 2, 3, 4, 5, 10, 11, 12] [0, 1, 2, 3, 4, 5, 11, 12, 9, 10, 6, 7, 8] rfl rfl (by decide) (by decide) hk1 hFc hP1 hD1 (by decide) rfl
            have e50 := Option.some.inj hF
            subst e50
            exact W.zret (v := (b2i r17)) hx hb hr (nb2i _) (fun t ht hW => ⟨⟨(b2i r17), (), rfl, rfl, by rw [ht]; exact hP, va_K.moved hW.alike hK, hD⟩, hS.F ht⟩) hS.2.2 dX4_coversOther_55
          · have hF := F_pos c16 hF
            refine lv_aload_n hx hb dX4_coversOther_34 rfl (lv_at hl 0 rfl) ?_
            refine va_get (D := (dC, dI)) (ci := 3) (v := .int (g_Tree_size (g_State_first (g_LS_now S)))) (C := RX3) (T := TX3) (N := 3) hx hb hts hinX3 hown hK hP 6 rfl rfl 1 (by decide) (hts (Cond.fieldLink RX4 92 "LearnedShapes$Tree" "size" "I") (List.mem_of_getElem? (i := 2) rfl)) (fun _ h9 => h9) rfl dX4_coversOther_35 ?_
            refine lv_if_ne (tgt := 45) hx hb dX4_coversOther_38 (by decide) (fun c19 => ?_) (fun c19 => ?_)
            · have hF := F_neg c19 hF
              refine lv_iconst (v := (0 : Int32)) hx hb dX4_coversOther_45 (by decide) ?_
              have e50 := Option.some.inj hF
              subst e50
              exact W.zret (v := (0 : Int32)) hx hb hr (rfl) (fun t ht hW => ⟨⟨(0 : Int32), (), rfl, rfl, by rw [ht]; exact hP, va_K.moved hW.alike hK, hD⟩, hS.F ht⟩) hS.2.2 dX4_coversOther_46
            · have hF := F_pos c19 hF
              refine lv_iconst (v := (1 : Int32)) hx hb dX4_coversOther_41 (by decide) ?_
              refine lv_goto (tgt := 46) hx hb dX4_coversOther_42 (by decide) ?_
              have e50 := Option.some.inj hF
              subst e50
              exact W.zret (v := (1 : Int32)) hx hb hr (rfl) (fun t ht hW => ⟨⟨(1 : Int32), (), rfl, rfl, by rw [ht]; exact hP, va_K.moved hW.alike hK, hD⟩, hS.F ht⟩) hS.2.2 dX4_coversOther_46
      · have hF := F_neg c13 hF
        have hPc := hP.sub (ws' := (W_State cI (sh a 5) (g_LS_now S))) [5, 6, 7, 8, 9] rfl
        have hDc := hD.sub (ws' := (W_State cI (sh a 5) (g_LS_now S))) [5, 6, 7, 8, 9] (by decide) rfl
        have hFc := va_free (wc := (W_State cI (sh a 5) (g_LS_now S))) hD hS hA [5, 6, 7, 8, 9] rfl
        refine va_callr (va_runV (As := [.int ((1 : Int32) - v1)]) (rest := []) ⟨hx, hb, hml, hown, hts⟩ (c_X2_tree_second l dC dI cI (sh a 5) H.size _ _ c13) (cwV 1 hts gX4_coversOther_X2_tree rfl rfl rfl (by decide +kernel) ⟨Nat.le_of_ble_eq_true rfl, Nat.le_of_ble_eq_true rfl⟩) (jPreV hK hPc hDc hN (ci := 2) rfl rfl) rfl rfl hl.1 rfl (lv_room (Nat.le_of_ble_eq_true rfl)) dX4_coversOther_16 ⟨Nat.le_of_ble_eq_true rfl, Nat.le_of_ble_eq_true rfl⟩) hS (fun q _ h => hFc q h) hFc (fun u q9 t H locs ht hvm hw hB hz1 hk1 hS => ?_)
        obtain ⟨e9, hP1, -, hD1⟩ := hB
        subst e9
        rw [ht] at hP1
        obtain ⟨hP, hD⟩ := jJoin (wc := (W_State cI (sh a 5) (g_LS_now S))) (w1 := (W_State cI (sh a 5) (g_LS_now S))) (ws' := (W_LS cI a S)) hP hD [5, 6, 7, 8, 9] [0, 1, 2, 3, 4, 10, 11, 12] [0, 1, 2, 3, 4, 8, 9, 10, 11, 12, 5, 6, 7] rfl rfl (by decide) (by decide) hk1 hFc hP1 hD1 (by decide) rfl
        refine lv_astore_n (lv' := [(3, .ref (a 8)), (2, .ref (a 8)), (0, .ref (a 0)), (1, .int v1)]) hx hb dX4_coversOther_19 rfl hl (by decide) rfl (fun ls hl => ?_)
        refine lv_aload_n hx hb dX4_coversOther_20 rfl (lv_at hl 1 rfl) ?_
        refine va_get (D := (dC, dI)) (ci := 3) (v := .int (g_Tree_size (g_State_second (g_LS_now S)))) (C := RX3) (T := TX3) (N := 3) hx hb hts hinX3 hown hK hP 8 rfl rfl 1 (by decide) (hts (Cond.fieldLink RX4 92 "LearnedShapes$Tree" "size" "I") (List.mem_of_getElem? (i := 2) rfl)) (fun _ h9 => h9) rfl dX4_coversOther_21 ?_
        refine lv_if_eq (tgt := 34) hx hb dX4_coversOther_24 (by decide) (fun c20 => ?_) (fun c20 => ?_)
        · have hF := F_pos c20 hF
          refine lv_aload_n hx hb dX4_coversOther_34 rfl (lv_at hl 0 rfl) ?_
          refine va_get (D := (dC, dI)) (ci := 3) (v := .int (g_Tree_size (g_State_second (g_LS_now S)))) (C := RX3) (T := TX3) (N := 3) hx hb hts hinX3 hown hK hP 8 rfl rfl 1 (by decide) (hts (Cond.fieldLink RX4 92 "LearnedShapes$Tree" "size" "I") (List.mem_of_getElem? (i := 2) rfl)) (fun _ h9 => h9) rfl dX4_coversOther_35 ?_
          refine lv_if_ne (tgt := 45) hx hb dX4_coversOther_38 (by decide) (fun c21 => ?_) (fun c21 => ?_)
          · have hF := F_neg c21 hF
            refine lv_iconst (v := (0 : Int32)) hx hb dX4_coversOther_45 (by decide) ?_
            have e50 := Option.some.inj hF
            subst e50
            exact W.zret (v := (0 : Int32)) hx hb hr (rfl) (fun t ht hW => ⟨⟨(0 : Int32), (), rfl, rfl, by rw [ht]; exact hP, va_K.moved hW.alike hK, hD⟩, hS.F ht⟩) hS.2.2 dX4_coversOther_46
          · have hF := F_pos c21 hF
            refine lv_iconst (v := (1 : Int32)) hx hb dX4_coversOther_41 (by decide) ?_
            refine lv_goto (tgt := 46) hx hb dX4_coversOther_42 (by decide) ?_
            have e50 := Option.some.inj hF
            subst e50
            exact W.zret (v := (1 : Int32)) hx hb hr (rfl) (fun t ht hW => ⟨⟨(1 : Int32), (), rfl, rfl, by rw [ht]; exact hP, va_K.moved hW.alike hK, hD⟩, hS.F ht⟩) hS.2.2 dX4_coversOther_46
        · have hF := F_neg c20 hF
          refine lv_aload_n hx hb dX4_coversOther_27 rfl (lv_at hl 0 rfl) ?_
          refine va_get (D := (dC, dI)) (ci := 3) (v := .int (g_Tree_size (g_State_second (g_LS_now S)))) (C := RX3) (T := TX3) (N := 3) hx hb hts hinX3 hown hK hP 8 rfl rfl 1 (by decide) (hts (Cond.fieldLink RX4 92 "LearnedShapes$Tree" "size" "I") (List.mem_of_getElem? (i := 2) rfl)) (fun _ h9 => h9) rfl dX4_coversOther_28 ?_
          refine lv_if_ne (tgt := 47) hx hb dX4_coversOther_31 (by decide) (fun c22 => ?_) (fun c22 => ?_)
          · have hF := F_neg c22 hF
            refine lv_aload_n hx hb dX4_coversOther_47 rfl (lv_at hl 1 rfl) ?_
            refine lv_iconst (v := (0 : Int32)) hx hb dX4_coversOther_48 (by decide) ?_
            refine lv_aload_n hx hb dX4_coversOther_49 rfl (lv_at hl 0 rfl) ?_
            refine lv_iconst (v := (0 : Int32)) hx hb dX4_coversOther_50 (by decide) ?_
            refine lv_iconst (v := (0 : Int32)) hx hb dX4_coversOther_51 (by decide) ?_
            exact nomatch hF
          · have hF := F_pos c22 hF
            refine lv_aload_n hx hb dX4_coversOther_34 rfl (lv_at hl 0 rfl) ?_
            refine va_get (D := (dC, dI)) (ci := 3) (v := .int (g_Tree_size (g_State_second (g_LS_now S)))) (C := RX3) (T := TX3) (N := 3) hx hb hts hinX3 hown hK hP 8 rfl rfl 1 (by decide) (hts (Cond.fieldLink RX4 92 "LearnedShapes$Tree" "size" "I") (List.mem_of_getElem? (i := 2) rfl)) (fun _ h9 => h9) rfl dX4_coversOther_35 ?_
            refine lv_if_ne (tgt := 45) hx hb dX4_coversOther_38 (by decide) (fun c23 => ?_) (fun c23 => ?_)
            · have hF := F_neg c23 hF
              refine lv_iconst (v := (0 : Int32)) hx hb dX4_coversOther_45 (by decide) ?_
              have e50 := Option.some.inj hF
              subst e50
              exact W.zret (v := (0 : Int32)) hx hb hr (rfl) (fun t ht hW => ⟨⟨(0 : Int32), (), rfl, rfl, by rw [ht]; exact hP, va_K.moved hW.alike hK, hD⟩, hS.F ht⟩) hS.2.2 dX4_coversOther_46
            · have hF := F_pos c23 hF
              refine lv_iconst (v := (1 : Int32)) hx hb dX4_coversOther_41 (by decide) ?_
              refine lv_goto (tgt := 46) hx hb dX4_coversOther_42 (by decide) ?_
              have e50 := Option.some.inj hF
              subst e50
              exact W.zret (v := (1 : Int32)) hx hb hr (rfl) (fun t ht hW => ⟨⟨(1 : Int32), (), rfl, rfl, by rw [ht]; exact hP, va_K.moved hW.alike hK, hD⟩, hS.F ht⟩) hS.2.2 dX4_coversOther_46
  exact KE _ _ hP hD hS
set_option maxHeartbeats 4000000 in
set_option maxRecDepth 100000 in
theorem c_X4_shareOfSure (l : Launch) (dC : Nat → ClassId) (dI : Nat → Nat → Nat) (cI : ClassId) (a : Nat → Nat) (sz : Nat) (S : S_Tree)  (rr : UInt64) (hF : F_X4_shareOfSure S  = some rr) : Met l yX4_shareOfSure wsX4_shareOfSure ({ frames := 1, cells := 0, slots := 0, locals := 24 } : Room) (va_Pc [.ref (a 0)] (jPre (dC, dI) [(cI, .int)] sz ((W_Tree cI a S)))) (va_Qd (fun (r' : UInt64) (_ : Unit) => rr = r') (fun _ : Unit => jB (dC, dI) [(cI, .int)] (va_A ((W_Tree cI a S)) sz) ((W_Tree cI a S))) (va_A ((W_Tree cI a S)) sz)) 0 0 (va_A ((W_Tree cI a S)) sz) := by
  refine Met.ofW (cc := cX4_shareOfSure) (maxL := 3) (ret := (some .double)) (by decide) rfl ?_
  intro p e s m args below meth c s₁ B hml hv
  obtain ⟨rfl, hsz, hP, hK, hD0, hN⟩ := hv
  have hx := B.exec
  have hb := B.bytes
  have hr := B.returns
  have hts := atoms_spec (ws := wsX4_shareOfSure) B.pre
  have hown : s.vm.findClass RX4 = some m.cls := findClass_of_methodNamed B.named
  have hlocks := B.notSynchronized
  have hinX3 : ∀ w ∈ u_ws RX3 TX3 3, w ∈ wsX4_shareOfSure := by decide +kernel
  subst hsz
  have hD := hD0.self (sz := s.heap.size)
  generalize hAe : (va_A ((W_Tree cI a S)) s.heap.size) = A at hD ⊢
  have hA : ∀ q : Nat, s.heap.size ≤ q → A q := fun q h => by rw [← hAe]; exact Or.inr h
  have hS : va_S A s.heap s.heap [] := va_S.rf
  have hl := lv_entry ([.ref (a 0)]) (n := 3) (Nat.le_of_ble_eq_true rfl)
  rw [lg_entry_eq]
  generalize (lg_sl ([.ref (a 0)]) ++ List.replicate (3 - (lg_sl ([.ref (a 0)])).length) Slot.unset).toArray = ls at hl ⊢
  have hl : lv_has ls 3 [(0, .ref (a 0))] := hl
  have K13 : ∀ (n13 : Nat) (x1 : Int32) (x2 : Int32) (H : Heap) (locs : List Loc), F_X4_shareOfSure_13 S n13 x1 x2 = some rr → va_P (dC, dI) vwCl ((W_Tree cI a S)) H → va_D A ((W_Tree cI a S)) → va_S A s.heap H locs → ∀ ls : Array Slot, lv_has ls 3 [(0, .ref (a 0)), (1, .int x1), (2, .int x2)] → W p l e (headSpec wsX4_shareOfSure ({ frames := 1, cells := 0, slots := 0, locals := 24 } : Room)).room s m ([.ref (a 0)] : List Value).toArray below meth c H locs 0 0 (MQ below (va_Qd (fun (r' : UInt64) (_ : Unit) => rr = r') (fun _ : Unit => jB (dC, dI) [(cI, .int)] A ((W_Tree cI a S))) A) ([.ref (a 0)] : List Value).toArray s 0 0 A) (F0 m 13 ls []) := by
    intro n13
    induction n13 with
    | zero => intro x1 x2 H locs hF; exact nomatch hF
    | succ n13 ih13 =>
      intro x1 x2 H locs hF hP hD hS ls hl
      rw [F_X4_shareOfSure_13_s] at hF
      refine lv_iload_n hx hb dX4_shareOfSure_13 rfl (lv_at hl 2 rfl) ?_
      refine lv_aload_n hx hb dX4_shareOfSure_14 rfl (lv_at hl 0 rfl) ?_
      refine va_get (D := (dC, dI)) (ci := 3) (v := .int (g_Tree_size S)) (C := RX3) (T := TX3) (N := 3) hx hb hts hinX3 hown hK hP 0 rfl rfl 1 (by decide) (hts (Cond.fieldLink RX4 92 "LearnedShapes$Tree" "size" "I") (List.mem_of_getElem? (i := 1) rfl)) (fun _ h9 => h9) rfl dX4_shareOfSure_15 ?_
      refine lv_icmp_ge (tgt := 60) hx hb dX4_shareOfSure_18 (by decide) (fun c1 => ?_) (fun c1 => ?_)
      · have hF := F_pos c1 hF
        refine lv_iload_n hx hb dX4_shareOfSure_60 rfl (lv_at hl 1 rfl) ?_
        refine lv_i2d hx hb dX4_shareOfSure_61 ?_
        refine lv_aload_n hx hb dX4_shareOfSure_62 rfl (lv_at hl 0 rfl) ?_
        refine va_get (D := (dC, dI)) (ci := 3) (v := .int (g_Tree_size S)) (C := RX3) (T := TX3) (N := 3) hx hb hts hinX3 hown hK hP 0 rfl rfl 1 (by decide) (hts (Cond.fieldLink RX4 92 "LearnedShapes$Tree" "size" "I") (List.mem_of_getElem? (i := 1) rfl)) (fun _ h9 => h9) rfl dX4_shareOfSure_63 ?_
        refine lv_i2d hx hb dX4_shareOfSure_66 ?_
        obtain ⟨g2, hF⟩ := og_some hF
        refine lv_ddiv hx hb dX4_shareOfSure_67 (n64_of g2) ?_
        have e50 := Option.some.inj hF
        subst e50
        exact W.dret (v := (FP.ddiv (FP.i2d x1) (FP.i2d (g_Tree_size S)))) hx hb hr (fun t ht hW => ⟨⟨(FP.ddiv (FP.i2d x1) (FP.i2d (g_Tree_size S))), (), rfl, rfl, by rw [ht]; exact hP, va_K.moved hW.alike hK, hD⟩, hS.F ht⟩) hS.2.2 dX4_shareOfSure_68
      · have hF := F_neg c1 hF
        refine lv_aload_n hx hb dX4_shareOfSure_21 rfl (lv_at hl 0 rfl) ?_
        refine lv_iload_n hx hb dX4_shareOfSure_22 rfl (lv_at hl 2 rfl) ?_
        refine lv_iconst (v := (4 : Int32)) hx hb dX4_shareOfSure_23 (by decide) ?_
        obtain ⟨r3, h4, hF⟩ := ob1_some hF
        have hPc : va_P (dC, dI) vwCl ((W_Tree cI a S)) H := hP
        have hDc : va_D A ((W_Tree cI a S)) := hD
        have hFc := jFreeW (ws := (W_Tree cI a S)) hD hS hA
        refine va_calli (va_runV (As := [.int x2, .int (4 : Int32)]) (rest := []) ⟨hx, hb, hml, hown, hts⟩ (c_X3_get l dC dI cI a H.size _ _ _ _ h4) (cwV 2 hts gX4_shareOfSure_X3_get rfl rfl rfl (by decide +kernel) ⟨Nat.le_of_ble_eq_true rfl, Nat.le_of_ble_eq_true rfl⟩) (jPreV hK hPc hDc hN (ci := 3) rfl rfl) rfl rfl hl.1 rfl (lv_room (Nat.le_of_ble_eq_true rfl)) dX4_shareOfSure_24 ⟨Nat.le_of_ble_eq_true rfl, Nat.le_of_ble_eq_true rfl⟩) hS (fun q _ h => hFc q h) hFc (fun r' u' t H locs ht hvm hw hB hz1 hk1 hS => ?_)
        subst hw
        obtain ⟨hP1, -, hD1⟩ := hB
        rw [ht] at hP1
        have hP : va_P (dC, dI) vwCl ((W_Tree cI a S)) H := hP1
        have hD : va_D A ((W_Tree cI a S)) := hD1.weaken (fun _ _ _ h => hFc _ h)
        refine lv_if_ne (tgt := 54) hx hb dX4_shareOfSure_27 (by decide) (fun c5 => ?_) (fun c5 => ?_)
        · have hF := F_neg c5 hF
          refine lv_iinc (v := (x2 + (1 : Int32))) (lv' := [(2, .int (x2 + (1 : Int32))), (0, .ref (a 0)), (1, .int x1)]) hx hb dX4_shareOfSure_54 hl (k := 2) rfl rfl (by decide) rfl (fun ls hl => ?_)
          refine lv_goto (tgt := 13) hx hb dX4_shareOfSure_57 (by decide) ?_
          exact ih13 _ _ _ _ hF hP hD hS _ (lv_sub hl [1, 2, 0] rfl)
        · have hF := F_pos c5 hF
          refine lv_aload_n hx hb dX4_shareOfSure_30 rfl (lv_at hl 0 rfl) ?_
          refine lv_iload_n hx hb dX4_shareOfSure_31 rfl (lv_at hl 2 rfl) ?_
          refine lv_iconst (v := (0 : Int32)) hx hb dX4_shareOfSure_32 (by decide) ?_
          obtain ⟨r6, h7, hF⟩ := ob1_some hF
          have hPc : va_P (dC, dI) vwCl ((W_Tree cI a S)) H := hP
          have hDc : va_D A ((W_Tree cI a S)) := hD
          have hFc := jFreeW (ws := (W_Tree cI a S)) hD hS hA
          refine va_calli (va_runV (As := [.int x2, .int (0 : Int32)]) (rest := []) ⟨hx, hb, hml, hown, hts⟩ (c_X3_get l dC dI cI a H.size _ _ _ _ h7) (cwV 2 hts gX4_shareOfSure_X3_get rfl rfl rfl (by decide +kernel) ⟨Nat.le_of_ble_eq_true rfl, Nat.le_of_ble_eq_true rfl⟩) (jPreV hK hPc hDc hN (ci := 3) rfl rfl) rfl rfl hl.1 rfl (lv_room (Nat.le_of_ble_eq_true rfl)) dX4_shareOfSure_33 ⟨Nat.le_of_ble_eq_true rfl, Nat.le_of_ble_eq_true rfl⟩) hS (fun q _ h => hFc q h) hFc (fun r' u' t H locs ht hvm hw hB hz1 hk1 hS => ?_)
          subst hw
          obtain ⟨hP1, -, hD1⟩ := hB
          rw [ht] at hP1
          have hP : va_P (dC, dI) vwCl ((W_Tree cI a S)) H := hP1
          have hD : va_D A ((W_Tree cI a S)) := hD1.weaken (fun _ _ _ h => hFc _ h)
          refine lv_bipush (v := (7 : Int32)) hx hb dX4_shareOfSure_36 (by decide) ?_
          refine lv_icmp_eq (tgt := 54) hx hb dX4_shareOfSure_38 (by decide) (fun c8 => ?_) (fun c8 => ?_)
          · have hF := F_pos c8 hF
            refine lv_iinc (v := (x2 + (1 : Int32))) (lv' := [(2, .int (x2 + (1 : Int32))), (0, .ref (a 0)), (1, .int x1)]) hx hb dX4_shareOfSure_54 hl (k := 2) rfl rfl (by decide) rfl (fun ls hl => ?_)
            refine lv_goto (tgt := 13) hx hb dX4_shareOfSure_57 (by decide) ?_
            exact ih13 _ _ _ _ hF hP hD hS _ (lv_sub hl [1, 2, 0] rfl)
          · have hF := F_neg c8 hF
            refine lv_aload_n hx hb dX4_shareOfSure_41 rfl (lv_at hl 0 rfl) ?_
            refine lv_iload_n hx hb dX4_shareOfSure_42 rfl (lv_at hl 2 rfl) ?_
            refine lv_bipush (v := (8 : Int32)) hx hb dX4_shareOfSure_43 (by decide) ?_
            obtain ⟨r9, h10, hF⟩ := ob1_some hF
            have hPc : va_P (dC, dI) vwCl ((W_Tree cI a S)) H := hP
            have hDc : va_D A ((W_Tree cI a S)) := hD
            have hFc := jFreeW (ws := (W_Tree cI a S)) hD hS hA
            refine va_calli (va_runV (As := [.int x2, .int (8 : Int32)]) (rest := []) ⟨hx, hb, hml, hown, hts⟩ (c_X3_get l dC dI cI a H.size _ _ _ _ h10) (cwV 2 hts gX4_shareOfSure_X3_get rfl rfl rfl (by decide +kernel) ⟨Nat.le_of_ble_eq_true rfl, Nat.le_of_ble_eq_true rfl⟩) (jPreV hK hPc hDc hN (ci := 3) rfl rfl) rfl rfl hl.1 rfl (lv_room (Nat.le_of_ble_eq_true rfl)) dX4_shareOfSure_45 ⟨Nat.le_of_ble_eq_true rfl, Nat.le_of_ble_eq_true rfl⟩) hS (fun q _ h => hFc q h) hFc (fun r' u' t H locs ht hvm hw hB hz1 hk1 hS => ?_)
            subst hw
            obtain ⟨hP1, -, hD1⟩ := hB
            rw [ht] at hP1
            have hP : va_P (dC, dI) vwCl ((W_Tree cI a S)) H := hP1
            have hD : va_D A ((W_Tree cI a S)) := hD1.weaken (fun _ _ _ h => hFc _ h)
            refine lv_if_ne (tgt := 54) hx hb dX4_shareOfSure_48 (by decide) (fun c11 => ?_) (fun c11 => ?_)
            · have hF := F_neg c11 hF
              refine lv_iinc (v := (x2 + (1 : Int32))) (lv' := [(2, .int (x2 + (1 : Int32))), (0, .ref (a 0)), (1, .int x1)]) hx hb dX4_shareOfSure_54 hl (k := 2) rfl rfl (by decide) rfl (fun ls hl => ?_)
              refine lv_goto (tgt := 13) hx hb dX4_shareOfSure_57 (by decide) ?_
              exact ih13 _ _ _ _ hF hP hD hS _ (lv_sub hl [1, 2, 0] rfl)
            · have hF := F_pos c11 hF
              refine lv_iinc (v := (x1 + (1 : Int32))) (lv' := [(1, .int (x1 + (1 : Int32))), (0, .ref (a 0)), (2, .int x2)]) hx hb dX4_shareOfSure_51 hl (k := 1) rfl rfl (by decide) rfl (fun ls hl => ?_)
              refine lv_iinc (v := (x2 + (1 : Int32))) (lv' := [(2, .int (x2 + (1 : Int32))), (1, .int (x1 + (1 : Int32))), (0, .ref (a 0))]) hx hb dX4_shareOfSure_54 hl (k := 2) rfl rfl (by decide) rfl (fun ls hl => ?_)
              refine lv_goto (tgt := 13) hx hb dX4_shareOfSure_57 (by decide) ?_
              exact ih13 _ _ _ _ hF hP hD hS _ (lv_sub hl [2, 1, 0] rfl)
  have KE : ∀ (H : Heap) (locs : List Loc), va_P (dC, dI) vwCl ((W_Tree cI a S)) H → va_D A ((W_Tree cI a S)) → va_S A s.heap H locs → W p l e (headSpec wsX4_shareOfSure ({ frames := 1, cells := 0, slots := 0, locals := 24 } : Room)).room s m ([.ref (a 0)] : List Value).toArray below meth c H locs 0 0 (MQ below (va_Qd (fun (r' : UInt64) (_ : Unit) => rr = r') (fun _ : Unit => jB (dC, dI) [(cI, .int)] A ((W_Tree cI a S))) A) ([.ref (a 0)] : List Value).toArray s 0 0 A) (F0 m 0 ls []) := by
    intro H locs hP hD hS
    unfold F_X4_shareOfSure at hF
    refine lv_aload_n hx hb dX4_shareOfSure_0 rfl (lv_at hl 0 rfl) ?_
    refine va_get (D := (dC, dI)) (ci := 3) (v := .int (g_Tree_size S)) (C := RX3) (T := TX3) (N := 3) hx hb hts hinX3 hown hK hP 0 rfl rfl 1 (by decide) (hts (Cond.fieldLink RX4 92 "LearnedShapes$Tree" "size" "I") (List.mem_of_getElem? (i := 1) rfl)) (fun _ h9 => h9) rfl dX4_shareOfSure_1 ?_
    refine lv_if_gt (tgt := 9) hx hb dX4_shareOfSure_4 (by decide) (fun c12 => ?_) (fun c12 => ?_)
    · have hF := F_pos c12 hF
      refine lv_iconst (v := (0 : Int32)) hx hb dX4_shareOfSure_9 (by decide) ?_
      refine lv_istore_n (lv' := [(1, .int (0 : Int32)), (0, .ref (a 0))]) hx hb dX4_shareOfSure_10 rfl hl (by decide) rfl (fun ls hl => ?_)
      refine lv_iconst (v := (0 : Int32)) hx hb dX4_shareOfSure_11 (by decide) ?_
      refine lv_istore_n (lv' := [(2, .int (0 : Int32)), (1, .int (0 : Int32)), (0, .ref (a 0))]) hx hb dX4_shareOfSure_12 rfl hl (by decide) rfl (fun ls hl => ?_)
      exact K13 _ _ _ _ _ hF hP hD hS _ (lv_sub hl [2, 1, 0] rfl)
    · have hF := F_neg c12 hF
      refine lv_dconst1 hx hb dX4_shareOfSure_7 ?_
      have e50 := Option.some.inj hF
      subst e50
      exact W.dret (v := (4607182418800017408 : UInt64)) hx hb hr (fun t ht hW => ⟨⟨(4607182418800017408 : UInt64), (), rfl, rfl, by rw [ht]; exact hP, va_K.moved hW.alike hK, hD⟩, hS.F ht⟩) hS.2.2 dX4_shareOfSure_8
  exact KE _ _ hP hD hS
set_option maxHeartbeats 4000000 in
set_option maxRecDepth 100000 in
theorem c_X4_clearBuffer (l : Launch) (dC : Nat → ClassId) (dI : Nat → Nat → Nat) (cI : ClassId) (a : Nat → Nat) (sz : Nat) (S : S_LS)  (rr : Int32) (Y : S_LS) (hF : F_X4_clearBuffer S  = some (rr, Y)) : Met l yX4_clearBuffer wsX4_clearBuffer ({ frames := 0, cells := 0, slots := 0, locals := 0 } : Room) (va_Pc [.ref (a 0)] (jPre (dC, dI) [(cI, .int)] sz ((W_LS cI a S)))) (va_Qi (fun (r' : Int32) (u : S_LS) => rr = r' ∧ Y = u) (fun u : S_LS => jB (dC, dI) [(cI, .int)] (va_A ((W_LS cI a S)) sz) ((W_LS cI a u))) (va_A ((W_LS cI a S)) sz)) 0 0 (va_A ((W_LS cI a S)) sz) := by
  refine Met.ofW (cc := cX4_clearBuffer) (maxL := 2) (ret := (some .int)) (by decide) rfl ?_
  intro p e s m args below meth c s₁ B hml hv
  obtain ⟨rfl, hsz, hP, hK, hD0, hN⟩ := hv
  have hx := B.exec
  have hb := B.bytes
  have hr := B.returns
  have hts := atoms_spec (ws := wsX4_clearBuffer) B.pre
  have hown : s.vm.findClass RX4 = some m.cls := findClass_of_methodNamed B.named
  have hlocks := B.notSynchronized
  have hinX4 : ∀ w ∈ u_ws RX4 TX4 8, w ∈ wsX4_clearBuffer := by decide +kernel
  subst hsz
  have hD := hD0.self (sz := s.heap.size)
  generalize hAe : (va_A ((W_LS cI a S)) s.heap.size) = A at hD ⊢
  have hA : ∀ q : Nat, s.heap.size ≤ q → A q := fun q h => by rw [← hAe]; exact Or.inr h
  have hS : va_S A s.heap s.heap [] := va_S.rf
  have hl := lv_entry ([.ref (a 0)]) (n := 2) (Nat.le_of_ble_eq_true rfl)
  rw [lg_entry_eq]
  generalize (lg_sl ([.ref (a 0)]) ++ List.replicate (2 - (lg_sl ([.ref (a 0)])).length) Slot.unset).toArray = ls at hl ⊢
  have hl : lv_has ls 2 [(0, .ref (a 0))] := hl
  have KE : ∀ (H : Heap) (locs : List Loc), va_P (dC, dI) vwCl ((W_LS cI a S)) H → va_D A ((W_LS cI a S)) → va_S A s.heap H locs → W p l e (headSpec wsX4_clearBuffer ({ frames := 0, cells := 0, slots := 0, locals := 0 } : Room)).room s m ([.ref (a 0)] : List Value).toArray below meth c H locs 0 0 (MQ below (va_Qi (fun (r' : Int32) (u : S_LS) => rr = r' ∧ Y = u) (fun u : S_LS => jB (dC, dI) [(cI, .int)] A ((W_LS cI a u))) A) ([.ref (a 0)] : List Value).toArray s 0 0 A) (F0 m 0 ls []) := by
    intro H locs hP hD hS
    unfold F_X4_clearBuffer at hF
    refine lv_aload_n hx hb dX4_clearBuffer_0 rfl (lv_at hl 0 rfl) ?_
    refine va_get (D := (dC, dI)) (ci := 4) (v := .int (g_LS_length S)) (C := RX4) (T := TX4) (N := 8) hx hb hts hinX4 hown hK hP 0 rfl rfl 1 (by decide) (hts (Cond.fieldLink RX4 56 "LearnedShapes" "length" "I") (List.mem_of_getElem? (i := 1) rfl)) (fun _ h9 => h9) rfl dX4_clearBuffer_1 ?_
    refine lv_istore_n (lv' := [(1, .int (g_LS_length S)), (0, .ref (a 0))]) hx hb dX4_clearBuffer_4 rfl hl (by decide) rfl (fun ls hl => ?_)
    refine lv_aload_n hx hb dX4_clearBuffer_5 rfl (lv_at hl 1 rfl) ?_
    refine lv_iconst (v := (0 : Int32)) hx hb dX4_clearBuffer_6 (by decide) ?_
    refine va_put (D := (dC, dI)) (ci := 4) (v := .int (0 : Int32)) (ty := .int) (C := RX4) (T := TX4) (N := 8) hx hb hts hinX4 tyX4 tyX4_ok nmX4 hown hK hP hD hS 0 rfl rfl 1 (by decide) (hts (Cond.fieldLink RX4 56 "LearnedShapes" "length" "I") (List.mem_of_getElem? (i := 1) rfl)) (fun _ h9 => h9) rfl (by decide +kernel) (rfl) rfl (Nat.le_of_ble_eq_true rfl) dX4_clearBuffer_7 (fun H locs hP hD hS => ?_)
    have hP : va_P (dC, dI) vwCl ((W_LS cI a (s_LS_length S (0 : Int32)))) H := hP
    have hD : va_D A ((W_LS cI a (s_LS_length S (0 : Int32)))) := hD
    refine lv_iload_n hx hb dX4_clearBuffer_10 rfl (lv_at hl 0 rfl) ?_
    have e50 := Option.some.inj hF
    obtain ⟨e60, e51⟩ := Prod.mk.inj e50
    subst e60
    subst e51
    exact W.iret (v := (g_LS_length S)) hx hb hr (fun t ht hW => ⟨⟨(g_LS_length S), (s_LS_length S (0 : Int32)), rfl, ⟨rfl, rfl⟩, by rw [ht]; exact hP, va_K.moved hW.alike hK, hD⟩, hS.F ht⟩) hS.2.2 dX4_clearBuffer_11
  exact KE _ _ hP hD hS
set_option maxHeartbeats 4000000 in
set_option maxRecDepth 100000 in
theorem c_X4_takeWork_false (l : Launch) (dC : Nat → ClassId) (dI : Nat → Nat → Nat) (cI : ClassId) (a : Nat → Nat) (sz : Nat) (S : S_LS)  (Y : S_LS) (hF : F_X4_takeWork S false  = some Y) : Met l yX4_takeWork wsX4_takeWork ({ frames := 3, cells := 0, slots := 0, locals := 108 } : Room) (va_Pc [.ref (a 0), .ref (a 6)] (jPre (dC, dI) [(cI, .int)] sz ((W_LS cI a S)))) (va_Qv (fun u : S_LS => Y = u) (fun u : S_LS => jB (dC, dI) [(cI, .int)] (va_A ((W_LS cI a S)) sz) ((W_LS cI a u))) (va_A ((W_LS cI a S)) sz)) 0 0 (va_A ((W_LS cI a S)) sz) := by
  refine Met.ofW (cc := cX4_takeWork) (maxL := 2) (ret := none) (by decide) rfl ?_
  intro p e s m args below meth c s₁ B hml hv
  obtain ⟨rfl, hsz, hP, hK, hD0, hN⟩ := hv
  have hx := B.exec
  have hb := B.bytes
  have hr := B.returns
  have hts := atoms_spec (ws := wsX4_takeWork) B.pre
  have hown : s.vm.findClass RX4 = some m.cls := findClass_of_methodNamed B.named
  have hlocks := B.notSynchronized
  have hinX4 : ∀ w ∈ u_ws RX4 TX4 8, w ∈ wsX4_takeWork := by decide +kernel
  subst hsz
  have hD := hD0.self (sz := s.heap.size)
  generalize hAe : (va_A ((W_LS cI a S)) s.heap.size) = A at hD ⊢
  have hA : ∀ q : Nat, s.heap.size ≤ q → A q := fun q h => by rw [← hAe]; exact Or.inr h
  have hS : va_S A s.heap s.heap [] := va_S.rf
  have hl := lv_entry ([.ref (a 0), .ref (a 6)]) (n := 2) (Nat.le_of_ble_eq_true rfl)
  rw [lg_entry_eq]
  generalize (lg_sl ([.ref (a 0), .ref (a 6)]) ++ List.replicate (2 - (lg_sl ([.ref (a 0), .ref (a 6)])).length) Slot.unset).toArray = ls at hl ⊢
  have hl : lv_has ls 2 [(0, .ref (a 0)), (1, .ref (a 6))] := hl
  have KE : ∀ (H : Heap) (locs : List Loc), va_P (dC, dI) vwCl ((W_LS cI a S)) H → va_D A ((W_LS cI a S)) → va_S A s.heap H locs → W p l e (headSpec wsX4_takeWork ({ frames := 3, cells := 0, slots := 0, locals := 108 } : Room)).room s m ([.ref (a 0), .ref (a 6)] : List Value).toArray below meth c H locs 0 0 (MQ below (va_Qv (fun u : S_LS => Y = u) (fun u : S_LS => jB (dC, dI) [(cI, .int)] A ((W_LS cI a u))) A) ([.ref (a 0), .ref (a 6)] : List Value).toArray s 0 0 A) (F0 m 0 ls []) := by
    intro H locs hP hD hS
    unfold F_X4_takeWork at hF
    refine lv_aload_n hx hb dX4_takeWork_0 rfl (lv_at hl 0 rfl) ?_
    refine va_get (D := (dC, dI)) (ci := 4) (v := .ref (a 10)) (C := RX4) (T := TX4) (N := 8) hx hb hts hinX4 hown hK hP 0 rfl rfl 6 (by decide) (hts (Cond.fieldLink RX4 34 "LearnedShapes" "work" "LLearnedShapes$Tree;") (List.mem_of_getElem? (i := 1) rfl)) (fun _ h9 => h9) rfl dX4_takeWork_1 ?_
    obtain ⟨u1, h2, hF⟩ := ob1_some hF
    have hPc := hP.sub (ws' := (W_Tree cI (sh a 10) (g_LS_work S))) [10, 11] rfl
    have hDc := hD.sub (ws' := (W_Tree cI (sh a 10) (g_LS_work S))) [10, 11] (by decide) rfl
    have hFc := va_free (wc := (W_Tree cI (sh a 10) (g_LS_work S))) hD hS hA [10, 11] rfl
    refine va_callv (va_runV (As := []) (rest := []) ⟨hx, hb, hml, hown, hts⟩ (c_X3_markOptional l dC dI cI (sh a 10) H.size _ _ h2) (cwV 0 hts gX4_takeWork_X3_markOptional rfl rfl rfl (by decide +kernel) ⟨Nat.le_of_ble_eq_true rfl, Nat.le_of_ble_eq_true rfl⟩) (jPreV hK hPc hDc hN (ci := 3) rfl rfl) rfl rfl hl.1 rfl (lv_room (Nat.le_of_ble_eq_true rfl)) dX4_takeWork_4 ⟨Nat.le_of_ble_eq_true rfl, Nat.le_of_ble_eq_true rfl⟩) hS (fun q _ h => hFc q h) hFc (fun u' t H locs ht hvm hw hB hz1 hk1 hS => ?_)
    subst hw
    obtain ⟨hP1, -, hD1⟩ := hB
    rw [ht] at hP1
    obtain ⟨hP, hD⟩ := jJoin (wc := (W_Tree cI (sh a 10) (g_LS_work S))) (w1 := (W_Tree cI (sh a 10) u1)) (ws' := (W_LS cI a (s_LS_work S u1))) hP hD [10, 11] [0, 1, 2, 3, 4, 5, 6, 7, 8, 9, 12] [0, 1, 2, 3, 4, 5, 6, 7, 8, 9, 11, 12, 10] rfl rfl (by decide) (by decide) hk1 hFc hP1 hD1 (by decide) rfl
    refine lv_aload_n hx hb dX4_takeWork_7 rfl (lv_at hl 1 rfl) ?_
    refine lv_aload_n hx hb dX4_takeWork_8 rfl (lv_at hl 0 rfl) ?_
    refine va_get (D := (dC, dI)) (ci := 4) (v := .ref (a 10)) (C := RX4) (T := TX4) (N := 8) hx hb hts hinX4 hown hK hP 0 rfl rfl 6 (by decide) (hts (Cond.fieldLink RX4 34 "LearnedShapes" "work" "LLearnedShapes$Tree;") (List.mem_of_getElem? (i := 1) rfl)) (fun _ h9 => h9) rfl dX4_takeWork_9 ?_
    obtain ⟨u3, h4, hF⟩ := ob1_some hF
    have hPc := hP.sub (ws' := (W_Tree cI (sh a 6) (g_State_tree false (g_LS_now S))) ++ (W_Tree cI (sh a 10) u1)) [6, 7, 10, 11] rfl
    have hDc := hD.sub (ws' := (W_Tree cI (sh a 6) (g_State_tree false (g_LS_now S))) ++ (W_Tree cI (sh a 10) u1)) [6, 7, 10, 11] (by decide) rfl
    have hFc := va_free (wc := (W_Tree cI (sh a 6) (g_State_tree false (g_LS_now S))) ++ (W_Tree cI (sh a 10) u1)) hD hS hA [6, 7, 10, 11] rfl
    refine va_callv (va_runV (As := [.ref (a 10)]) (rest := []) ⟨hx, hb, hml, hown, hts⟩ (c_X3_copyFrom l dC dI cI (sh a 6) (sh a 10) H.size _ _ _ h4) (cwV 1 hts gX4_takeWork_X3_copyFrom rfl rfl rfl (by decide +kernel) ⟨Nat.le_of_ble_eq_true rfl, Nat.le_of_ble_eq_true rfl⟩) (jPreV hK hPc hDc hN (ci := 3) rfl rfl) rfl rfl hl.1 rfl (lv_room (Nat.le_of_ble_eq_true rfl)) dX4_takeWork_12 ⟨Nat.le_of_ble_eq_true rfl, Nat.le_of_ble_eq_true rfl⟩) hS (fun q _ h => hFc q h) hFc (fun u' t H locs ht hvm hw hB hz1 hk1 hS => ?_)
    subst hw
    obtain ⟨hP1, -, hD1⟩ := hB
    rw [ht] at hP1
    obtain ⟨hP, hD⟩ := jJoin (wc := (W_Tree cI (sh a 6) (g_State_tree false (g_LS_now S))) ++ (W_Tree cI (sh a 10) u1)) (w1 := (W_Tree cI (sh a 6) u3) ++ (W_Tree cI (sh a 10) u1)) (ws' := (W_LS cI a (s_LS_work (s_LS_now S (s_State_tree false (g_LS_now S) u3)) u1))) hP hD [6, 7, 10, 11] [0, 1, 2, 3, 4, 5, 8, 9, 12] [0, 1, 2, 3, 4, 5, 9, 10, 6, 7, 11, 12, 8] rfl rfl (by decide) (by decide) hk1 hFc hP1 hD1 (by decide) rfl
    have e50 := Option.some.inj hF
    subst e50
    exact W.vret hx hb hr (fun t ht hW => ⟨⟨(s_LS_work (s_LS_now S (s_State_tree false (g_LS_now S) u3)) u1), rfl, rfl, by rw [ht]; exact hP, va_K.moved hW.alike hK, hD⟩, hS.F ht⟩) hS.2.2 dX4_takeWork_15
  exact KE _ _ hP hD hS
set_option maxHeartbeats 4000000 in
set_option maxRecDepth 100000 in
theorem c_X4_takeWork_true (l : Launch) (dC : Nat → ClassId) (dI : Nat → Nat → Nat) (cI : ClassId) (a : Nat → Nat) (sz : Nat) (S : S_LS)  (Y : S_LS) (hF : F_X4_takeWork S true  = some Y) : Met l yX4_takeWork wsX4_takeWork ({ frames := 3, cells := 0, slots := 0, locals := 108 } : Room) (va_Pc [.ref (a 0), .ref (a 8)] (jPre (dC, dI) [(cI, .int)] sz ((W_LS cI a S)))) (va_Qv (fun u : S_LS => Y = u) (fun u : S_LS => jB (dC, dI) [(cI, .int)] (va_A ((W_LS cI a S)) sz) ((W_LS cI a u))) (va_A ((W_LS cI a S)) sz)) 0 0 (va_A ((W_LS cI a S)) sz) := by
  refine Met.ofW (cc := cX4_takeWork) (maxL := 2) (ret := none) (by decide) rfl ?_
  intro p e s m args below meth c s₁ B hml hv
  obtain ⟨rfl, hsz, hP, hK, hD0, hN⟩ := hv
  have hx := B.exec
  have hb := B.bytes
  have hr := B.returns
  have hts := atoms_spec (ws := wsX4_takeWork) B.pre
  have hown : s.vm.findClass RX4 = some m.cls := findClass_of_methodNamed B.named
  have hlocks := B.notSynchronized
  have hinX4 : ∀ w ∈ u_ws RX4 TX4 8, w ∈ wsX4_takeWork := by decide +kernel
  subst hsz
  have hD := hD0.self (sz := s.heap.size)
  generalize hAe : (va_A ((W_LS cI a S)) s.heap.size) = A at hD ⊢
  have hA : ∀ q : Nat, s.heap.size ≤ q → A q := fun q h => by rw [← hAe]; exact Or.inr h
  have hS : va_S A s.heap s.heap [] := va_S.rf
  have hl := lv_entry ([.ref (a 0), .ref (a 8)]) (n := 2) (Nat.le_of_ble_eq_true rfl)
  rw [lg_entry_eq]
  generalize (lg_sl ([.ref (a 0), .ref (a 8)]) ++ List.replicate (2 - (lg_sl ([.ref (a 0), .ref (a 8)])).length) Slot.unset).toArray = ls at hl ⊢
  have hl : lv_has ls 2 [(0, .ref (a 0)), (1, .ref (a 8))] := hl
  have KE : ∀ (H : Heap) (locs : List Loc), va_P (dC, dI) vwCl ((W_LS cI a S)) H → va_D A ((W_LS cI a S)) → va_S A s.heap H locs → W p l e (headSpec wsX4_takeWork ({ frames := 3, cells := 0, slots := 0, locals := 108 } : Room)).room s m ([.ref (a 0), .ref (a 8)] : List Value).toArray below meth c H locs 0 0 (MQ below (va_Qv (fun u : S_LS => Y = u) (fun u : S_LS => jB (dC, dI) [(cI, .int)] A ((W_LS cI a u))) A) ([.ref (a 0), .ref (a 8)] : List Value).toArray s 0 0 A) (F0 m 0 ls []) := by
    intro H locs hP hD hS
    unfold F_X4_takeWork at hF
    refine lv_aload_n hx hb dX4_takeWork_0 rfl (lv_at hl 0 rfl) ?_
    refine va_get (D := (dC, dI)) (ci := 4) (v := .ref (a 10)) (C := RX4) (T := TX4) (N := 8) hx hb hts hinX4 hown hK hP 0 rfl rfl 6 (by decide) (hts (Cond.fieldLink RX4 34 "LearnedShapes" "work" "LLearnedShapes$Tree;") (List.mem_of_getElem? (i := 1) rfl)) (fun _ h9 => h9) rfl dX4_takeWork_1 ?_
    obtain ⟨u1, h2, hF⟩ := ob1_some hF
    have hPc := hP.sub (ws' := (W_Tree cI (sh a 10) (g_LS_work S))) [10, 11] rfl
    have hDc := hD.sub (ws' := (W_Tree cI (sh a 10) (g_LS_work S))) [10, 11] (by decide) rfl
    have hFc := va_free (wc := (W_Tree cI (sh a 10) (g_LS_work S))) hD hS hA [10, 11] rfl
    refine va_callv (va_runV (As := []) (rest := []) ⟨hx, hb, hml, hown, hts⟩ (c_X3_markOptional l dC dI cI (sh a 10) H.size _ _ h2) (cwV 0 hts gX4_takeWork_X3_markOptional rfl rfl rfl (by decide +kernel) ⟨Nat.le_of_ble_eq_true rfl, Nat.le_of_ble_eq_true rfl⟩) (jPreV hK hPc hDc hN (ci := 3) rfl rfl) rfl rfl hl.1 rfl (lv_room (Nat.le_of_ble_eq_true rfl)) dX4_takeWork_4 ⟨Nat.le_of_ble_eq_true rfl, Nat.le_of_ble_eq_true rfl⟩) hS (fun q _ h => hFc q h) hFc (fun u' t H locs ht hvm hw hB hz1 hk1 hS => ?_)
    subst hw
    obtain ⟨hP1, -, hD1⟩ := hB
    rw [ht] at hP1
    obtain ⟨hP, hD⟩ := jJoin (wc := (W_Tree cI (sh a 10) (g_LS_work S))) (w1 := (W_Tree cI (sh a 10) u1)) (ws' := (W_LS cI a (s_LS_work S u1))) hP hD [10, 11] [0, 1, 2, 3, 4, 5, 6, 7, 8, 9, 12] [0, 1, 2, 3, 4, 5, 6, 7, 8, 9, 11, 12, 10] rfl rfl (by decide) (by decide) hk1 hFc hP1 hD1 (by decide) rfl
    refine lv_aload_n hx hb dX4_takeWork_7 rfl (lv_at hl 1 rfl) ?_
    refine lv_aload_n hx hb dX4_takeWork_8 rfl (lv_at hl 0 rfl) ?_
    refine va_get (D := (dC, dI)) (ci := 4) (v := .ref (a 10)) (C := RX4) (T := TX4) (N := 8) hx hb hts hinX4 hown hK hP 0 rfl rfl 6 (by decide) (hts (Cond.fieldLink RX4 34 "LearnedShapes" "work" "LLearnedShapes$Tree;") (List.mem_of_getElem? (i := 1) rfl)) (fun _ h9 => h9) rfl dX4_takeWork_9 ?_
    obtain ⟨u3, h4, hF⟩ := ob1_some hF
    have hPc := hP.sub (ws' := (W_Tree cI (sh a 8) (g_State_tree true (g_LS_now S))) ++ (W_Tree cI (sh a 10) u1)) [8, 9, 10, 11] rfl
    have hDc := hD.sub (ws' := (W_Tree cI (sh a 8) (g_State_tree true (g_LS_now S))) ++ (W_Tree cI (sh a 10) u1)) [8, 9, 10, 11] (by decide) rfl
    have hFc := va_free (wc := (W_Tree cI (sh a 8) (g_State_tree true (g_LS_now S))) ++ (W_Tree cI (sh a 10) u1)) hD hS hA [8, 9, 10, 11] rfl
    refine va_callv (va_runV (As := [.ref (a 10)]) (rest := []) ⟨hx, hb, hml, hown, hts⟩ (c_X3_copyFrom l dC dI cI (sh a 8) (sh a 10) H.size _ _ _ h4) (cwV 1 hts gX4_takeWork_X3_copyFrom rfl rfl rfl (by decide +kernel) ⟨Nat.le_of_ble_eq_true rfl, Nat.le_of_ble_eq_true rfl⟩) (jPreV hK hPc hDc hN (ci := 3) rfl rfl) rfl rfl hl.1 rfl (lv_room (Nat.le_of_ble_eq_true rfl)) dX4_takeWork_12 ⟨Nat.le_of_ble_eq_true rfl, Nat.le_of_ble_eq_true rfl⟩) hS (fun q _ h => hFc q h) hFc (fun u' t H locs ht hvm hw hB hz1 hk1 hS => ?_)
    subst hw
    obtain ⟨hP1, -, hD1⟩ := hB
    rw [ht] at hP1
    obtain ⟨hP, hD⟩ := jJoin (wc := (W_Tree cI (sh a 8) (g_State_tree true (g_LS_now S))) ++ (W_Tree cI (sh a 10) u1)) (w1 := (W_Tree cI (sh a 8) u3) ++ (W_Tree cI (sh a 10) u1)) (ws' := (W_LS cI a (s_LS_work (s_LS_now S (s_State_tree true (g_LS_now S) u3)) u1))) hP hD [8, 9, 10, 11] [0, 1, 2, 3, 4, 5, 6, 7, 12] [0, 1, 2, 3, 4, 5, 6, 7, 9, 10, 11, 12, 8] rfl rfl (by decide) (by decide) hk1 hFc hP1 hD1 (by decide) rfl
    have e50 := Option.some.inj hF
    subst e50
    exact W.vret hx hb hr (fun t ht hW => ⟨⟨(s_LS_work (s_LS_now S (s_State_tree true (g_LS_now S) u3)) u1), rfl, rfl, by rw [ht]; exact hP, va_K.moved hW.alike hK, hD⟩, hS.F ht⟩) hS.2.2 dX4_takeWork_15
  exact KE _ _ hP hD hS
set_option maxHeartbeats 4000000 in
set_option maxRecDepth 100000 in
theorem c_X4_isShape (l : Launch) (dC : Nat → ClassId) (dI : Nat → Nat → Nat) (cI : ClassId) (sz : Nat)  (v1 : Int32) (rr : Bool) (hF : F_X4_isShape  v1 = some rr) : Met l yX4_isShape wsX4_isShape ({ frames := 0, cells := 0, slots := 0, locals := 0 } : Room) (va_Pc [.int v1] (jPre (dC, dI) [(cI, .int)] sz (([] : va_W)))) (va_Qi (fun (r' : Int32) (_ : Unit) => b2i rr = r') (fun _ : Unit => jB (dC, dI) [(cI, .int)] (va_A (([] : va_W)) sz) (([] : va_W))) (va_A (([] : va_W)) sz)) 0 0 (va_A (([] : va_W)) sz) := by
  refine Met.ofW (cc := cX4_isShape) (maxL := 1) (ret := (some .boolean)) (by decide) rfl ?_
  intro p e s m args below meth c s₁ B hml hv
  obtain ⟨rfl, hsz, hP, hK, hD0, hN⟩ := hv
  have hx := B.exec
  have hb := B.bytes
  have hr := B.returns
  have hts := atoms_spec (ws := wsX4_isShape) B.pre
  have hown : s.vm.findClass RX4 = some m.cls := findClass_of_methodNamed B.named
  have hlocks := B.notSynchronized
  subst hsz
  have hD := hD0.self (sz := s.heap.size)
  generalize hAe : (va_A (([] : va_W)) s.heap.size) = A at hD ⊢
  have hA : ∀ q : Nat, s.heap.size ≤ q → A q := fun q h => by rw [← hAe]; exact Or.inr h
  have hS : va_S A s.heap s.heap [] := va_S.rf
  have hl := lv_entry ([.int v1]) (n := 1) (Nat.le_of_ble_eq_true rfl)
  rw [lg_entry_eq]
  generalize (lg_sl ([.int v1]) ++ List.replicate (1 - (lg_sl ([.int v1])).length) Slot.unset).toArray = ls at hl ⊢
  have hl : lv_has ls 1 [(0, .int v1)] := hl
  have KE : ∀ (H : Heap) (locs : List Loc), va_P (dC, dI) vwCl (([] : va_W)) H → va_D A (([] : va_W)) → va_S A s.heap H locs → W p l e (headSpec wsX4_isShape ({ frames := 0, cells := 0, slots := 0, locals := 0 } : Room)).room s m ([.int v1] : List Value).toArray below meth c H locs 0 0 (MQ below (va_Qi (fun (r' : Int32) (_ : Unit) => b2i rr = r') (fun _ : Unit => jB (dC, dI) [(cI, .int)] A (([] : va_W))) A) ([.int v1] : List Value).toArray s 0 0 A) (F0 m 0 ls []) := by
    intro H locs hP hD hS
    unfold F_X4_isShape at hF
    refine lv_iload_n hx hb dX4_isShape_0 rfl (lv_at hl 0 rfl) ?_
    refine lv_if_eq (tgt := 9) hx hb dX4_isShape_1 (by decide) (fun c1 => ?_) (fun c1 => ?_)
    · have hF := F_pos c1 hF
      refine lv_iconst (v := (1 : Int32)) hx hb dX4_isShape_9 (by decide) ?_
      refine lv_goto (tgt := 14) hx hb dX4_isShape_10 (by decide) ?_
      have e50 := Option.some.inj hF
      subst e50
      exact W.zret (v := (1 : Int32)) hx hb hr (rfl) (fun t ht hW => ⟨⟨(1 : Int32), (), rfl, rfl, by rw [ht]; exact hP, va_K.moved hW.alike hK, hD⟩, hS.F ht⟩) hS.2.2 dX4_isShape_14
    · have hF := F_neg c1 hF
      refine lv_iload_n hx hb dX4_isShape_4 rfl (lv_at hl 0 rfl) ?_
      refine lv_iconst (v := (1 : Int32)) hx hb dX4_isShape_5 (by decide) ?_
      refine lv_icmp_ne (tgt := 13) hx hb dX4_isShape_6 (by decide) (fun c2 => ?_) (fun c2 => ?_)
      · have hF := F_neg c2 hF
        refine lv_iconst (v := (0 : Int32)) hx hb dX4_isShape_13 (by decide) ?_
        have e50 := Option.some.inj hF
        subst e50
        exact W.zret (v := (0 : Int32)) hx hb hr (rfl) (fun t ht hW => ⟨⟨(0 : Int32), (), rfl, rfl, by rw [ht]; exact hP, va_K.moved hW.alike hK, hD⟩, hS.F ht⟩) hS.2.2 dX4_isShape_14
      · have hF := F_pos c2 hF
        refine lv_iconst (v := (1 : Int32)) hx hb dX4_isShape_9 (by decide) ?_
        refine lv_goto (tgt := 14) hx hb dX4_isShape_10 (by decide) ?_
        have e50 := Option.some.inj hF
        subst e50
        exact W.zret (v := (1 : Int32)) hx hb hr (rfl) (fun t ht hW => ⟨⟨(1 : Int32), (), rfl, rfl, by rw [ht]; exact hP, va_K.moved hW.alike hK, hD⟩, hS.F ht⟩) hS.2.2 dX4_isShape_14
  exact KE _ _ hP hD hS
set_option maxHeartbeats 4000000 in
set_option maxRecDepth 100000 in
theorem c_X4_append (l : Launch) (dC : Nat → ClassId) (dI : Nat → Nat → Nat) (cI : ClassId) (hl0 : l.stackTraces = false) (a : Nat → Nat) (sz : Nat) (S : S_LS) (v1 : Int32) (res : Sum (String × (S_LS)) (Int32 × S_LS)) (hF : F_X4_append S v1 = some res) : vx_Met l yX4_append wsX4_append ({ frames := 6, cells := 1, slots := 6, locals := 90 } : Room) (va_Pc [.ref (a 0), .int v1] (jPreX (dC, dI) [(cI, .int)] sz ((W_LS cI a S)))) (va_Qi (fun (r' : Int32) (u : S_LS) => res = .inr (r', u)) (fun u : S_LS => jB (dC, dI) [(cI, .int)] (va_A ((W_LS cI a S)) sz) ((W_LS cI a u))) (va_A ((W_LS cI a S)) sz)) (vx_X (fun _ : S_LS => True) (fun (E : String) (u : S_LS) (t : State) => res = .inl (E, u) ∧ jB (dC, dI) [(cI, .int)] (va_A ((W_LS cI a S)) sz) ((W_LS cI a u)) t) (va_A ((W_LS cI a S)) sz)) 1 6 (va_A ((W_LS cI a S)) sz) := by
  refine vx_ofW (cc := cX4_append) (maxL := 2) (ret := (some .int)) (by decide) rfl ?_
  intro p e s m args below meth c s₁ B hml hex hv
  obtain ⟨rfl, ⟨hsz, hP, hK, hD0, hN⟩, hU, hSN⟩ := hv
  have hx := B.exec
  have hb := B.bytes
  have hr := B.returns
  have hts := atoms_spec (ws := wsX4_append) B.pre
  have hown : s.vm.findClass RX4 = some m.cls := findClass_of_methodNamed B.named
  have hlocks := B.notSynchronized
  have hinX4 : ∀ w ∈ u_ws RX4 TX4 8, w ∈ wsX4_append := by decide +kernel
  subst hsz
  have hD := hD0.self (sz := s.heap.size)
  generalize hAe : (va_A ((W_LS cI a S)) s.heap.size) = A at hD hU hSN ⊢
  have hA : ∀ q : Nat, s.heap.size ≤ q → A q := fun q h => by rw [← hAe]; exact Or.inr h
  have hS : va_S A s.heap s.heap [] := va_S.rf
  have hl := lv_entry ([.ref (a 0), .int v1]) (n := 2) (Nat.le_of_ble_eq_true rfl)
  rw [lg_entry_eq]
  generalize (lg_sl ([.ref (a 0), .int v1]) ++ List.replicate (2 - (lg_sl ([.ref (a 0), .int v1])).length) Slot.unset).toArray = ls at hl ⊢
  have hl : lv_has ls 2 [(0, .ref (a 0)), (1, .int v1)] := hl
  have KE : ∀ (H : Heap) (locs : List Loc), va_P (dC, dI) vwCl ((W_LS cI a S)) H → va_D A ((W_LS cI a S)) → va_S A s.heap H locs → W p l e (headSpec wsX4_append ({ frames := 6, cells := 1, slots := 6, locals := 90 } : Room)).room s m ([.ref (a 0), .int v1] : List Value).toArray below meth c H locs 0 0 (vx_MQ below (va_Qi (fun (r' : Int32) (u : S_LS) => res = .inr (r', u)) (fun u : S_LS => jB (dC, dI) [(cI, .int)] A ((W_LS cI a u))) A) (vx_X (fun _ : S_LS => True) (fun (E : String) (u : S_LS) (t : State) => res = .inl (E, u) ∧ jB (dC, dI) [(cI, .int)] A ((W_LS cI a u)) t) A) ([.ref (a 0), .int v1] : List Value).toArray s 1 6 A) (F0 m 0 ls []) := by
    intro H locs hP hD hS
    unfold F_X4_append at hF
    refine lv_iload_n hx hb dX4_append_0 rfl (lv_at hl 1 rfl) ?_
    refine lv_bipush (v := (33 : Int32)) hx hb dX4_append_1 (by decide) ?_
    refine lv_icmp_lt (tgt := 12) hx hb dX4_append_3 (by decide) (fun c1 => ?_) (fun c1 => ?_)
    · have hF := F_pos c1 hF
      cases hF
      obtain ⟨sa, hsa⟩ := hN.2.1 _ (List.mem_of_getElem? (i := 0) rfl)
      exact vx_throwS (names := ["java/lang/RuntimeException", "java/lang/Exception"]) (cls := "java/lang/IllegalArgumentException") hx hb hl0 hown (by decide +kernel) (by decide +kernel) (hts (Cond.classLink RX4 64 "java/lang/IllegalArgumentException") (List.mem_of_getElem? (i := 1) rfl)) (hts (Cond.initialized "java/lang/IllegalArgumentException") (List.mem_of_getElem? (i := 2) rfl)) hsa (vx_hat (B := [Cond.castable "java/lang/IllegalArgumentException" "java/lang/IllegalArgumentException", Cond.declares ⟨"java/lang/RuntimeException", "<init>", "(Ljava/lang/String;)V"⟩, Cond.declares ⟨"java/lang/Exception", "<init>", "(Ljava/lang/String;)V"⟩, Cond.declares ⟨"java/lang/Throwable", "<init>", "(Ljava/lang/String;)V"⟩]) (fun w hw => hts w (List.mem_cons_of_mem _ (List.mem_append_left _ (List.mem_append_right _ hw)))) (by decide +kernel) (vx_c (va_Nw.use rfl (hN.1 _ (List.mem_of_getElem? (i := 12) rfl))) (vx_c (va_Nw.use rfl (hN.1 _ (List.mem_of_getElem? (i := 14) rfl))) (vx_c (va_Nw.use rfl (hN.1 _ (List.mem_of_getElem? (i := 15) rfl))) (vx_c (va_Nw.use rfl (hN.1 _ (List.mem_of_getElem? (i := 16) rfl))) vx_n))))) (by decide +kernel) hU hSN hS (hl.1.trans hml.symm) dX4_append_12 dX4_append_15 dX4_append_16 dX4_append_18 dX4_append_21 (fun x hx => (hex x hx).elim) (Nat.le_of_ble_eq_true rfl) (Nat.le_of_ble_eq_true rfl) (Nat.le_of_ble_eq_true rfl) (Nat.le_of_ble_eq_true rfl) hlocks (fun t ha hz hk => ⟨S, trivial, ⟨rfl, jKeep hP hk, va_K.moved ha hK, hD⟩, jF hS hz hk⟩) hS.2.2 (Nat.le_of_ble_eq_true rfl) (Nat.le_of_ble_eq_true rfl)
    · have hF := F_neg c1 hF
      refine lv_iload_n hx hb dX4_append_6 rfl (lv_at hl 1 rfl) ?_
      refine lv_bipush (v := (126 : Int32)) hx hb dX4_append_7 (by decide) ?_
      refine lv_icmp_le (tgt := 22) hx hb dX4_append_9 (by decide) (fun c2 => ?_) (fun c2 => ?_)
      · have hF := F_pos c2 hF
        refine lv_aload_n hx hb dX4_append_22 rfl (lv_at hl 0 rfl) ?_
        refine va_get (D := (dC, dI)) (ci := 4) (v := .int (g_LS_length S)) (C := RX4) (T := TX4) (N := 8) hx hb hts hinX4 hown hK hP 0 rfl rfl 1 (by decide) (hts (Cond.fieldLink RX4 56 "LearnedShapes" "length" "I") (List.mem_of_getElem? (i := 5) rfl)) (fun _ h9 => h9) rfl dX4_append_23 ?_
        refine lv_if_lt (tgt := 41) hx hb dX4_append_26 (by decide) (fun c3 => ?_) (fun c3 => ?_)
        · have hF := F_pos c3 hF
          cases hF
          obtain ⟨sa, hsa⟩ := hN.2.1 _ (List.mem_of_getElem? (i := 1) rfl)
          exact vx_throwS (names := ["java/lang/RuntimeException", "java/lang/Exception"]) (cls := "java/lang/IllegalStateException") hx hb hl0 hown (by decide +kernel) (by decide +kernel) (hts (Cond.classLink RX4 81 "java/lang/IllegalStateException") (List.mem_of_getElem? (i := 3) rfl)) (hts (Cond.initialized "java/lang/IllegalStateException") (List.mem_of_getElem? (i := 4) rfl)) hsa (vx_hat (B := [Cond.castable "java/lang/IllegalStateException" "java/lang/IllegalStateException", Cond.declares ⟨"java/lang/RuntimeException", "<init>", "(Ljava/lang/String;)V"⟩, Cond.declares ⟨"java/lang/Exception", "<init>", "(Ljava/lang/String;)V"⟩, Cond.declares ⟨"java/lang/Throwable", "<init>", "(Ljava/lang/String;)V"⟩]) (fun w hw => hts w (List.mem_cons_of_mem _ (List.mem_append_right _ hw))) (by decide +kernel) (vx_c (va_Nw.use rfl (hN.1 _ (List.mem_of_getElem? (i := 13) rfl))) (vx_c (va_Nw.use rfl (hN.1 _ (List.mem_of_getElem? (i := 14) rfl))) (vx_c (va_Nw.use rfl (hN.1 _ (List.mem_of_getElem? (i := 15) rfl))) (vx_c (va_Nw.use rfl (hN.1 _ (List.mem_of_getElem? (i := 16) rfl))) vx_n))))) (by decide +kernel) hU hSN hS (hl.1.trans hml.symm) dX4_append_41 dX4_append_44 dX4_append_45 dX4_append_47 dX4_append_50 (fun x hx => (hex x hx).elim) (Nat.le_of_ble_eq_true rfl) (Nat.le_of_ble_eq_true rfl) (Nat.le_of_ble_eq_true rfl) (Nat.le_of_ble_eq_true rfl) hlocks (fun t ha hz hk => ⟨S, trivial, ⟨rfl, jKeep hP hk, va_K.moved ha hK, hD⟩, jF hS hz hk⟩) hS.2.2 (Nat.le_of_ble_eq_true rfl) (Nat.le_of_ble_eq_true rfl)
        · have hF := F_neg c3 hF
          refine lv_aload_n hx hb dX4_append_29 rfl (lv_at hl 0 rfl) ?_
          refine va_get (D := (dC, dI)) (ci := 4) (v := .int (g_LS_length S)) (C := RX4) (T := TX4) (N := 8) hx hb hts hinX4 hown hK hP 0 rfl rfl 1 (by decide) (hts (Cond.fieldLink RX4 56 "LearnedShapes" "length" "I") (List.mem_of_getElem? (i := 5) rfl)) (fun _ h9 => h9) rfl dX4_append_30 ?_
          refine lv_aload_n hx hb dX4_append_33 rfl (lv_at hl 0 rfl) ?_
          refine va_get (D := (dC, dI)) (ci := 4) (v := .ref (a 1)) (C := RX4) (T := TX4) (N := 8) hx hb hts hinX4 hown hK hP 0 rfl rfl 0 (by decide) (hts (Cond.fieldLink RX4 9 "LearnedShapes" "codes" "[I") (List.mem_of_getElem? (i := 6) rfl)) (fun _ h9 => h9) rfl dX4_append_34 ?_
          refine va_alen (v := (60 : Int32)) hx hb hK hP 1 0 rfl rfl rfl dX4_append_37 ?_
          refine lv_icmp_lt (tgt := 51) hx hb dX4_append_38 (by decide) (fun c4 => ?_) (fun c4 => ?_)
          · have hF := F_pos c4 hF
            refine lv_aload_n hx hb dX4_append_51 rfl (lv_at hl 0 rfl) ?_
            refine va_get (D := (dC, dI)) (ci := 4) (v := .ref (a 1)) (C := RX4) (T := TX4) (N := 8) hx hb hts hinX4 hown hK hP 0 rfl rfl 0 (by decide) (hts (Cond.fieldLink RX4 9 "LearnedShapes" "codes" "[I") (List.mem_of_getElem? (i := 6) rfl)) (fun _ h9 => h9) rfl dX4_append_52 ?_
            refine lv_aload_n hx hb dX4_append_55 rfl (lv_at hl 0 rfl) ?_
            refine va_get (D := (dC, dI)) (ci := 4) (v := .int (g_LS_length S)) (C := RX4) (T := TX4) (N := 8) hx hb hts hinX4 hown hK hP 0 rfl rfl 1 (by decide) (hts (Cond.fieldLink RX4 56 "LearnedShapes" "length" "I") (List.mem_of_getElem? (i := 5) rfl)) (fun _ h9 => h9) rfl dX4_append_56 ?_
            refine lv_iload_n hx hb dX4_append_59 rfl (lv_at hl 1 rfl) ?_
            obtain ⟨g5, hF⟩ := og_some hF
            refine va_iast (f := (g_LS_codes S)) hx hb hK hP hD hS 1 0 rfl rfl (inb_in g5) dX4_append_60 (fun H locs hP hD hS => ?_)
            have hP : va_P (dC, dI) vwCl ((W_LS cI a (s_LS_codes S (upd (g_LS_codes S) (g_LS_length S).toNatClampNeg v1)))) H := hP
            have hD : va_D A ((W_LS cI a (s_LS_codes S (upd (g_LS_codes S) (g_LS_length S).toNatClampNeg v1)))) := hD
            refine lv_aload_n hx hb dX4_append_61 rfl (lv_at hl 0 rfl) ?_
            refine lv_dup hx hb dX4_append_62 rfl ?_
            refine va_get (D := (dC, dI)) (ci := 4) (v := .int (g_LS_length S)) (C := RX4) (T := TX4) (N := 8) hx hb hts hinX4 hown hK hP 0 rfl rfl 1 (by decide) (hts (Cond.fieldLink RX4 56 "LearnedShapes" "length" "I") (List.mem_of_getElem? (i := 5) rfl)) (fun _ h9 => h9) rfl dX4_append_63 ?_
            refine lv_iconst (v := (1 : Int32)) hx hb dX4_append_66 (by decide) ?_
            refine lv_iadd hx hb dX4_append_67 ?_
            refine va_put (D := (dC, dI)) (ci := 4) (v := .int ((g_LS_length S) + (1 : Int32))) (ty := .int) (C := RX4) (T := TX4) (N := 8) hx hb hts hinX4 tyX4 tyX4_ok nmX4 hown hK hP hD hS 0 rfl rfl 1 (by decide) (hts (Cond.fieldLink RX4 56 "LearnedShapes" "length" "I") (List.mem_of_getElem? (i := 5) rfl)) (fun _ h9 => h9) rfl (by decide +kernel) (rfl) rfl (Nat.le_of_ble_eq_true rfl) dX4_append_68 (fun H locs hP hD hS => ?_)
            have hP : va_P (dC, dI) vwCl ((W_LS cI a (s_LS_length (s_LS_codes S (upd (g_LS_codes S) (g_LS_length S).toNatClampNeg v1)) ((g_LS_length S) + (1 : Int32))))) H := hP
            have hD : va_D A ((W_LS cI a (s_LS_length (s_LS_codes S (upd (g_LS_codes S) (g_LS_length S).toNatClampNeg v1)) ((g_LS_length S) + (1 : Int32))))) := hD
            refine lv_aload_n hx hb dX4_append_71 rfl (lv_at hl 0 rfl) ?_
            refine va_get (D := (dC, dI)) (ci := 4) (v := .int ((g_LS_length S) + (1 : Int32))) (C := RX4) (T := TX4) (N := 8) hx hb hts hinX4 hown hK hP 0 rfl rfl 1 (by decide) (hts (Cond.fieldLink RX4 56 "LearnedShapes" "length" "I") (List.mem_of_getElem? (i := 5) rfl)) (fun _ h9 => h9) rfl dX4_append_72 ?_
            cases hF
            refine vx_ret ?_
            refine W.widen (k := 1) (n := 6) (Nat.zero_le _) (Nat.zero_le _) ?_
            exact W.iret (v := ((g_LS_length S) + (1 : Int32))) hx hb hr (fun t ht hW => ⟨⟨((g_LS_length S) + (1 : Int32)), (s_LS_length (s_LS_codes S (upd (g_LS_codes S) (g_LS_length S).toNatClampNeg v1)) ((g_LS_length S) + (1 : Int32))), rfl, rfl, by rw [ht]; exact hP, va_K.moved hW.alike hK, hD⟩, hS.F ht⟩) hS.2.2 dX4_append_75
          · have hF := F_neg c4 hF
            cases hF
            obtain ⟨sa, hsa⟩ := hN.2.1 _ (List.mem_of_getElem? (i := 1) rfl)
            exact vx_throwS (names := ["java/lang/RuntimeException", "java/lang/Exception"]) (cls := "java/lang/IllegalStateException") hx hb hl0 hown (by decide +kernel) (by decide +kernel) (hts (Cond.classLink RX4 81 "java/lang/IllegalStateException") (List.mem_of_getElem? (i := 3) rfl)) (hts (Cond.initialized "java/lang/IllegalStateException") (List.mem_of_getElem? (i := 4) rfl)) hsa (vx_hat (B := [Cond.castable "java/lang/IllegalStateException" "java/lang/IllegalStateException", Cond.declares ⟨"java/lang/RuntimeException", "<init>", "(Ljava/lang/String;)V"⟩, Cond.declares ⟨"java/lang/Exception", "<init>", "(Ljava/lang/String;)V"⟩, Cond.declares ⟨"java/lang/Throwable", "<init>", "(Ljava/lang/String;)V"⟩]) (fun w hw => hts w (List.mem_cons_of_mem _ (List.mem_append_right _ hw))) (by decide +kernel) (vx_c (va_Nw.use rfl (hN.1 _ (List.mem_of_getElem? (i := 13) rfl))) (vx_c (va_Nw.use rfl (hN.1 _ (List.mem_of_getElem? (i := 14) rfl))) (vx_c (va_Nw.use rfl (hN.1 _ (List.mem_of_getElem? (i := 15) rfl))) (vx_c (va_Nw.use rfl (hN.1 _ (List.mem_of_getElem? (i := 16) rfl))) vx_n))))) (by decide +kernel) hU hSN hS (hl.1.trans hml.symm) dX4_append_41 dX4_append_44 dX4_append_45 dX4_append_47 dX4_append_50 (fun x hx => (hex x hx).elim) (Nat.le_of_ble_eq_true rfl) (Nat.le_of_ble_eq_true rfl) (Nat.le_of_ble_eq_true rfl) (Nat.le_of_ble_eq_true rfl) hlocks (fun t ha hz hk => ⟨S, trivial, ⟨rfl, jKeep hP hk, va_K.moved ha hK, hD⟩, jF hS hz hk⟩) hS.2.2 (Nat.le_of_ble_eq_true rfl) (Nat.le_of_ble_eq_true rfl)
      · have hF := F_neg c2 hF
        cases hF
        obtain ⟨sa, hsa⟩ := hN.2.1 _ (List.mem_of_getElem? (i := 0) rfl)
        exact vx_throwS (names := ["java/lang/RuntimeException", "java/lang/Exception"]) (cls := "java/lang/IllegalArgumentException") hx hb hl0 hown (by decide +kernel) (by decide +kernel) (hts (Cond.classLink RX4 64 "java/lang/IllegalArgumentException") (List.mem_of_getElem? (i := 1) rfl)) (hts (Cond.initialized "java/lang/IllegalArgumentException") (List.mem_of_getElem? (i := 2) rfl)) hsa (vx_hat (B := [Cond.castable "java/lang/IllegalArgumentException" "java/lang/IllegalArgumentException", Cond.declares ⟨"java/lang/RuntimeException", "<init>", "(Ljava/lang/String;)V"⟩, Cond.declares ⟨"java/lang/Exception", "<init>", "(Ljava/lang/String;)V"⟩, Cond.declares ⟨"java/lang/Throwable", "<init>", "(Ljava/lang/String;)V"⟩]) (fun w hw => hts w (List.mem_cons_of_mem _ (List.mem_append_left _ (List.mem_append_right _ hw)))) (by decide +kernel) (vx_c (va_Nw.use rfl (hN.1 _ (List.mem_of_getElem? (i := 12) rfl))) (vx_c (va_Nw.use rfl (hN.1 _ (List.mem_of_getElem? (i := 14) rfl))) (vx_c (va_Nw.use rfl (hN.1 _ (List.mem_of_getElem? (i := 15) rfl))) (vx_c (va_Nw.use rfl (hN.1 _ (List.mem_of_getElem? (i := 16) rfl))) vx_n))))) (by decide +kernel) hU hSN hS (hl.1.trans hml.symm) dX4_append_12 dX4_append_15 dX4_append_16 dX4_append_18 dX4_append_21 (fun x hx => (hex x hx).elim) (Nat.le_of_ble_eq_true rfl) (Nat.le_of_ble_eq_true rfl) (Nat.le_of_ble_eq_true rfl) (Nat.le_of_ble_eq_true rfl) hlocks (fun t ha hz hk => ⟨S, trivial, ⟨rfl, jKeep hP hk, va_K.moved ha hK, hD⟩, jF hS hz hk⟩) hS.2.2 (Nat.le_of_ble_eq_true rfl) (Nat.le_of_ble_eq_true rfl)
  exact KE _ _ hP hD hS
set_option maxHeartbeats 4000000 in
set_option maxRecDepth 100000 in
theorem c_X4_node (l : Launch) (dC : Nat → ClassId) (dI : Nat → Nat → Nat) (cI : ClassId) (hl0 : l.stackTraces = false) (a : Nat → Nat) (sz : Nat) (S : S_LS) (v1 : Int32) (v2 : Int32) (v3 : Int32) (res : Sum (String × (Unit)) (Int32)) (hF : F_X4_node S v1 v2 v3 = some res) : vx_Met l yX4_node wsX4_node ({ frames := 6, cells := 1, slots := 6, locals := 94 } : Room) (va_Pc [.ref (a 0), .int v1, .int v2, .int v3] (jPreX (dC, dI) [(cI, .int)] sz ((W_LS cI a S)))) (va_Qi (fun (r' : Int32) (u : Unit) => res = .inr r') (fun _ : Unit => jB (dC, dI) [(cI, .int)] (va_A ((W_LS cI a S)) sz) ((W_LS cI a S))) (va_A ((W_LS cI a S)) sz)) (vx_X (fun _ : Unit => True) (fun (E : String) (u : Unit) (t : State) => res = .inl (E, u) ∧ jB (dC, dI) [(cI, .int)] (va_A ((W_LS cI a S)) sz) ((W_LS cI a S)) t) (va_A ((W_LS cI a S)) sz)) 1 6 (va_A ((W_LS cI a S)) sz) := by
  refine vx_ofW (cc := cX4_node) (maxL := 4) (ret := (some .int)) (by decide) rfl ?_
  intro p e s m args below meth c s₁ B hml hex hv
  obtain ⟨rfl, ⟨hsz, hP, hK, hD0, hN⟩, hU, hSN⟩ := hv
  have hx := B.exec
  have hb := B.bytes
  have hr := B.returns
  have hts := atoms_spec (ws := wsX4_node) B.pre
  have hown : s.vm.findClass RX4 = some m.cls := findClass_of_methodNamed B.named
  have hlocks := B.notSynchronized
  have hinX4 : ∀ w ∈ u_ws RX4 TX4 8, w ∈ wsX4_node := by decide +kernel
  subst hsz
  have hD := hD0.self (sz := s.heap.size)
  generalize hAe : (va_A ((W_LS cI a S)) s.heap.size) = A at hD hU hSN ⊢
  have hA : ∀ q : Nat, s.heap.size ≤ q → A q := fun q h => by rw [← hAe]; exact Or.inr h
  have hS : va_S A s.heap s.heap [] := va_S.rf
  have hl := lv_entry ([.ref (a 0), .int v1, .int v2, .int v3]) (n := 4) (Nat.le_of_ble_eq_true rfl)
  rw [lg_entry_eq]
  generalize (lg_sl ([.ref (a 0), .int v1, .int v2, .int v3]) ++ List.replicate (4 - (lg_sl ([.ref (a 0), .int v1, .int v2, .int v3])).length) Slot.unset).toArray = ls at hl ⊢
  have hl : lv_has ls 4 [(0, .ref (a 0)), (1, .int v1), (2, .int v2), (3, .int v3)] := hl
  have KE : ∀ (H : Heap) (locs : List Loc), va_P (dC, dI) vwCl ((W_LS cI a S)) H → va_D A ((W_LS cI a S)) → va_S A s.heap H locs → W p l e (headSpec wsX4_node ({ frames := 6, cells := 1, slots := 6, locals := 94 } : Room)).room s m ([.ref (a 0), .int v1, .int v2, .int v3] : List Value).toArray below meth c H locs 0 0 (vx_MQ below (va_Qi (fun (r' : Int32) (u : Unit) => res = .inr r') (fun _ : Unit => jB (dC, dI) [(cI, .int)] A ((W_LS cI a S))) A) (vx_X (fun _ : Unit => True) (fun (E : String) (u : Unit) (t : State) => res = .inl (E, u) ∧ jB (dC, dI) [(cI, .int)] A ((W_LS cI a S)) t) A) ([.ref (a 0), .int v1, .int v2, .int v3] : List Value).toArray s 1 6 A) (F0 m 0 ls []) := by
    intro H locs hP hD hS
    unfold F_X4_node at hF
    refine lv_iload_n hx hb dX4_node_0 rfl (lv_at hl 1 rfl) ?_
    obtain ⟨r1, h2, hF⟩ := ob1_some hF
    have hPc : va_P (dC, dI) vwCl ([] : va_W) H := fun k q h => by simp at h
    have hDc : va_D A ([] : va_W) := ⟨fun i j p q h => by simp at h, fun k q h => by simp at h⟩
    have hFc := jFreeW (ws := []) hDc hS hA
    refine va_calli (va_runS (As := [.int v1]) (rest := []) ⟨hx, hb, hml, hown, hts⟩ (c_X4_isShape l dC dI cI  H.size _ _ h2) (va_cwS 1 hts gX4_node_X4_isShape rfl rfl rfl (by decide +kernel) ⟨Nat.le_of_ble_eq_true rfl, Nat.le_of_ble_eq_true rfl⟩) (jPreS hK hPc hDc hN) rfl rfl hl.1 rfl (lv_room (Nat.le_of_ble_eq_true rfl)) dX4_node_1 ⟨Nat.le_of_ble_eq_true rfl, Nat.le_of_ble_eq_true rfl⟩) hS (fun q _ h => hFc q h) hFc (fun r' u' t H locs ht hvm hw hB hz1 hk1 hS => ?_)
    subst hw
    obtain ⟨hP1, -, hD1⟩ := hB
    rw [ht] at hP1
    have hP : va_P (dC, dI) vwCl ((W_LS cI a S)) H := jNone hP hk1
    refine lv_if_eq (tgt := 22) hx hb dX4_node_4 (by decide) (fun c3 => ?_) (fun c3 => ?_)
    · have hF := F_pos c3 hF
      cases hF
      obtain ⟨sa, hsa⟩ := hN.2.1 _ (List.mem_of_getElem? (i := 2) rfl)
      exact vx_throwS (names := ["java/lang/RuntimeException", "java/lang/Exception"]) (cls := "java/lang/IndexOutOfBoundsException") hx hb hl0 hown (by decide +kernel) (by decide +kernel) (hts (Cond.classLink RX4 49 "java/lang/IndexOutOfBoundsException") (List.mem_of_getElem? (i := 1) rfl)) (hts (Cond.initialized "java/lang/IndexOutOfBoundsException") (List.mem_of_getElem? (i := 2) rfl)) hsa (vx_hat (B := [Cond.castable "java/lang/IndexOutOfBoundsException" "java/lang/IndexOutOfBoundsException", Cond.declares ⟨"java/lang/RuntimeException", "<init>", "(Ljava/lang/String;)V"⟩, Cond.declares ⟨"java/lang/Exception", "<init>", "(Ljava/lang/String;)V"⟩, Cond.declares ⟨"java/lang/Throwable", "<init>", "(Ljava/lang/String;)V"⟩]) (fun w hw => hts w (List.mem_cons_of_mem _ (List.mem_append_left _ (List.mem_append_right _ hw)))) (by decide +kernel) (vx_c (va_Nw.use rfl (hN.1 _ (List.mem_of_getElem? (i := 11) rfl))) (vx_c (va_Nw.use rfl (hN.1 _ (List.mem_of_getElem? (i := 14) rfl))) (vx_c (va_Nw.use rfl (hN.1 _ (List.mem_of_getElem? (i := 15) rfl))) (vx_c (va_Nw.use rfl (hN.1 _ (List.mem_of_getElem? (i := 16) rfl))) vx_n))))) (by decide +kernel) hU hSN hS (hl.1.trans hml.symm) dX4_node_22 dX4_node_25 dX4_node_26 dX4_node_28 dX4_node_31 (fun x hx => (hex x hx).elim) (Nat.le_of_ble_eq_true rfl) (Nat.le_of_ble_eq_true rfl) (Nat.le_of_ble_eq_true rfl) (Nat.le_of_ble_eq_true rfl) hlocks (fun t ha hz hk => ⟨(), trivial, ⟨rfl, jKeep hP hk, va_K.moved ha hK, hD⟩, jF hS hz hk⟩) hS.2.2 (Nat.le_of_ble_eq_true rfl) (Nat.le_of_ble_eq_true rfl)
    · have hF := F_neg c3 hF
      refine lv_aload_n hx hb dX4_node_7 rfl (lv_at hl 0 rfl) ?_
      refine va_get (D := (dC, dI)) (ci := 4) (v := .ref (a 5)) (C := RX4) (T := TX4) (N := 8) hx hb hts hinX4 hown hK hP 0 rfl rfl 3 (by decide) (hts (Cond.fieldLink RX4 23 "LearnedShapes" "now" "LLearnedShapes$State;") (List.mem_of_getElem? (i := 5) rfl)) (fun _ h9 => h9) rfl dX4_node_8 ?_
      refine lv_iload_n hx hb dX4_node_11 rfl (lv_at hl 1 rfl) ?_
      by_cases c4 : v1 = 0
      · have hF := F_pos c4 hF
        have hPc := hP.sub (ws' := (W_State cI (sh a 5) (g_LS_now S))) [5, 6, 7, 8, 9] rfl
        have hDc := hD.sub (ws' := (W_State cI (sh a 5) (g_LS_now S))) [5, 6, 7, 8, 9] (by decide) rfl
        have hFc := va_free (wc := (W_State cI (sh a 5) (g_LS_now S))) hD hS hA [5, 6, 7, 8, 9] rfl
        refine va_callr (va_runV (As := [.int v1]) (rest := []) ⟨hx, hb, hml, hown, hts⟩ (c_X2_tree_first l dC dI cI (sh a 5) H.size _ _ c4) (cwV 1 hts gX4_node_X2_tree rfl rfl rfl (by decide +kernel) ⟨Nat.le_of_ble_eq_true rfl, Nat.le_of_ble_eq_true rfl⟩) (jPreV hK hPc hDc hN (ci := 2) rfl rfl) rfl rfl hl.1 rfl (lv_room (Nat.le_of_ble_eq_true rfl)) dX4_node_12 ⟨Nat.le_of_ble_eq_true rfl, Nat.le_of_ble_eq_true rfl⟩) hS (fun q _ h => hFc q h) hFc (fun u q9 t H locs ht hvm hw hB hz1 hk1 hS => ?_)
        obtain ⟨e9, hP1, -, hD1⟩ := hB
        subst e9
        rw [ht] at hP1
        obtain ⟨hP, hD⟩ := jJoin (wc := (W_State cI (sh a 5) (g_LS_now S))) (w1 := (W_State cI (sh a 5) (g_LS_now S))) (ws' := (W_LS cI a S)) hP hD [5, 6, 7, 8, 9] [0, 1, 2, 3, 4, 10, 11, 12] [0, 1, 2, 3, 4, 8, 9, 10, 11, 12, 5, 6, 7] rfl rfl (by decide) (by decide) hk1 hFc hP1 hD1 (by decide) rfl
        refine lv_iload_n hx hb dX4_node_15 rfl (lv_at hl 2 rfl) ?_
        obtain ⟨r5, h6, hF⟩ := ob1_some hF
        have hPc := hP.sub (ws' := (W_Tree cI (sh a 6) (g_State_first (g_LS_now S)))) [6, 7] rfl
        have hDc := hD.sub (ws' := (W_Tree cI (sh a 6) (g_State_first (g_LS_now S)))) [6, 7] (by decide) rfl
        have hFc := va_free (wc := (W_Tree cI (sh a 6) (g_State_first (g_LS_now S)))) hD hS hA [6, 7] rfl
        refine va_calli (va_runV (As := [.int v2]) (rest := []) ⟨hx, hb, hml, hown, hts⟩ (c_X3_has l dC dI cI (sh a 6) H.size _ _ _ h6) (cwV 1 hts gX4_node_X3_has rfl rfl rfl (by decide +kernel) ⟨Nat.le_of_ble_eq_true rfl, Nat.le_of_ble_eq_true rfl⟩) (jPreV hK hPc hDc hN (ci := 3) rfl rfl) rfl rfl hl.1 rfl (lv_room (Nat.le_of_ble_eq_true rfl)) dX4_node_16 ⟨Nat.le_of_ble_eq_true rfl, Nat.le_of_ble_eq_true rfl⟩) hS (fun q _ h => hFc q h) hFc (fun r' u' t H locs ht hvm hw hB hz1 hk1 hS => ?_)
        subst hw
        obtain ⟨hP1, -, hD1⟩ := hB
        rw [ht] at hP1
        obtain ⟨hP, hD⟩ := jJoin (wc := (W_Tree cI (sh a 6) (g_State_first (g_LS_now S)))) (w1 := (W_Tree cI (sh a 6) (g_State_first (g_LS_now S)))) (ws' := (W_LS cI a S)) hP hD [6, 7] [0, 1, 2, 3, 4, 5, 8, 9, 10, 11, 12] [0, 1, 2, 3, 4, 5, 11, 12, 6, 7, 8, 9, 10] rfl rfl (by decide) (by decide) hk1 hFc hP1 hD1 (by decide) rfl
        refine lv_if_ne (tgt := 32) hx hb dX4_node_19 (by decide) (fun c7 => ?_) (fun c7 => ?_)
        · have hF := F_neg c7 hF
          refine lv_iload_n hx hb dX4_node_32 rfl (lv_at hl 3 rfl) ?_
          refine lv_if_lt (tgt := 42) hx hb dX4_node_33 (by decide) (fun c8 => ?_) (fun c8 => ?_)
          · have hF := F_pos c8 hF
            cases hF
            obtain ⟨sa, hsa⟩ := hN.2.1 _ (List.mem_of_getElem? (i := 11) rfl)
            exact vx_throwS (names := ["java/lang/RuntimeException", "java/lang/Exception"]) (cls := "java/lang/IllegalArgumentException") hx hb hl0 hown (by decide +kernel) (by decide +kernel) (hts (Cond.classLink RX4 64 "java/lang/IllegalArgumentException") (List.mem_of_getElem? (i := 3) rfl)) (hts (Cond.initialized "java/lang/IllegalArgumentException") (List.mem_of_getElem? (i := 4) rfl)) hsa (vx_hat (B := [Cond.castable "java/lang/IllegalArgumentException" "java/lang/IllegalArgumentException", Cond.declares ⟨"java/lang/RuntimeException", "<init>", "(Ljava/lang/String;)V"⟩, Cond.declares ⟨"java/lang/Exception", "<init>", "(Ljava/lang/String;)V"⟩, Cond.declares ⟨"java/lang/Throwable", "<init>", "(Ljava/lang/String;)V"⟩]) (fun w hw => hts w (List.mem_cons_of_mem _ (List.mem_append_right _ hw))) (by decide +kernel) (vx_c (va_Nw.use rfl (hN.1 _ (List.mem_of_getElem? (i := 12) rfl))) (vx_c (va_Nw.use rfl (hN.1 _ (List.mem_of_getElem? (i := 14) rfl))) (vx_c (va_Nw.use rfl (hN.1 _ (List.mem_of_getElem? (i := 15) rfl))) (vx_c (va_Nw.use rfl (hN.1 _ (List.mem_of_getElem? (i := 16) rfl))) vx_n))))) (by decide +kernel) hU hSN hS (hl.1.trans hml.symm) dX4_node_42 dX4_node_45 dX4_node_46 dX4_node_48 dX4_node_51 (fun x hx => (hex x hx).elim) (Nat.le_of_ble_eq_true rfl) (Nat.le_of_ble_eq_true rfl) (Nat.le_of_ble_eq_true rfl) (Nat.le_of_ble_eq_true rfl) hlocks (fun t ha hz hk => ⟨(), trivial, ⟨rfl, jKeep hP hk, va_K.moved ha hK, hD⟩, jF hS hz hk⟩) hS.2.2 (Nat.le_of_ble_eq_true rfl) (Nat.le_of_ble_eq_true rfl)
          · have hF := F_neg c8 hF
            refine lv_iload_n hx hb dX4_node_36 rfl (lv_at hl 3 rfl) ?_
            refine lv_bipush (v := (9 : Int32)) hx hb dX4_node_37 (by decide) ?_
            refine lv_icmp_le (tgt := 52) hx hb dX4_node_39 (by decide) (fun c9 => ?_) (fun c9 => ?_)
            · have hF := F_pos c9 hF
              refine lv_aload_n hx hb dX4_node_52 rfl (lv_at hl 0 rfl) ?_
              refine va_get (D := (dC, dI)) (ci := 4) (v := .ref (a 5)) (C := RX4) (T := TX4) (N := 8) hx hb hts hinX4 hown hK hP 0 rfl rfl 3 (by decide) (hts (Cond.fieldLink RX4 23 "LearnedShapes" "now" "LLearnedShapes$State;") (List.mem_of_getElem? (i := 5) rfl)) (fun _ h9 => h9) rfl dX4_node_53 ?_
              refine lv_iload_n hx hb dX4_node_56 rfl (lv_at hl 1 rfl) ?_
              have hPc := hP.sub (ws' := (W_State cI (sh a 5) (g_LS_now S))) [5, 6, 7, 8, 9] rfl
              have hDc := hD.sub (ws' := (W_State cI (sh a 5) (g_LS_now S))) [5, 6, 7, 8, 9] (by decide) rfl
              have hFc := va_free (wc := (W_State cI (sh a 5) (g_LS_now S))) hD hS hA [5, 6, 7, 8, 9] rfl
              refine va_callr (va_runV (As := [.int v1]) (rest := []) ⟨hx, hb, hml, hown, hts⟩ (c_X2_tree_first l dC dI cI (sh a 5) H.size _ _ c4) (cwV 1 hts gX4_node_X2_tree rfl rfl rfl (by decide +kernel) ⟨Nat.le_of_ble_eq_true rfl, Nat.le_of_ble_eq_true rfl⟩) (jPreV hK hPc hDc hN (ci := 2) rfl rfl) rfl rfl hl.1 rfl (lv_room (Nat.le_of_ble_eq_true rfl)) dX4_node_57 ⟨Nat.le_of_ble_eq_true rfl, Nat.le_of_ble_eq_true rfl⟩) hS (fun q _ h => hFc q h) hFc (fun u q9 t H locs ht hvm hw hB hz1 hk1 hS => ?_)
              obtain ⟨e9, hP1, -, hD1⟩ := hB
              subst e9
              rw [ht] at hP1
              obtain ⟨hP, hD⟩ := jJoin (wc := (W_State cI (sh a 5) (g_LS_now S))) (w1 := (W_State cI (sh a 5) (g_LS_now S))) (ws' := (W_LS cI a S)) hP hD [5, 6, 7, 8, 9] [0, 1, 2, 3, 4, 10, 11, 12] [0, 1, 2, 3, 4, 8, 9, 10, 11, 12, 5, 6, 7] rfl rfl (by decide) (by decide) hk1 hFc hP1 hD1 (by decide) rfl
              refine lv_iload_n hx hb dX4_node_60 rfl (lv_at hl 2 rfl) ?_
              refine lv_iload_n hx hb dX4_node_61 rfl (lv_at hl 3 rfl) ?_
              obtain ⟨r10, h11, hF⟩ := ob1_some hF
              have hPc := hP.sub (ws' := (W_Tree cI (sh a 6) (g_State_first (g_LS_now S)))) [6, 7] rfl
              have hDc := hD.sub (ws' := (W_Tree cI (sh a 6) (g_State_first (g_LS_now S)))) [6, 7] (by decide) rfl
              have hFc := va_free (wc := (W_Tree cI (sh a 6) (g_State_first (g_LS_now S)))) hD hS hA [6, 7] rfl
              refine va_calli (va_runS (As := [.ref (a 6), .int v2, .int v3]) (rest := []) ⟨hx, hb, hml, hown, hts⟩ (c_X4_nodeNumber l dC dI cI (sh a 6) H.size _ _ _ _ h11) (va_cwS 3 hts gX4_node_X4_nodeNumber rfl rfl rfl (by decide +kernel) ⟨Nat.le_of_ble_eq_true rfl, Nat.le_of_ble_eq_true rfl⟩) (jPreS hK hPc hDc hN) rfl rfl hl.1 rfl (lv_room (Nat.le_of_ble_eq_true rfl)) dX4_node_62 ⟨Nat.le_of_ble_eq_true rfl, Nat.le_of_ble_eq_true rfl⟩) hS (fun q _ h => hFc q h) hFc (fun r' u' t H locs ht hvm hw hB hz1 hk1 hS => ?_)
              subst hw
              obtain ⟨hP1, -, hD1⟩ := hB
              rw [ht] at hP1
              obtain ⟨hP, hD⟩ := jJoin (wc := (W_Tree cI (sh a 6) (g_State_first (g_LS_now S)))) (w1 := (W_Tree cI (sh a 6) (g_State_first (g_LS_now S)))) (ws' := (W_LS cI a S)) hP hD [6, 7] [0, 1, 2, 3, 4, 5, 8, 9, 10, 11, 12] [0, 1, 2, 3, 4, 5, 11, 12, 6, 7, 8, 9, 10] rfl rfl (by decide) (by decide) hk1 hFc hP1 hD1 (by decide) rfl
              cases hF
              refine vx_ret ?_
              refine W.widen (k := 1) (n := 6) (Nat.zero_le _) (Nat.zero_le _) ?_
              exact W.iret (v := r10) hx hb hr (fun t ht hW => ⟨⟨r10, (), rfl, rfl, by rw [ht]; exact hP, va_K.moved hW.alike hK, hD⟩, hS.F ht⟩) hS.2.2 dX4_node_65
            · have hF := F_neg c9 hF
              cases hF
              obtain ⟨sa, hsa⟩ := hN.2.1 _ (List.mem_of_getElem? (i := 11) rfl)
              exact vx_throwS (names := ["java/lang/RuntimeException", "java/lang/Exception"]) (cls := "java/lang/IllegalArgumentException") hx hb hl0 hown (by decide +kernel) (by decide +kernel) (hts (Cond.classLink RX4 64 "java/lang/IllegalArgumentException") (List.mem_of_getElem? (i := 3) rfl)) (hts (Cond.initialized "java/lang/IllegalArgumentException") (List.mem_of_getElem? (i := 4) rfl)) hsa (vx_hat (B := [Cond.castable "java/lang/IllegalArgumentException" "java/lang/IllegalArgumentException", Cond.declares ⟨"java/lang/RuntimeException", "<init>", "(Ljava/lang/String;)V"⟩, Cond.declares ⟨"java/lang/Exception", "<init>", "(Ljava/lang/String;)V"⟩, Cond.declares ⟨"java/lang/Throwable", "<init>", "(Ljava/lang/String;)V"⟩]) (fun w hw => hts w (List.mem_cons_of_mem _ (List.mem_append_right _ hw))) (by decide +kernel) (vx_c (va_Nw.use rfl (hN.1 _ (List.mem_of_getElem? (i := 12) rfl))) (vx_c (va_Nw.use rfl (hN.1 _ (List.mem_of_getElem? (i := 14) rfl))) (vx_c (va_Nw.use rfl (hN.1 _ (List.mem_of_getElem? (i := 15) rfl))) (vx_c (va_Nw.use rfl (hN.1 _ (List.mem_of_getElem? (i := 16) rfl))) vx_n))))) (by decide +kernel) hU hSN hS (hl.1.trans hml.symm) dX4_node_42 dX4_node_45 dX4_node_46 dX4_node_48 dX4_node_51 (fun x hx => (hex x hx).elim) (Nat.le_of_ble_eq_true rfl) (Nat.le_of_ble_eq_true rfl) (Nat.le_of_ble_eq_true rfl) (Nat.le_of_ble_eq_true rfl) hlocks (fun t ha hz hk => ⟨(), trivial, ⟨rfl, jKeep hP hk, va_K.moved ha hK, hD⟩, jF hS hz hk⟩) hS.2.2 (Nat.le_of_ble_eq_true rfl) (Nat.le_of_ble_eq_true rfl)
        · have hF := F_pos c7 hF
          cases hF
          obtain ⟨sa, hsa⟩ := hN.2.1 _ (List.mem_of_getElem? (i := 2) rfl)
          exact vx_throwS (names := ["java/lang/RuntimeException", "java/lang/Exception"]) (cls := "java/lang/IndexOutOfBoundsException") hx hb hl0 hown (by decide +kernel) (by decide +kernel) (hts (Cond.classLink RX4 49 "java/lang/IndexOutOfBoundsException") (List.mem_of_getElem? (i := 1) rfl)) (hts (Cond.initialized "java/lang/IndexOutOfBoundsException") (List.mem_of_getElem? (i := 2) rfl)) hsa (vx_hat (B := [Cond.castable "java/lang/IndexOutOfBoundsException" "java/lang/IndexOutOfBoundsException", Cond.declares ⟨"java/lang/RuntimeException", "<init>", "(Ljava/lang/String;)V"⟩, Cond.declares ⟨"java/lang/Exception", "<init>", "(Ljava/lang/String;)V"⟩, Cond.declares ⟨"java/lang/Throwable", "<init>", "(Ljava/lang/String;)V"⟩]) (fun w hw => hts w (List.mem_cons_of_mem _ (List.mem_append_left _ (List.mem_append_right _ hw)))) (by decide +kernel) (vx_c (va_Nw.use rfl (hN.1 _ (List.mem_of_getElem? (i := 11) rfl))) (vx_c (va_Nw.use rfl (hN.1 _ (List.mem_of_getElem? (i := 14) rfl))) (vx_c (va_Nw.use rfl (hN.1 _ (List.mem_of_getElem? (i := 15) rfl))) (vx_c (va_Nw.use rfl (hN.1 _ (List.mem_of_getElem? (i := 16) rfl))) vx_n))))) (by decide +kernel) hU hSN hS (hl.1.trans hml.symm) dX4_node_22 dX4_node_25 dX4_node_26 dX4_node_28 dX4_node_31 (fun x hx => (hex x hx).elim) (Nat.le_of_ble_eq_true rfl) (Nat.le_of_ble_eq_true rfl) (Nat.le_of_ble_eq_true rfl) (Nat.le_of_ble_eq_true rfl) hlocks (fun t ha hz hk => ⟨(), trivial, ⟨rfl, jKeep hP hk, va_K.moved ha hK, hD⟩, jF hS hz hk⟩) hS.2.2 (Nat.le_of_ble_eq_true rfl) (Nat.le_of_ble_eq_true rfl)
      · have hF := F_neg c4 hF
        have hPc := hP.sub (ws' := (W_State cI (sh a 5) (g_LS_now S))) [5, 6, 7, 8, 9] rfl
        have hDc := hD.sub (ws' := (W_State cI (sh a 5) (g_LS_now S))) [5, 6, 7, 8, 9] (by decide) rfl
        have hFc := va_free (wc := (W_State cI (sh a 5) (g_LS_now S))) hD hS hA [5, 6, 7, 8, 9] rfl
        refine va_callr (va_runV (As := [.int v1]) (rest := []) ⟨hx, hb, hml, hown, hts⟩ (c_X2_tree_second l dC dI cI (sh a 5) H.size _ _ c4) (cwV 1 hts gX4_node_X2_tree rfl rfl rfl (by decide +kernel) ⟨Nat.le_of_ble_eq_true rfl, Nat.le_of_ble_eq_true rfl⟩) (jPreV hK hPc hDc hN (ci := 2) rfl rfl) rfl rfl hl.1 rfl (lv_room (Nat.le_of_ble_eq_true rfl)) dX4_node_12 ⟨Nat.le_of_ble_eq_true rfl, Nat.le_of_ble_eq_true rfl⟩) hS (fun q _ h => hFc q h) hFc (fun u q9 t H locs ht hvm hw hB hz1 hk1 hS => ?_)
        obtain ⟨e9, hP1, -, hD1⟩ := hB
        subst e9
        rw [ht] at hP1
        obtain ⟨hP, hD⟩ := jJoin (wc := (W_State cI (sh a 5) (g_LS_now S))) (w1 := (W_State cI (sh a 5) (g_LS_now S))) (ws' := (W_LS cI a S)) hP hD [5, 6, 7, 8, 9] [0, 1, 2, 3, 4, 10, 11, 12] [0, 1, 2, 3, 4, 8, 9, 10, 11, 12, 5, 6, 7] rfl rfl (by decide) (by decide) hk1 hFc hP1 hD1 (by decide) rfl
        refine lv_iload_n hx hb dX4_node_15 rfl (lv_at hl 2 rfl) ?_
        obtain ⟨r12, h13, hF⟩ := ob1_some hF
        have hPc := hP.sub (ws' := (W_Tree cI (sh a 8) (g_State_second (g_LS_now S)))) [8, 9] rfl
        have hDc := hD.sub (ws' := (W_Tree cI (sh a 8) (g_State_second (g_LS_now S)))) [8, 9] (by decide) rfl
        have hFc := va_free (wc := (W_Tree cI (sh a 8) (g_State_second (g_LS_now S)))) hD hS hA [8, 9] rfl
        refine va_calli (va_runV (As := [.int v2]) (rest := []) ⟨hx, hb, hml, hown, hts⟩ (c_X3_has l dC dI cI (sh a 8) H.size _ _ _ h13) (cwV 1 hts gX4_node_X3_has rfl rfl rfl (by decide +kernel) ⟨Nat.le_of_ble_eq_true rfl, Nat.le_of_ble_eq_true rfl⟩) (jPreV hK hPc hDc hN (ci := 3) rfl rfl) rfl rfl hl.1 rfl (lv_room (Nat.le_of_ble_eq_true rfl)) dX4_node_16 ⟨Nat.le_of_ble_eq_true rfl, Nat.le_of_ble_eq_true rfl⟩) hS (fun q _ h => hFc q h) hFc (fun r' u' t H locs ht hvm hw hB hz1 hk1 hS => ?_)
        subst hw
        obtain ⟨hP1, -, hD1⟩ := hB
        rw [ht] at hP1
        obtain ⟨hP, hD⟩ := jJoin (wc := (W_Tree cI (sh a 8) (g_State_second (g_LS_now S)))) (w1 := (W_Tree cI (sh a 8) (g_State_second (g_LS_now S)))) (ws' := (W_LS cI a S)) hP hD [8, 9] [0, 1, 2, 3, 4, 5, 6, 7, 10, 11, 12] [0, 1, 2, 3, 4, 5, 6, 7, 11, 12, 8, 9, 10] rfl rfl (by decide) (by decide) hk1 hFc hP1 hD1 (by decide) rfl
        refine lv_if_ne (tgt := 32) hx hb dX4_node_19 (by decide) (fun c14 => ?_) (fun c14 => ?_)
        · have hF := F_neg c14 hF
          refine lv_iload_n hx hb dX4_node_32 rfl (lv_at hl 3 rfl) ?_
          refine lv_if_lt (tgt := 42) hx hb dX4_node_33 (by decide) (fun c15 => ?_) (fun c15 => ?_)
          · have hF := F_pos c15 hF
            cases hF
            obtain ⟨sa, hsa⟩ := hN.2.1 _ (List.mem_of_getElem? (i := 11) rfl)
            exact vx_throwS (names := ["java/lang/RuntimeException", "java/lang/Exception"]) (cls := "java/lang/IllegalArgumentException") hx hb hl0 hown (by decide +kernel) (by decide +kernel) (hts (Cond.classLink RX4 64 "java/lang/IllegalArgumentException") (List.mem_of_getElem? (i := 3) rfl)) (hts (Cond.initialized "java/lang/IllegalArgumentException") (List.mem_of_getElem? (i := 4) rfl)) hsa (vx_hat (B := [Cond.castable "java/lang/IllegalArgumentException" "java/lang/IllegalArgumentException", Cond.declares ⟨"java/lang/RuntimeException", "<init>", "(Ljava/lang/String;)V"⟩, Cond.declares ⟨"java/lang/Exception", "<init>", "(Ljava/lang/String;)V"⟩, Cond.declares ⟨"java/lang/Throwable", "<init>", "(Ljava/lang/String;)V"⟩]) (fun w hw => hts w (List.mem_cons_of_mem _ (List.mem_append_right _ hw))) (by decide +kernel) (vx_c (va_Nw.use rfl (hN.1 _ (List.mem_of_getElem? (i := 12) rfl))) (vx_c (va_Nw.use rfl (hN.1 _ (List.mem_of_getElem? (i := 14) rfl))) (vx_c (va_Nw.use rfl (hN.1 _ (List.mem_of_getElem? (i := 15) rfl))) (vx_c (va_Nw.use rfl (hN.1 _ (List.mem_of_getElem? (i := 16) rfl))) vx_n))))) (by decide +kernel) hU hSN hS (hl.1.trans hml.symm) dX4_node_42 dX4_node_45 dX4_node_46 dX4_node_48 dX4_node_51 (fun x hx => (hex x hx).elim) (Nat.le_of_ble_eq_true rfl) (Nat.le_of_ble_eq_true rfl) (Nat.le_of_ble_eq_true rfl) (Nat.le_of_ble_eq_true rfl) hlocks (fun t ha hz hk => ⟨(), trivial, ⟨rfl, jKeep hP hk, va_K.moved ha hK, hD⟩, jF hS hz hk⟩) hS.2.2 (Nat.le_of_ble_eq_true rfl) (Nat.le_of_ble_eq_true rfl)
          · have hF := F_neg c15 hF
            refine lv_iload_n hx hb dX4_node_36 rfl (lv_at hl 3 rfl) ?_
            refine lv_bipush (v := (9 : Int32)) hx hb dX4_node_37 (by decide) ?_
            refine lv_icmp_le (tgt := 52) hx hb dX4_node_39 (by decide) (fun c16 => ?_) (fun c16 => ?_)
            · have hF := F_pos c16 hF
              refine lv_aload_n hx hb dX4_node_52 rfl (lv_at hl 0 rfl) ?_
              refine va_get (D := (dC, dI)) (ci := 4) (v := .ref (a 5)) (C := RX4) (T := TX4) (N := 8) hx hb hts hinX4 hown hK hP 0 rfl rfl 3 (by decide) (hts (Cond.fieldLink RX4 23 "LearnedShapes" "now" "LLearnedShapes$State;") (List.mem_of_getElem? (i := 5) rfl)) (fun _ h9 => h9) rfl dX4_node_53 ?_
              refine lv_iload_n hx hb dX4_node_56 rfl (lv_at hl 1 rfl) ?_
              have hPc := hP.sub (ws' := (W_State cI (sh a 5) (g_LS_now S))) [5, 6, 7, 8, 9] rfl
              have hDc := hD.sub (ws' := (W_State cI (sh a 5) (g_LS_now S))) [5, 6, 7, 8, 9] (by decide) rfl
              have hFc := va_free (wc := (W_State cI (sh a 5) (g_LS_now S))) hD hS hA [5, 6, 7, 8, 9] rfl
              refine va_callr (va_runV (As := [.int v1]) (rest := []) ⟨hx, hb, hml, hown, hts⟩ (c_X2_tree_second l dC dI cI (sh a 5) H.size _ _ c4) (cwV 1 hts gX4_node_X2_tree rfl rfl rfl (by decide +kernel) ⟨Nat.le_of_ble_eq_true rfl, Nat.le_of_ble_eq_true rfl⟩) (jPreV hK hPc hDc hN (ci := 2) rfl rfl) rfl rfl hl.1 rfl (lv_room (Nat.le_of_ble_eq_true rfl)) dX4_node_57 ⟨Nat.le_of_ble_eq_true rfl, Nat.le_of_ble_eq_true rfl⟩) hS (fun q _ h => hFc q h) hFc (fun u q9 t H locs ht hvm hw hB hz1 hk1 hS => ?_)
              obtain ⟨e9, hP1, -, hD1⟩ := hB
              subst e9
              rw [ht] at hP1
              obtain ⟨hP, hD⟩ := jJoin (wc := (W_State cI (sh a 5) (g_LS_now S))) (w1 := (W_State cI (sh a 5) (g_LS_now S))) (ws' := (W_LS cI a S)) hP hD [5, 6, 7, 8, 9] [0, 1, 2, 3, 4, 10, 11, 12] [0, 1, 2, 3, 4, 8, 9, 10, 11, 12, 5, 6, 7] rfl rfl (by decide) (by decide) hk1 hFc hP1 hD1 (by decide) rfl
              refine lv_iload_n hx hb dX4_node_60 rfl (lv_at hl 2 rfl) ?_
              refine lv_iload_n hx hb dX4_node_61 rfl (lv_at hl 3 rfl) ?_
              obtain ⟨r17, h18, hF⟩ := ob1_some hF
              have hPc := hP.sub (ws' := (W_Tree cI (sh a 8) (g_State_second (g_LS_now S)))) [8, 9] rfl
              have hDc := hD.sub (ws' := (W_Tree cI (sh a 8) (g_State_second (g_LS_now S)))) [8, 9] (by decide) rfl
              have hFc := va_free (wc := (W_Tree cI (sh a 8) (g_State_second (g_LS_now S)))) hD hS hA [8, 9] rfl
              refine va_calli (va_runS (As := [.ref (a 8), .int v2, .int v3]) (rest := []) ⟨hx, hb, hml, hown, hts⟩ (c_X4_nodeNumber l dC dI cI (sh a 8) H.size _ _ _ _ h18) (va_cwS 3 hts gX4_node_X4_nodeNumber rfl rfl rfl (by decide +kernel) ⟨Nat.le_of_ble_eq_true rfl, Nat.le_of_ble_eq_true rfl⟩) (jPreS hK hPc hDc hN) rfl rfl hl.1 rfl (lv_room (Nat.le_of_ble_eq_true rfl)) dX4_node_62 ⟨Nat.le_of_ble_eq_true rfl, Nat.le_of_ble_eq_true rfl⟩) hS (fun q _ h => hFc q h) hFc (fun r' u' t H locs ht hvm hw hB hz1 hk1 hS => ?_)
              subst hw
              obtain ⟨hP1, -, hD1⟩ := hB
              rw [ht] at hP1
              obtain ⟨hP, hD⟩ := jJoin (wc := (W_Tree cI (sh a 8) (g_State_second (g_LS_now S)))) (w1 := (W_Tree cI (sh a 8) (g_State_second (g_LS_now S)))) (ws' := (W_LS cI a S)) hP hD [8, 9] [0, 1, 2, 3, 4, 5, 6, 7, 10, 11, 12] [0, 1, 2, 3, 4, 5, 6, 7, 11, 12, 8, 9, 10] rfl rfl (by decide) (by decide) hk1 hFc hP1 hD1 (by decide) rfl
              cases hF
              refine vx_ret ?_
              refine W.widen (k := 1) (n := 6) (Nat.zero_le _) (Nat.zero_le _) ?_
              exact W.iret (v := r17) hx hb hr (fun t ht hW => ⟨⟨r17, (), rfl, rfl, by rw [ht]; exact hP, va_K.moved hW.alike hK, hD⟩, hS.F ht⟩) hS.2.2 dX4_node_65
            · have hF := F_neg c16 hF
              cases hF
              obtain ⟨sa, hsa⟩ := hN.2.1 _ (List.mem_of_getElem? (i := 11) rfl)
              exact vx_throwS (names := ["java/lang/RuntimeException", "java/lang/Exception"]) (cls := "java/lang/IllegalArgumentException") hx hb hl0 hown (by decide +kernel) (by decide +kernel) (hts (Cond.classLink RX4 64 "java/lang/IllegalArgumentException") (List.mem_of_getElem? (i := 3) rfl)) (hts (Cond.initialized "java/lang/IllegalArgumentException") (List.mem_of_getElem? (i := 4) rfl)) hsa (vx_hat (B := [Cond.castable "java/lang/IllegalArgumentException" "java/lang/IllegalArgumentException", Cond.declares ⟨"java/lang/RuntimeException", "<init>", "(Ljava/lang/String;)V"⟩, Cond.declares ⟨"java/lang/Exception", "<init>", "(Ljava/lang/String;)V"⟩, Cond.declares ⟨"java/lang/Throwable", "<init>", "(Ljava/lang/String;)V"⟩]) (fun w hw => hts w (List.mem_cons_of_mem _ (List.mem_append_right _ hw))) (by decide +kernel) (vx_c (va_Nw.use rfl (hN.1 _ (List.mem_of_getElem? (i := 12) rfl))) (vx_c (va_Nw.use rfl (hN.1 _ (List.mem_of_getElem? (i := 14) rfl))) (vx_c (va_Nw.use rfl (hN.1 _ (List.mem_of_getElem? (i := 15) rfl))) (vx_c (va_Nw.use rfl (hN.1 _ (List.mem_of_getElem? (i := 16) rfl))) vx_n))))) (by decide +kernel) hU hSN hS (hl.1.trans hml.symm) dX4_node_42 dX4_node_45 dX4_node_46 dX4_node_48 dX4_node_51 (fun x hx => (hex x hx).elim) (Nat.le_of_ble_eq_true rfl) (Nat.le_of_ble_eq_true rfl) (Nat.le_of_ble_eq_true rfl) (Nat.le_of_ble_eq_true rfl) hlocks (fun t ha hz hk => ⟨(), trivial, ⟨rfl, jKeep hP hk, va_K.moved ha hK, hD⟩, jF hS hz hk⟩) hS.2.2 (Nat.le_of_ble_eq_true rfl) (Nat.le_of_ble_eq_true rfl)
        · have hF := F_pos c14 hF
          cases hF
          obtain ⟨sa, hsa⟩ := hN.2.1 _ (List.mem_of_getElem? (i := 2) rfl)
          exact vx_throwS (names := ["java/lang/RuntimeException", "java/lang/Exception"]) (cls := "java/lang/IndexOutOfBoundsException") hx hb hl0 hown (by decide +kernel) (by decide +kernel) (hts (Cond.classLink RX4 49 "java/lang/IndexOutOfBoundsException") (List.mem_of_getElem? (i := 1) rfl)) (hts (Cond.initialized "java/lang/IndexOutOfBoundsException") (List.mem_of_getElem? (i := 2) rfl)) hsa (vx_hat (B := [Cond.castable "java/lang/IndexOutOfBoundsException" "java/lang/IndexOutOfBoundsException", Cond.declares ⟨"java/lang/RuntimeException", "<init>", "(Ljava/lang/String;)V"⟩, Cond.declares ⟨"java/lang/Exception", "<init>", "(Ljava/lang/String;)V"⟩, Cond.declares ⟨"java/lang/Throwable", "<init>", "(Ljava/lang/String;)V"⟩]) (fun w hw => hts w (List.mem_cons_of_mem _ (List.mem_append_left _ (List.mem_append_right _ hw)))) (by decide +kernel) (vx_c (va_Nw.use rfl (hN.1 _ (List.mem_of_getElem? (i := 11) rfl))) (vx_c (va_Nw.use rfl (hN.1 _ (List.mem_of_getElem? (i := 14) rfl))) (vx_c (va_Nw.use rfl (hN.1 _ (List.mem_of_getElem? (i := 15) rfl))) (vx_c (va_Nw.use rfl (hN.1 _ (List.mem_of_getElem? (i := 16) rfl))) vx_n))))) (by decide +kernel) hU hSN hS (hl.1.trans hml.symm) dX4_node_22 dX4_node_25 dX4_node_26 dX4_node_28 dX4_node_31 (fun x hx => (hex x hx).elim) (Nat.le_of_ble_eq_true rfl) (Nat.le_of_ble_eq_true rfl) (Nat.le_of_ble_eq_true rfl) (Nat.le_of_ble_eq_true rfl) hlocks (fun t ha hz hk => ⟨(), trivial, ⟨rfl, jKeep hP hk, va_K.moved ha hK, hD⟩, jF hS hz hk⟩) hS.2.2 (Nat.le_of_ble_eq_true rfl) (Nat.le_of_ble_eq_true rfl)
  exact KE _ _ hP hD hS
set_option maxHeartbeats 4000000 in
set_option maxRecDepth 100000 in
theorem c_X4_child (l : Launch) (dC : Nat → ClassId) (dI : Nat → Nat → Nat) (cI : ClassId) (hl0 : l.stackTraces = false) (a : Nat → Nat) (sz : Nat) (S : S_LS) (v1 : Int32) (v2 : Int32) (v3 : Int32) (res : Sum (String × (Unit)) (Int32)) (hF : F_X4_child S v1 v2 v3 = some res) : vx_Met l yX4_child wsX4_child ({ frames := 6, cells := 1, slots := 6, locals := 90 } : Room) (va_Pc [.ref (a 0), .int v1, .int v2, .int v3] (jPreX (dC, dI) [(cI, .int)] sz ((W_LS cI a S)))) (va_Qi (fun (r' : Int32) (u : Unit) => res = .inr r') (fun _ : Unit => jB (dC, dI) [(cI, .int)] (va_A ((W_LS cI a S)) sz) ((W_LS cI a S))) (va_A ((W_LS cI a S)) sz)) (vx_X (fun _ : Unit => True) (fun (E : String) (u : Unit) (t : State) => res = .inl (E, u) ∧ jB (dC, dI) [(cI, .int)] (va_A ((W_LS cI a S)) sz) ((W_LS cI a S)) t) (va_A ((W_LS cI a S)) sz)) 1 6 (va_A ((W_LS cI a S)) sz) := by
  refine vx_ofW (cc := cX4_child) (maxL := 4) (ret := (some .int)) (by decide) rfl ?_
  intro p e s m args below meth c s₁ B hml hex hv
  obtain ⟨rfl, ⟨hsz, hP, hK, hD0, hN⟩, hU, hSN⟩ := hv
  have hx := B.exec
  have hb := B.bytes
  have hr := B.returns
  have hts := atoms_spec (ws := wsX4_child) B.pre
  have hown : s.vm.findClass RX4 = some m.cls := findClass_of_methodNamed B.named
  have hlocks := B.notSynchronized
  have hinX4 : ∀ w ∈ u_ws RX4 TX4 8, w ∈ wsX4_child := by decide +kernel
  subst hsz
  have hD := hD0.self (sz := s.heap.size)
  generalize hAe : (va_A ((W_LS cI a S)) s.heap.size) = A at hD hU hSN ⊢
  have hA : ∀ q : Nat, s.heap.size ≤ q → A q := fun q h => by rw [← hAe]; exact Or.inr h
  have hS : va_S A s.heap s.heap [] := va_S.rf
  have hl := lv_entry ([.ref (a 0), .int v1, .int v2, .int v3]) (n := 4) (Nat.le_of_ble_eq_true rfl)
  rw [lg_entry_eq]
  generalize (lg_sl ([.ref (a 0), .int v1, .int v2, .int v3]) ++ List.replicate (4 - (lg_sl ([.ref (a 0), .int v1, .int v2, .int v3])).length) Slot.unset).toArray = ls at hl ⊢
  have hl : lv_has ls 4 [(0, .ref (a 0)), (1, .int v1), (2, .int v2), (3, .int v3)] := hl
  have KE : ∀ (H : Heap) (locs : List Loc), va_P (dC, dI) vwCl ((W_LS cI a S)) H → va_D A ((W_LS cI a S)) → va_S A s.heap H locs → W p l e (headSpec wsX4_child ({ frames := 6, cells := 1, slots := 6, locals := 90 } : Room)).room s m ([.ref (a 0), .int v1, .int v2, .int v3] : List Value).toArray below meth c H locs 0 0 (vx_MQ below (va_Qi (fun (r' : Int32) (u : Unit) => res = .inr r') (fun _ : Unit => jB (dC, dI) [(cI, .int)] A ((W_LS cI a S))) A) (vx_X (fun _ : Unit => True) (fun (E : String) (u : Unit) (t : State) => res = .inl (E, u) ∧ jB (dC, dI) [(cI, .int)] A ((W_LS cI a S)) t) A) ([.ref (a 0), .int v1, .int v2, .int v3] : List Value).toArray s 1 6 A) (F0 m 0 ls []) := by
    intro H locs hP hD hS
    unfold F_X4_child at hF
    refine lv_iload_n hx hb dX4_child_0 rfl (lv_at hl 1 rfl) ?_
    obtain ⟨r1, h2, hF⟩ := ob1_some hF
    have hPc : va_P (dC, dI) vwCl ([] : va_W) H := fun k q h => by simp at h
    have hDc : va_D A ([] : va_W) := ⟨fun i j p q h => by simp at h, fun k q h => by simp at h⟩
    have hFc := jFreeW (ws := []) hDc hS hA
    refine va_calli (va_runS (As := [.int v1]) (rest := []) ⟨hx, hb, hml, hown, hts⟩ (c_X4_isShape l dC dI cI  H.size _ _ h2) (va_cwS 1 hts gX4_child_X4_isShape rfl rfl rfl (by decide +kernel) ⟨Nat.le_of_ble_eq_true rfl, Nat.le_of_ble_eq_true rfl⟩) (jPreS hK hPc hDc hN) rfl rfl hl.1 rfl (lv_room (Nat.le_of_ble_eq_true rfl)) dX4_child_1 ⟨Nat.le_of_ble_eq_true rfl, Nat.le_of_ble_eq_true rfl⟩) hS (fun q _ h => hFc q h) hFc (fun r' u' t H locs ht hvm hw hB hz1 hk1 hS => ?_)
    subst hw
    obtain ⟨hP1, -, hD1⟩ := hB
    rw [ht] at hP1
    have hP : va_P (dC, dI) vwCl ((W_LS cI a S)) H := jNone hP hk1
    refine lv_if_eq (tgt := 22) hx hb dX4_child_4 (by decide) (fun c3 => ?_) (fun c3 => ?_)
    · have hF := F_pos c3 hF
      cases hF
      obtain ⟨sa, hsa⟩ := hN.2.1 _ (List.mem_of_getElem? (i := 2) rfl)
      exact vx_throwS (names := ["java/lang/RuntimeException", "java/lang/Exception"]) (cls := "java/lang/IndexOutOfBoundsException") hx hb hl0 hown (by decide +kernel) (by decide +kernel) (hts (Cond.classLink RX4 49 "java/lang/IndexOutOfBoundsException") (List.mem_of_getElem? (i := 1) rfl)) (hts (Cond.initialized "java/lang/IndexOutOfBoundsException") (List.mem_of_getElem? (i := 2) rfl)) hsa (vx_hat (B := [Cond.castable "java/lang/IndexOutOfBoundsException" "java/lang/IndexOutOfBoundsException", Cond.declares ⟨"java/lang/RuntimeException", "<init>", "(Ljava/lang/String;)V"⟩, Cond.declares ⟨"java/lang/Exception", "<init>", "(Ljava/lang/String;)V"⟩, Cond.declares ⟨"java/lang/Throwable", "<init>", "(Ljava/lang/String;)V"⟩]) (fun w hw => hts w (List.mem_cons_of_mem _ (List.mem_append_left _ (List.mem_append_right _ hw)))) (by decide +kernel) (vx_c (va_Nw.use rfl (hN.1 _ (List.mem_of_getElem? (i := 11) rfl))) (vx_c (va_Nw.use rfl (hN.1 _ (List.mem_of_getElem? (i := 14) rfl))) (vx_c (va_Nw.use rfl (hN.1 _ (List.mem_of_getElem? (i := 15) rfl))) (vx_c (va_Nw.use rfl (hN.1 _ (List.mem_of_getElem? (i := 16) rfl))) vx_n))))) (by decide +kernel) hU hSN hS (hl.1.trans hml.symm) dX4_child_22 dX4_child_25 dX4_child_26 dX4_child_28 dX4_child_31 (fun x hx => (hex x hx).elim) (Nat.le_of_ble_eq_true rfl) (Nat.le_of_ble_eq_true rfl) (Nat.le_of_ble_eq_true rfl) (Nat.le_of_ble_eq_true rfl) hlocks (fun t ha hz hk => ⟨(), trivial, ⟨rfl, jKeep hP hk, va_K.moved ha hK, hD⟩, jF hS hz hk⟩) hS.2.2 (Nat.le_of_ble_eq_true rfl) (Nat.le_of_ble_eq_true rfl)
    · have hF := F_neg c3 hF
      refine lv_aload_n hx hb dX4_child_7 rfl (lv_at hl 0 rfl) ?_
      refine va_get (D := (dC, dI)) (ci := 4) (v := .ref (a 5)) (C := RX4) (T := TX4) (N := 8) hx hb hts hinX4 hown hK hP 0 rfl rfl 3 (by decide) (hts (Cond.fieldLink RX4 23 "LearnedShapes" "now" "LLearnedShapes$State;") (List.mem_of_getElem? (i := 5) rfl)) (fun _ h9 => h9) rfl dX4_child_8 ?_
      refine lv_iload_n hx hb dX4_child_11 rfl (lv_at hl 1 rfl) ?_
      by_cases c4 : v1 = 0
      · have hF := F_pos c4 hF
        have hPc := hP.sub (ws' := (W_State cI (sh a 5) (g_LS_now S))) [5, 6, 7, 8, 9] rfl
        have hDc := hD.sub (ws' := (W_State cI (sh a 5) (g_LS_now S))) [5, 6, 7, 8, 9] (by decide) rfl
        have hFc := va_free (wc := (W_State cI (sh a 5) (g_LS_now S))) hD hS hA [5, 6, 7, 8, 9] rfl
        refine va_callr (va_runV (As := [.int v1]) (rest := []) ⟨hx, hb, hml, hown, hts⟩ (c_X2_tree_first l dC dI cI (sh a 5) H.size _ _ c4) (cwV 1 hts gX4_child_X2_tree rfl rfl rfl (by decide +kernel) ⟨Nat.le_of_ble_eq_true rfl, Nat.le_of_ble_eq_true rfl⟩) (jPreV hK hPc hDc hN (ci := 2) rfl rfl) rfl rfl hl.1 rfl (lv_room (Nat.le_of_ble_eq_true rfl)) dX4_child_12 ⟨Nat.le_of_ble_eq_true rfl, Nat.le_of_ble_eq_true rfl⟩) hS (fun q _ h => hFc q h) hFc (fun u q9 t H locs ht hvm hw hB hz1 hk1 hS => ?_)
        obtain ⟨e9, hP1, -, hD1⟩ := hB
        subst e9
        rw [ht] at hP1
        obtain ⟨hP, hD⟩ := jJoin (wc := (W_State cI (sh a 5) (g_LS_now S))) (w1 := (W_State cI (sh a 5) (g_LS_now S))) (ws' := (W_LS cI a S)) hP hD [5, 6, 7, 8, 9] [0, 1, 2, 3, 4, 10, 11, 12] [0, 1, 2, 3, 4, 8, 9, 10, 11, 12, 5, 6, 7] rfl rfl (by decide) (by decide) hk1 hFc hP1 hD1 (by decide) rfl
        refine lv_iload_n hx hb dX4_child_15 rfl (lv_at hl 2 rfl) ?_
        obtain ⟨r5, h6, hF⟩ := ob1_some hF
        have hPc := hP.sub (ws' := (W_Tree cI (sh a 6) (g_State_first (g_LS_now S)))) [6, 7] rfl
        have hDc := hD.sub (ws' := (W_Tree cI (sh a 6) (g_State_first (g_LS_now S)))) [6, 7] (by decide) rfl
        have hFc := va_free (wc := (W_Tree cI (sh a 6) (g_State_first (g_LS_now S)))) hD hS hA [6, 7] rfl
        refine va_calli (va_runV (As := [.int v2]) (rest := []) ⟨hx, hb, hml, hown, hts⟩ (c_X3_has l dC dI cI (sh a 6) H.size _ _ _ h6) (cwV 1 hts gX4_child_X3_has rfl rfl rfl (by decide +kernel) ⟨Nat.le_of_ble_eq_true rfl, Nat.le_of_ble_eq_true rfl⟩) (jPreV hK hPc hDc hN (ci := 3) rfl rfl) rfl rfl hl.1 rfl (lv_room (Nat.le_of_ble_eq_true rfl)) dX4_child_16 ⟨Nat.le_of_ble_eq_true rfl, Nat.le_of_ble_eq_true rfl⟩) hS (fun q _ h => hFc q h) hFc (fun r' u' t H locs ht hvm hw hB hz1 hk1 hS => ?_)
        subst hw
        obtain ⟨hP1, -, hD1⟩ := hB
        rw [ht] at hP1
        obtain ⟨hP, hD⟩ := jJoin (wc := (W_Tree cI (sh a 6) (g_State_first (g_LS_now S)))) (w1 := (W_Tree cI (sh a 6) (g_State_first (g_LS_now S)))) (ws' := (W_LS cI a S)) hP hD [6, 7] [0, 1, 2, 3, 4, 5, 8, 9, 10, 11, 12] [0, 1, 2, 3, 4, 5, 11, 12, 6, 7, 8, 9, 10] rfl rfl (by decide) (by decide) hk1 hFc hP1 hD1 (by decide) rfl
        refine lv_if_ne (tgt := 32) hx hb dX4_child_19 (by decide) (fun c7 => ?_) (fun c7 => ?_)
        · have hF := F_neg c7 hF
          refine lv_iload_n hx hb dX4_child_32 rfl (lv_at hl 3 rfl) ?_
          refine lv_if_lt (tgt := 42) hx hb dX4_child_33 (by decide) (fun c8 => ?_) (fun c8 => ?_)
          · have hF := F_pos c8 hF
            cases hF
            obtain ⟨sa, hsa⟩ := hN.2.1 _ (List.mem_of_getElem? (i := 3) rfl)
            exact vx_throwS (names := ["java/lang/RuntimeException", "java/lang/Exception"]) (cls := "java/lang/IllegalArgumentException") hx hb hl0 hown (by decide +kernel) (by decide +kernel) (hts (Cond.classLink RX4 64 "java/lang/IllegalArgumentException") (List.mem_of_getElem? (i := 3) rfl)) (hts (Cond.initialized "java/lang/IllegalArgumentException") (List.mem_of_getElem? (i := 4) rfl)) hsa (vx_hat (B := [Cond.castable "java/lang/IllegalArgumentException" "java/lang/IllegalArgumentException", Cond.declares ⟨"java/lang/RuntimeException", "<init>", "(Ljava/lang/String;)V"⟩, Cond.declares ⟨"java/lang/Exception", "<init>", "(Ljava/lang/String;)V"⟩, Cond.declares ⟨"java/lang/Throwable", "<init>", "(Ljava/lang/String;)V"⟩]) (fun w hw => hts w (List.mem_cons_of_mem _ (List.mem_append_right _ hw))) (by decide +kernel) (vx_c (va_Nw.use rfl (hN.1 _ (List.mem_of_getElem? (i := 12) rfl))) (vx_c (va_Nw.use rfl (hN.1 _ (List.mem_of_getElem? (i := 14) rfl))) (vx_c (va_Nw.use rfl (hN.1 _ (List.mem_of_getElem? (i := 15) rfl))) (vx_c (va_Nw.use rfl (hN.1 _ (List.mem_of_getElem? (i := 16) rfl))) vx_n))))) (by decide +kernel) hU hSN hS (hl.1.trans hml.symm) dX4_child_42 dX4_child_45 dX4_child_46 dX4_child_48 dX4_child_51 (fun x hx => (hex x hx).elim) (Nat.le_of_ble_eq_true rfl) (Nat.le_of_ble_eq_true rfl) (Nat.le_of_ble_eq_true rfl) (Nat.le_of_ble_eq_true rfl) hlocks (fun t ha hz hk => ⟨(), trivial, ⟨rfl, jKeep hP hk, va_K.moved ha hK, hD⟩, jF hS hz hk⟩) hS.2.2 (Nat.le_of_ble_eq_true rfl) (Nat.le_of_ble_eq_true rfl)
          · have hF := F_neg c8 hF
            refine lv_iload_n hx hb dX4_child_36 rfl (lv_at hl 3 rfl) ?_
            refine lv_bipush (v := (8 : Int32)) hx hb dX4_child_37 (by decide) ?_
            refine lv_icmp_le (tgt := 52) hx hb dX4_child_39 (by decide) (fun c9 => ?_) (fun c9 => ?_)
            · have hF := F_pos c9 hF
              refine lv_aload_n hx hb dX4_child_52 rfl (lv_at hl 0 rfl) ?_
              refine va_get (D := (dC, dI)) (ci := 4) (v := .ref (a 5)) (C := RX4) (T := TX4) (N := 8) hx hb hts hinX4 hown hK hP 0 rfl rfl 3 (by decide) (hts (Cond.fieldLink RX4 23 "LearnedShapes" "now" "LLearnedShapes$State;") (List.mem_of_getElem? (i := 5) rfl)) (fun _ h9 => h9) rfl dX4_child_53 ?_
              refine lv_iload_n hx hb dX4_child_56 rfl (lv_at hl 1 rfl) ?_
              have hPc := hP.sub (ws' := (W_State cI (sh a 5) (g_LS_now S))) [5, 6, 7, 8, 9] rfl
              have hDc := hD.sub (ws' := (W_State cI (sh a 5) (g_LS_now S))) [5, 6, 7, 8, 9] (by decide) rfl
              have hFc := va_free (wc := (W_State cI (sh a 5) (g_LS_now S))) hD hS hA [5, 6, 7, 8, 9] rfl
              refine va_callr (va_runV (As := [.int v1]) (rest := []) ⟨hx, hb, hml, hown, hts⟩ (c_X2_tree_first l dC dI cI (sh a 5) H.size _ _ c4) (cwV 1 hts gX4_child_X2_tree rfl rfl rfl (by decide +kernel) ⟨Nat.le_of_ble_eq_true rfl, Nat.le_of_ble_eq_true rfl⟩) (jPreV hK hPc hDc hN (ci := 2) rfl rfl) rfl rfl hl.1 rfl (lv_room (Nat.le_of_ble_eq_true rfl)) dX4_child_57 ⟨Nat.le_of_ble_eq_true rfl, Nat.le_of_ble_eq_true rfl⟩) hS (fun q _ h => hFc q h) hFc (fun u q9 t H locs ht hvm hw hB hz1 hk1 hS => ?_)
              obtain ⟨e9, hP1, -, hD1⟩ := hB
              subst e9
              rw [ht] at hP1
              obtain ⟨hP, hD⟩ := jJoin (wc := (W_State cI (sh a 5) (g_LS_now S))) (w1 := (W_State cI (sh a 5) (g_LS_now S))) (ws' := (W_LS cI a S)) hP hD [5, 6, 7, 8, 9] [0, 1, 2, 3, 4, 10, 11, 12] [0, 1, 2, 3, 4, 8, 9, 10, 11, 12, 5, 6, 7] rfl rfl (by decide) (by decide) hk1 hFc hP1 hD1 (by decide) rfl
              refine lv_iload_n hx hb dX4_child_60 rfl (lv_at hl 2 rfl) ?_
              refine lv_iload_n hx hb dX4_child_61 rfl (lv_at hl 3 rfl) ?_
              obtain ⟨r10, h11, hF⟩ := ob1_some hF
              have hPc := hP.sub (ws' := (W_Tree cI (sh a 6) (g_State_first (g_LS_now S)))) [6, 7] rfl
              have hDc := hD.sub (ws' := (W_Tree cI (sh a 6) (g_State_first (g_LS_now S)))) [6, 7] (by decide) rfl
              have hFc := va_free (wc := (W_Tree cI (sh a 6) (g_State_first (g_LS_now S)))) hD hS hA [6, 7] rfl
              refine va_calli (va_runV (As := [.int v2, .int v3]) (rest := []) ⟨hx, hb, hml, hown, hts⟩ (c_X3_findBelow l dC dI cI (sh a 6) H.size _ _ _ _ h11) (cwV 2 hts gX4_child_X3_findBelow rfl rfl rfl (by decide +kernel) ⟨Nat.le_of_ble_eq_true rfl, Nat.le_of_ble_eq_true rfl⟩) (jPreV hK hPc hDc hN (ci := 3) rfl rfl) rfl rfl hl.1 rfl (lv_room (Nat.le_of_ble_eq_true rfl)) dX4_child_62 ⟨Nat.le_of_ble_eq_true rfl, Nat.le_of_ble_eq_true rfl⟩) hS (fun q _ h => hFc q h) hFc (fun r' u' t H locs ht hvm hw hB hz1 hk1 hS => ?_)
              subst hw
              obtain ⟨hP1, -, hD1⟩ := hB
              rw [ht] at hP1
              obtain ⟨hP, hD⟩ := jJoin (wc := (W_Tree cI (sh a 6) (g_State_first (g_LS_now S)))) (w1 := (W_Tree cI (sh a 6) (g_State_first (g_LS_now S)))) (ws' := (W_LS cI a S)) hP hD [6, 7] [0, 1, 2, 3, 4, 5, 8, 9, 10, 11, 12] [0, 1, 2, 3, 4, 5, 11, 12, 6, 7, 8, 9, 10] rfl rfl (by decide) (by decide) hk1 hFc hP1 hD1 (by decide) rfl
              cases hF
              refine vx_ret ?_
              refine W.widen (k := 1) (n := 6) (Nat.zero_le _) (Nat.zero_le _) ?_
              exact W.iret (v := r10) hx hb hr (fun t ht hW => ⟨⟨r10, (), rfl, rfl, by rw [ht]; exact hP, va_K.moved hW.alike hK, hD⟩, hS.F ht⟩) hS.2.2 dX4_child_65
            · have hF := F_neg c9 hF
              cases hF
              obtain ⟨sa, hsa⟩ := hN.2.1 _ (List.mem_of_getElem? (i := 3) rfl)
              exact vx_throwS (names := ["java/lang/RuntimeException", "java/lang/Exception"]) (cls := "java/lang/IllegalArgumentException") hx hb hl0 hown (by decide +kernel) (by decide +kernel) (hts (Cond.classLink RX4 64 "java/lang/IllegalArgumentException") (List.mem_of_getElem? (i := 3) rfl)) (hts (Cond.initialized "java/lang/IllegalArgumentException") (List.mem_of_getElem? (i := 4) rfl)) hsa (vx_hat (B := [Cond.castable "java/lang/IllegalArgumentException" "java/lang/IllegalArgumentException", Cond.declares ⟨"java/lang/RuntimeException", "<init>", "(Ljava/lang/String;)V"⟩, Cond.declares ⟨"java/lang/Exception", "<init>", "(Ljava/lang/String;)V"⟩, Cond.declares ⟨"java/lang/Throwable", "<init>", "(Ljava/lang/String;)V"⟩]) (fun w hw => hts w (List.mem_cons_of_mem _ (List.mem_append_right _ hw))) (by decide +kernel) (vx_c (va_Nw.use rfl (hN.1 _ (List.mem_of_getElem? (i := 12) rfl))) (vx_c (va_Nw.use rfl (hN.1 _ (List.mem_of_getElem? (i := 14) rfl))) (vx_c (va_Nw.use rfl (hN.1 _ (List.mem_of_getElem? (i := 15) rfl))) (vx_c (va_Nw.use rfl (hN.1 _ (List.mem_of_getElem? (i := 16) rfl))) vx_n))))) (by decide +kernel) hU hSN hS (hl.1.trans hml.symm) dX4_child_42 dX4_child_45 dX4_child_46 dX4_child_48 dX4_child_51 (fun x hx => (hex x hx).elim) (Nat.le_of_ble_eq_true rfl) (Nat.le_of_ble_eq_true rfl) (Nat.le_of_ble_eq_true rfl) (Nat.le_of_ble_eq_true rfl) hlocks (fun t ha hz hk => ⟨(), trivial, ⟨rfl, jKeep hP hk, va_K.moved ha hK, hD⟩, jF hS hz hk⟩) hS.2.2 (Nat.le_of_ble_eq_true rfl) (Nat.le_of_ble_eq_true rfl)
        · have hF := F_pos c7 hF
          cases hF
          obtain ⟨sa, hsa⟩ := hN.2.1 _ (List.mem_of_getElem? (i := 2) rfl)
          exact vx_throwS (names := ["java/lang/RuntimeException", "java/lang/Exception"]) (cls := "java/lang/IndexOutOfBoundsException") hx hb hl0 hown (by decide +kernel) (by decide +kernel) (hts (Cond.classLink RX4 49 "java/lang/IndexOutOfBoundsException") (List.mem_of_getElem? (i := 1) rfl)) (hts (Cond.initialized "java/lang/IndexOutOfBoundsException") (List.mem_of_getElem? (i := 2) rfl)) hsa (vx_hat (B := [Cond.castable "java/lang/IndexOutOfBoundsException" "java/lang/IndexOutOfBoundsException", Cond.declares ⟨"java/lang/RuntimeException", "<init>", "(Ljava/lang/String;)V"⟩, Cond.declares ⟨"java/lang/Exception", "<init>", "(Ljava/lang/String;)V"⟩, Cond.declares ⟨"java/lang/Throwable", "<init>", "(Ljava/lang/String;)V"⟩]) (fun w hw => hts w (List.mem_cons_of_mem _ (List.mem_append_left _ (List.mem_append_right _ hw)))) (by decide +kernel) (vx_c (va_Nw.use rfl (hN.1 _ (List.mem_of_getElem? (i := 11) rfl))) (vx_c (va_Nw.use rfl (hN.1 _ (List.mem_of_getElem? (i := 14) rfl))) (vx_c (va_Nw.use rfl (hN.1 _ (List.mem_of_getElem? (i := 15) rfl))) (vx_c (va_Nw.use rfl (hN.1 _ (List.mem_of_getElem? (i := 16) rfl))) vx_n))))) (by decide +kernel) hU hSN hS (hl.1.trans hml.symm) dX4_child_22 dX4_child_25 dX4_child_26 dX4_child_28 dX4_child_31 (fun x hx => (hex x hx).elim) (Nat.le_of_ble_eq_true rfl) (Nat.le_of_ble_eq_true rfl) (Nat.le_of_ble_eq_true rfl) (Nat.le_of_ble_eq_true rfl) hlocks (fun t ha hz hk => ⟨(), trivial, ⟨rfl, jKeep hP hk, va_K.moved ha hK, hD⟩, jF hS hz hk⟩) hS.2.2 (Nat.le_of_ble_eq_true rfl) (Nat.le_of_ble_eq_true rfl)
      · have hF := F_neg c4 hF
        have hPc := hP.sub (ws' := (W_State cI (sh a 5) (g_LS_now S))) [5, 6, 7, 8, 9] rfl
        have hDc := hD.sub (ws' := (W_State cI (sh a 5) (g_LS_now S))) [5, 6, 7, 8, 9] (by decide) rfl
        have hFc := va_free (wc := (W_State cI (sh a 5) (g_LS_now S))) hD hS hA [5, 6, 7, 8, 9] rfl
        refine va_callr (va_runV (As := [.int v1]) (rest := []) ⟨hx, hb, hml, hown, hts⟩ (c_X2_tree_second l dC dI cI (sh a 5) H.size _ _ c4) (cwV 1 hts gX4_child_X2_tree rfl rfl rfl (by decide +kernel) ⟨Nat.le_of_ble_eq_true rfl, Nat.le_of_ble_eq_true rfl⟩) (jPreV hK hPc hDc hN (ci := 2) rfl rfl) rfl rfl hl.1 rfl (lv_room (Nat.le_of_ble_eq_true rfl)) dX4_child_12 ⟨Nat.le_of_ble_eq_true rfl, Nat.le_of_ble_eq_true rfl⟩) hS (fun q _ h => hFc q h) hFc (fun u q9 t H locs ht hvm hw hB hz1 hk1 hS => ?_)
        obtain ⟨e9, hP1, -, hD1⟩ := hB
        subst e9
        rw [ht] at hP1
        obtain ⟨hP, hD⟩ := jJoin (wc := (W_State cI (sh a 5) (g_LS_now S))) (w1 := (W_State cI (sh a 5) (g_LS_now S))) (ws' := (W_LS cI a S)) hP hD [5, 6, 7, 8, 9] [0, 1, 2, 3, 4, 10, 11, 12] [0, 1, 2, 3, 4, 8, 9, 10, 11, 12, 5, 6, 7] rfl rfl (by decide) (by decide) hk1 hFc hP1 hD1 (by decide) rfl
        refine lv_iload_n hx hb dX4_child_15 rfl (lv_at hl 2 rfl) ?_
        obtain ⟨r12, h13, hF⟩ := ob1_some hF
        have hPc := hP.sub (ws' := (W_Tree cI (sh a 8) (g_State_second (g_LS_now S)))) [8, 9] rfl
        have hDc := hD.sub (ws' := (W_Tree cI (sh a 8) (g_State_second (g_LS_now S)))) [8, 9] (by decide) rfl
        have hFc := va_free (wc := (W_Tree cI (sh a 8) (g_State_second (g_LS_now S)))) hD hS hA [8, 9] rfl
        refine va_calli (va_runV (As := [.int v2]) (rest := []) ⟨hx, hb, hml, hown, hts⟩ (c_X3_has l dC dI cI (sh a 8) H.size _ _ _ h13) (cwV 1 hts gX4_child_X3_has rfl rfl rfl (by decide +kernel) ⟨Nat.le_of_ble_eq_true rfl, Nat.le_of_ble_eq_true rfl⟩) (jPreV hK hPc hDc hN (ci := 3) rfl rfl) rfl rfl hl.1 rfl (lv_room (Nat.le_of_ble_eq_true rfl)) dX4_child_16 ⟨Nat.le_of_ble_eq_true rfl, Nat.le_of_ble_eq_true rfl⟩) hS (fun q _ h => hFc q h) hFc (fun r' u' t H locs ht hvm hw hB hz1 hk1 hS => ?_)
        subst hw
        obtain ⟨hP1, -, hD1⟩ := hB
        rw [ht] at hP1
        obtain ⟨hP, hD⟩ := jJoin (wc := (W_Tree cI (sh a 8) (g_State_second (g_LS_now S)))) (w1 := (W_Tree cI (sh a 8) (g_State_second (g_LS_now S)))) (ws' := (W_LS cI a S)) hP hD [8, 9] [0, 1, 2, 3, 4, 5, 6, 7, 10, 11, 12] [0, 1, 2, 3, 4, 5, 6, 7, 11, 12, 8, 9, 10] rfl rfl (by decide) (by decide) hk1 hFc hP1 hD1 (by decide) rfl
        refine lv_if_ne (tgt := 32) hx hb dX4_child_19 (by decide) (fun c14 => ?_) (fun c14 => ?_)
        · have hF := F_neg c14 hF
          refine lv_iload_n hx hb dX4_child_32 rfl (lv_at hl 3 rfl) ?_
          refine lv_if_lt (tgt := 42) hx hb dX4_child_33 (by decide) (fun c15 => ?_) (fun c15 => ?_)
          · have hF := F_pos c15 hF
            cases hF
            obtain ⟨sa, hsa⟩ := hN.2.1 _ (List.mem_of_getElem? (i := 3) rfl)
            exact vx_throwS (names := ["java/lang/RuntimeException", "java/lang/Exception"]) (cls := "java/lang/IllegalArgumentException") hx hb hl0 hown (by decide +kernel) (by decide +kernel) (hts (Cond.classLink RX4 64 "java/lang/IllegalArgumentException") (List.mem_of_getElem? (i := 3) rfl)) (hts (Cond.initialized "java/lang/IllegalArgumentException") (List.mem_of_getElem? (i := 4) rfl)) hsa (vx_hat (B := [Cond.castable "java/lang/IllegalArgumentException" "java/lang/IllegalArgumentException", Cond.declares ⟨"java/lang/RuntimeException", "<init>", "(Ljava/lang/String;)V"⟩, Cond.declares ⟨"java/lang/Exception", "<init>", "(Ljava/lang/String;)V"⟩, Cond.declares ⟨"java/lang/Throwable", "<init>", "(Ljava/lang/String;)V"⟩]) (fun w hw => hts w (List.mem_cons_of_mem _ (List.mem_append_right _ hw))) (by decide +kernel) (vx_c (va_Nw.use rfl (hN.1 _ (List.mem_of_getElem? (i := 12) rfl))) (vx_c (va_Nw.use rfl (hN.1 _ (List.mem_of_getElem? (i := 14) rfl))) (vx_c (va_Nw.use rfl (hN.1 _ (List.mem_of_getElem? (i := 15) rfl))) (vx_c (va_Nw.use rfl (hN.1 _ (List.mem_of_getElem? (i := 16) rfl))) vx_n))))) (by decide +kernel) hU hSN hS (hl.1.trans hml.symm) dX4_child_42 dX4_child_45 dX4_child_46 dX4_child_48 dX4_child_51 (fun x hx => (hex x hx).elim) (Nat.le_of_ble_eq_true rfl) (Nat.le_of_ble_eq_true rfl) (Nat.le_of_ble_eq_true rfl) (Nat.le_of_ble_eq_true rfl) hlocks (fun t ha hz hk => ⟨(), trivial, ⟨rfl, jKeep hP hk, va_K.moved ha hK, hD⟩, jF hS hz hk⟩) hS.2.2 (Nat.le_of_ble_eq_true rfl) (Nat.le_of_ble_eq_true rfl)
          · have hF := F_neg c15 hF
            refine lv_iload_n hx hb dX4_child_36 rfl (lv_at hl 3 rfl) ?_
            refine lv_bipush (v := (8 : Int32)) hx hb dX4_child_37 (by decide) ?_
            refine lv_icmp_le (tgt := 52) hx hb dX4_child_39 (by decide) (fun c16 => ?_) (fun c16 => ?_)
            · have hF := F_pos c16 hF
              refine lv_aload_n hx hb dX4_child_52 rfl (lv_at hl 0 rfl) ?_
              refine va_get (D := (dC, dI)) (ci := 4) (v := .ref (a 5)) (C := RX4) (T := TX4) (N := 8) hx hb hts hinX4 hown hK hP 0 rfl rfl 3 (by decide) (hts (Cond.fieldLink RX4 23 "LearnedShapes" "now" "LLearnedShapes$State;") (List.mem_of_getElem? (i := 5) rfl)) (fun _ h9 => h9) rfl dX4_child_53 ?_
              refine lv_iload_n hx hb dX4_child_56 rfl (lv_at hl 1 rfl) ?_
              have hPc := hP.sub (ws' := (W_State cI (sh a 5) (g_LS_now S))) [5, 6, 7, 8, 9] rfl
              have hDc := hD.sub (ws' := (W_State cI (sh a 5) (g_LS_now S))) [5, 6, 7, 8, 9] (by decide) rfl
              have hFc := va_free (wc := (W_State cI (sh a 5) (g_LS_now S))) hD hS hA [5, 6, 7, 8, 9] rfl
              refine va_callr (va_runV (As := [.int v1]) (rest := []) ⟨hx, hb, hml, hown, hts⟩ (c_X2_tree_second l dC dI cI (sh a 5) H.size _ _ c4) (cwV 1 hts gX4_child_X2_tree rfl rfl rfl (by decide +kernel) ⟨Nat.le_of_ble_eq_true rfl, Nat.le_of_ble_eq_true rfl⟩) (jPreV hK hPc hDc hN (ci := 2) rfl rfl) rfl rfl hl.1 rfl (lv_room (Nat.le_of_ble_eq_true rfl)) dX4_child_57 ⟨Nat.le_of_ble_eq_true rfl, Nat.le_of_ble_eq_true rfl⟩) hS (fun q _ h => hFc q h) hFc (fun u q9 t H locs ht hvm hw hB hz1 hk1 hS => ?_)
              obtain ⟨e9, hP1, -, hD1⟩ := hB
              subst e9
              rw [ht] at hP1
              obtain ⟨hP, hD⟩ := jJoin (wc := (W_State cI (sh a 5) (g_LS_now S))) (w1 := (W_State cI (sh a 5) (g_LS_now S))) (ws' := (W_LS cI a S)) hP hD [5, 6, 7, 8, 9] [0, 1, 2, 3, 4, 10, 11, 12] [0, 1, 2, 3, 4, 8, 9, 10, 11, 12, 5, 6, 7] rfl rfl (by decide) (by decide) hk1 hFc hP1 hD1 (by decide) rfl
              refine lv_iload_n hx hb dX4_child_60 rfl (lv_at hl 2 rfl) ?_
              refine lv_iload_n hx hb dX4_child_61 rfl (lv_at hl 3 rfl) ?_
              obtain ⟨r17, h18, hF⟩ := ob1_some hF
              have hPc := hP.sub (ws' := (W_Tree cI (sh a 8) (g_State_second (g_LS_now S)))) [8, 9] rfl
              have hDc := hD.sub (ws' := (W_Tree cI (sh a 8) (g_State_second (g_LS_now S)))) [8, 9] (by decide) rfl
              have hFc := va_free (wc := (W_Tree cI (sh a 8) (g_State_second (g_LS_now S)))) hD hS hA [8, 9] rfl
              refine va_calli (va_runV (As := [.int v2, .int v3]) (rest := []) ⟨hx, hb, hml, hown, hts⟩ (c_X3_findBelow l dC dI cI (sh a 8) H.size _ _ _ _ h18) (cwV 2 hts gX4_child_X3_findBelow rfl rfl rfl (by decide +kernel) ⟨Nat.le_of_ble_eq_true rfl, Nat.le_of_ble_eq_true rfl⟩) (jPreV hK hPc hDc hN (ci := 3) rfl rfl) rfl rfl hl.1 rfl (lv_room (Nat.le_of_ble_eq_true rfl)) dX4_child_62 ⟨Nat.le_of_ble_eq_true rfl, Nat.le_of_ble_eq_true rfl⟩) hS (fun q _ h => hFc q h) hFc (fun r' u' t H locs ht hvm hw hB hz1 hk1 hS => ?_)
              subst hw
              obtain ⟨hP1, -, hD1⟩ := hB
              rw [ht] at hP1
              obtain ⟨hP, hD⟩ := jJoin (wc := (W_Tree cI (sh a 8) (g_State_second (g_LS_now S)))) (w1 := (W_Tree cI (sh a 8) (g_State_second (g_LS_now S)))) (ws' := (W_LS cI a S)) hP hD [8, 9] [0, 1, 2, 3, 4, 5, 6, 7, 10, 11, 12] [0, 1, 2, 3, 4, 5, 6, 7, 11, 12, 8, 9, 10] rfl rfl (by decide) (by decide) hk1 hFc hP1 hD1 (by decide) rfl
              cases hF
              refine vx_ret ?_
              refine W.widen (k := 1) (n := 6) (Nat.zero_le _) (Nat.zero_le _) ?_
              exact W.iret (v := r17) hx hb hr (fun t ht hW => ⟨⟨r17, (), rfl, rfl, by rw [ht]; exact hP, va_K.moved hW.alike hK, hD⟩, hS.F ht⟩) hS.2.2 dX4_child_65
            · have hF := F_neg c16 hF
              cases hF
              obtain ⟨sa, hsa⟩ := hN.2.1 _ (List.mem_of_getElem? (i := 3) rfl)
              exact vx_throwS (names := ["java/lang/RuntimeException", "java/lang/Exception"]) (cls := "java/lang/IllegalArgumentException") hx hb hl0 hown (by decide +kernel) (by decide +kernel) (hts (Cond.classLink RX4 64 "java/lang/IllegalArgumentException") (List.mem_of_getElem? (i := 3) rfl)) (hts (Cond.initialized "java/lang/IllegalArgumentException") (List.mem_of_getElem? (i := 4) rfl)) hsa (vx_hat (B := [Cond.castable "java/lang/IllegalArgumentException" "java/lang/IllegalArgumentException", Cond.declares ⟨"java/lang/RuntimeException", "<init>", "(Ljava/lang/String;)V"⟩, Cond.declares ⟨"java/lang/Exception", "<init>", "(Ljava/lang/String;)V"⟩, Cond.declares ⟨"java/lang/Throwable", "<init>", "(Ljava/lang/String;)V"⟩]) (fun w hw => hts w (List.mem_cons_of_mem _ (List.mem_append_right _ hw))) (by decide +kernel) (vx_c (va_Nw.use rfl (hN.1 _ (List.mem_of_getElem? (i := 12) rfl))) (vx_c (va_Nw.use rfl (hN.1 _ (List.mem_of_getElem? (i := 14) rfl))) (vx_c (va_Nw.use rfl (hN.1 _ (List.mem_of_getElem? (i := 15) rfl))) (vx_c (va_Nw.use rfl (hN.1 _ (List.mem_of_getElem? (i := 16) rfl))) vx_n))))) (by decide +kernel) hU hSN hS (hl.1.trans hml.symm) dX4_child_42 dX4_child_45 dX4_child_46 dX4_child_48 dX4_child_51 (fun x hx => (hex x hx).elim) (Nat.le_of_ble_eq_true rfl) (Nat.le_of_ble_eq_true rfl) (Nat.le_of_ble_eq_true rfl) (Nat.le_of_ble_eq_true rfl) hlocks (fun t ha hz hk => ⟨(), trivial, ⟨rfl, jKeep hP hk, va_K.moved ha hK, hD⟩, jF hS hz hk⟩) hS.2.2 (Nat.le_of_ble_eq_true rfl) (Nat.le_of_ble_eq_true rfl)
        · have hF := F_pos c14 hF
          cases hF
          obtain ⟨sa, hsa⟩ := hN.2.1 _ (List.mem_of_getElem? (i := 2) rfl)
          exact vx_throwS (names := ["java/lang/RuntimeException", "java/lang/Exception"]) (cls := "java/lang/IndexOutOfBoundsException") hx hb hl0 hown (by decide +kernel) (by decide +kernel) (hts (Cond.classLink RX4 49 "java/lang/IndexOutOfBoundsException") (List.mem_of_getElem? (i := 1) rfl)) (hts (Cond.initialized "java/lang/IndexOutOfBoundsException") (List.mem_of_getElem? (i := 2) rfl)) hsa (vx_hat (B := [Cond.castable "java/lang/IndexOutOfBoundsException" "java/lang/IndexOutOfBoundsException", Cond.declares ⟨"java/lang/RuntimeException", "<init>", "(Ljava/lang/String;)V"⟩, Cond.declares ⟨"java/lang/Exception", "<init>", "(Ljava/lang/String;)V"⟩, Cond.declares ⟨"java/lang/Throwable", "<init>", "(Ljava/lang/String;)V"⟩]) (fun w hw => hts w (List.mem_cons_of_mem _ (List.mem_append_left _ (List.mem_append_right _ hw)))) (by decide +kernel) (vx_c (va_Nw.use rfl (hN.1 _ (List.mem_of_getElem? (i := 11) rfl))) (vx_c (va_Nw.use rfl (hN.1 _ (List.mem_of_getElem? (i := 14) rfl))) (vx_c (va_Nw.use rfl (hN.1 _ (List.mem_of_getElem? (i := 15) rfl))) (vx_c (va_Nw.use rfl (hN.1 _ (List.mem_of_getElem? (i := 16) rfl))) vx_n))))) (by decide +kernel) hU hSN hS (hl.1.trans hml.symm) dX4_child_22 dX4_child_25 dX4_child_26 dX4_child_28 dX4_child_31 (fun x hx => (hex x hx).elim) (Nat.le_of_ble_eq_true rfl) (Nat.le_of_ble_eq_true rfl) (Nat.le_of_ble_eq_true rfl) (Nat.le_of_ble_eq_true rfl) hlocks (fun t ha hz hk => ⟨(), trivial, ⟨rfl, jKeep hP hk, va_K.moved ha hK, hD⟩, jF hS hz hk⟩) hS.2.2 (Nat.le_of_ble_eq_true rfl) (Nat.le_of_ble_eq_true rfl)
  exact KE _ _ hP hD hS
set_option maxHeartbeats 4000000 in
set_option maxRecDepth 100000 in
theorem c_X4_shape (l : Launch) (dC : Nat → ClassId) (dI : Nat → Nat → Nat) (cI : ClassId) (hl0 : l.stackTraces = false) (a : Nat → Nat) (sz : Nat) (S : S_LS) (v1 : Int32) (v2 : Int32) (res : Sum (String × (Unit)) (Int32)) (hF : F_X4_shape S v1 v2 = some res) : vx_Met l yX4_shape wsX4_shape ({ frames := 6, cells := 1, slots := 6, locals := 90 } : Room) (va_Pc [.ref (a 0), .int v1, .int v2] (jPreX (dC, dI) [(cI, .int)] sz ((W_LS cI a S)))) (va_Qi (fun (r' : Int32) (u : Unit) => res = .inr r') (fun _ : Unit => jB (dC, dI) [(cI, .int)] (va_A ((W_LS cI a S)) sz) ((W_LS cI a S))) (va_A ((W_LS cI a S)) sz)) (vx_X (fun _ : Unit => True) (fun (E : String) (u : Unit) (t : State) => res = .inl (E, u) ∧ jB (dC, dI) [(cI, .int)] (va_A ((W_LS cI a S)) sz) ((W_LS cI a S)) t) (va_A ((W_LS cI a S)) sz)) 1 6 (va_A ((W_LS cI a S)) sz) := by
  refine vx_ofW (cc := cX4_shape) (maxL := 3) (ret := (some .int)) (by decide) rfl ?_
  intro p e s m args below meth c s₁ B hml hex hv
  obtain ⟨rfl, ⟨hsz, hP, hK, hD0, hN⟩, hU, hSN⟩ := hv
  have hx := B.exec
  have hb := B.bytes
  have hr := B.returns
  have hts := atoms_spec (ws := wsX4_shape) B.pre
  have hown : s.vm.findClass RX4 = some m.cls := findClass_of_methodNamed B.named
  have hlocks := B.notSynchronized
  have hinX4 : ∀ w ∈ u_ws RX4 TX4 8, w ∈ wsX4_shape := by decide +kernel
  subst hsz
  have hD := hD0.self (sz := s.heap.size)
  generalize hAe : (va_A ((W_LS cI a S)) s.heap.size) = A at hD hU hSN ⊢
  have hA : ∀ q : Nat, s.heap.size ≤ q → A q := fun q h => by rw [← hAe]; exact Or.inr h
  have hS : va_S A s.heap s.heap [] := va_S.rf
  have hl := lv_entry ([.ref (a 0), .int v1, .int v2]) (n := 3) (Nat.le_of_ble_eq_true rfl)
  rw [lg_entry_eq]
  generalize (lg_sl ([.ref (a 0), .int v1, .int v2]) ++ List.replicate (3 - (lg_sl ([.ref (a 0), .int v1, .int v2])).length) Slot.unset).toArray = ls at hl ⊢
  have hl : lv_has ls 3 [(0, .ref (a 0)), (1, .int v1), (2, .int v2)] := hl
  have KE : ∀ (H : Heap) (locs : List Loc), va_P (dC, dI) vwCl ((W_LS cI a S)) H → va_D A ((W_LS cI a S)) → va_S A s.heap H locs → W p l e (headSpec wsX4_shape ({ frames := 6, cells := 1, slots := 6, locals := 90 } : Room)).room s m ([.ref (a 0), .int v1, .int v2] : List Value).toArray below meth c H locs 0 0 (vx_MQ below (va_Qi (fun (r' : Int32) (u : Unit) => res = .inr r') (fun _ : Unit => jB (dC, dI) [(cI, .int)] A ((W_LS cI a S))) A) (vx_X (fun _ : Unit => True) (fun (E : String) (u : Unit) (t : State) => res = .inl (E, u) ∧ jB (dC, dI) [(cI, .int)] A ((W_LS cI a S)) t) A) ([.ref (a 0), .int v1, .int v2] : List Value).toArray s 1 6 A) (F0 m 0 ls []) := by
    intro H locs hP hD hS
    unfold F_X4_shape at hF
    refine lv_iload_n hx hb dX4_shape_0 rfl (lv_at hl 1 rfl) ?_
    obtain ⟨r1, h2, hF⟩ := ob1_some hF
    have hPc : va_P (dC, dI) vwCl ([] : va_W) H := fun k q h => by simp at h
    have hDc : va_D A ([] : va_W) := ⟨fun i j p q h => by simp at h, fun k q h => by simp at h⟩
    have hFc := jFreeW (ws := []) hDc hS hA
    refine va_calli (va_runS (As := [.int v1]) (rest := []) ⟨hx, hb, hml, hown, hts⟩ (c_X4_isShape l dC dI cI  H.size _ _ h2) (va_cwS 1 hts gX4_shape_X4_isShape rfl rfl rfl (by decide +kernel) ⟨Nat.le_of_ble_eq_true rfl, Nat.le_of_ble_eq_true rfl⟩) (jPreS hK hPc hDc hN) rfl rfl hl.1 rfl (lv_room (Nat.le_of_ble_eq_true rfl)) dX4_shape_1 ⟨Nat.le_of_ble_eq_true rfl, Nat.le_of_ble_eq_true rfl⟩) hS (fun q _ h => hFc q h) hFc (fun r' u' t H locs ht hvm hw hB hz1 hk1 hS => ?_)
    subst hw
    obtain ⟨hP1, -, hD1⟩ := hB
    rw [ht] at hP1
    have hP : va_P (dC, dI) vwCl ((W_LS cI a S)) H := jNone hP hk1
    refine lv_if_ne (tgt := 17) hx hb dX4_shape_4 (by decide) (fun c3 => ?_) (fun c3 => ?_)
    · have hF := F_neg c3 hF
      refine lv_iload_n hx hb dX4_shape_17 rfl (lv_at hl 2 rfl) ?_
      refine lv_if_lt (tgt := 26) hx hb dX4_shape_18 (by decide) (fun c4 => ?_) (fun c4 => ?_)
      · have hF := F_pos c4 hF
        cases hF
        obtain ⟨sa, hsa⟩ := hN.2.1 _ (List.mem_of_getElem? (i := 13) rfl)
        exact vx_throwS (names := ["java/lang/RuntimeException", "java/lang/Exception"]) (cls := "java/lang/IllegalArgumentException") hx hb hl0 hown (by decide +kernel) (by decide +kernel) (hts (Cond.classLink RX4 64 "java/lang/IllegalArgumentException") (List.mem_of_getElem? (i := 3) rfl)) (hts (Cond.initialized "java/lang/IllegalArgumentException") (List.mem_of_getElem? (i := 4) rfl)) hsa (vx_hat (B := [Cond.castable "java/lang/IllegalArgumentException" "java/lang/IllegalArgumentException", Cond.declares ⟨"java/lang/RuntimeException", "<init>", "(Ljava/lang/String;)V"⟩, Cond.declares ⟨"java/lang/Exception", "<init>", "(Ljava/lang/String;)V"⟩, Cond.declares ⟨"java/lang/Throwable", "<init>", "(Ljava/lang/String;)V"⟩]) (fun w hw => hts w (List.mem_cons_of_mem _ (List.mem_append_right _ hw))) (by decide +kernel) (vx_c (va_Nw.use rfl (hN.1 _ (List.mem_of_getElem? (i := 12) rfl))) (vx_c (va_Nw.use rfl (hN.1 _ (List.mem_of_getElem? (i := 14) rfl))) (vx_c (va_Nw.use rfl (hN.1 _ (List.mem_of_getElem? (i := 15) rfl))) (vx_c (va_Nw.use rfl (hN.1 _ (List.mem_of_getElem? (i := 16) rfl))) vx_n))))) (by decide +kernel) hU hSN hS (hl.1.trans hml.symm) dX4_shape_26 dX4_shape_29 dX4_shape_30 dX4_shape_32 dX4_shape_35 (fun x hx => (hex x hx).elim) (Nat.le_of_ble_eq_true rfl) (Nat.le_of_ble_eq_true rfl) (Nat.le_of_ble_eq_true rfl) (Nat.le_of_ble_eq_true rfl) hlocks (fun t ha hz hk => ⟨(), trivial, ⟨rfl, jKeep hP hk, va_K.moved ha hK, hD⟩, jF hS hz hk⟩) hS.2.2 (Nat.le_of_ble_eq_true rfl) (Nat.le_of_ble_eq_true rfl)
      · have hF := F_neg c4 hF
        refine lv_iload_n hx hb dX4_shape_21 rfl (lv_at hl 2 rfl) ?_
        refine lv_iconst (v := (5 : Int32)) hx hb dX4_shape_22 (by decide) ?_
        refine lv_icmp_le (tgt := 36) hx hb dX4_shape_23 (by decide) (fun c5 => ?_) (fun c5 => ?_)
        · have hF := F_pos c5 hF
          refine lv_aload_n hx hb dX4_shape_36 rfl (lv_at hl 0 rfl) ?_
          refine va_get (D := (dC, dI)) (ci := 4) (v := .ref (a 5)) (C := RX4) (T := TX4) (N := 8) hx hb hts hinX4 hown hK hP 0 rfl rfl 3 (by decide) (hts (Cond.fieldLink RX4 23 "LearnedShapes" "now" "LLearnedShapes$State;") (List.mem_of_getElem? (i := 5) rfl)) (fun _ h9 => h9) rfl dX4_shape_37 ?_
          refine lv_iload_n hx hb dX4_shape_40 rfl (lv_at hl 1 rfl) ?_
          by_cases c6 : v1 = 0
          · have hF := F_pos c6 hF
            have hPc := hP.sub (ws' := (W_State cI (sh a 5) (g_LS_now S))) [5, 6, 7, 8, 9] rfl
            have hDc := hD.sub (ws' := (W_State cI (sh a 5) (g_LS_now S))) [5, 6, 7, 8, 9] (by decide) rfl
            have hFc := va_free (wc := (W_State cI (sh a 5) (g_LS_now S))) hD hS hA [5, 6, 7, 8, 9] rfl
            refine va_callr (va_runV (As := [.int v1]) (rest := []) ⟨hx, hb, hml, hown, hts⟩ (c_X2_tree_first l dC dI cI (sh a 5) H.size _ _ c6) (cwV 1 hts gX4_shape_X2_tree rfl rfl rfl (by decide +kernel) ⟨Nat.le_of_ble_eq_true rfl, Nat.le_of_ble_eq_true rfl⟩) (jPreV hK hPc hDc hN (ci := 2) rfl rfl) rfl rfl hl.1 rfl (lv_room (Nat.le_of_ble_eq_true rfl)) dX4_shape_41 ⟨Nat.le_of_ble_eq_true rfl, Nat.le_of_ble_eq_true rfl⟩) hS (fun q _ h => hFc q h) hFc (fun u q9 t H locs ht hvm hw hB hz1 hk1 hS => ?_)
            obtain ⟨e9, hP1, -, hD1⟩ := hB
            subst e9
            rw [ht] at hP1
            obtain ⟨hP, hD⟩ := jJoin (wc := (W_State cI (sh a 5) (g_LS_now S))) (w1 := (W_State cI (sh a 5) (g_LS_now S))) (ws' := (W_LS cI a S)) hP hD [5, 6, 7, 8, 9] [0, 1, 2, 3, 4, 10, 11, 12] [0, 1, 2, 3, 4, 8, 9, 10, 11, 12, 5, 6, 7] rfl rfl (by decide) (by decide) hk1 hFc hP1 hD1 (by decide) rfl
            refine lv_iload_n hx hb dX4_shape_44 rfl (lv_at hl 2 rfl) ?_
            obtain ⟨r7, h8, hF⟩ := ob1_some hF
            have hPc := hP.sub (ws' := (W_Tree cI (sh a 6) (g_State_first (g_LS_now S)))) [6, 7] rfl
            have hDc := hD.sub (ws' := (W_Tree cI (sh a 6) (g_State_first (g_LS_now S)))) [6, 7] (by decide) rfl
            have hFc := va_free (wc := (W_Tree cI (sh a 6) (g_State_first (g_LS_now S)))) hD hS hA [6, 7] rfl
            refine va_calli (va_runS (As := [.ref (a 6), .int v2]) (rest := []) ⟨hx, hb, hml, hown, hts⟩ (c_X4_shapeNumber l dC dI cI (sh a 6) H.size _ _ _ h8) (va_cwS 2 hts gX4_shape_X4_shapeNumber rfl rfl rfl (by decide +kernel) ⟨Nat.le_of_ble_eq_true rfl, Nat.le_of_ble_eq_true rfl⟩) (jPreS hK hPc hDc hN) rfl rfl hl.1 rfl (lv_room (Nat.le_of_ble_eq_true rfl)) dX4_shape_45 ⟨Nat.le_of_ble_eq_true rfl, Nat.le_of_ble_eq_true rfl⟩) hS (fun q _ h => hFc q h) hFc (fun r' u' t H locs ht hvm hw hB hz1 hk1 hS => ?_)
            subst hw
            obtain ⟨hP1, -, hD1⟩ := hB
            rw [ht] at hP1
            obtain ⟨hP, hD⟩ := jJoin (wc := (W_Tree cI (sh a 6) (g_State_first (g_LS_now S)))) (w1 := (W_Tree cI (sh a 6) (g_State_first (g_LS_now S)))) (ws' := (W_LS cI a S)) hP hD [6, 7] [0, 1, 2, 3, 4, 5, 8, 9, 10, 11, 12] [0, 1, 2, 3, 4, 5, 11, 12, 6, 7, 8, 9, 10] rfl rfl (by decide) (by decide) hk1 hFc hP1 hD1 (by decide) rfl
            cases hF
            refine vx_ret ?_
            refine W.widen (k := 1) (n := 6) (Nat.zero_le _) (Nat.zero_le _) ?_
            exact W.iret (v := r7) hx hb hr (fun t ht hW => ⟨⟨r7, (), rfl, rfl, by rw [ht]; exact hP, va_K.moved hW.alike hK, hD⟩, hS.F ht⟩) hS.2.2 dX4_shape_48
          · have hF := F_neg c6 hF
            have hPc := hP.sub (ws' := (W_State cI (sh a 5) (g_LS_now S))) [5, 6, 7, 8, 9] rfl
            have hDc := hD.sub (ws' := (W_State cI (sh a 5) (g_LS_now S))) [5, 6, 7, 8, 9] (by decide) rfl
            have hFc := va_free (wc := (W_State cI (sh a 5) (g_LS_now S))) hD hS hA [5, 6, 7, 8, 9] rfl
            refine va_callr (va_runV (As := [.int v1]) (rest := []) ⟨hx, hb, hml, hown, hts⟩ (c_X2_tree_second l dC dI cI (sh a 5) H.size _ _ c6) (cwV 1 hts gX4_shape_X2_tree rfl rfl rfl (by decide +kernel) ⟨Nat.le_of_ble_eq_true rfl, Nat.le_of_ble_eq_true rfl⟩) (jPreV hK hPc hDc hN (ci := 2) rfl rfl) rfl rfl hl.1 rfl (lv_room (Nat.le_of_ble_eq_true rfl)) dX4_shape_41 ⟨Nat.le_of_ble_eq_true rfl, Nat.le_of_ble_eq_true rfl⟩) hS (fun q _ h => hFc q h) hFc (fun u q9 t H locs ht hvm hw hB hz1 hk1 hS => ?_)
            obtain ⟨e9, hP1, -, hD1⟩ := hB
            subst e9
            rw [ht] at hP1
            obtain ⟨hP, hD⟩ := jJoin (wc := (W_State cI (sh a 5) (g_LS_now S))) (w1 := (W_State cI (sh a 5) (g_LS_now S))) (ws' := (W_LS cI a S)) hP hD [5, 6, 7, 8, 9] [0, 1, 2, 3, 4, 10, 11, 12] [0, 1, 2, 3, 4, 8, 9, 10, 11, 12, 5, 6, 7] rfl rfl (by decide) (by decide) hk1 hFc hP1 hD1 (by decide) rfl
            refine lv_iload_n hx hb dX4_shape_44 rfl (lv_at hl 2 rfl) ?_
            obtain ⟨r9, h10, hF⟩ := ob1_some hF
            have hPc := hP.sub (ws' := (W_Tree cI (sh a 8) (g_State_second (g_LS_now S)))) [8, 9] rfl
            have hDc := hD.sub (ws' := (W_Tree cI (sh a 8) (g_State_second (g_LS_now S)))) [8, 9] (by decide) rfl
            have hFc := va_free (wc := (W_Tree cI (sh a 8) (g_State_second (g_LS_now S)))) hD hS hA [8, 9] rfl
            refine va_calli (va_runS (As := [.ref (a 8), .int v2]) (rest := []) ⟨hx, hb, hml, hown, hts⟩ (c_X4_shapeNumber l dC dI cI (sh a 8) H.size _ _ _ h10) (va_cwS 2 hts gX4_shape_X4_shapeNumber rfl rfl rfl (by decide +kernel) ⟨Nat.le_of_ble_eq_true rfl, Nat.le_of_ble_eq_true rfl⟩) (jPreS hK hPc hDc hN) rfl rfl hl.1 rfl (lv_room (Nat.le_of_ble_eq_true rfl)) dX4_shape_45 ⟨Nat.le_of_ble_eq_true rfl, Nat.le_of_ble_eq_true rfl⟩) hS (fun q _ h => hFc q h) hFc (fun r' u' t H locs ht hvm hw hB hz1 hk1 hS => ?_)
            subst hw
            obtain ⟨hP1, -, hD1⟩ := hB
            rw [ht] at hP1
            obtain ⟨hP, hD⟩ := jJoin (wc := (W_Tree cI (sh a 8) (g_State_second (g_LS_now S)))) (w1 := (W_Tree cI (sh a 8) (g_State_second (g_LS_now S)))) (ws' := (W_LS cI a S)) hP hD [8, 9] [0, 1, 2, 3, 4, 5, 6, 7, 10, 11, 12] [0, 1, 2, 3, 4, 5, 6, 7, 11, 12, 8, 9, 10] rfl rfl (by decide) (by decide) hk1 hFc hP1 hD1 (by decide) rfl
            cases hF
            refine vx_ret ?_
            refine W.widen (k := 1) (n := 6) (Nat.zero_le _) (Nat.zero_le _) ?_
            exact W.iret (v := r9) hx hb hr (fun t ht hW => ⟨⟨r9, (), rfl, rfl, by rw [ht]; exact hP, va_K.moved hW.alike hK, hD⟩, hS.F ht⟩) hS.2.2 dX4_shape_48
        · have hF := F_neg c5 hF
          cases hF
          obtain ⟨sa, hsa⟩ := hN.2.1 _ (List.mem_of_getElem? (i := 13) rfl)
          exact vx_throwS (names := ["java/lang/RuntimeException", "java/lang/Exception"]) (cls := "java/lang/IllegalArgumentException") hx hb hl0 hown (by decide +kernel) (by decide +kernel) (hts (Cond.classLink RX4 64 "java/lang/IllegalArgumentException") (List.mem_of_getElem? (i := 3) rfl)) (hts (Cond.initialized "java/lang/IllegalArgumentException") (List.mem_of_getElem? (i := 4) rfl)) hsa (vx_hat (B := [Cond.castable "java/lang/IllegalArgumentException" "java/lang/IllegalArgumentException", Cond.declares ⟨"java/lang/RuntimeException", "<init>", "(Ljava/lang/String;)V"⟩, Cond.declares ⟨"java/lang/Exception", "<init>", "(Ljava/lang/String;)V"⟩, Cond.declares ⟨"java/lang/Throwable", "<init>", "(Ljava/lang/String;)V"⟩]) (fun w hw => hts w (List.mem_cons_of_mem _ (List.mem_append_right _ hw))) (by decide +kernel) (vx_c (va_Nw.use rfl (hN.1 _ (List.mem_of_getElem? (i := 12) rfl))) (vx_c (va_Nw.use rfl (hN.1 _ (List.mem_of_getElem? (i := 14) rfl))) (vx_c (va_Nw.use rfl (hN.1 _ (List.mem_of_getElem? (i := 15) rfl))) (vx_c (va_Nw.use rfl (hN.1 _ (List.mem_of_getElem? (i := 16) rfl))) vx_n))))) (by decide +kernel) hU hSN hS (hl.1.trans hml.symm) dX4_shape_26 dX4_shape_29 dX4_shape_30 dX4_shape_32 dX4_shape_35 (fun x hx => (hex x hx).elim) (Nat.le_of_ble_eq_true rfl) (Nat.le_of_ble_eq_true rfl) (Nat.le_of_ble_eq_true rfl) (Nat.le_of_ble_eq_true rfl) hlocks (fun t ha hz hk => ⟨(), trivial, ⟨rfl, jKeep hP hk, va_K.moved ha hK, hD⟩, jF hS hz hk⟩) hS.2.2 (Nat.le_of_ble_eq_true rfl) (Nat.le_of_ble_eq_true rfl)
    · have hF := F_pos c3 hF
      cases hF
      obtain ⟨sa, hsa⟩ := hN.2.1 _ (List.mem_of_getElem? (i := 5) rfl)
      exact vx_throwS (names := ["java/lang/RuntimeException", "java/lang/Exception"]) (cls := "java/lang/IndexOutOfBoundsException") hx hb hl0 hown (by decide +kernel) (by decide +kernel) (hts (Cond.classLink RX4 49 "java/lang/IndexOutOfBoundsException") (List.mem_of_getElem? (i := 1) rfl)) (hts (Cond.initialized "java/lang/IndexOutOfBoundsException") (List.mem_of_getElem? (i := 2) rfl)) hsa (vx_hat (B := [Cond.castable "java/lang/IndexOutOfBoundsException" "java/lang/IndexOutOfBoundsException", Cond.declares ⟨"java/lang/RuntimeException", "<init>", "(Ljava/lang/String;)V"⟩, Cond.declares ⟨"java/lang/Exception", "<init>", "(Ljava/lang/String;)V"⟩, Cond.declares ⟨"java/lang/Throwable", "<init>", "(Ljava/lang/String;)V"⟩]) (fun w hw => hts w (List.mem_cons_of_mem _ (List.mem_append_left _ (List.mem_append_right _ hw)))) (by decide +kernel) (vx_c (va_Nw.use rfl (hN.1 _ (List.mem_of_getElem? (i := 11) rfl))) (vx_c (va_Nw.use rfl (hN.1 _ (List.mem_of_getElem? (i := 14) rfl))) (vx_c (va_Nw.use rfl (hN.1 _ (List.mem_of_getElem? (i := 15) rfl))) (vx_c (va_Nw.use rfl (hN.1 _ (List.mem_of_getElem? (i := 16) rfl))) vx_n))))) (by decide +kernel) hU hSN hS (hl.1.trans hml.symm) dX4_shape_7 dX4_shape_10 dX4_shape_11 dX4_shape_13 dX4_shape_16 (fun x hx => (hex x hx).elim) (Nat.le_of_ble_eq_true rfl) (Nat.le_of_ble_eq_true rfl) (Nat.le_of_ble_eq_true rfl) (Nat.le_of_ble_eq_true rfl) hlocks (fun t ha hz hk => ⟨(), trivial, ⟨rfl, jKeep hP hk, va_K.moved ha hK, hD⟩, jF hS hz hk⟩) hS.2.2 (Nat.le_of_ble_eq_true rfl) (Nat.le_of_ble_eq_true rfl)
  exact KE _ _ hP hD hS
set_option maxHeartbeats 4000000 in
set_option maxRecDepth 100000 in
theorem c_X4_count (l : Launch) (dC : Nat → ClassId) (dI : Nat → Nat → Nat) (cI : ClassId) (hl0 : l.stackTraces = false) (a : Nat → Nat) (sz : Nat) (S : S_LS) (v1 : Int32) (res : Sum (String × (Unit)) (Int32)) (hF : F_X4_count S v1 = some res) : vx_Met l yX4_count wsX4_count ({ frames := 6, cells := 1, slots := 6, locals := 90 } : Room) (va_Pc [.ref (a 0), .int v1] (jPreX (dC, dI) [(cI, .int)] sz ((W_LS cI a S)))) (va_Qi (fun (r' : Int32) (u : Unit) => res = .inr r') (fun _ : Unit => jB (dC, dI) [(cI, .int)] (va_A ((W_LS cI a S)) sz) ((W_LS cI a S))) (va_A ((W_LS cI a S)) sz)) (vx_X (fun _ : Unit => True) (fun (E : String) (u : Unit) (t : State) => res = .inl (E, u) ∧ jB (dC, dI) [(cI, .int)] (va_A ((W_LS cI a S)) sz) ((W_LS cI a S)) t) (va_A ((W_LS cI a S)) sz)) 1 6 (va_A ((W_LS cI a S)) sz) := by
  refine vx_ofW (cc := cX4_count) (maxL := 2) (ret := (some .int)) (by decide) rfl ?_
  intro p e s m args below meth c s₁ B hml hex hv
  obtain ⟨rfl, ⟨hsz, hP, hK, hD0, hN⟩, hU, hSN⟩ := hv
  have hx := B.exec
  have hb := B.bytes
  have hr := B.returns
  have hts := atoms_spec (ws := wsX4_count) B.pre
  have hown : s.vm.findClass RX4 = some m.cls := findClass_of_methodNamed B.named
  have hlocks := B.notSynchronized
  subst hsz
  have hD := hD0.self (sz := s.heap.size)
  generalize hAe : (va_A ((W_LS cI a S)) s.heap.size) = A at hD hU hSN ⊢
  have hA : ∀ q : Nat, s.heap.size ≤ q → A q := fun q h => by rw [← hAe]; exact Or.inr h
  have hS : va_S A s.heap s.heap [] := va_S.rf
  have hl := lv_entry ([.ref (a 0), .int v1]) (n := 2) (Nat.le_of_ble_eq_true rfl)
  rw [lg_entry_eq]
  generalize (lg_sl ([.ref (a 0), .int v1]) ++ List.replicate (2 - (lg_sl ([.ref (a 0), .int v1])).length) Slot.unset).toArray = ls at hl ⊢
  have hl : lv_has ls 2 [(0, .ref (a 0)), (1, .int v1)] := hl
  have KE : ∀ (H : Heap) (locs : List Loc), va_P (dC, dI) vwCl ((W_LS cI a S)) H → va_D A ((W_LS cI a S)) → va_S A s.heap H locs → W p l e (headSpec wsX4_count ({ frames := 6, cells := 1, slots := 6, locals := 90 } : Room)).room s m ([.ref (a 0), .int v1] : List Value).toArray below meth c H locs 0 0 (vx_MQ below (va_Qi (fun (r' : Int32) (u : Unit) => res = .inr r') (fun _ : Unit => jB (dC, dI) [(cI, .int)] A ((W_LS cI a S))) A) (vx_X (fun _ : Unit => True) (fun (E : String) (u : Unit) (t : State) => res = .inl (E, u) ∧ jB (dC, dI) [(cI, .int)] A ((W_LS cI a S)) t) A) ([.ref (a 0), .int v1] : List Value).toArray s 1 6 A) (F0 m 0 ls []) := by
    intro H locs hP hD hS
    unfold F_X4_count at hF
    refine lv_iload_n hx hb dX4_count_0 rfl (lv_at hl 1 rfl) ?_
    refine lv_if_lt (tgt := 9) hx hb dX4_count_1 (by decide) (fun c1 => ?_) (fun c1 => ?_)
    · have hF := F_pos c1 hF
      cases hF
      obtain ⟨sa, hsa⟩ := hN.2.1 _ (List.mem_of_getElem? (i := 4) rfl)
      exact vx_throwS (names := ["java/lang/RuntimeException", "java/lang/Exception"]) (cls := "java/lang/IllegalArgumentException") hx hb hl0 hown (by decide +kernel) (by decide +kernel) (hts (Cond.classLink RX4 64 "java/lang/IllegalArgumentException") (List.mem_of_getElem? (i := 1) rfl)) (hts (Cond.initialized "java/lang/IllegalArgumentException") (List.mem_of_getElem? (i := 2) rfl)) hsa (vx_hat (B := [Cond.castable "java/lang/IllegalArgumentException" "java/lang/IllegalArgumentException", Cond.declares ⟨"java/lang/RuntimeException", "<init>", "(Ljava/lang/String;)V"⟩, Cond.declares ⟨"java/lang/Exception", "<init>", "(Ljava/lang/String;)V"⟩, Cond.declares ⟨"java/lang/Throwable", "<init>", "(Ljava/lang/String;)V"⟩]) (fun w hw => hts w (List.mem_cons_of_mem _ (List.mem_append_right _ hw))) (by decide +kernel) (vx_c (va_Nw.use rfl (hN.1 _ (List.mem_of_getElem? (i := 12) rfl))) (vx_c (va_Nw.use rfl (hN.1 _ (List.mem_of_getElem? (i := 14) rfl))) (vx_c (va_Nw.use rfl (hN.1 _ (List.mem_of_getElem? (i := 15) rfl))) (vx_c (va_Nw.use rfl (hN.1 _ (List.mem_of_getElem? (i := 16) rfl))) vx_n))))) (by decide +kernel) hU hSN hS (hl.1.trans hml.symm) dX4_count_9 dX4_count_12 dX4_count_13 dX4_count_15 dX4_count_18 (fun x hx => (hex x hx).elim) (Nat.le_of_ble_eq_true rfl) (Nat.le_of_ble_eq_true rfl) (Nat.le_of_ble_eq_true rfl) (Nat.le_of_ble_eq_true rfl) hlocks (fun t ha hz hk => ⟨(), trivial, ⟨rfl, jKeep hP hk, va_K.moved ha hK, hD⟩, jF hS hz hk⟩) hS.2.2 (Nat.le_of_ble_eq_true rfl) (Nat.le_of_ble_eq_true rfl)
    · have hF := F_neg c1 hF
      refine lv_iload_n hx hb dX4_count_4 rfl (lv_at hl 1 rfl) ?_
      refine lv_iconst (v := (2 : Int32)) hx hb dX4_count_5 (by decide) ?_
      refine lv_icmp_le (tgt := 19) hx hb dX4_count_6 (by decide) (fun c2 => ?_) (fun c2 => ?_)
      · have hF := F_pos c2 hF
        refine lv_aload_n hx hb dX4_count_19 rfl (lv_at hl 0 rfl) ?_
        refine lv_iload_n hx hb dX4_count_20 rfl (lv_at hl 1 rfl) ?_
        obtain ⟨r3, h4, hF⟩ := ob1_some hF
        have hPc : va_P (dC, dI) vwCl ((W_LS cI a S)) H := hP
        have hDc : va_D A ((W_LS cI a S)) := hD
        have hFc := jFreeW (ws := (W_LS cI a S)) hD hS hA
        refine va_calli (va_runV (As := [.int v1]) (rest := []) ⟨hx, hb, hml, hown, hts⟩ (c_X4_stateNumber l dC dI cI a H.size _ _ _ h4) (cwV 1 hts gX4_count_X4_stateNumber rfl rfl rfl (by decide +kernel) ⟨Nat.le_of_ble_eq_true rfl, Nat.le_of_ble_eq_true rfl⟩) (jPreV hK hPc hDc hN (ci := 4) rfl rfl) rfl rfl hl.1 rfl (lv_room (Nat.le_of_ble_eq_true rfl)) dX4_count_21 ⟨Nat.le_of_ble_eq_true rfl, Nat.le_of_ble_eq_true rfl⟩) hS (fun q _ h => hFc q h) hFc (fun r' u' t H locs ht hvm hw hB hz1 hk1 hS => ?_)
        subst hw
        obtain ⟨hP1, -, hD1⟩ := hB
        rw [ht] at hP1
        have hP : va_P (dC, dI) vwCl ((W_LS cI a S)) H := hP1
        have hD : va_D A ((W_LS cI a S)) := hD1.weaken (fun _ _ _ h => hFc _ h)
        cases hF
        refine vx_ret ?_
        refine W.widen (k := 1) (n := 6) (Nat.zero_le _) (Nat.zero_le _) ?_
        exact W.iret (v := r3) hx hb hr (fun t ht hW => ⟨⟨r3, (), rfl, rfl, by rw [ht]; exact hP, va_K.moved hW.alike hK, hD⟩, hS.F ht⟩) hS.2.2 dX4_count_24
      · have hF := F_neg c2 hF
        cases hF
        obtain ⟨sa, hsa⟩ := hN.2.1 _ (List.mem_of_getElem? (i := 4) rfl)
        exact vx_throwS (names := ["java/lang/RuntimeException", "java/lang/Exception"]) (cls := "java/lang/IllegalArgumentException") hx hb hl0 hown (by decide +kernel) (by decide +kernel) (hts (Cond.classLink RX4 64 "java/lang/IllegalArgumentException") (List.mem_of_getElem? (i := 1) rfl)) (hts (Cond.initialized "java/lang/IllegalArgumentException") (List.mem_of_getElem? (i := 2) rfl)) hsa (vx_hat (B := [Cond.castable "java/lang/IllegalArgumentException" "java/lang/IllegalArgumentException", Cond.declares ⟨"java/lang/RuntimeException", "<init>", "(Ljava/lang/String;)V"⟩, Cond.declares ⟨"java/lang/Exception", "<init>", "(Ljava/lang/String;)V"⟩, Cond.declares ⟨"java/lang/Throwable", "<init>", "(Ljava/lang/String;)V"⟩]) (fun w hw => hts w (List.mem_cons_of_mem _ (List.mem_append_right _ hw))) (by decide +kernel) (vx_c (va_Nw.use rfl (hN.1 _ (List.mem_of_getElem? (i := 12) rfl))) (vx_c (va_Nw.use rfl (hN.1 _ (List.mem_of_getElem? (i := 14) rfl))) (vx_c (va_Nw.use rfl (hN.1 _ (List.mem_of_getElem? (i := 15) rfl))) (vx_c (va_Nw.use rfl (hN.1 _ (List.mem_of_getElem? (i := 16) rfl))) vx_n))))) (by decide +kernel) hU hSN hS (hl.1.trans hml.symm) dX4_count_9 dX4_count_12 dX4_count_13 dX4_count_15 dX4_count_18 (fun x hx => (hex x hx).elim) (Nat.le_of_ble_eq_true rfl) (Nat.le_of_ble_eq_true rfl) (Nat.le_of_ble_eq_true rfl) (Nat.le_of_ble_eq_true rfl) hlocks (fun t ha hz hk => ⟨(), trivial, ⟨rfl, jKeep hP hk, va_K.moved ha hK, hD⟩, jF hS hz hk⟩) hS.2.2 (Nat.le_of_ble_eq_true rfl) (Nat.le_of_ble_eq_true rfl)
  exact KE _ _ hP hD hS
set_option maxHeartbeats 4000000 in
set_option maxRecDepth 100000 in
theorem c_X4_ifLearned (l : Launch) (dC : Nat → ClassId) (dI : Nat → Nat → Nat) (cI : ClassId) (hl0 : l.stackTraces = false) (a : Nat → Nat) (sz : Nat) (S : S_LS) (v1 : Int32) (v2 : Int32) (res : Sum (String × (S_LS)) (Int32 × S_LS)) (hF : F_X4_ifLearned S v1 v2 = some res) : vx_Met l yX4_ifLearned wsX4_ifLearned ({ frames := 6, cells := 1, slots := 6, locals := 164 } : Room) (va_Pc [.ref (a 0), .int v1, .int v2] (jPreX (dC, dI) [(cI, .int)] sz ((W_LS cI a S)))) (va_Qi (fun (r' : Int32) (u : S_LS) => res = .inr (r', u)) (fun u : S_LS => jB (dC, dI) [(cI, .int)] (va_A ((W_LS cI a S)) sz) ((W_LS cI a u))) (va_A ((W_LS cI a S)) sz)) (vx_X (fun _ : S_LS => True) (fun (E : String) (u : S_LS) (t : State) => res = .inl (E, u) ∧ jB (dC, dI) [(cI, .int)] (va_A ((W_LS cI a S)) sz) ((W_LS cI a u)) t) (va_A ((W_LS cI a S)) sz)) 1 6 (va_A ((W_LS cI a S)) sz) := by
  refine vx_ofW (cc := cX4_ifLearned) (maxL := 3) (ret := (some .int)) (by decide) rfl ?_
  intro p e s m args below meth c s₁ B hml hex hv
  obtain ⟨rfl, ⟨hsz, hP, hK, hD0, hN⟩, hU, hSN⟩ := hv
  have hx := B.exec
  have hb := B.bytes
  have hr := B.returns
  have hts := atoms_spec (ws := wsX4_ifLearned) B.pre
  have hown : s.vm.findClass RX4 = some m.cls := findClass_of_methodNamed B.named
  have hlocks := B.notSynchronized
  have hinX4 : ∀ w ∈ u_ws RX4 TX4 8, w ∈ wsX4_ifLearned := by decide +kernel
  subst hsz
  have hD := hD0.self (sz := s.heap.size)
  generalize hAe : (va_A ((W_LS cI a S)) s.heap.size) = A at hD hU hSN ⊢
  have hA : ∀ q : Nat, s.heap.size ≤ q → A q := fun q h => by rw [← hAe]; exact Or.inr h
  have hS : va_S A s.heap s.heap [] := va_S.rf
  have hl := lv_entry ([.ref (a 0), .int v1, .int v2]) (n := 3) (Nat.le_of_ble_eq_true rfl)
  rw [lg_entry_eq]
  generalize (lg_sl ([.ref (a 0), .int v1, .int v2]) ++ List.replicate (3 - (lg_sl ([.ref (a 0), .int v1, .int v2])).length) Slot.unset).toArray = ls at hl ⊢
  have hl : lv_has ls 3 [(0, .ref (a 0)), (1, .int v1), (2, .int v2)] := hl
  have KE : ∀ (H : Heap) (locs : List Loc), va_P (dC, dI) vwCl ((W_LS cI a S)) H → va_D A ((W_LS cI a S)) → va_S A s.heap H locs → W p l e (headSpec wsX4_ifLearned ({ frames := 6, cells := 1, slots := 6, locals := 164 } : Room)).room s m ([.ref (a 0), .int v1, .int v2] : List Value).toArray below meth c H locs 0 0 (vx_MQ below (va_Qi (fun (r' : Int32) (u : S_LS) => res = .inr (r', u)) (fun u : S_LS => jB (dC, dI) [(cI, .int)] A ((W_LS cI a u))) A) (vx_X (fun _ : S_LS => True) (fun (E : String) (u : S_LS) (t : State) => res = .inl (E, u) ∧ jB (dC, dI) [(cI, .int)] A ((W_LS cI a u)) t) A) ([.ref (a 0), .int v1, .int v2] : List Value).toArray s 1 6 A) (F0 m 0 ls []) := by
    intro H locs hP hD hS
    unfold F_X4_ifLearned at hF
    refine lv_iload_n hx hb dX4_ifLearned_0 rfl (lv_at hl 1 rfl) ?_
    obtain ⟨r1, h2, hF⟩ := ob1_some hF
    have hPc : va_P (dC, dI) vwCl ([] : va_W) H := fun k q h => by simp at h
    have hDc : va_D A ([] : va_W) := ⟨fun i j p q h => by simp at h, fun k q h => by simp at h⟩
    have hFc := jFreeW (ws := []) hDc hS hA
    refine va_calli (va_runS (As := [.int v1]) (rest := []) ⟨hx, hb, hml, hown, hts⟩ (c_X4_isShape l dC dI cI  H.size _ _ h2) (va_cwS 1 hts gX4_ifLearned_X4_isShape rfl rfl rfl (by decide +kernel) ⟨Nat.le_of_ble_eq_true rfl, Nat.le_of_ble_eq_true rfl⟩) (jPreS hK hPc hDc hN) rfl rfl hl.1 rfl (lv_room (Nat.le_of_ble_eq_true rfl)) dX4_ifLearned_1 ⟨Nat.le_of_ble_eq_true rfl, Nat.le_of_ble_eq_true rfl⟩) hS (fun q _ h => hFc q h) hFc (fun r' u' t H locs ht hvm hw hB hz1 hk1 hS => ?_)
    subst hw
    obtain ⟨hP1, -, hD1⟩ := hB
    rw [ht] at hP1
    have hP : va_P (dC, dI) vwCl ((W_LS cI a S)) H := jNone hP hk1
    refine lv_if_ne (tgt := 17) hx hb dX4_ifLearned_4 (by decide) (fun c3 => ?_) (fun c3 => ?_)
    · have hF := F_neg c3 hF
      refine lv_iload_n hx hb dX4_ifLearned_17 rfl (lv_at hl 2 rfl) ?_
      refine lv_if_lt (tgt := 26) hx hb dX4_ifLearned_18 (by decide) (fun c4 => ?_) (fun c4 => ?_)
      · have hF := F_pos c4 hF
        cases hF
        obtain ⟨sa, hsa⟩ := hN.2.1 _ (List.mem_of_getElem? (i := 7) rfl)
        exact vx_throwS (names := ["java/lang/RuntimeException", "java/lang/Exception"]) (cls := "java/lang/IllegalArgumentException") hx hb hl0 hown (by decide +kernel) (by decide +kernel) (hts (Cond.classLink RX4 64 "java/lang/IllegalArgumentException") (List.mem_of_getElem? (i := 3) rfl)) (hts (Cond.initialized "java/lang/IllegalArgumentException") (List.mem_of_getElem? (i := 4) rfl)) hsa (vx_hat (B := [Cond.castable "java/lang/IllegalArgumentException" "java/lang/IllegalArgumentException", Cond.declares ⟨"java/lang/RuntimeException", "<init>", "(Ljava/lang/String;)V"⟩, Cond.declares ⟨"java/lang/Exception", "<init>", "(Ljava/lang/String;)V"⟩, Cond.declares ⟨"java/lang/Throwable", "<init>", "(Ljava/lang/String;)V"⟩]) (fun w hw => hts w (List.mem_cons_of_mem _ (List.mem_append_right _ hw))) (by decide +kernel) (vx_c (va_Nw.use rfl (hN.1 _ (List.mem_of_getElem? (i := 12) rfl))) (vx_c (va_Nw.use rfl (hN.1 _ (List.mem_of_getElem? (i := 14) rfl))) (vx_c (va_Nw.use rfl (hN.1 _ (List.mem_of_getElem? (i := 15) rfl))) (vx_c (va_Nw.use rfl (hN.1 _ (List.mem_of_getElem? (i := 16) rfl))) vx_n))))) (by decide +kernel) hU hSN hS (hl.1.trans hml.symm) dX4_ifLearned_26 dX4_ifLearned_29 dX4_ifLearned_30 dX4_ifLearned_32 dX4_ifLearned_35 (fun x hx => (hex x hx).elim) (Nat.le_of_ble_eq_true rfl) (Nat.le_of_ble_eq_true rfl) (Nat.le_of_ble_eq_true rfl) (Nat.le_of_ble_eq_true rfl) hlocks (fun t ha hz hk => ⟨S, trivial, ⟨rfl, jKeep hP hk, va_K.moved ha hK, hD⟩, jF hS hz hk⟩) hS.2.2 (Nat.le_of_ble_eq_true rfl) (Nat.le_of_ble_eq_true rfl)
      · have hF := F_neg c4 hF
        refine lv_iload_n hx hb dX4_ifLearned_21 rfl (lv_at hl 2 rfl) ?_
        refine lv_iconst (v := (4 : Int32)) hx hb dX4_ifLearned_22 (by decide) ?_
        refine lv_icmp_le (tgt := 36) hx hb dX4_ifLearned_23 (by decide) (fun c5 => ?_) (fun c5 => ?_)
        · have hF := F_pos c5 hF
          refine lv_aload_n hx hb dX4_ifLearned_36 rfl (lv_at hl 0 rfl) ?_
          refine va_get (D := (dC, dI)) (ci := 4) (v := .ref (a 2)) (C := RX4) (T := TX4) (N := 8) hx hb hts hinX4 hown hK hP 0 rfl rfl 2 (by decide) (hts (Cond.fieldLink RX4 16 "LearnedShapes" "reader" "LLearnedShapes$Reader;") (List.mem_of_getElem? (i := 5) rfl)) (fun _ h9 => h9) rfl dX4_ifLearned_37 ?_
          refine lv_aload_n hx hb dX4_ifLearned_40 rfl (lv_at hl 0 rfl) ?_
          refine va_get (D := (dC, dI)) (ci := 4) (v := .ref (a 1)) (C := RX4) (T := TX4) (N := 8) hx hb hts hinX4 hown hK hP 0 rfl rfl 0 (by decide) (hts (Cond.fieldLink RX4 9 "LearnedShapes" "codes" "[I") (List.mem_of_getElem? (i := 6) rfl)) (fun _ h9 => h9) rfl dX4_ifLearned_41 ?_
          refine lv_aload_n hx hb dX4_ifLearned_44 rfl (lv_at hl 0 rfl) ?_
          refine va_get (D := (dC, dI)) (ci := 4) (v := .int (g_LS_length S)) (C := RX4) (T := TX4) (N := 8) hx hb hts hinX4 hown hK hP 0 rfl rfl 1 (by decide) (hts (Cond.fieldLink RX4 56 "LearnedShapes" "length" "I") (List.mem_of_getElem? (i := 7) rfl)) (fun _ h9 => h9) rfl dX4_ifLearned_45 ?_
          obtain ⟨r6, u7, h8, hF⟩ := ob2_some hF
          have hPc := hP.sub (ws' := (W_Reader cI (sh a 2) (g_LS_reader S)) ++ (W_Arr60 cI (sh a 1) (g_LS_codes S))) [2, 3, 4, 1] rfl
          have hDc := hD.sub (ws' := (W_Reader cI (sh a 2) (g_LS_reader S)) ++ (W_Arr60 cI (sh a 1) (g_LS_codes S))) [2, 3, 4, 1] (by decide) rfl
          have hFc := va_free (wc := (W_Reader cI (sh a 2) (g_LS_reader S)) ++ (W_Arr60 cI (sh a 1) (g_LS_codes S))) hD hS hA [2, 3, 4, 1] rfl
          refine va_calli (va_runV (As := [.ref (a 1), .int (g_LS_length S)]) (rest := []) ⟨hx, hb, hml, hown, hts⟩ (c_X1_read l dC dI cI (sh a 2) (sh a 1) H.size _ _ _ _ _ h8) (cwV 2 hts gX4_ifLearned_X1_read rfl rfl rfl (by decide +kernel) ⟨Nat.le_of_ble_eq_true rfl, Nat.le_of_ble_eq_true rfl⟩) (jPreV hK hPc hDc hN (ci := 1) rfl rfl) rfl rfl hl.1 rfl (lv_room (Nat.le_of_ble_eq_true rfl)) dX4_ifLearned_48 ⟨Nat.le_of_ble_eq_true rfl, Nat.le_of_ble_eq_true rfl⟩) hS (fun q _ h => hFc q h) hFc (fun r' u' t H locs ht hvm hw hB hz1 hk1 hS => ?_)
          obtain ⟨e1, e2⟩ := hw
          subst e1
          subst e2
          obtain ⟨hP1, -, hD1⟩ := hB
          rw [ht] at hP1
          obtain ⟨hP, hD⟩ := jJoin (wc := (W_Reader cI (sh a 2) (g_LS_reader S)) ++ (W_Arr60 cI (sh a 1) (g_LS_codes S))) (w1 := (W_Reader cI (sh a 2) u7) ++ (W_Arr60 cI (sh a 1) (g_LS_codes S))) (ws' := (W_LS cI a (s_LS_reader S u7))) hP hD [2, 3, 4, 1] [0, 5, 6, 7, 8, 9, 10, 11, 12] [0, 12, 9, 10, 11, 1, 2, 3, 4, 5, 6, 7, 8] rfl rfl (by decide) (by decide) hk1 hFc hP1 hD1 (by decide) rfl
          refine lv_if_ne (tgt := 56) hx hb dX4_ifLearned_51 (by decide) (fun c9 => ?_) (fun c9 => ?_)
          · have hF := F_neg c9 hF
            refine lv_aload_n hx hb dX4_ifLearned_56 rfl (lv_at hl 0 rfl) ?_
            refine lv_aload_n hx hb dX4_ifLearned_57 rfl (lv_at hl 0 rfl) ?_
            refine va_get (D := (dC, dI)) (ci := 4) (v := .ref (a 5)) (C := RX4) (T := TX4) (N := 8) hx hb hts hinX4 hown hK hP 0 rfl rfl 3 (by decide) (hts (Cond.fieldLink RX4 23 "LearnedShapes" "now" "LLearnedShapes$State;") (List.mem_of_getElem? (i := 8) rfl)) (fun _ h9 => h9) rfl dX4_ifLearned_58 ?_
            refine lv_iload_n hx hb dX4_ifLearned_61 rfl (lv_at hl 1 rfl) ?_
            by_cases c10 : v1 = 0
            · have hF := F_pos c10 hF
              have hPc := hP.sub (ws' := (W_State cI (sh a 5) (g_LS_now S))) [5, 6, 7, 8, 9] rfl
              have hDc := hD.sub (ws' := (W_State cI (sh a 5) (g_LS_now S))) [5, 6, 7, 8, 9] (by decide) rfl
              have hFc := va_free (wc := (W_State cI (sh a 5) (g_LS_now S))) hD hS hA [5, 6, 7, 8, 9] rfl
              refine va_callr (va_runV (As := [.int v1]) (rest := [.ref (a 0)]) ⟨hx, hb, hml, hown, hts⟩ (c_X2_tree_first l dC dI cI (sh a 5) H.size _ _ c10) (cwV 1 hts gX4_ifLearned_X2_tree rfl rfl rfl (by decide +kernel) ⟨Nat.le_of_ble_eq_true rfl, Nat.le_of_ble_eq_true rfl⟩) (jPreV hK hPc hDc hN (ci := 2) rfl rfl) rfl rfl hl.1 rfl (lv_room (Nat.le_of_ble_eq_true rfl)) dX4_ifLearned_62 ⟨Nat.le_of_ble_eq_true rfl, Nat.le_of_ble_eq_true rfl⟩) hS (fun q _ h => hFc q h) hFc (fun u q9 t H locs ht hvm hw hB hz1 hk1 hS => ?_)
              obtain ⟨e9, hP1, -, hD1⟩ := hB
              subst e9
              rw [ht] at hP1
              obtain ⟨hP, hD⟩ := jJoin (wc := (W_State cI (sh a 5) (g_LS_now S))) (w1 := (W_State cI (sh a 5) (g_LS_now S))) (ws' := (W_LS cI a (s_LS_reader S u7))) hP hD [5, 6, 7, 8, 9] [0, 1, 2, 3, 4, 10, 11, 12] [0, 1, 2, 3, 4, 8, 9, 10, 11, 12, 5, 6, 7] rfl rfl (by decide) (by decide) hk1 hFc hP1 hD1 (by decide) rfl
              obtain ⟨u11, h12, hF⟩ := ob1_some hF
              have hPc : va_P (dC, dI) vwCl ((W_LS cI a (s_LS_reader S u7))) H := hP
              have hDc : va_D A ((W_LS cI a (s_LS_reader S u7))) := hD
              have hFc := jFreeW (ws := (W_LS cI a (s_LS_reader S u7))) hD hS hA
              refine va_callv (va_runV (As := [.ref (a 6)]) (rest := []) ⟨hx, hb, hml, hown, hts⟩ (c_X4_workOutLearned_false l dC dI cI a H.size _ _ h12) (cwV 1 hts gX4_ifLearned_X4_workOutLearned rfl rfl rfl (by decide +kernel) ⟨Nat.le_of_ble_eq_true rfl, Nat.le_of_ble_eq_true rfl⟩) (jPreV hK hPc hDc hN (ci := 4) rfl rfl) rfl rfl hl.1 rfl (lv_room (Nat.le_of_ble_eq_true rfl)) dX4_ifLearned_65 ⟨Nat.le_of_ble_eq_true rfl, Nat.le_of_ble_eq_true rfl⟩) hS (fun q _ h => hFc q h) hFc (fun u' t H locs ht hvm hw hB hz1 hk1 hS => ?_)
              subst hw
              obtain ⟨hP1, -, hD1⟩ := hB
              rw [ht] at hP1
              have hP : va_P (dC, dI) vwCl ((W_LS cI a u11)) H := hP1
              have hD : va_D A ((W_LS cI a u11)) := hD1.weaken (fun _ _ _ h => hFc _ h)
              refine lv_aload_n hx hb dX4_ifLearned_68 rfl (lv_at hl 0 rfl) ?_
              refine lv_aload_n hx hb dX4_ifLearned_69 rfl (lv_at hl 0 rfl) ?_
              refine va_get (D := (dC, dI)) (ci := 4) (v := .ref (a 5)) (C := RX4) (T := TX4) (N := 8) hx hb hts hinX4 hown hK hP 0 rfl rfl 3 (by decide) (hts (Cond.fieldLink RX4 23 "LearnedShapes" "now" "LLearnedShapes$State;") (List.mem_of_getElem? (i := 8) rfl)) (fun _ h9 => h9) rfl dX4_ifLearned_70 ?_
              refine lv_iload_n hx hb dX4_ifLearned_73 rfl (lv_at hl 1 rfl) ?_
              have hPc := hP.sub (ws' := (W_State cI (sh a 5) (g_LS_now u11))) [5, 6, 7, 8, 9] rfl
              have hDc := hD.sub (ws' := (W_State cI (sh a 5) (g_LS_now u11))) [5, 6, 7, 8, 9] (by decide) rfl
              have hFc := va_free (wc := (W_State cI (sh a 5) (g_LS_now u11))) hD hS hA [5, 6, 7, 8, 9] rfl
              refine va_callr (va_runV (As := [.int v1]) (rest := [.ref (a 0)]) ⟨hx, hb, hml, hown, hts⟩ (c_X2_tree_first l dC dI cI (sh a 5) H.size _ _ c10) (cwV 1 hts gX4_ifLearned_X2_tree rfl rfl rfl (by decide +kernel) ⟨Nat.le_of_ble_eq_true rfl, Nat.le_of_ble_eq_true rfl⟩) (jPreV hK hPc hDc hN (ci := 2) rfl rfl) rfl rfl hl.1 rfl (lv_room (Nat.le_of_ble_eq_true rfl)) dX4_ifLearned_74 ⟨Nat.le_of_ble_eq_true rfl, Nat.le_of_ble_eq_true rfl⟩) hS (fun q _ h => hFc q h) hFc (fun u q9 t H locs ht hvm hw hB hz1 hk1 hS => ?_)
              obtain ⟨e9, hP1, -, hD1⟩ := hB
              subst e9
              rw [ht] at hP1
              obtain ⟨hP, hD⟩ := jJoin (wc := (W_State cI (sh a 5) (g_LS_now u11))) (w1 := (W_State cI (sh a 5) (g_LS_now u11))) (ws' := (W_LS cI a u11)) hP hD [5, 6, 7, 8, 9] [0, 1, 2, 3, 4, 10, 11, 12] [0, 1, 2, 3, 4, 8, 9, 10, 11, 12, 5, 6, 7] rfl rfl (by decide) (by decide) hk1 hFc hP1 hD1 (by decide) rfl
              refine lv_iload_n hx hb dX4_ifLearned_77 rfl (lv_at hl 2 rfl) ?_
              obtain ⟨r13, h14, hF⟩ := ob1_some hF
              have hPc : va_P (dC, dI) vwCl ((W_LS cI a u11)) H := hP
              have hDc : va_D A ((W_LS cI a u11)) := hD
              have hFc := jFreeW (ws := (W_LS cI a u11)) hD hS hA
              refine va_calli (va_runV (As := [.ref (a 6), .int v2]) (rest := []) ⟨hx, hb, hml, hown, hts⟩ (c_X4_outlookNumber_false l dC dI cI a H.size _ _ _ h14) (cwV 2 hts gX4_ifLearned_X4_outlookNumber rfl rfl rfl (by decide +kernel) ⟨Nat.le_of_ble_eq_true rfl, Nat.le_of_ble_eq_true rfl⟩) (jPreV hK hPc hDc hN (ci := 4) rfl rfl) rfl rfl hl.1 rfl (lv_room (Nat.le_of_ble_eq_true rfl)) dX4_ifLearned_78 ⟨Nat.le_of_ble_eq_true rfl, Nat.le_of_ble_eq_true rfl⟩) hS (fun q _ h => hFc q h) hFc (fun r' u' t H locs ht hvm hw hB hz1 hk1 hS => ?_)
              subst hw
              obtain ⟨hP1, -, hD1⟩ := hB
              rw [ht] at hP1
              have hP : va_P (dC, dI) vwCl ((W_LS cI a u11)) H := hP1
              have hD : va_D A ((W_LS cI a u11)) := hD1.weaken (fun _ _ _ h => hFc _ h)
              cases hF
              refine vx_ret ?_
              refine W.widen (k := 1) (n := 6) (Nat.zero_le _) (Nat.zero_le _) ?_
              exact W.iret (v := r13) hx hb hr (fun t ht hW => ⟨⟨r13, u11, rfl, rfl, by rw [ht]; exact hP, va_K.moved hW.alike hK, hD⟩, hS.F ht⟩) hS.2.2 dX4_ifLearned_81
            · have hF := F_neg c10 hF
              have hPc := hP.sub (ws' := (W_State cI (sh a 5) (g_LS_now S))) [5, 6, 7, 8, 9] rfl
              have hDc := hD.sub (ws' := (W_State cI (sh a 5) (g_LS_now S))) [5, 6, 7, 8, 9] (by decide) rfl
              have hFc := va_free (wc := (W_State cI (sh a 5) (g_LS_now S))) hD hS hA [5, 6, 7, 8, 9] rfl
              refine va_callr (va_runV (As := [.int v1]) (rest := [.ref (a 0)]) ⟨hx, hb, hml, hown, hts⟩ (c_X2_tree_second l dC dI cI (sh a 5) H.size _ _ c10) (cwV 1 hts gX4_ifLearned_X2_tree rfl rfl rfl (by decide +kernel) ⟨Nat.le_of_ble_eq_true rfl, Nat.le_of_ble_eq_true rfl⟩) (jPreV hK hPc hDc hN (ci := 2) rfl rfl) rfl rfl hl.1 rfl (lv_room (Nat.le_of_ble_eq_true rfl)) dX4_ifLearned_62 ⟨Nat.le_of_ble_eq_true rfl, Nat.le_of_ble_eq_true rfl⟩) hS (fun q _ h => hFc q h) hFc (fun u q9 t H locs ht hvm hw hB hz1 hk1 hS => ?_)
              obtain ⟨e9, hP1, -, hD1⟩ := hB
              subst e9
              rw [ht] at hP1
              obtain ⟨hP, hD⟩ := jJoin (wc := (W_State cI (sh a 5) (g_LS_now S))) (w1 := (W_State cI (sh a 5) (g_LS_now S))) (ws' := (W_LS cI a (s_LS_reader S u7))) hP hD [5, 6, 7, 8, 9] [0, 1, 2, 3, 4, 10, 11, 12] [0, 1, 2, 3, 4, 8, 9, 10, 11, 12, 5, 6, 7] rfl rfl (by decide) (by decide) hk1 hFc hP1 hD1 (by decide) rfl
              obtain ⟨u15, h16, hF⟩ := ob1_some hF
              have hPc : va_P (dC, dI) vwCl ((W_LS cI a (s_LS_reader S u7))) H := hP
              have hDc : va_D A ((W_LS cI a (s_LS_reader S u7))) := hD
              have hFc := jFreeW (ws := (W_LS cI a (s_LS_reader S u7))) hD hS hA
              refine va_callv (va_runV (As := [.ref (a 8)]) (rest := []) ⟨hx, hb, hml, hown, hts⟩ (c_X4_workOutLearned_true l dC dI cI a H.size _ _ h16) (cwV 1 hts gX4_ifLearned_X4_workOutLearned rfl rfl rfl (by decide +kernel) ⟨Nat.le_of_ble_eq_true rfl, Nat.le_of_ble_eq_true rfl⟩) (jPreV hK hPc hDc hN (ci := 4) rfl rfl) rfl rfl hl.1 rfl (lv_room (Nat.le_of_ble_eq_true rfl)) dX4_ifLearned_65 ⟨Nat.le_of_ble_eq_true rfl, Nat.le_of_ble_eq_true rfl⟩) hS (fun q _ h => hFc q h) hFc (fun u' t H locs ht hvm hw hB hz1 hk1 hS => ?_)
              subst hw
              obtain ⟨hP1, -, hD1⟩ := hB
              rw [ht] at hP1
              have hP : va_P (dC, dI) vwCl ((W_LS cI a u15)) H := hP1
              have hD : va_D A ((W_LS cI a u15)) := hD1.weaken (fun _ _ _ h => hFc _ h)
              refine lv_aload_n hx hb dX4_ifLearned_68 rfl (lv_at hl 0 rfl) ?_
              refine lv_aload_n hx hb dX4_ifLearned_69 rfl (lv_at hl 0 rfl) ?_
              refine va_get (D := (dC, dI)) (ci := 4) (v := .ref (a 5)) (C := RX4) (T := TX4) (N := 8) hx hb hts hinX4 hown hK hP 0 rfl rfl 3 (by decide) (hts (Cond.fieldLink RX4 23 "LearnedShapes" "now" "LLearnedShapes$State;") (List.mem_of_getElem? (i := 8) rfl)) (fun _ h9 => h9) rfl dX4_ifLearned_70 ?_
              refine lv_iload_n hx hb dX4_ifLearned_73 rfl (lv_at hl 1 rfl) ?_
              have hPc := hP.sub (ws' := (W_State cI (sh a 5) (g_LS_now u15))) [5, 6, 7, 8, 9] rfl
              have hDc := hD.sub (ws' := (W_State cI (sh a 5) (g_LS_now u15))) [5, 6, 7, 8, 9] (by decide) rfl
              have hFc := va_free (wc := (W_State cI (sh a 5) (g_LS_now u15))) hD hS hA [5, 6, 7, 8, 9] rfl
              refine va_callr (va_runV (As := [.int v1]) (rest := [.ref (a 0)]) ⟨hx, hb, hml, hown, hts⟩ (c_X2_tree_second l dC dI cI (sh a 5) H.size _ _ c10) (cwV 1 hts gX4_ifLearned_X2_tree rfl rfl rfl (by decide +kernel) ⟨Nat.le_of_ble_eq_true rfl, Nat.le_of_ble_eq_true rfl⟩) (jPreV hK hPc hDc hN (ci := 2) rfl rfl) rfl rfl hl.1 rfl (lv_room (Nat.le_of_ble_eq_true rfl)) dX4_ifLearned_74 ⟨Nat.le_of_ble_eq_true rfl, Nat.le_of_ble_eq_true rfl⟩) hS (fun q _ h => hFc q h) hFc (fun u q9 t H locs ht hvm hw hB hz1 hk1 hS => ?_)
              obtain ⟨e9, hP1, -, hD1⟩ := hB
              subst e9
              rw [ht] at hP1
              obtain ⟨hP, hD⟩ := jJoin (wc := (W_State cI (sh a 5) (g_LS_now u15))) (w1 := (W_State cI (sh a 5) (g_LS_now u15))) (ws' := (W_LS cI a u15)) hP hD [5, 6, 7, 8, 9] [0, 1, 2, 3, 4, 10, 11, 12] [0, 1, 2, 3, 4, 8, 9, 10, 11, 12, 5, 6, 7] rfl rfl (by decide) (by decide) hk1 hFc hP1 hD1 (by decide) rfl
              refine lv_iload_n hx hb dX4_ifLearned_77 rfl (lv_at hl 2 rfl) ?_
              obtain ⟨r17, h18, hF⟩ := ob1_some hF
              have hPc : va_P (dC, dI) vwCl ((W_LS cI a u15)) H := hP
              have hDc : va_D A ((W_LS cI a u15)) := hD
              have hFc := jFreeW (ws := (W_LS cI a u15)) hD hS hA
              refine va_calli (va_runV (As := [.ref (a 8), .int v2]) (rest := []) ⟨hx, hb, hml, hown, hts⟩ (c_X4_outlookNumber_true l dC dI cI a H.size _ _ _ h18) (cwV 2 hts gX4_ifLearned_X4_outlookNumber rfl rfl rfl (by decide +kernel) ⟨Nat.le_of_ble_eq_true rfl, Nat.le_of_ble_eq_true rfl⟩) (jPreV hK hPc hDc hN (ci := 4) rfl rfl) rfl rfl hl.1 rfl (lv_room (Nat.le_of_ble_eq_true rfl)) dX4_ifLearned_78 ⟨Nat.le_of_ble_eq_true rfl, Nat.le_of_ble_eq_true rfl⟩) hS (fun q _ h => hFc q h) hFc (fun r' u' t H locs ht hvm hw hB hz1 hk1 hS => ?_)
              subst hw
              obtain ⟨hP1, -, hD1⟩ := hB
              rw [ht] at hP1
              have hP : va_P (dC, dI) vwCl ((W_LS cI a u15)) H := hP1
              have hD : va_D A ((W_LS cI a u15)) := hD1.weaken (fun _ _ _ h => hFc _ h)
              cases hF
              refine vx_ret ?_
              refine W.widen (k := 1) (n := 6) (Nat.zero_le _) (Nat.zero_le _) ?_
              exact W.iret (v := r17) hx hb hr (fun t ht hW => ⟨⟨r17, u15, rfl, rfl, by rw [ht]; exact hP, va_K.moved hW.alike hK, hD⟩, hS.F ht⟩) hS.2.2 dX4_ifLearned_81
          · have hF := F_pos c9 hF
            refine lv_iconst (v := (-1 : Int32)) hx hb dX4_ifLearned_54 (by decide) ?_
            cases hF
            refine vx_ret ?_
            refine W.widen (k := 1) (n := 6) (Nat.zero_le _) (Nat.zero_le _) ?_
            exact W.iret (v := (-1 : Int32)) hx hb hr (fun t ht hW => ⟨⟨(-1 : Int32), (s_LS_reader S u7), rfl, rfl, by rw [ht]; exact hP, va_K.moved hW.alike hK, hD⟩, hS.F ht⟩) hS.2.2 dX4_ifLearned_55
        · have hF := F_neg c5 hF
          cases hF
          obtain ⟨sa, hsa⟩ := hN.2.1 _ (List.mem_of_getElem? (i := 7) rfl)
          exact vx_throwS (names := ["java/lang/RuntimeException", "java/lang/Exception"]) (cls := "java/lang/IllegalArgumentException") hx hb hl0 hown (by decide +kernel) (by decide +kernel) (hts (Cond.classLink RX4 64 "java/lang/IllegalArgumentException") (List.mem_of_getElem? (i := 3) rfl)) (hts (Cond.initialized "java/lang/IllegalArgumentException") (List.mem_of_getElem? (i := 4) rfl)) hsa (vx_hat (B := [Cond.castable "java/lang/IllegalArgumentException" "java/lang/IllegalArgumentException", Cond.declares ⟨"java/lang/RuntimeException", "<init>", "(Ljava/lang/String;)V"⟩, Cond.declares ⟨"java/lang/Exception", "<init>", "(Ljava/lang/String;)V"⟩, Cond.declares ⟨"java/lang/Throwable", "<init>", "(Ljava/lang/String;)V"⟩]) (fun w hw => hts w (List.mem_cons_of_mem _ (List.mem_append_right _ hw))) (by decide +kernel) (vx_c (va_Nw.use rfl (hN.1 _ (List.mem_of_getElem? (i := 12) rfl))) (vx_c (va_Nw.use rfl (hN.1 _ (List.mem_of_getElem? (i := 14) rfl))) (vx_c (va_Nw.use rfl (hN.1 _ (List.mem_of_getElem? (i := 15) rfl))) (vx_c (va_Nw.use rfl (hN.1 _ (List.mem_of_getElem? (i := 16) rfl))) vx_n))))) (by decide +kernel) hU hSN hS (hl.1.trans hml.symm) dX4_ifLearned_26 dX4_ifLearned_29 dX4_ifLearned_30 dX4_ifLearned_32 dX4_ifLearned_35 (fun x hx => (hex x hx).elim) (Nat.le_of_ble_eq_true rfl) (Nat.le_of_ble_eq_true rfl) (Nat.le_of_ble_eq_true rfl) (Nat.le_of_ble_eq_true rfl) hlocks (fun t ha hz hk => ⟨S, trivial, ⟨rfl, jKeep hP hk, va_K.moved ha hK, hD⟩, jF hS hz hk⟩) hS.2.2 (Nat.le_of_ble_eq_true rfl) (Nat.le_of_ble_eq_true rfl)
    · have hF := F_pos c3 hF
      cases hF
      obtain ⟨sa, hsa⟩ := hN.2.1 _ (List.mem_of_getElem? (i := 5) rfl)
      exact vx_throwS (names := ["java/lang/RuntimeException", "java/lang/Exception"]) (cls := "java/lang/IndexOutOfBoundsException") hx hb hl0 hown (by decide +kernel) (by decide +kernel) (hts (Cond.classLink RX4 49 "java/lang/IndexOutOfBoundsException") (List.mem_of_getElem? (i := 1) rfl)) (hts (Cond.initialized "java/lang/IndexOutOfBoundsException") (List.mem_of_getElem? (i := 2) rfl)) hsa (vx_hat (B := [Cond.castable "java/lang/IndexOutOfBoundsException" "java/lang/IndexOutOfBoundsException", Cond.declares ⟨"java/lang/RuntimeException", "<init>", "(Ljava/lang/String;)V"⟩, Cond.declares ⟨"java/lang/Exception", "<init>", "(Ljava/lang/String;)V"⟩, Cond.declares ⟨"java/lang/Throwable", "<init>", "(Ljava/lang/String;)V"⟩]) (fun w hw => hts w (List.mem_cons_of_mem _ (List.mem_append_left _ (List.mem_append_right _ hw)))) (by decide +kernel) (vx_c (va_Nw.use rfl (hN.1 _ (List.mem_of_getElem? (i := 11) rfl))) (vx_c (va_Nw.use rfl (hN.1 _ (List.mem_of_getElem? (i := 14) rfl))) (vx_c (va_Nw.use rfl (hN.1 _ (List.mem_of_getElem? (i := 15) rfl))) (vx_c (va_Nw.use rfl (hN.1 _ (List.mem_of_getElem? (i := 16) rfl))) vx_n))))) (by decide +kernel) hU hSN hS (hl.1.trans hml.symm) dX4_ifLearned_7 dX4_ifLearned_10 dX4_ifLearned_11 dX4_ifLearned_13 dX4_ifLearned_16 (fun x hx => (hex x hx).elim) (Nat.le_of_ble_eq_true rfl) (Nat.le_of_ble_eq_true rfl) (Nat.le_of_ble_eq_true rfl) (Nat.le_of_ble_eq_true rfl) hlocks (fun t ha hz hk => ⟨S, trivial, ⟨rfl, jKeep hP hk, va_K.moved ha hK, hD⟩, jF hS hz hk⟩) hS.2.2 (Nat.le_of_ble_eq_true rfl) (Nat.le_of_ble_eq_true rfl)
  exact KE _ _ hP hD hS
set_option maxHeartbeats 4000000 in
set_option maxRecDepth 100000 in
theorem c_X4_covers (l : Launch) (dC : Nat → ClassId) (dI : Nat → Nat → Nat) (cI : ClassId) (hl0 : l.stackTraces = false) (a : Nat → Nat) (sz : Nat) (S : S_LS) (v1 : Int32) (res : Sum (String × (Unit)) (Int32)) (hF : F_X4_covers S v1 = some res) : vx_Met l yX4_covers wsX4_covers ({ frames := 12, cells := 1, slots := 6, locals := 332 } : Room) (va_Pc [.ref (a 0), .int v1] (jPreX (dC, dI) [(cI, .int)] sz ((W_LS cI a S)))) (va_Qi (fun (r' : Int32) (u : Unit) => res = .inr r') (fun _ : Unit => jB (dC, dI) [(cI, .int)] (va_A ((W_LS cI a S)) sz) ((W_LS cI a S))) (va_A ((W_LS cI a S)) sz)) (vx_X (fun _ : Unit => True) (fun (E : String) (u : Unit) (t : State) => res = .inl (E, u) ∧ jB (dC, dI) [(cI, .int)] (va_A ((W_LS cI a S)) sz) ((W_LS cI a S)) t) (va_A ((W_LS cI a S)) sz)) 1 6 (va_A ((W_LS cI a S)) sz) := by
  refine vx_ofW (cc := cX4_covers) (maxL := 2) (ret := (some .int)) (by decide) rfl ?_
  intro p e s m args below meth c s₁ B hml hex hv
  obtain ⟨rfl, ⟨hsz, hP, hK, hD0, hN⟩, hU, hSN⟩ := hv
  have hx := B.exec
  have hb := B.bytes
  have hr := B.returns
  have hts := atoms_spec (ws := wsX4_covers) B.pre
  have hown : s.vm.findClass RX4 = some m.cls := findClass_of_methodNamed B.named
  have hlocks := B.notSynchronized
  subst hsz
  have hD := hD0.self (sz := s.heap.size)
  generalize hAe : (va_A ((W_LS cI a S)) s.heap.size) = A at hD hU hSN ⊢
  have hA : ∀ q : Nat, s.heap.size ≤ q → A q := fun q h => by rw [← hAe]; exact Or.inr h
  have hS : va_S A s.heap s.heap [] := va_S.rf
  have hl := lv_entry ([.ref (a 0), .int v1]) (n := 2) (Nat.le_of_ble_eq_true rfl)
  rw [lg_entry_eq]
  generalize (lg_sl ([.ref (a 0), .int v1]) ++ List.replicate (2 - (lg_sl ([.ref (a 0), .int v1])).length) Slot.unset).toArray = ls at hl ⊢
  have hl : lv_has ls 2 [(0, .ref (a 0)), (1, .int v1)] := hl
  have KE : ∀ (H : Heap) (locs : List Loc), va_P (dC, dI) vwCl ((W_LS cI a S)) H → va_D A ((W_LS cI a S)) → va_S A s.heap H locs → W p l e (headSpec wsX4_covers ({ frames := 12, cells := 1, slots := 6, locals := 332 } : Room)).room s m ([.ref (a 0), .int v1] : List Value).toArray below meth c H locs 0 0 (vx_MQ below (va_Qi (fun (r' : Int32) (u : Unit) => res = .inr r') (fun _ : Unit => jB (dC, dI) [(cI, .int)] A ((W_LS cI a S))) A) (vx_X (fun _ : Unit => True) (fun (E : String) (u : Unit) (t : State) => res = .inl (E, u) ∧ jB (dC, dI) [(cI, .int)] A ((W_LS cI a S)) t) A) ([.ref (a 0), .int v1] : List Value).toArray s 1 6 A) (F0 m 0 ls []) := by
    intro H locs hP hD hS
    unfold F_X4_covers at hF
    refine lv_iload_n hx hb dX4_covers_0 rfl (lv_at hl 1 rfl) ?_
    obtain ⟨r1, h2, hF⟩ := ob1_some hF
    have hPc : va_P (dC, dI) vwCl ([] : va_W) H := fun k q h => by simp at h
    have hDc : va_D A ([] : va_W) := ⟨fun i j p q h => by simp at h, fun k q h => by simp at h⟩
    have hFc := jFreeW (ws := []) hDc hS hA
    refine va_calli (va_runS (As := [.int v1]) (rest := []) ⟨hx, hb, hml, hown, hts⟩ (c_X4_isShape l dC dI cI  H.size _ _ h2) (va_cwS 1 hts gX4_covers_X4_isShape rfl rfl rfl (by decide +kernel) ⟨Nat.le_of_ble_eq_true rfl, Nat.le_of_ble_eq_true rfl⟩) (jPreS hK hPc hDc hN) rfl rfl hl.1 rfl (lv_room (Nat.le_of_ble_eq_true rfl)) dX4_covers_1 ⟨Nat.le_of_ble_eq_true rfl, Nat.le_of_ble_eq_true rfl⟩) hS (fun q _ h => hFc q h) hFc (fun r' u' t H locs ht hvm hw hB hz1 hk1 hS => ?_)
    subst hw
    obtain ⟨hP1, -, hD1⟩ := hB
    rw [ht] at hP1
    have hP : va_P (dC, dI) vwCl ((W_LS cI a S)) H := jNone hP hk1
    refine lv_if_ne (tgt := 17) hx hb dX4_covers_4 (by decide) (fun c3 => ?_) (fun c3 => ?_)
    · have hF := F_neg c3 hF
      refine lv_aload_n hx hb dX4_covers_17 rfl (lv_at hl 0 rfl) ?_
      refine lv_iload_n hx hb dX4_covers_18 rfl (lv_at hl 1 rfl) ?_
      obtain ⟨r4, h5, hF⟩ := ob1_some hF
      have hPc : va_P (dC, dI) vwCl ((W_LS cI a S)) H := hP
      have hDc : va_D A ((W_LS cI a S)) := hD
      have hFc := jFreeW (ws := (W_LS cI a S)) hD hS hA
      refine va_calli (va_runV (As := [.int v1]) (rest := []) ⟨hx, hb, hml, hown, hts⟩ (c_X4_coversOther l dC dI cI a H.size _ _ _ h5) (cwV 1 hts gX4_covers_X4_coversOther rfl rfl rfl (by decide +kernel) ⟨Nat.le_of_ble_eq_true rfl, Nat.le_of_ble_eq_true rfl⟩) (jPreV hK hPc hDc hN (ci := 4) rfl rfl) rfl rfl hl.1 rfl (lv_room (Nat.le_of_ble_eq_true rfl)) dX4_covers_19 ⟨Nat.le_of_ble_eq_true rfl, Nat.le_of_ble_eq_true rfl⟩) hS (fun q _ h => hFc q h) hFc (fun r' u' t H locs ht hvm hw hB hz1 hk1 hS => ?_)
      subst hw
      obtain ⟨hP1, -, hD1⟩ := hB
      rw [ht] at hP1
      have hP : va_P (dC, dI) vwCl ((W_LS cI a S)) H := hP1
      have hD : va_D A ((W_LS cI a S)) := hD1.weaken (fun _ _ _ h => hFc _ h)
      refine lv_if_eq (tgt := 29) hx hb dX4_covers_22 (by decide) (fun c6 => ?_) (fun c6 => ?_)
      · have hF := F_pos c6 hF
        refine lv_iconst (v := (0 : Int32)) hx hb dX4_covers_29 (by decide) ?_
        cases hF
        refine vx_ret ?_
        refine W.widen (k := 1) (n := 6) (Nat.zero_le _) (Nat.zero_le _) ?_
        exact W.iret (v := (0 : Int32)) hx hb hr (fun t ht hW => ⟨⟨(0 : Int32), (), rfl, rfl, by rw [ht]; exact hP, va_K.moved hW.alike hK, hD⟩, hS.F ht⟩) hS.2.2 dX4_covers_30
      · have hF := F_neg c6 hF
        refine lv_iconst (v := (1 : Int32)) hx hb dX4_covers_25 (by decide) ?_
        refine lv_goto (tgt := 30) hx hb dX4_covers_26 (by decide) ?_
        cases hF
        refine vx_ret ?_
        refine W.widen (k := 1) (n := 6) (Nat.zero_le _) (Nat.zero_le _) ?_
        exact W.iret (v := (1 : Int32)) hx hb hr (fun t ht hW => ⟨⟨(1 : Int32), (), rfl, rfl, by rw [ht]; exact hP, va_K.moved hW.alike hK, hD⟩, hS.F ht⟩) hS.2.2 dX4_covers_30
    · have hF := F_pos c3 hF
      cases hF
      obtain ⟨sa, hsa⟩ := hN.2.1 _ (List.mem_of_getElem? (i := 5) rfl)
      exact vx_throwS (names := ["java/lang/RuntimeException", "java/lang/Exception"]) (cls := "java/lang/IndexOutOfBoundsException") hx hb hl0 hown (by decide +kernel) (by decide +kernel) (hts (Cond.classLink RX4 49 "java/lang/IndexOutOfBoundsException") (List.mem_of_getElem? (i := 1) rfl)) (hts (Cond.initialized "java/lang/IndexOutOfBoundsException") (List.mem_of_getElem? (i := 2) rfl)) hsa (vx_hat (B := [Cond.castable "java/lang/IndexOutOfBoundsException" "java/lang/IndexOutOfBoundsException", Cond.declares ⟨"java/lang/RuntimeException", "<init>", "(Ljava/lang/String;)V"⟩, Cond.declares ⟨"java/lang/Exception", "<init>", "(Ljava/lang/String;)V"⟩, Cond.declares ⟨"java/lang/Throwable", "<init>", "(Ljava/lang/String;)V"⟩]) (fun w hw => hts w (List.mem_cons_of_mem _ (List.mem_append_right _ hw))) (by decide +kernel) (vx_c (va_Nw.use rfl (hN.1 _ (List.mem_of_getElem? (i := 11) rfl))) (vx_c (va_Nw.use rfl (hN.1 _ (List.mem_of_getElem? (i := 14) rfl))) (vx_c (va_Nw.use rfl (hN.1 _ (List.mem_of_getElem? (i := 15) rfl))) (vx_c (va_Nw.use rfl (hN.1 _ (List.mem_of_getElem? (i := 16) rfl))) vx_n))))) (by decide +kernel) hU hSN hS (hl.1.trans hml.symm) dX4_covers_7 dX4_covers_10 dX4_covers_11 dX4_covers_13 dX4_covers_16 (fun x hx => (hex x hx).elim) (Nat.le_of_ble_eq_true rfl) (Nat.le_of_ble_eq_true rfl) (Nat.le_of_ble_eq_true rfl) (Nat.le_of_ble_eq_true rfl) hlocks (fun t ha hz hk => ⟨(), trivial, ⟨rfl, jKeep hP hk, va_K.moved ha hK, hD⟩, jF hS hz hk⟩) hS.2.2 (Nat.le_of_ble_eq_true rfl) (Nat.le_of_ble_eq_true rfl)
  exact KE _ _ hP hD hS
set_option maxHeartbeats 4000000 in
set_option maxRecDepth 100000 in
theorem c_X4_sureShare (l : Launch) (dC : Nat → ClassId) (dI : Nat → Nat → Nat) (cI : ClassId) (hl0 : l.stackTraces = false) (a : Nat → Nat) (sz : Nat) (S : S_LS) (v1 : Int32) (res : Sum (String × (Unit)) (UInt64)) (hF : F_X4_sureShare S v1 = some res) : vx_Met l yX4_sureShare wsX4_sureShare ({ frames := 6, cells := 1, slots := 6, locals := 90 } : Room) (va_Pc [.ref (a 0), .int v1] (jPreX (dC, dI) [(cI, .int)] sz ((W_LS cI a S)))) (va_Qd (fun (r' : UInt64) (u : Unit) => res = .inr r') (fun _ : Unit => jB (dC, dI) [(cI, .int)] (va_A ((W_LS cI a S)) sz) ((W_LS cI a S))) (va_A ((W_LS cI a S)) sz)) (vx_X (fun _ : Unit => True) (fun (E : String) (u : Unit) (t : State) => res = .inl (E, u) ∧ jB (dC, dI) [(cI, .int)] (va_A ((W_LS cI a S)) sz) ((W_LS cI a S)) t) (va_A ((W_LS cI a S)) sz)) 1 6 (va_A ((W_LS cI a S)) sz) := by
  refine vx_ofW (cc := cX4_sureShare) (maxL := 2) (ret := (some .double)) (by decide) rfl ?_
  intro p e s m args below meth c s₁ B hml hex hv
  obtain ⟨rfl, ⟨hsz, hP, hK, hD0, hN⟩, hU, hSN⟩ := hv
  have hx := B.exec
  have hb := B.bytes
  have hr := B.returns
  have hts := atoms_spec (ws := wsX4_sureShare) B.pre
  have hown : s.vm.findClass RX4 = some m.cls := findClass_of_methodNamed B.named
  have hlocks := B.notSynchronized
  have hinX4 : ∀ w ∈ u_ws RX4 TX4 8, w ∈ wsX4_sureShare := by decide +kernel
  subst hsz
  have hD := hD0.self (sz := s.heap.size)
  generalize hAe : (va_A ((W_LS cI a S)) s.heap.size) = A at hD hU hSN ⊢
  have hA : ∀ q : Nat, s.heap.size ≤ q → A q := fun q h => by rw [← hAe]; exact Or.inr h
  have hS : va_S A s.heap s.heap [] := va_S.rf
  have hl := lv_entry ([.ref (a 0), .int v1]) (n := 2) (Nat.le_of_ble_eq_true rfl)
  rw [lg_entry_eq]
  generalize (lg_sl ([.ref (a 0), .int v1]) ++ List.replicate (2 - (lg_sl ([.ref (a 0), .int v1])).length) Slot.unset).toArray = ls at hl ⊢
  have hl : lv_has ls 2 [(0, .ref (a 0)), (1, .int v1)] := hl
  have KE : ∀ (H : Heap) (locs : List Loc), va_P (dC, dI) vwCl ((W_LS cI a S)) H → va_D A ((W_LS cI a S)) → va_S A s.heap H locs → W p l e (headSpec wsX4_sureShare ({ frames := 6, cells := 1, slots := 6, locals := 90 } : Room)).room s m ([.ref (a 0), .int v1] : List Value).toArray below meth c H locs 0 0 (vx_MQ below (va_Qd (fun (r' : UInt64) (u : Unit) => res = .inr r') (fun _ : Unit => jB (dC, dI) [(cI, .int)] A ((W_LS cI a S))) A) (vx_X (fun _ : Unit => True) (fun (E : String) (u : Unit) (t : State) => res = .inl (E, u) ∧ jB (dC, dI) [(cI, .int)] A ((W_LS cI a S)) t) A) ([.ref (a 0), .int v1] : List Value).toArray s 1 6 A) (F0 m 0 ls []) := by
    intro H locs hP hD hS
    unfold F_X4_sureShare at hF
    refine lv_iload_n hx hb dX4_sureShare_0 rfl (lv_at hl 1 rfl) ?_
    obtain ⟨r1, h2, hF⟩ := ob1_some hF
    have hPc : va_P (dC, dI) vwCl ([] : va_W) H := fun k q h => by simp at h
    have hDc : va_D A ([] : va_W) := ⟨fun i j p q h => by simp at h, fun k q h => by simp at h⟩
    have hFc := jFreeW (ws := []) hDc hS hA
    refine va_calli (va_runS (As := [.int v1]) (rest := []) ⟨hx, hb, hml, hown, hts⟩ (c_X4_isShape l dC dI cI  H.size _ _ h2) (va_cwS 1 hts gX4_sureShare_X4_isShape rfl rfl rfl (by decide +kernel) ⟨Nat.le_of_ble_eq_true rfl, Nat.le_of_ble_eq_true rfl⟩) (jPreS hK hPc hDc hN) rfl rfl hl.1 rfl (lv_room (Nat.le_of_ble_eq_true rfl)) dX4_sureShare_1 ⟨Nat.le_of_ble_eq_true rfl, Nat.le_of_ble_eq_true rfl⟩) hS (fun q _ h => hFc q h) hFc (fun r' u' t H locs ht hvm hw hB hz1 hk1 hS => ?_)
    subst hw
    obtain ⟨hP1, -, hD1⟩ := hB
    rw [ht] at hP1
    have hP : va_P (dC, dI) vwCl ((W_LS cI a S)) H := jNone hP hk1
    refine lv_if_ne (tgt := 17) hx hb dX4_sureShare_4 (by decide) (fun c3 => ?_) (fun c3 => ?_)
    · have hF := F_neg c3 hF
      refine lv_aload_n hx hb dX4_sureShare_17 rfl (lv_at hl 0 rfl) ?_
      refine va_get (D := (dC, dI)) (ci := 4) (v := .ref (a 5)) (C := RX4) (T := TX4) (N := 8) hx hb hts hinX4 hown hK hP 0 rfl rfl 3 (by decide) (hts (Cond.fieldLink RX4 23 "LearnedShapes" "now" "LLearnedShapes$State;") (List.mem_of_getElem? (i := 3) rfl)) (fun _ h9 => h9) rfl dX4_sureShare_18 ?_
      refine lv_iload_n hx hb dX4_sureShare_21 rfl (lv_at hl 1 rfl) ?_
      by_cases c4 : v1 = 0
      · have hF := F_pos c4 hF
        have hPc := hP.sub (ws' := (W_State cI (sh a 5) (g_LS_now S))) [5, 6, 7, 8, 9] rfl
        have hDc := hD.sub (ws' := (W_State cI (sh a 5) (g_LS_now S))) [5, 6, 7, 8, 9] (by decide) rfl
        have hFc := va_free (wc := (W_State cI (sh a 5) (g_LS_now S))) hD hS hA [5, 6, 7, 8, 9] rfl
        refine va_callr (va_runV (As := [.int v1]) (rest := []) ⟨hx, hb, hml, hown, hts⟩ (c_X2_tree_first l dC dI cI (sh a 5) H.size _ _ c4) (cwV 1 hts gX4_sureShare_X2_tree rfl rfl rfl (by decide +kernel) ⟨Nat.le_of_ble_eq_true rfl, Nat.le_of_ble_eq_true rfl⟩) (jPreV hK hPc hDc hN (ci := 2) rfl rfl) rfl rfl hl.1 rfl (lv_room (Nat.le_of_ble_eq_true rfl)) dX4_sureShare_22 ⟨Nat.le_of_ble_eq_true rfl, Nat.le_of_ble_eq_true rfl⟩) hS (fun q _ h => hFc q h) hFc (fun u q9 t H locs ht hvm hw hB hz1 hk1 hS => ?_)
        obtain ⟨e9, hP1, -, hD1⟩ := hB
        subst e9
        rw [ht] at hP1
        obtain ⟨hP, hD⟩ := jJoin (wc := (W_State cI (sh a 5) (g_LS_now S))) (w1 := (W_State cI (sh a 5) (g_LS_now S))) (ws' := (W_LS cI a S)) hP hD [5, 6, 7, 8, 9] [0, 1, 2, 3, 4, 10, 11, 12] [0, 1, 2, 3, 4, 8, 9, 10, 11, 12, 5, 6, 7] rfl rfl (by decide) (by decide) hk1 hFc hP1 hD1 (by decide) rfl
        obtain ⟨r5, h6, hF⟩ := ob1_some hF
        have hPc := hP.sub (ws' := (W_Tree cI (sh a 6) (g_State_first (g_LS_now S)))) [6, 7] rfl
        have hDc := hD.sub (ws' := (W_Tree cI (sh a 6) (g_State_first (g_LS_now S)))) [6, 7] (by decide) rfl
        have hFc := va_free (wc := (W_Tree cI (sh a 6) (g_State_first (g_LS_now S)))) hD hS hA [6, 7] rfl
        refine va_calld (va_runS (As := [.ref (a 6)]) (rest := []) ⟨hx, hb, hml, hown, hts⟩ (c_X4_shareOfSure l dC dI cI (sh a 6) H.size _ _ h6) (va_cwS 1 hts gX4_sureShare_X4_shareOfSure rfl rfl rfl (by decide +kernel) ⟨Nat.le_of_ble_eq_true rfl, Nat.le_of_ble_eq_true rfl⟩) (jPreS hK hPc hDc hN) rfl rfl hl.1 rfl (lv_room (Nat.le_of_ble_eq_true rfl)) dX4_sureShare_25 ⟨Nat.le_of_ble_eq_true rfl, Nat.le_of_ble_eq_true rfl⟩) hS (fun q _ h => hFc q h) hFc (fun r' u' t H locs ht hvm hw hB hz1 hk1 hS => ?_)
        subst hw
        obtain ⟨hP1, -, hD1⟩ := hB
        rw [ht] at hP1
        obtain ⟨hP, hD⟩ := jJoin (wc := (W_Tree cI (sh a 6) (g_State_first (g_LS_now S)))) (w1 := (W_Tree cI (sh a 6) (g_State_first (g_LS_now S)))) (ws' := (W_LS cI a S)) hP hD [6, 7] [0, 1, 2, 3, 4, 5, 8, 9, 10, 11, 12] [0, 1, 2, 3, 4, 5, 11, 12, 6, 7, 8, 9, 10] rfl rfl (by decide) (by decide) hk1 hFc hP1 hD1 (by decide) rfl
        cases hF
        refine vx_ret ?_
        refine W.widen (k := 1) (n := 6) (Nat.zero_le _) (Nat.zero_le _) ?_
        exact W.dret (v := r5) hx hb hr (fun t ht hW => ⟨⟨r5, (), rfl, rfl, by rw [ht]; exact hP, va_K.moved hW.alike hK, hD⟩, hS.F ht⟩) hS.2.2 dX4_sureShare_28
      · have hF := F_neg c4 hF
        have hPc := hP.sub (ws' := (W_State cI (sh a 5) (g_LS_now S))) [5, 6, 7, 8, 9] rfl
        have hDc := hD.sub (ws' := (W_State cI (sh a 5) (g_LS_now S))) [5, 6, 7, 8, 9] (by decide) rfl
        have hFc := va_free (wc := (W_State cI (sh a 5) (g_LS_now S))) hD hS hA [5, 6, 7, 8, 9] rfl
        refine va_callr (va_runV (As := [.int v1]) (rest := []) ⟨hx, hb, hml, hown, hts⟩ (c_X2_tree_second l dC dI cI (sh a 5) H.size _ _ c4) (cwV 1 hts gX4_sureShare_X2_tree rfl rfl rfl (by decide +kernel) ⟨Nat.le_of_ble_eq_true rfl, Nat.le_of_ble_eq_true rfl⟩) (jPreV hK hPc hDc hN (ci := 2) rfl rfl) rfl rfl hl.1 rfl (lv_room (Nat.le_of_ble_eq_true rfl)) dX4_sureShare_22 ⟨Nat.le_of_ble_eq_true rfl, Nat.le_of_ble_eq_true rfl⟩) hS (fun q _ h => hFc q h) hFc (fun u q9 t H locs ht hvm hw hB hz1 hk1 hS => ?_)
        obtain ⟨e9, hP1, -, hD1⟩ := hB
        subst e9
        rw [ht] at hP1
        obtain ⟨hP, hD⟩ := jJoin (wc := (W_State cI (sh a 5) (g_LS_now S))) (w1 := (W_State cI (sh a 5) (g_LS_now S))) (ws' := (W_LS cI a S)) hP hD [5, 6, 7, 8, 9] [0, 1, 2, 3, 4, 10, 11, 12] [0, 1, 2, 3, 4, 8, 9, 10, 11, 12, 5, 6, 7] rfl rfl (by decide) (by decide) hk1 hFc hP1 hD1 (by decide) rfl
        obtain ⟨r7, h8, hF⟩ := ob1_some hF
        have hPc := hP.sub (ws' := (W_Tree cI (sh a 8) (g_State_second (g_LS_now S)))) [8, 9] rfl
        have hDc := hD.sub (ws' := (W_Tree cI (sh a 8) (g_State_second (g_LS_now S)))) [8, 9] (by decide) rfl
        have hFc := va_free (wc := (W_Tree cI (sh a 8) (g_State_second (g_LS_now S)))) hD hS hA [8, 9] rfl
        refine va_calld (va_runS (As := [.ref (a 8)]) (rest := []) ⟨hx, hb, hml, hown, hts⟩ (c_X4_shareOfSure l dC dI cI (sh a 8) H.size _ _ h8) (va_cwS 1 hts gX4_sureShare_X4_shareOfSure rfl rfl rfl (by decide +kernel) ⟨Nat.le_of_ble_eq_true rfl, Nat.le_of_ble_eq_true rfl⟩) (jPreS hK hPc hDc hN) rfl rfl hl.1 rfl (lv_room (Nat.le_of_ble_eq_true rfl)) dX4_sureShare_25 ⟨Nat.le_of_ble_eq_true rfl, Nat.le_of_ble_eq_true rfl⟩) hS (fun q _ h => hFc q h) hFc (fun r' u' t H locs ht hvm hw hB hz1 hk1 hS => ?_)
        subst hw
        obtain ⟨hP1, -, hD1⟩ := hB
        rw [ht] at hP1
        obtain ⟨hP, hD⟩ := jJoin (wc := (W_Tree cI (sh a 8) (g_State_second (g_LS_now S)))) (w1 := (W_Tree cI (sh a 8) (g_State_second (g_LS_now S)))) (ws' := (W_LS cI a S)) hP hD [8, 9] [0, 1, 2, 3, 4, 5, 6, 7, 10, 11, 12] [0, 1, 2, 3, 4, 5, 6, 7, 11, 12, 8, 9, 10] rfl rfl (by decide) (by decide) hk1 hFc hP1 hD1 (by decide) rfl
        cases hF
        refine vx_ret ?_
        refine W.widen (k := 1) (n := 6) (Nat.zero_le _) (Nat.zero_le _) ?_
        exact W.dret (v := r7) hx hb hr (fun t ht hW => ⟨⟨r7, (), rfl, rfl, by rw [ht]; exact hP, va_K.moved hW.alike hK, hD⟩, hS.F ht⟩) hS.2.2 dX4_sureShare_28
    · have hF := F_pos c3 hF
      cases hF
      obtain ⟨sa, hsa⟩ := hN.2.1 _ (List.mem_of_getElem? (i := 5) rfl)
      exact vx_throwS (names := ["java/lang/RuntimeException", "java/lang/Exception"]) (cls := "java/lang/IndexOutOfBoundsException") hx hb hl0 hown (by decide +kernel) (by decide +kernel) (hts (Cond.classLink RX4 49 "java/lang/IndexOutOfBoundsException") (List.mem_of_getElem? (i := 1) rfl)) (hts (Cond.initialized "java/lang/IndexOutOfBoundsException") (List.mem_of_getElem? (i := 2) rfl)) hsa (vx_hat (B := [Cond.castable "java/lang/IndexOutOfBoundsException" "java/lang/IndexOutOfBoundsException", Cond.declares ⟨"java/lang/RuntimeException", "<init>", "(Ljava/lang/String;)V"⟩, Cond.declares ⟨"java/lang/Exception", "<init>", "(Ljava/lang/String;)V"⟩, Cond.declares ⟨"java/lang/Throwable", "<init>", "(Ljava/lang/String;)V"⟩]) (fun w hw => hts w (List.mem_cons_of_mem _ (List.mem_append_right _ hw))) (by decide +kernel) (vx_c (va_Nw.use rfl (hN.1 _ (List.mem_of_getElem? (i := 11) rfl))) (vx_c (va_Nw.use rfl (hN.1 _ (List.mem_of_getElem? (i := 14) rfl))) (vx_c (va_Nw.use rfl (hN.1 _ (List.mem_of_getElem? (i := 15) rfl))) (vx_c (va_Nw.use rfl (hN.1 _ (List.mem_of_getElem? (i := 16) rfl))) vx_n))))) (by decide +kernel) hU hSN hS (hl.1.trans hml.symm) dX4_sureShare_7 dX4_sureShare_10 dX4_sureShare_11 dX4_sureShare_13 dX4_sureShare_16 (fun x hx => (hex x hx).elim) (Nat.le_of_ble_eq_true rfl) (Nat.le_of_ble_eq_true rfl) (Nat.le_of_ble_eq_true rfl) (Nat.le_of_ble_eq_true rfl) hlocks (fun t ha hz hk => ⟨(), trivial, ⟨rfl, jKeep hP hk, va_K.moved ha hK, hD⟩, jF hS hz hk⟩) hS.2.2 (Nat.le_of_ble_eq_true rfl) (Nat.le_of_ble_eq_true rfl)
  exact KE _ _ hP hD hS
