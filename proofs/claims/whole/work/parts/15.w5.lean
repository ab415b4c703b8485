set_option maxHeartbeats 4000000 in
set_option maxRecDepth 100000 in
theorem c_X5_thrown (l : Launch) (dC : Nat → ClassId) (dI : Nat → Nat → Nat) (cI : ClassId) (a : Nat → Nat) (sz : Nat) (S : S_Model)  (rr : Int32) (hF : F_X5_thrown S  = some rr) : Met l yX5_thrown wsX5_thrown ({ frames := 0, cells := 0, slots := 0, locals := 0 } : Room) (va_Pc [.ref (a 0)] (jPre (dC, dI) [(cI, .int)] sz ((W_Model cI a S)))) (va_Qi (fun (r' : Int32) (_ : Unit) => rr = r') (fun _ : Unit => jB (dC, dI) [(cI, .int)] (va_A ((W_Model cI a S)) sz) ((W_Model cI a S))) (va_A ((W_Model cI a S)) sz)) 0 0 (va_A ((W_Model cI a S)) sz) := by
  refine Met.ofW (cc := cX5_thrown) (maxL := 1) (ret := (some .int)) (by decide) rfl ?_
  intro p e s m args below meth c s₁ B hml hv
  obtain ⟨rfl, hsz, hP, hK, hD0, hN⟩ := hv
  have hx := B.exec
  have hb := B.bytes
  have hr := B.returns
  have hts := atoms_spec (ws := wsX5_thrown) B.pre
  have hown : s.vm.findClass RX5 = some m.cls := findClass_of_methodNamed B.named
  have hlocks := B.notSynchronized
  have hinX5 : ∀ w ∈ u_ws RX5 TX5 26, w ∈ wsX5_thrown := by decide +kernel
  subst hsz
  have hD := hD0.self (sz := s.heap.size)
  generalize hAe : (va_A ((W_Model cI a S)) s.heap.size) = A at hD ⊢
  have hA : ∀ q : Nat, s.heap.size ≤ q → A q := fun q h => by rw [← hAe]; exact Or.inr h
  have hS : va_S A s.heap s.heap [] := va_S.rf
  have hl := lv_entry ([.ref (a 0)]) (n := 1) (Nat.le_of_ble_eq_true rfl)
  rw [lg_entry_eq]
  generalize (lg_sl ([.ref (a 0)]) ++ List.replicate (1 - (lg_sl ([.ref (a 0)])).length) Slot.unset).toArray = ls at hl ⊢
  have hl : lv_has ls 1 [(0, .ref (a 0))] := hl
  have KE : ∀ (H : Heap) (locs : List Loc), va_P (dC, dI) vwCl ((W_Model cI a S)) H → va_D A ((W_Model cI a S)) → va_S A s.heap H locs → W p l e (headSpec wsX5_thrown ({ frames := 0, cells := 0, slots := 0, locals := 0 } : Room)).room s m ([.ref (a 0)] : List Value).toArray below meth c H locs 0 0 (MQ below (va_Qi (fun (r' : Int32) (_ : Unit) => rr = r') (fun _ : Unit => jB (dC, dI) [(cI, .int)] A ((W_Model cI a S))) A) ([.ref (a 0)] : List Value).toArray s 0 0 A) (F0 m 0 ls []) := by
    intro H locs hP hD hS
    unfold F_X5_thrown at hF
    refine lv_aload_n hx hb dX5_thrown_0 rfl (lv_at hl 0 rfl) ?_
    refine va_get (D := (dC, dI)) (ci := 5) (v := .int (g_Model_thrown S)) (C := RX5) (T := TX5) (N := 26) hx hb hts hinX5 hown hK hP 0 rfl rfl 5 (by decide) (hts (Cond.fieldLink RX5 49 "LearnedShapesModel" "thrown" "I") (List.mem_of_getElem? (i := 1) rfl)) (fun _ h9 => h9) rfl dX5_thrown_1 ?_
    have e50 := Option.some.inj hF
    subst e50
    exact W.iret (v := (g_Model_thrown S)) hx hb hr (fun t ht hW => ⟨⟨(g_Model_thrown S), (), rfl, rfl, by rw [ht]; exact hP, va_K.moved hW.alike hK, hD⟩, hS.F ht⟩) hS.2.2 dX5_thrown_4
  exact KE _ _ hP hD hS
set_option maxHeartbeats 4000000 in
set_option maxRecDepth 100000 in
theorem c_X5_fails (l : Launch) (dC : Nat → ClassId) (dI : Nat → Nat → Nat) (cI : ClassId) (a : Nat → Nat) (sz : Nat) (S : S_Model) (v1 : Int32) (rr : Int32) (Y : S_Model) (hF : F_X5_fails S v1 = some (rr, Y)) : Met l yX5_fails wsX5_fails ({ frames := 0, cells := 0, slots := 0, locals := 0 } : Room) (va_Pc [.ref (a 0), .int v1] (jPre (dC, dI) [(cI, .int)] sz ((W_Model cI a S)))) (va_Qi (fun (r' : Int32) (u : S_Model) => rr = r' ∧ Y = u) (fun u : S_Model => jB (dC, dI) [(cI, .int)] (va_A ((W_Model cI a S)) sz) ((W_Model cI a u))) (va_A ((W_Model cI a S)) sz)) 0 0 (va_A ((W_Model cI a S)) sz) := by
  refine Met.ofW (cc := cX5_fails) (maxL := 2) (ret := (some .int)) (by decide) rfl ?_
  intro p e s m args below meth c s₁ B hml hv
  obtain ⟨rfl, hsz, hP, hK, hD0, hN⟩ := hv
  have hx := B.exec
  have hb := B.bytes
  have hr := B.returns
  have hts := atoms_spec (ws := wsX5_fails) B.pre
  have hown : s.vm.findClass RX5 = some m.cls := findClass_of_methodNamed B.named
  have hlocks := B.notSynchronized
  have hinX5 : ∀ w ∈ u_ws RX5 TX5 26, w ∈ wsX5_fails := by decide +kernel
  subst hsz
  have hD := hD0.self (sz := s.heap.size)
  generalize hAe : (va_A ((W_Model cI a S)) s.heap.size) = A at hD ⊢
  have hA : ∀ q : Nat, s.heap.size ≤ q → A q := fun q h => by rw [← hAe]; exact Or.inr h
  have hS : va_S A s.heap s.heap [] := va_S.rf
  have hl := lv_entry ([.ref (a 0), .int v1]) (n := 2) (Nat.le_of_ble_eq_true rfl)
  rw [lg_entry_eq]
  generalize (lg_sl ([.ref (a 0), .int v1]) ++ List.replicate (2 - (lg_sl ([.ref (a 0), .int v1])).length) Slot.unset).toArray = ls at hl ⊢
  have hl : lv_has ls 2 [(0, .ref (a 0)), (1, .int v1)] := hl
  have KE : ∀ (H : Heap) (locs : List Loc), va_P (dC, dI) vwCl ((W_Model cI a S)) H → va_D A ((W_Model cI a S)) → va_S A s.heap H locs → W p l e (headSpec wsX5_fails ({ frames := 0, cells := 0, slots := 0, locals := 0 } : Room)).room s m ([.ref (a 0), .int v1] : List Value).toArray below meth c H locs 0 0 (MQ below (va_Qi (fun (r' : Int32) (u : S_Model) => rr = r' ∧ Y = u) (fun u : S_Model => jB (dC, dI) [(cI, .int)] A ((W_Model cI a u))) A) ([.ref (a 0), .int v1] : List Value).toArray s 0 0 A) (F0 m 0 ls []) := by
    intro H locs hP hD hS
    unfold F_X5_fails at hF
    refine lv_aload_n hx hb dX5_fails_0 rfl (lv_at hl 0 rfl) ?_
    refine lv_iload_n hx hb dX5_fails_1 rfl (lv_at hl 1 rfl) ?_
    refine va_put (D := (dC, dI)) (ci := 5) (v := .int v1) (ty := .int) (C := RX5) (T := TX5) (N := 26) hx hb hts hinX5 tyX5 tyX5_ok nmX5 hown hK hP hD hS 0 rfl rfl 5 (by decide) (hts (Cond.fieldLink RX5 49 "LearnedShapesModel" "thrown" "I") (List.mem_of_getElem? (i := 1) rfl)) (fun _ h9 => h9) rfl (by decide +kernel) (rfl) rfl (Nat.le_of_ble_eq_true rfl) dX5_fails_2 (fun H locs hP hD hS => ?_)
    have hP : va_P (dC, dI) vwCl ((W_Model cI a (s_Model_thrown S v1))) H := hP
    have hD : va_D A ((W_Model cI a (s_Model_thrown S v1))) := hD
    refine lv_iconst (v := (0 : Int32)) hx hb dX5_fails_5 (by decide) ?_
    have e50 := Option.some.inj hF
    obtain ⟨e60, e51⟩ := Prod.mk.inj e50
    subst e60
    subst e51
    exact W.iret (v := (0 : Int32)) hx hb hr (fun t ht hW => ⟨⟨(0 : Int32), (s_Model_thrown S v1), rfl, ⟨rfl, rfl⟩, by rw [ht]; exact hP, va_K.moved hW.alike hK, hD⟩, hS.F ht⟩) hS.2.2 dX5_fails_6
  exact KE _ _ hP hD hS
set_option maxHeartbeats 4000000 in
set_option maxRecDepth 100000 in
theorem c_X5_in (l : Launch) (dC : Nat → ClassId) (dI : Nat → Nat → Nat) (cI : ClassId) (sz : Nat)  (v1 : Int32) (v2 : Int32) (v3 : Int32) (rr : Bool) (hF : F_X5_in  v1 v2 v3 = some rr) : Met l yX5_in wsX5_in ({ frames := 0, cells := 0, slots := 0, locals := 0 } : Room) (va_Pc [.int v1, .int v2, .int v3] (jPre (dC, dI) [(cI, .int)] sz (([] : va_W)))) (va_Qi (fun (r' : Int32) (_ : Unit) => b2i rr = r') (fun _ : Unit => jB (dC, dI) [(cI, .int)] (va_A (([] : va_W)) sz) (([] : va_W))) (va_A (([] : va_W)) sz)) 0 0 (va_A (([] : va_W)) sz) := by
  refine Met.ofW (cc := cX5_in) (maxL := 3) (ret := (some .boolean)) (by decide) rfl ?_
  intro p e s m args below meth c s₁ B hml hv
  obtain ⟨rfl, hsz, hP, hK, hD0, hN⟩ := hv
  have hx := B.exec
  have hb := B.bytes
  have hr := B.returns
  have hts := atoms_spec (ws := wsX5_in) B.pre
  have hown : s.vm.findClass RX5 = some m.cls := findClass_of_methodNamed B.named
  have hlocks := B.notSynchronized
  subst hsz
  have hD := hD0.self (sz := s.heap.size)
  generalize hAe : (va_A (([] : va_W)) s.heap.size) = A at hD ⊢
  have hA : ∀ q : Nat, s.heap.size ≤ q → A q := fun q h => by rw [← hAe]; exact Or.inr h
  have hS : va_S A s.heap s.heap [] := va_S.rf
  have hl := lv_entry ([.int v1, .int v2, .int v3]) (n := 3) (Nat.le_of_ble_eq_true rfl)
  rw [lg_entry_eq]
  generalize (lg_sl ([.int v1, .int v2, .int v3]) ++ List.replicate (3 - (lg_sl ([.int v1, .int v2, .int v3])).length) Slot.unset).toArray = ls at hl ⊢
  have hl : lv_has ls 3 [(0, .int v1), (1, .int v2), (2, .int v3)] := hl
  have KE : ∀ (H : Heap) (locs : List Loc), va_P (dC, dI) vwCl (([] : va_W)) H → va_D A (([] : va_W)) → va_S A s.heap H locs → W p l e (headSpec wsX5_in ({ frames := 0, cells := 0, slots := 0, locals := 0 } : Room)).room s m ([.int v1, .int v2, .int v3] : List Value).toArray below meth c H locs 0 0 (MQ below (va_Qi (fun (r' : Int32) (_ : Unit) => b2i rr = r') (fun _ : Unit => jB (dC, dI) [(cI, .int)] A (([] : va_W))) A) ([.int v1, .int v2, .int v3] : List Value).toArray s 0 0 A) (F0 m 0 ls []) := by
    intro H locs hP hD hS
    unfold F_X5_in at hF
    refine lv_iload_n hx hb dX5_in_0 rfl (lv_at hl 0 rfl) ?_
    refine lv_iload_n hx hb dX5_in_1 rfl (lv_at hl 1 rfl) ?_
    refine lv_icmp_lt (tgt := 14) hx hb dX5_in_2 (by decide) (fun c1 => ?_) (fun c1 => ?_)
    · have hF := F_pos c1 hF
      refine lv_iconst (v := (0 : Int32)) hx hb dX5_in_14 (by decide) ?_
      have e50 := Option.some.inj hF
      subst e50
      exact W.zret (v := (0 : Int32)) hx hb hr (rfl) (fun t ht hW => ⟨⟨(0 : Int32), (), rfl, rfl, by rw [ht]; exact hP, va_K.moved hW.alike hK, hD⟩, hS.F ht⟩) hS.2.2 dX5_in_15
    · have hF := F_neg c1 hF
      refine lv_iload_n hx hb dX5_in_5 rfl (lv_at hl 0 rfl) ?_
      refine lv_iload_n hx hb dX5_in_6 rfl (lv_at hl 2 rfl) ?_
      refine lv_icmp_gt (tgt := 14) hx hb dX5_in_7 (by decide) (fun c2 => ?_) (fun c2 => ?_)
      · have hF := F_pos c2 hF
        refine lv_iconst (v := (0 : Int32)) hx hb dX5_in_14 (by decide) ?_
        have e50 := Option.some.inj hF
        subst e50
        exact W.zret (v := (0 : Int32)) hx hb hr (rfl) (fun t ht hW => ⟨⟨(0 : Int32), (), rfl, rfl, by rw [ht]; exact hP, va_K.moved hW.alike hK, hD⟩, hS.F ht⟩) hS.2.2 dX5_in_15
      · have hF := F_neg c2 hF
        refine lv_iconst (v := (1 : Int32)) hx hb dX5_in_10 (by decide) ?_
        refine lv_goto (tgt := 15) hx hb dX5_in_11 (by decide) ?_
        have e50 := Option.some.inj hF
        subst e50
        exact W.zret (v := (1 : Int32)) hx hb hr (rfl) (fun t ht hW => ⟨⟨(1 : Int32), (), rfl, rfl, by rw [ht]; exact hP, va_K.moved hW.alike hK, hD⟩, hS.F ht⟩) hS.2.2 dX5_in_15
  exact KE _ _ hP hD hS
set_option maxHeartbeats 4000000 in
set_option maxRecDepth 100000 in
theorem c_X5_isShape (l : Launch) (dC : Nat → ClassId) (dI : Nat → Nat → Nat) (cI : ClassId) (sz : Nat)  (v1 : Int32) (rr : Bool) (hF : F_X5_isShape  v1 = some rr) : Met l yX5_isShape wsX5_isShape ({ frames := 1, cells := 0, slots := 0, locals := 22 } : Room) (va_Pc [.int v1] (jPre (dC, dI) [(cI, .int)] sz (([] : va_W)))) (va_Qi (fun (r' : Int32) (_ : Unit) => b2i rr = r') (fun _ : Unit => jB (dC, dI) [(cI, .int)] (va_A (([] : va_W)) sz) (([] : va_W))) (va_A (([] : va_W)) sz)) 0 0 (va_A (([] : va_W)) sz) := by
  refine Met.ofW (cc := cX5_isShape) (maxL := 1) (ret := (some .boolean)) (by decide) rfl ?_
  intro p e s m args below meth c s₁ B hml hv
  obtain ⟨rfl, hsz, hP, hK, hD0, hN⟩ := hv
  have hx := B.exec
  have hb := B.bytes
  have hr := B.returns
  have hts := atoms_spec (ws := wsX5_isShape) B.pre
  have hown : s.vm.findClass RX5 = some m.cls := findClass_of_methodNamed B.named
  have hlocks := B.notSynchronized
  subst hsz
  have hD := hD0.self (sz := s.heap.size)
  generalize hAe : (va_A (([] : va_W)) s.heap.size) = A at hD ⊢
  have hA : ∀ q : Nat, s.heap.size ≤ q → A q := fun q h => by rw [← hAe]; exact Or.inr h
  have hS : va_S A s.heap s.heap [] := va_S.rf
  have hl := lv_entry ([.int v1]) (n := 1) (Nat.le_of_ble_eq_true rfl)
  rw [lg_entry_eq]
  generalize (lg_sl ([.int v1]) ++ List.replicate (1 - (lg_sl ([.int v1])).length) Slot.unset).toArray = ls at hl ⊢
  have hl : lv_has ls 1 [(0, .int v1)] := hl
  have KE : ∀ (H : Heap) (locs : List Loc), va_P (dC, dI) vwCl (([] : va_W)) H → va_D A (([] : va_W)) → va_S A s.heap H locs → W p l e (headSpec wsX5_isShape ({ frames := 1, cells := 0, slots := 0, locals := 22 } : Room)).room s m ([.int v1] : List Value).toArray below meth c H locs 0 0 (MQ below (va_Qi (fun (r' : Int32) (_ : Unit) => b2i rr = r') (fun _ : Unit => jB (dC, dI) [(cI, .int)] A (([] : va_W))) A) ([.int v1] : List Value).toArray s 0 0 A) (F0 m 0 ls []) := by
    intro H locs hP hD hS
    unfold F_X5_isShape at hF
    refine lv_iload_n hx hb dX5_isShape_0 rfl (lv_at hl 0 rfl) ?_
    refine lv_iconst (v := (0 : Int32)) hx hb dX5_isShape_1 (by decide) ?_
    refine lv_iconst (v := (1 : Int32)) hx hb dX5_isShape_2 (by decide) ?_
    obtain ⟨r1, h2, hF⟩ := ob1_some hF
    have hPc : va_P (dC, dI) vwCl (([] : va_W)) H := hP
    have hDc : va_D A (([] : va_W)) := hD
    have hFc := va_free (wc := ([] : va_W)) hD hS hA [] rfl
    refine va_calli (va_runS (As := [.int v1, .int (0 : Int32), .int (1 : Int32)]) (rest := []) ⟨hx, hb, hml, hown, hts⟩ (c_X5_in l dC dI cI  H.size _ _ _ _ h2) (va_cwS 3 hts gX5_isShape_X5_in rfl rfl rfl (by decide +kernel) ⟨Nat.le_of_ble_eq_true rfl, Nat.le_of_ble_eq_true rfl⟩) (jPreS hK hPc hDc hN) rfl rfl hl.1 rfl (lv_room (Nat.le_of_ble_eq_true rfl)) dX5_isShape_3 ⟨Nat.le_of_ble_eq_true rfl, Nat.le_of_ble_eq_true rfl⟩) hS (fun q _ h => hFc q h) hFc (fun r' u' t H locs ht hvm hw hB hz1 hk1 hS => ?_)
    subst hw
    obtain ⟨hP1, -, hD1⟩ := hB
    rw [ht] at hP1
    have hP : va_P (dC, dI) vwCl (([] : va_W)) H := hP1
    have hD : va_D A (([] : va_W)) := hD1.weaken (fun _ _ _ h => hFc _ h)
    have e50 := Option.some.inj hF
    subst e50
    exact W.zret (v := (b2i r1)) hx hb hr (nb2i _) (fun t ht hW => ⟨⟨(b2i r1), (), rfl, rfl, by rw [ht]; exact hP, va_K.moved hW.alike hK, hD⟩, hS.F ht⟩) hS.2.2 dX5_isShape_6
  exact KE _ _ hP hD hS
set_option maxHeartbeats 4000000 in
set_option maxRecDepth 100000 in
theorem c_X5_isNode (l : Launch) (dC : Nat → ClassId) (dI : Nat → Nat → Nat) (cI : ClassId) (a : Nat → Nat) (sz : Nat) (S : S_Model) (v1 : Int32) (v2 : Int32) (rr : Bool) (hF : F_X5_isNode S v1 v2 = some rr) : Met l yX5_isNode wsX5_isNode ({ frames := 2, cells := 0, slots := 0, locals := 42 } : Room) (va_Pc [.ref (a 0), .int v1, .int v2] (jPre (dC, dI) [(cI, .int)] sz ((W_Model cI a S)))) (va_Qi (fun (r' : Int32) (_ : Unit) => b2i rr = r') (fun _ : Unit => jB (dC, dI) [(cI, .int)] (va_A ((W_Model cI a S)) sz) ((W_Model cI a S))) (va_A ((W_Model cI a S)) sz)) 0 0 (va_A ((W_Model cI a S)) sz) := by
  refine Met.ofW (cc := cX5_isNode) (maxL := 3) (ret := (some .boolean)) (by decide) rfl ?_
  intro p e s m args below meth c s₁ B hml hv
  obtain ⟨rfl, hsz, hP, hK, hD0, hN⟩ := hv
  have hx := B.exec
  have hb := B.bytes
  have hr := B.returns
  have hts := atoms_spec (ws := wsX5_isNode) B.pre
  have hown : s.vm.findClass RX5 = some m.cls := findClass_of_methodNamed B.named
  have hlocks := B.notSynchronized
  have hinX5 : ∀ w ∈ u_ws RX5 TX5 26, w ∈ wsX5_isNode := by decide +kernel
  subst hsz
  have hD := hD0.self (sz := s.heap.size)
  generalize hAe : (va_A ((W_Model cI a S)) s.heap.size) = A at hD ⊢
  have hA : ∀ q : Nat, s.heap.size ≤ q → A q := fun q h => by rw [← hAe]; exact Or.inr h
  have hS : va_S A s.heap s.heap [] := va_S.rf
  have hl := lv_entry ([.ref (a 0), .int v1, .int v2]) (n := 3) (Nat.le_of_ble_eq_true rfl)
  rw [lg_entry_eq]
  generalize (lg_sl ([.ref (a 0), .int v1, .int v2]) ++ List.replicate (3 - (lg_sl ([.ref (a 0), .int v1, .int v2])).length) Slot.unset).toArray = ls at hl ⊢
  have hl : lv_has ls 3 [(0, .ref (a 0)), (1, .int v1), (2, .int v2)] := hl
  have KE : ∀ (H : Heap) (locs : List Loc), va_P (dC, dI) vwCl ((W_Model cI a S)) H → va_D A ((W_Model cI a S)) → va_S A s.heap H locs → W p l e (headSpec wsX5_isNode ({ frames := 2, cells := 0, slots := 0, locals := 42 } : Room)).room s m ([.ref (a 0), .int v1, .int v2] : List Value).toArray below meth c H locs 0 0 (MQ below (va_Qi (fun (r' : Int32) (_ : Unit) => b2i rr = r') (fun _ : Unit => jB (dC, dI) [(cI, .int)] A ((W_Model cI a S))) A) ([.ref (a 0), .int v1, .int v2] : List Value).toArray s 0 0 A) (F0 m 0 ls []) := by
    intro H locs hP hD hS
    unfold F_X5_isNode at hF
    refine lv_iload_n hx hb dX5_isNode_0 rfl (lv_at hl 1 rfl) ?_
    obtain ⟨r1, h2, hF⟩ := ob1_some hF
    have hPc := hP.sub (ws' := ([] : va_W)) [] rfl
    have hDc := hD.sub (ws' := ([] : va_W)) [] (by decide) rfl
    have hFc := va_free (wc := ([] : va_W)) hD hS hA [] rfl
    refine va_calli (va_runS (As := [.int v1]) (rest := []) ⟨hx, hb, hml, hown, hts⟩ (c_X5_isShape l dC dI cI  H.size _ _ h2) (va_cwS 1 hts gX5_isNode_X5_isShape rfl rfl rfl (by decide +kernel) ⟨Nat.le_of_ble_eq_true rfl, Nat.le_of_ble_eq_true rfl⟩) (jPreS hK hPc hDc hN) rfl rfl hl.1 rfl (lv_room (Nat.le_of_ble_eq_true rfl)) dX5_isNode_1 ⟨Nat.le_of_ble_eq_true rfl, Nat.le_of_ble_eq_true rfl⟩) hS (fun q _ h => hFc q h) hFc (fun r' u' t H locs ht hvm hw hB hz1 hk1 hS => ?_)
    subst hw
    obtain ⟨hP1, -, hD1⟩ := hB
    rw [ht] at hP1
    obtain ⟨hP, hD⟩ := jJoin (wc := ([] : va_W)) (w1 := ([] : va_W)) (ws' := (W_Model cI a S)) hP hD [] [0, 1, 2, 3, 4, 5, 6, 7, 8, 9, 10, 11, 12, 13] [0, 1, 2, 3, 4, 5, 6, 7, 8, 9, 10, 11, 12, 13] rfl rfl (by decide) (by decide) hk1 hFc hP1 hD1 (by decide) rfl
    refine lv_if_eq (tgt := 29) hx hb dX5_isNode_4 (by decide) (fun c3 => ?_) (fun c3 => ?_)
    · have hF := F_pos c3 hF
      refine lv_iconst (v := (0 : Int32)) hx hb dX5_isNode_29 (by decide) ?_
      have e50 := Option.some.inj hF
      subst e50
      exact W.zret (v := (0 : Int32)) hx hb hr (rfl) (fun t ht hW => ⟨⟨(0 : Int32), (), rfl, rfl, by rw [ht]; exact hP, va_K.moved hW.alike hK, hD⟩, hS.F ht⟩) hS.2.2 dX5_isNode_30
    · have hF := F_neg c3 hF
      refine lv_iload_n hx hb dX5_isNode_7 rfl (lv_at hl 2 rfl) ?_
      refine lv_iconst (v := (0 : Int32)) hx hb dX5_isNode_8 (by decide) ?_
      refine lv_aload_n hx hb dX5_isNode_9 rfl (lv_at hl 0 rfl) ?_
      refine va_get (D := (dC, dI)) (ci := 5) (v := .ref (a 1)) (C := RX5) (T := TX5) (N := 26) hx hb hts hinX5 hown hK hP 0 rfl rfl 0 (by decide) (hts (Cond.fieldLink RX5 7 "LearnedShapesModel" "now" "[I") (List.mem_of_getElem? (i := 1) rfl)) (fun _ h9 => h9) rfl dX5_isNode_10 ?_
      refine lv_iconst (v := (3 : Int32)) hx hb dX5_isNode_13 (by decide) ?_
      refine lv_iload_n hx hb dX5_isNode_14 rfl (lv_at hl 1 rfl) ?_
      refine lv_iadd hx hb dX5_isNode_15 ?_
      obtain ⟨g4, hF⟩ := og_some hF
      refine va_iald (f := (g_Model_now S)) hx hb hK hP 1 0 rfl rfl (inb_in g4) dX5_isNode_16 ?_
      refine lv_iconst (v := (1 : Int32)) hx hb dX5_isNode_17 (by decide) ?_
      refine lv_isub hx hb dX5_isNode_18 ?_
      obtain ⟨r5, h6, hF⟩ := ob1_some hF
      have hPc := hP.sub (ws' := ([] : va_W)) [] rfl
      have hDc := hD.sub (ws' := ([] : va_W)) [] (by decide) rfl
      have hFc := va_free (wc := ([] : va_W)) hD hS hA [] rfl
      refine va_calli (va_runS (As := [.int v2, .int (0 : Int32), .int (((g_Model_now S) ((3 : Int32) + v1).toNatClampNeg) - (1 : Int32))]) (rest := []) ⟨hx, hb, hml, hown, hts⟩ (c_X5_in l dC dI cI  H.size _ _ _ _ h6) (va_cwS 3 hts gX5_isNode_X5_in rfl rfl rfl (by decide +kernel) ⟨Nat.le_of_ble_eq_true rfl, Nat.le_of_ble_eq_true rfl⟩) (jPreS hK hPc hDc hN) rfl rfl hl.1 rfl (lv_room (Nat.le_of_ble_eq_true rfl)) dX5_isNode_19 ⟨Nat.le_of_ble_eq_true rfl, Nat.le_of_ble_eq_true rfl⟩) hS (fun q _ h => hFc q h) hFc (fun r' u' t H locs ht hvm hw hB hz1 hk1 hS => ?_)
      subst hw
      obtain ⟨hP1, -, hD1⟩ := hB
      rw [ht] at hP1
      obtain ⟨hP, hD⟩ := jJoin (wc := ([] : va_W)) (w1 := ([] : va_W)) (ws' := (W_Model cI a S)) hP hD [] [0, 1, 2, 3, 4, 5, 6, 7, 8, 9, 10, 11, 12, 13] [0, 1, 2, 3, 4, 5, 6, 7, 8, 9, 10, 11, 12, 13] rfl rfl (by decide) (by decide) hk1 hFc hP1 hD1 (by decide) rfl
      refine lv_if_eq (tgt := 29) hx hb dX5_isNode_22 (by decide) (fun c7 => ?_) (fun c7 => ?_)
      · have hF := F_pos c7 hF
        refine lv_iconst (v := (0 : Int32)) hx hb dX5_isNode_29 (by decide) ?_
        have e50 := Option.some.inj hF
        subst e50
        exact W.zret (v := (0 : Int32)) hx hb hr (rfl) (fun t ht hW => ⟨⟨(0 : Int32), (), rfl, rfl, by rw [ht]; exact hP, va_K.moved hW.alike hK, hD⟩, hS.F ht⟩) hS.2.2 dX5_isNode_30
      · have hF := F_neg c7 hF
        refine lv_iconst (v := (1 : Int32)) hx hb dX5_isNode_25 (by decide) ?_
        refine lv_goto (tgt := 30) hx hb dX5_isNode_26 (by decide) ?_
        have e50 := Option.some.inj hF
        subst e50
        exact W.zret (v := (1 : Int32)) hx hb hr (rfl) (fun t ht hW => ⟨⟨(1 : Int32), (), rfl, rfl, by rw [ht]; exact hP, va_K.moved hW.alike hK, hD⟩, hS.F ht⟩) hS.2.2 dX5_isNode_30
  exact KE _ _ hP hD hS
set_option maxHeartbeats 4000000 in
set_option maxRecDepth 100000 in
theorem c_X5_of (l : Launch) (dC : Nat → ClassId) (dI : Nat → Nat → Nat) (cI : ClassId) (a : Nat → Nat) (sz : Nat) (S : S_Model) (v1 : Int32) (v2 : Int32) (v3 : Int32) (rr : Int32) (hF : F_X5_of S v1 v2 v3 = some rr) : Met l yX5_of wsX5_of ({ frames := 0, cells := 0, slots := 0, locals := 0 } : Room) (va_Pc [.ref (a 0), .int v1, .int v2, .int v3] (jPre (dC, dI) [(cI, .int)] sz ((W_Model cI a S)))) (va_Qi (fun (r' : Int32) (_ : Unit) => rr = r') (fun _ : Unit => jB (dC, dI) [(cI, .int)] (va_A ((W_Model cI a S)) sz) ((W_Model cI a S))) (va_A ((W_Model cI a S)) sz)) 0 0 (va_A ((W_Model cI a S)) sz) := by
  refine Met.ofW (cc := cX5_of) (maxL := 4) (ret := (some .int)) (by decide) rfl ?_
  intro p e s m args below meth c s₁ B hml hv
  obtain ⟨rfl, hsz, hP, hK, hD0, hN⟩ := hv
  have hx := B.exec
  have hb := B.bytes
  have hr := B.returns
  have hts := atoms_spec (ws := wsX5_of) B.pre
  have hown : s.vm.findClass RX5 = some m.cls := findClass_of_methodNamed B.named
  have hlocks := B.notSynchronized
  have hinX5 : ∀ w ∈ u_ws RX5 TX5 26, w ∈ wsX5_of := by decide +kernel
  subst hsz
  have hD := hD0.self (sz := s.heap.size)
  generalize hAe : (va_A ((W_Model cI a S)) s.heap.size) = A at hD ⊢
  have hA : ∀ q : Nat, s.heap.size ≤ q → A q := fun q h => by rw [← hAe]; exact Or.inr h
  have hS : va_S A s.heap s.heap [] := va_S.rf
  have hl := lv_entry ([.ref (a 0), .int v1, .int v2, .int v3]) (n := 4) (Nat.le_of_ble_eq_true rfl)
  rw [lg_entry_eq]
  generalize (lg_sl ([.ref (a 0), .int v1, .int v2, .int v3]) ++ List.replicate (4 - (lg_sl ([.ref (a 0), .int v1, .int v2, .int v3])).length) Slot.unset).toArray = ls at hl ⊢
  have hl : lv_has ls 4 [(0, .ref (a 0)), (1, .int v1), (2, .int v2), (3, .int v3)] := hl
  have KE : ∀ (H : Heap) (locs : List Loc), va_P (dC, dI) vwCl ((W_Model cI a S)) H → va_D A ((W_Model cI a S)) → va_S A s.heap H locs → W p l e (headSpec wsX5_of ({ frames := 0, cells := 0, slots := 0, locals := 0 } : Room)).room s m ([.ref (a 0), .int v1, .int v2, .int v3] : List Value).toArray below meth c H locs 0 0 (MQ below (va_Qi (fun (r' : Int32) (_ : Unit) => rr = r') (fun _ : Unit => jB (dC, dI) [(cI, .int)] A ((W_Model cI a S))) A) ([.ref (a 0), .int v1, .int v2, .int v3] : List Value).toArray s 0 0 A) (F0 m 0 ls []) := by
    intro H locs hP hD hS
    unfold F_X5_of at hF
    refine lv_aload_n hx hb dX5_of_0 rfl (lv_at hl 0 rfl) ?_
    refine va_get (D := (dC, dI)) (ci := 5) (v := .ref (a 1)) (C := RX5) (T := TX5) (N := 26) hx hb hts hinX5 hown hK hP 0 rfl rfl 0 (by decide) (hts (Cond.fieldLink RX5 7 "LearnedShapesModel" "now" "[I") (List.mem_of_getElem? (i := 1) rfl)) (fun _ h9 => h9) rfl dX5_of_1 ?_
    refine lv_iconst (v := (5 : Int32)) hx hb dX5_of_4 (by decide) ?_
    refine lv_sipush (v := (210 : Int32)) hx hb dX5_of_5 (by decide) ?_
    refine lv_iload_n hx hb dX5_of_8 rfl (lv_at hl 1 rfl) ?_
    refine lv_imul hx hb dX5_of_9 ?_
    refine lv_iadd hx hb dX5_of_10 ?_
    refine lv_bipush (v := (7 : Int32)) hx hb dX5_of_11 (by decide) ?_
    refine lv_iload_n hx hb dX5_of_13 rfl (lv_at hl 2 rfl) ?_
    refine lv_imul hx hb dX5_of_14 ?_
    refine lv_iadd hx hb dX5_of_15 ?_
    refine lv_iload_n hx hb dX5_of_16 rfl (lv_at hl 3 rfl) ?_
    refine lv_iadd hx hb dX5_of_17 ?_
    obtain ⟨g1, hF⟩ := og_some hF
    refine va_iald (f := (g_Model_now S)) hx hb hK hP 1 0 rfl rfl (inb_in g1) dX5_of_18 ?_
    have e50 := Option.some.inj hF
    subst e50
    exact W.iret (v := ((g_Model_now S) ((((5 : Int32) + ((210 : Int32) * v1)) + ((7 : Int32) * v2)) + v3).toNatClampNeg)) hx hb hr (fun t ht hW => ⟨⟨((g_Model_now S) ((((5 : Int32) + ((210 : Int32) * v1)) + ((7 : Int32) * v2)) + v3).toNatClampNeg), (), rfl, rfl, by rw [ht]; exact hP, va_K.moved hW.alike hK, hD⟩, hS.F ht⟩) hS.2.2 dX5_of_19
  exact KE _ _ hP hD hS
set_option maxHeartbeats 4000000 in
set_option maxRecDepth 100000 in
theorem c_X5_saves (l : Launch) (dC : Nat → ClassId) (dI : Nat → Nat → Nat) (cI : ClassId) (a : Nat → Nat) (sz : Nat) (S : S_Model)  (Y : S_Model) (hF : F_X5_saves S  = some Y) : Met l yX5_saves wsX5_saves ({ frames := 0, cells := 0, slots := 0, locals := 0 } : Room) (va_Pc [.ref (a 0)] (jPre (dC, dI) [(cI, .int)] sz ((W_Model cI a S)))) (va_Qv (fun u : S_Model => Y = u) (fun u : S_Model => jB (dC, dI) [(cI, .int)] (va_A ((W_Model cI a S)) sz) ((W_Model cI a u))) (va_A ((W_Model cI a S)) sz)) 0 0 (va_A ((W_Model cI a S)) sz) := by
  refine Met.ofW (cc := cX5_saves) (maxL := 2) (ret := none) (by decide) rfl ?_
  intro p e s m args below meth c s₁ B hml hv
  obtain ⟨rfl, hsz, hP, hK, hD0, hN⟩ := hv
  have hx := B.exec
  have hb := B.bytes
  have hr := B.returns
  have hts := atoms_spec (ws := wsX5_saves) B.pre
  have hown : s.vm.findClass RX5 = some m.cls := findClass_of_methodNamed B.named
  have hlocks := B.notSynchronized
  have hinX5 : ∀ w ∈ u_ws RX5 TX5 26, w ∈ wsX5_saves := by decide +kernel
  subst hsz
  have hD := hD0.self (sz := s.heap.size)
  generalize hAe : (va_A ((W_Model cI a S)) s.heap.size) = A at hD ⊢
  have hA : ∀ q : Nat, s.heap.size ≤ q → A q := fun q h => by rw [← hAe]; exact Or.inr h
  have hS : va_S A s.heap s.heap [] := va_S.rf
  have hl := lv_entry ([.ref (a 0)]) (n := 2) (Nat.le_of_ble_eq_true rfl)
  rw [lg_entry_eq]
  generalize (lg_sl ([.ref (a 0)]) ++ List.replicate (2 - (lg_sl ([.ref (a 0)])).length) Slot.unset).toArray = ls at hl ⊢
  have hl : lv_has ls 2 [(0, .ref (a 0))] := hl
  have K52 : ∀ (n52 : Nat) (S : S_Model) (x1 : Int32) (H : Heap) (locs : List Loc), F_X5_saves_52 n52 S x1 = some Y → va_P (dC, dI) vwCl ((W_Model cI a S)) H → va_D A ((W_Model cI a S)) → va_S A s.heap H locs → ∀ ls : Array Slot, lv_has ls 2 [(0, .ref (a 0)), (1, .int x1)] → W p l e (headSpec wsX5_saves ({ frames := 0, cells := 0, slots := 0, locals := 0 } : Room)).room s m ([.ref (a 0)] : List Value).toArray below meth c H locs 0 0 (MQ below (va_Qv (fun u : S_Model => Y = u) (fun u : S_Model => jB (dC, dI) [(cI, .int)] A ((W_Model cI a u))) A) ([.ref (a 0)] : List Value).toArray s 0 0 A) (F0 m 52 ls []) := by
    intro n52
    induction n52 with
    | zero => intro S x1 H locs hF; exact nomatch hF
    | succ n52 ih52 =>
      intro S x1 H locs hF hP hD hS ls hl
      rw [F_X5_saves_52_s] at hF
      refine lv_iload_n hx hb dX5_saves_52 rfl (lv_at hl 1 rfl) ?_
      refine lv_sipush (v := (425 : Int32)) hx hb dX5_saves_53 (by decide) ?_
      refine lv_icmp_ge (tgt := 86) hx hb dX5_saves_56 (by decide) (fun c1 => ?_) (fun c1 => ?_)
      · have hF := F_pos c1 hF
        refine lv_aload_n hx hb dX5_saves_86 rfl (lv_at hl 0 rfl) ?_
        refine lv_dup hx hb dX5_saves_87 rfl ?_
        refine va_get (D := (dC, dI)) (ci := 5) (v := .int (g_Model_kept S)) (C := RX5) (T := TX5) (N := 26) hx hb hts hinX5 hown hK hP 0 rfl rfl 2 (by decide) (hts (Cond.fieldLink RX5 61 "LearnedShapesModel" "kept" "I") (List.mem_of_getElem? (i := 1) rfl)) (fun _ h9 => h9) rfl dX5_saves_88 ?_
        refine lv_iconst (v := (1 : Int32)) hx hb dX5_saves_91 (by decide) ?_
        refine lv_iadd hx hb dX5_saves_92 ?_
        refine va_put (D := (dC, dI)) (ci := 5) (v := .int ((g_Model_kept S) + (1 : Int32))) (ty := .int) (C := RX5) (T := TX5) (N := 26) hx hb hts hinX5 tyX5 tyX5_ok nmX5 hown hK hP hD hS 0 rfl rfl 2 (by decide) (hts (Cond.fieldLink RX5 61 "LearnedShapesModel" "kept" "I") (List.mem_of_getElem? (i := 1) rfl)) (fun _ h9 => h9) rfl (by decide +kernel) (rfl) rfl (Nat.le_of_ble_eq_true rfl) dX5_saves_93 (fun H locs hP hD hS => ?_)
        have hP : va_P (dC, dI) vwCl ((W_Model cI a (s_Model_kept S ((g_Model_kept S) + (1 : Int32))))) H := hP
        have hD : va_D A ((W_Model cI a (s_Model_kept S ((g_Model_kept S) + (1 : Int32))))) := hD
        have e50 := Option.some.inj hF
        subst e50
        exact W.vret hx hb hr (fun t ht hW => ⟨⟨(s_Model_kept S ((g_Model_kept S) + (1 : Int32))), rfl, rfl, by rw [ht]; exact hP, va_K.moved hW.alike hK, hD⟩, hS.F ht⟩) hS.2.2 dX5_saves_96
      · have hF := F_neg c1 hF
        refine lv_aload_n hx hb dX5_saves_59 rfl (lv_at hl 0 rfl) ?_
        refine va_get (D := (dC, dI)) (ci := 5) (v := .ref (a 2)) (C := RX5) (T := TX5) (N := 26) hx hb hts hinX5 hown hK hP 0 rfl rfl 1 (by decide) (hts (Cond.fieldLink RX5 13 "LearnedShapesModel" "past" "[I") (List.mem_of_getElem? (i := 2) rfl)) (fun _ h9 => h9) rfl dX5_saves_60 ?_
        refine lv_sipush (v := (425 : Int32)) hx hb dX5_saves_63 (by decide) ?_
        refine lv_aload_n hx hb dX5_saves_66 rfl (lv_at hl 0 rfl) ?_
        refine va_get (D := (dC, dI)) (ci := 5) (v := .int (g_Model_kept S)) (C := RX5) (T := TX5) (N := 26) hx hb hts hinX5 hown hK hP 0 rfl rfl 2 (by decide) (hts (Cond.fieldLink RX5 61 "LearnedShapesModel" "kept" "I") (List.mem_of_getElem? (i := 1) rfl)) (fun _ h9 => h9) rfl dX5_saves_67 ?_
        refine lv_imul hx hb dX5_saves_70 ?_
        refine lv_iload_n hx hb dX5_saves_71 rfl (lv_at hl 1 rfl) ?_
        refine lv_iadd hx hb dX5_saves_72 ?_
        refine lv_aload_n hx hb dX5_saves_73 rfl (lv_at hl 0 rfl) ?_
        refine va_get (D := (dC, dI)) (ci := 5) (v := .ref (a 1)) (C := RX5) (T := TX5) (N := 26) hx hb hts hinX5 hown hK hP 0 rfl rfl 0 (by decide) (hts (Cond.fieldLink RX5 7 "LearnedShapesModel" "now" "[I") (List.mem_of_getElem? (i := 3) rfl)) (fun _ h9 => h9) rfl dX5_saves_74 ?_
        refine lv_iload_n hx hb dX5_saves_77 rfl (lv_at hl 1 rfl) ?_
        obtain ⟨g2, hF⟩ := og_some hF
        refine va_iald (f := (g_Model_now S)) hx hb hK hP 1 0 rfl rfl (inb_in g2) dX5_saves_78 ?_
        obtain ⟨g3, hF⟩ := og_some hF
        refine va_iast (f := (g_Model_past S)) hx hb hK hP hD hS 2 0 rfl rfl (inb_in g3) dX5_saves_79 (fun H locs hP hD hS => ?_)
        have hP : va_P (dC, dI) vwCl ((W_Model cI a (s_Model_past S (upd (g_Model_past S) (((425 : Int32) * (g_Model_kept S)) + x1).toNatClampNeg ((g_Model_now S) x1.toNatClampNeg))))) H := hP
        have hD : va_D A ((W_Model cI a (s_Model_past S (upd (g_Model_past S) (((425 : Int32) * (g_Model_kept S)) + x1).toNatClampNeg ((g_Model_now S) x1.toNatClampNeg))))) := hD
        refine lv_iinc (v := (x1 + (1 : Int32))) (lv' := [(1, .int (x1 + (1 : Int32))), (0, .ref (a 0))]) hx hb dX5_saves_80 hl (k := 1) rfl rfl (by decide) rfl (fun ls hl => ?_)
        refine lv_goto (tgt := 52) hx hb dX5_saves_83 (by decide) ?_
        exact ih52 _ _ _ _ hF hP hD hS _ (lv_sub hl [1, 0] rfl)
  have K11 : ∀ (n11 : Nat) (S : S_Model) (x1 : Int32) (H : Heap) (locs : List Loc), F_X5_saves_11 n11 S x1 = some Y → va_P (dC, dI) vwCl ((W_Model cI a S)) H → va_D A ((W_Model cI a S)) → va_S A s.heap H locs → ∀ ls : Array Slot, lv_has ls 2 [(0, .ref (a 0)), (1, .int x1)] → W p l e (headSpec wsX5_saves ({ frames := 0, cells := 0, slots := 0, locals := 0 } : Room)).room s m ([.ref (a 0)] : List Value).toArray below meth c H locs 0 0 (MQ below (va_Qv (fun u : S_Model => Y = u) (fun u : S_Model => jB (dC, dI) [(cI, .int)] A ((W_Model cI a u))) A) ([.ref (a 0)] : List Value).toArray s 0 0 A) (F0 m 11 ls []) := by
    intro n11
    induction n11 with
    | zero => intro S x1 H locs hF; exact nomatch hF
    | succ n11 ih11 =>
      intro S x1 H locs hF hP hD hS ls hl
      rw [F_X5_saves_11_s] at hF
      refine lv_iload_n hx hb dX5_saves_11 rfl (lv_at hl 1 rfl) ?_
      refine lv_sipush (v := (2125 : Int32)) hx hb dX5_saves_12 (by decide) ?_
      refine lv_icmp_ge (tgt := 40) hx hb dX5_saves_15 (by decide) (fun c4 => ?_) (fun c4 => ?_)
      · have hF := F_pos c4 hF
        refine lv_aload_n hx hb dX5_saves_40 rfl (lv_at hl 0 rfl) ?_
        refine lv_dup hx hb dX5_saves_41 rfl ?_
        refine va_get (D := (dC, dI)) (ci := 5) (v := .int (g_Model_kept S)) (C := RX5) (T := TX5) (N := 26) hx hb hts hinX5 hown hK hP 0 rfl rfl 2 (by decide) (hts (Cond.fieldLink RX5 61 "LearnedShapesModel" "kept" "I") (List.mem_of_getElem? (i := 1) rfl)) (fun _ h9 => h9) rfl dX5_saves_42 ?_
        refine lv_iconst (v := (1 : Int32)) hx hb dX5_saves_45 (by decide) ?_
        refine lv_isub hx hb dX5_saves_46 ?_
        refine va_put (D := (dC, dI)) (ci := 5) (v := .int ((g_Model_kept S) - (1 : Int32))) (ty := .int) (C := RX5) (T := TX5) (N := 26) hx hb hts hinX5 tyX5 tyX5_ok nmX5 hown hK hP hD hS 0 rfl rfl 2 (by decide) (hts (Cond.fieldLink RX5 61 "LearnedShapesModel" "kept" "I") (List.mem_of_getElem? (i := 1) rfl)) (fun _ h9 => h9) rfl (by decide +kernel) (rfl) rfl (Nat.le_of_ble_eq_true rfl) dX5_saves_47 (fun H locs hP hD hS => ?_)
        have hP : va_P (dC, dI) vwCl ((W_Model cI a (s_Model_kept S ((g_Model_kept S) - (1 : Int32))))) H := hP
        have hD : va_D A ((W_Model cI a (s_Model_kept S ((g_Model_kept S) - (1 : Int32))))) := hD
        refine lv_iconst (v := (0 : Int32)) hx hb dX5_saves_50 (by decide) ?_
        refine lv_istore_n (lv' := [(1, .int (0 : Int32)), (0, .ref (a 0))]) hx hb dX5_saves_51 rfl hl (by decide) rfl (fun ls hl => ?_)
        exact K52 _ _ _ _ _ hF hP hD hS _ (lv_sub hl [1, 0] rfl)
      · have hF := F_neg c4 hF
        refine lv_aload_n hx hb dX5_saves_18 rfl (lv_at hl 0 rfl) ?_
        refine va_get (D := (dC, dI)) (ci := 5) (v := .ref (a 2)) (C := RX5) (T := TX5) (N := 26) hx hb hts hinX5 hown hK hP 0 rfl rfl 1 (by decide) (hts (Cond.fieldLink RX5 13 "LearnedShapesModel" "past" "[I") (List.mem_of_getElem? (i := 2) rfl)) (fun _ h9 => h9) rfl dX5_saves_19 ?_
        refine lv_iload_n hx hb dX5_saves_22 rfl (lv_at hl 1 rfl) ?_
        refine lv_aload_n hx hb dX5_saves_23 rfl (lv_at hl 0 rfl) ?_
        refine va_get (D := (dC, dI)) (ci := 5) (v := .ref (a 2)) (C := RX5) (T := TX5) (N := 26) hx hb hts hinX5 hown hK hP 0 rfl rfl 1 (by decide) (hts (Cond.fieldLink RX5 13 "LearnedShapesModel" "past" "[I") (List.mem_of_getElem? (i := 2) rfl)) (fun _ h9 => h9) rfl dX5_saves_24 ?_
        refine lv_iload_n hx hb dX5_saves_27 rfl (lv_at hl 1 rfl) ?_
        refine lv_sipush (v := (425 : Int32)) hx hb dX5_saves_28 (by decide) ?_
        refine lv_iadd hx hb dX5_saves_31 ?_
        obtain ⟨g5, hF⟩ := og_some hF
        refine va_iald (f := (g_Model_past S)) hx hb hK hP 2 0 rfl rfl (inb_in g5) dX5_saves_32 ?_
        obtain ⟨g6, hF⟩ := og_some hF
        refine va_iast (f := (g_Model_past S)) hx hb hK hP hD hS 2 0 rfl rfl (inb_in g6) dX5_saves_33 (fun H locs hP hD hS => ?_)
        have hP : va_P (dC, dI) vwCl ((W_Model cI a (s_Model_past S (upd (g_Model_past S) x1.toNatClampNeg ((g_Model_past S) (x1 + (425 : Int32)).toNatClampNeg))))) H := hP
        have hD : va_D A ((W_Model cI a (s_Model_past S (upd (g_Model_past S) x1.toNatClampNeg ((g_Model_past S) (x1 + (425 : Int32)).toNatClampNeg))))) := hD
        refine lv_iinc (v := (x1 + (1 : Int32))) (lv' := [(1, .int (x1 + (1 : Int32))), (0, .ref (a 0))]) hx hb dX5_saves_34 hl (k := 1) rfl rfl (by decide) rfl (fun ls hl => ?_)
        refine lv_goto (tgt := 11) hx hb dX5_saves_37 (by decide) ?_
        exact ih11 _ _ _ _ hF hP hD hS _ (lv_sub hl [1, 0] rfl)
  have KE : ∀ (H : Heap) (locs : List Loc), va_P (dC, dI) vwCl ((W_Model cI a S)) H → va_D A ((W_Model cI a S)) → va_S A s.heap H locs → W p l e (headSpec wsX5_saves ({ frames := 0, cells := 0, slots := 0, locals := 0 } : Room)).room s m ([.ref (a 0)] : List Value).toArray below meth c H locs 0 0 (MQ below (va_Qv (fun u : S_Model => Y = u) (fun u : S_Model => jB (dC, dI) [(cI, .int)] A ((W_Model cI a u))) A) ([.ref (a 0)] : List Value).toArray s 0 0 A) (F0 m 0 ls []) := by
    intro H locs hP hD hS
    unfold F_X5_saves at hF
    refine lv_aload_n hx hb dX5_saves_0 rfl (lv_at hl 0 rfl) ?_
    refine va_get (D := (dC, dI)) (ci := 5) (v := .int (g_Model_kept S)) (C := RX5) (T := TX5) (N := 26) hx hb hts hinX5 hown hK hP 0 rfl rfl 2 (by decide) (hts (Cond.fieldLink RX5 61 "LearnedShapesModel" "kept" "I") (List.mem_of_getElem? (i := 1) rfl)) (fun _ h9 => h9) rfl dX5_saves_1 ?_
    refine lv_bipush (v := (6 : Int32)) hx hb dX5_saves_4 (by decide) ?_
    refine lv_icmp_ne (tgt := 50) hx hb dX5_saves_6 (by decide) (fun c7 => ?_) (fun c7 => ?_)
    · have hF := F_neg c7 hF
      refine lv_iconst (v := (0 : Int32)) hx hb dX5_saves_50 (by decide) ?_
      refine lv_istore_n (lv' := [(1, .int (0 : Int32)), (0, .ref (a 0))]) hx hb dX5_saves_51 rfl hl (by decide) rfl (fun ls hl => ?_)
      exact K52 _ _ _ _ _ hF hP hD hS _ (lv_sub hl [1, 0] rfl)
    · have hF := F_pos c7 hF
      refine lv_iconst (v := (0 : Int32)) hx hb dX5_saves_9 (by decide) ?_
      refine lv_istore_n (lv' := [(1, .int (0 : Int32)), (0, .ref (a 0))]) hx hb dX5_saves_10 rfl hl (by decide) rfl (fun ls hl => ?_)
      exact K11 _ _ _ _ _ hF hP hD hS _ (lv_sub hl [1, 0] rfl)
  exact KE _ _ hP hD hS
set_option maxHeartbeats 4000000 in
set_option maxRecDepth 100000 in
theorem c_X5_undo (l : Launch) (dC : Nat → ClassId) (dI : Nat → Nat → Nat) (cI : ClassId) (a : Nat → Nat) (sz : Nat) (S : S_Model)  (rr : Int32) (Y : S_Model) (hF : F_X5_undo S  = some (rr, Y)) : Met l yX5_undo wsX5_undo ({ frames := 1, cells := 0, slots := 0, locals := 21 } : Room) (va_Pc [.ref (a 0)] (jPre (dC, dI) [(cI, .int)] sz ((W_Model cI a S)))) (va_Qi (fun (r' : Int32) (u : S_Model) => rr = r' ∧ Y = u) (fun u : S_Model => jB (dC, dI) [(cI, .int)] (va_A ((W_Model cI a S)) sz) ((W_Model cI a u))) (va_A ((W_Model cI a S)) sz)) 0 0 (va_A ((W_Model cI a S)) sz) := by
  refine Met.ofW (cc := cX5_undo) (maxL := 2) (ret := (some .int)) (by decide) rfl ?_
  intro p e s m args below meth c s₁ B hml hv
  obtain ⟨rfl, hsz, hP, hK, hD0, hN⟩ := hv
  have hx := B.exec
  have hb := B.bytes
  have hr := B.returns
  have hts := atoms_spec (ws := wsX5_undo) B.pre
  have hown : s.vm.findClass RX5 = some m.cls := findClass_of_methodNamed B.named
  have hlocks := B.notSynchronized
  have hinX5 : ∀ w ∈ u_ws RX5 TX5 26, w ∈ wsX5_undo := by decide +kernel
  subst hsz
  have hD := hD0.self (sz := s.heap.size)
  generalize hAe : (va_A ((W_Model cI a S)) s.heap.size) = A at hD ⊢
  have hA : ∀ q : Nat, s.heap.size ≤ q → A q := fun q h => by rw [← hAe]; exact Or.inr h
  have hS : va_S A s.heap s.heap [] := va_S.rf
  have hl := lv_entry ([.ref (a 0)]) (n := 2) (Nat.le_of_ble_eq_true rfl)
  rw [lg_entry_eq]
  generalize (lg_sl ([.ref (a 0)]) ++ List.replicate (2 - (lg_sl ([.ref (a 0)])).length) Slot.unset).toArray = ls at hl ⊢
  have hl : lv_has ls 2 [(0, .ref (a 0))] := hl
  have K30 : ∀ (n30 : Nat) (S : S_Model) (x1 : Int32) (H : Heap) (locs : List Loc), F_X5_undo_30 n30 S x1 = some (rr, Y) → va_P (dC, dI) vwCl ((W_Model cI a S)) H → va_D A ((W_Model cI a S)) → va_S A s.heap H locs → ∀ ls : Array Slot, lv_has ls 2 [(0, .ref (a 0)), (1, .int x1)] → W p l e (headSpec wsX5_undo ({ frames := 1, cells := 0, slots := 0, locals := 21 } : Room)).room s m ([.ref (a 0)] : List Value).toArray below meth c H locs 0 0 (MQ below (va_Qi (fun (r' : Int32) (u : S_Model) => rr = r' ∧ Y = u) (fun u : S_Model => jB (dC, dI) [(cI, .int)] A ((W_Model cI a u))) A) ([.ref (a 0)] : List Value).toArray s 0 0 A) (F0 m 30 ls []) := by
    intro n30
    induction n30 with
    | zero => intro S x1 H locs hF; exact nomatch hF
    | succ n30 ih30 =>
      intro S x1 H locs hF hP hD hS ls hl
      rw [F_X5_undo_30_s] at hF
      refine lv_iload_n hx hb dX5_undo_30 rfl (lv_at hl 1 rfl) ?_
      refine lv_sipush (v := (425 : Int32)) hx hb dX5_undo_31 (by decide) ?_
      refine lv_icmp_ge (tgt := 64) hx hb dX5_undo_34 (by decide) (fun c1 => ?_) (fun c1 => ?_)
      · have hF := F_pos c1 hF
        refine lv_aload_n hx hb dX5_undo_64 rfl (lv_at hl 0 rfl) ?_
        refine va_get (D := (dC, dI)) (ci := 5) (v := .int (g_Model_kept S)) (C := RX5) (T := TX5) (N := 26) hx hb hts hinX5 hown hK hP 0 rfl rfl 2 (by decide) (hts (Cond.fieldLink RX5 61 "LearnedShapesModel" "kept" "I") (List.mem_of_getElem? (i := 2) rfl)) (fun _ h9 => h9) rfl dX5_undo_65 ?_
        have e50 := Option.some.inj hF
        obtain ⟨e60, e51⟩ := Prod.mk.inj e50
        subst e60
        subst e51
        exact W.iret (v := (g_Model_kept S)) hx hb hr (fun t ht hW => ⟨⟨(g_Model_kept S), S, rfl, ⟨rfl, rfl⟩, by rw [ht]; exact hP, va_K.moved hW.alike hK, hD⟩, hS.F ht⟩) hS.2.2 dX5_undo_68
      · have hF := F_neg c1 hF
        refine lv_aload_n hx hb dX5_undo_37 rfl (lv_at hl 0 rfl) ?_
        refine va_get (D := (dC, dI)) (ci := 5) (v := .ref (a 1)) (C := RX5) (T := TX5) (N := 26) hx hb hts hinX5 hown hK hP 0 rfl rfl 0 (by decide) (hts (Cond.fieldLink RX5 7 "LearnedShapesModel" "now" "[I") (List.mem_of_getElem? (i := 3) rfl)) (fun _ h9 => h9) rfl dX5_undo_38 ?_
        refine lv_iload_n hx hb dX5_undo_41 rfl (lv_at hl 1 rfl) ?_
        refine lv_aload_n hx hb dX5_undo_42 rfl (lv_at hl 0 rfl) ?_
        refine va_get (D := (dC, dI)) (ci := 5) (v := .ref (a 2)) (C := RX5) (T := TX5) (N := 26) hx hb hts hinX5 hown hK hP 0 rfl rfl 1 (by decide) (hts (Cond.fieldLink RX5 13 "LearnedShapesModel" "past" "[I") (List.mem_of_getElem? (i := 4) rfl)) (fun _ h9 => h9) rfl dX5_undo_43 ?_
        refine lv_sipush (v := (425 : Int32)) hx hb dX5_undo_46 (by decide) ?_
        refine lv_aload_n hx hb dX5_undo_49 rfl (lv_at hl 0 rfl) ?_
        refine va_get (D := (dC, dI)) (ci := 5) (v := .int (g_Model_kept S)) (C := RX5) (T := TX5) (N := 26) hx hb hts hinX5 hown hK hP 0 rfl rfl 2 (by decide) (hts (Cond.fieldLink RX5 61 "LearnedShapesModel" "kept" "I") (List.mem_of_getElem? (i := 2) rfl)) (fun _ h9 => h9) rfl dX5_undo_50 ?_
        refine lv_imul hx hb dX5_undo_53 ?_
        refine lv_iload_n hx hb dX5_undo_54 rfl (lv_at hl 1 rfl) ?_
        refine lv_iadd hx hb dX5_undo_55 ?_
        obtain ⟨g2, hF⟩ := og_some hF
        refine va_iald (f := (g_Model_past S)) hx hb hK hP 2 0 rfl rfl (inb_in g2) dX5_undo_56 ?_
        obtain ⟨g3, hF⟩ := og_some hF
        refine va_iast (f := (g_Model_now S)) hx hb hK hP hD hS 1 0 rfl rfl (inb_in g3) dX5_undo_57 (fun H locs hP hD hS => ?_)
        have hP : va_P (dC, dI) vwCl ((W_Model cI a (s_Model_now S (upd (g_Model_now S) x1.toNatClampNeg ((g_Model_past S) (((425 : Int32) * (g_Model_kept S)) + x1).toNatClampNeg))))) H := hP
        have hD : va_D A ((W_Model cI a (s_Model_now S (upd (g_Model_now S) x1.toNatClampNeg ((g_Model_past S) (((425 : Int32) * (g_Model_kept S)) + x1).toNatClampNeg))))) := hD
        refine lv_iinc (v := (x1 + (1 : Int32))) (lv' := [(1, .int (x1 + (1 : Int32))), (0, .ref (a 0))]) hx hb dX5_undo_58 hl (k := 1) rfl rfl (by decide) rfl (fun ls hl => ?_)
        refine lv_goto (tgt := 30) hx hb dX5_undo_61 (by decide) ?_
        exact ih30 _ _ _ _ hF hP hD hS _ (lv_sub hl [1, 0] rfl)
  have KE : ∀ (H : Heap) (locs : List Loc), va_P (dC, dI) vwCl ((W_Model cI a S)) H → va_D A ((W_Model cI a S)) → va_S A s.heap H locs → W p l e (headSpec wsX5_undo ({ frames := 1, cells := 0, slots := 0, locals := 21 } : Room)).room s m ([.ref (a 0)] : List Value).toArray below meth c H locs 0 0 (MQ below (va_Qi (fun (r' : Int32) (u : S_Model) => rr = r' ∧ Y = u) (fun u : S_Model => jB (dC, dI) [(cI, .int)] A ((W_Model cI a u))) A) ([.ref (a 0)] : List Value).toArray s 0 0 A) (F0 m 0 ls []) := by
    intro H locs hP hD hS
    unfold F_X5_undo at hF
    refine lv_aload_n hx hb dX5_undo_0 rfl (lv_at hl 0 rfl) ?_
    refine lv_iconst (v := (0 : Int32)) hx hb dX5_undo_1 (by decide) ?_
    refine va_put (D := (dC, dI)) (ci := 5) (v := .int (0 : Int32)) (ty := .int) (C := RX5) (T := TX5) (N := 26) hx hb hts hinX5 tyX5 tyX5_ok nmX5 hown hK hP hD hS 0 rfl rfl 5 (by decide) (hts (Cond.fieldLink RX5 49 "LearnedShapesModel" "thrown" "I") (List.mem_of_getElem? (i := 1) rfl)) (fun _ h9 => h9) rfl (by decide +kernel) (rfl) rfl (Nat.le_of_ble_eq_true rfl) dX5_undo_2 (fun H locs hP hD hS => ?_)
    have hP : va_P (dC, dI) vwCl ((W_Model cI a (s_Model_thrown S (0 : Int32)))) H := hP
    have hD : va_D A ((W_Model cI a (s_Model_thrown S (0 : Int32)))) := hD
    refine lv_aload_n hx hb dX5_undo_5 rfl (lv_at hl 0 rfl) ?_
    refine va_get (D := (dC, dI)) (ci := 5) (v := .int (g_Model_kept S)) (C := RX5) (T := TX5) (N := 26) hx hb hts hinX5 hown hK hP 0 rfl rfl 2 (by decide) (hts (Cond.fieldLink RX5 61 "LearnedShapesModel" "kept" "I") (List.mem_of_getElem? (i := 2) rfl)) (fun _ h9 => h9) rfl dX5_undo_6 ?_
    refine lv_if_ne (tgt := 18) hx hb dX5_undo_9 (by decide) (fun c4 => ?_) (fun c4 => ?_)
    · have hF := F_neg c4 hF
      refine lv_aload_n hx hb dX5_undo_18 rfl (lv_at hl 0 rfl) ?_
      refine lv_dup hx hb dX5_undo_19 rfl ?_
      refine va_get (D := (dC, dI)) (ci := 5) (v := .int (g_Model_kept S)) (C := RX5) (T := TX5) (N := 26) hx hb hts hinX5 hown hK hP 0 rfl rfl 2 (by decide) (hts (Cond.fieldLink RX5 61 "LearnedShapesModel" "kept" "I") (List.mem_of_getElem? (i := 2) rfl)) (fun _ h9 => h9) rfl dX5_undo_20 ?_
      refine lv_iconst (v := (1 : Int32)) hx hb dX5_undo_23 (by decide) ?_
      refine lv_isub hx hb dX5_undo_24 ?_
      refine va_put (D := (dC, dI)) (ci := 5) (v := .int ((g_Model_kept S) - (1 : Int32))) (ty := .int) (C := RX5) (T := TX5) (N := 26) hx hb hts hinX5 tyX5 tyX5_ok nmX5 hown hK hP hD hS 0 rfl rfl 2 (by decide) (hts (Cond.fieldLink RX5 61 "LearnedShapesModel" "kept" "I") (List.mem_of_getElem? (i := 2) rfl)) (fun _ h9 => h9) rfl (by decide +kernel) (rfl) rfl (Nat.le_of_ble_eq_true rfl) dX5_undo_25 (fun H locs hP hD hS => ?_)
      have hP : va_P (dC, dI) vwCl ((W_Model cI a (s_Model_thrown (s_Model_kept S ((g_Model_kept S) - (1 : Int32))) (0 : Int32)))) H := hP
      have hD : va_D A ((W_Model cI a (s_Model_thrown (s_Model_kept S ((g_Model_kept S) - (1 : Int32))) (0 : Int32)))) := hD
      refine lv_iconst (v := (0 : Int32)) hx hb dX5_undo_28 (by decide) ?_
      refine lv_istore_n (lv' := [(1, .int (0 : Int32)), (0, .ref (a 0))]) hx hb dX5_undo_29 rfl hl (by decide) rfl (fun ls hl => ?_)
      exact K30 _ _ _ _ _ hF hP hD hS _ (lv_sub hl [1, 0] rfl)
    · have hF := F_pos c4 hF
      refine lv_aload_n hx hb dX5_undo_12 rfl (lv_at hl 0 rfl) ?_
      refine lv_iconst (v := (1 : Int32)) hx hb dX5_undo_13 (by decide) ?_
      obtain ⟨r5, u6, h7, hF⟩ := ob2_some hF
      have hPc : va_P (dC, dI) vwCl ((W_Model cI a (s_Model_thrown S (0 : Int32)))) H := hP
      have hDc : va_D A ((W_Model cI a (s_Model_thrown S (0 : Int32)))) := hD
      have hFc := va_free (wc := (W_Model cI a (s_Model_thrown S (0 : Int32)))) hD hS hA [0, 1, 2, 3, 4, 5, 6, 7, 8, 9, 10, 11, 12, 13] rfl
      refine va_calli (va_runV (As := [.int (1 : Int32)]) (rest := []) ⟨hx, hb, hml, hown, hts⟩ (c_X5_fails l dC dI cI a H.size _ _ _ _ h7) (cwV 1 hts gX5_undo_X5_fails rfl rfl rfl (by decide +kernel) ⟨Nat.le_of_ble_eq_true rfl, Nat.le_of_ble_eq_true rfl⟩) (jPreV hK hPc hDc hN (ci := 5) rfl rfl) rfl rfl hl.1 rfl (lv_room (Nat.le_of_ble_eq_true rfl)) dX5_undo_14 ⟨Nat.le_of_ble_eq_true rfl, Nat.le_of_ble_eq_true rfl⟩) hS (fun q _ h => hFc q h) hFc (fun r' u' t H locs ht hvm hw hB hz1 hk1 hS => ?_)
      obtain ⟨e1, e2⟩ := hw
      subst e1
      subst e2
      obtain ⟨hP1, -, hD1⟩ := hB
      rw [ht] at hP1
      have hP : va_P (dC, dI) vwCl ((W_Model cI a u6)) H := hP1
      have hD : va_D A ((W_Model cI a u6)) := hD1.weaken (fun _ _ _ h => hFc _ h)
      have e50 := Option.some.inj hF
      obtain ⟨e60, e51⟩ := Prod.mk.inj e50
      subst e60
      subst e51
      exact W.iret (v := r5) hx hb hr (fun t ht hW => ⟨⟨r5, u6, rfl, ⟨rfl, rfl⟩, by rw [ht]; exact hP, va_K.moved hW.alike hK, hD⟩, hS.F ht⟩) hS.2.2 dX5_undo_17
  exact KE _ _ hP hD hS
set_option maxHeartbeats 4000000 in
set_option maxRecDepth 100000 in
theorem c_X5_isAt (l : Launch) (dC : Nat → ClassId) (dI : Nat → Nat → Nat) (cI : ClassId) (a : Nat → Nat) (sz : Nat) (S : S_Model) (v1 : Int32) (v2 : Int32) (rr : Bool) (hF : F_X5_isAt S v1 v2 = some rr) : Met l yX5_isAt wsX5_isAt ({ frames := 1, cells := 0, slots := 0, locals := 22 } : Room) (va_Pc [.ref (a 0), .int v1, .int v2] (jPre (dC, dI) [(cI, .int)] sz ((W_Model cI a S)))) (va_Qi (fun (r' : Int32) (_ : Unit) => b2i rr = r') (fun _ : Unit => jB (dC, dI) [(cI, .int)] (va_A ((W_Model cI a S)) sz) ((W_Model cI a S))) (va_A ((W_Model cI a S)) sz)) 0 0 (va_A ((W_Model cI a S)) sz) := by
  refine Met.ofW (cc := cX5_isAt) (maxL := 3) (ret := (some .boolean)) (by decide) rfl ?_
  intro p e s m args below meth c s₁ B hml hv
  obtain ⟨rfl, hsz, hP, hK, hD0, hN⟩ := hv
  have hx := B.exec
  have hb := B.bytes
  have hr := B.returns
  have hts := atoms_spec (ws := wsX5_isAt) B.pre
  have hown : s.vm.findClass RX5 = some m.cls := findClass_of_methodNamed B.named
  have hlocks := B.notSynchronized
  have hinX5 : ∀ w ∈ u_ws RX5 TX5 26, w ∈ wsX5_isAt := by decide +kernel
  subst hsz
  have hD := hD0.self (sz := s.heap.size)
  generalize hAe : (va_A ((W_Model cI a S)) s.heap.size) = A at hD ⊢
  have hA : ∀ q : Nat, s.heap.size ≤ q → A q := fun q h => by rw [← hAe]; exact Or.inr h
  have hS : va_S A s.heap s.heap [] := va_S.rf
  have hl := lv_entry ([.ref (a 0), .int v1, .int v2]) (n := 3) (Nat.le_of_ble_eq_true rfl)
  rw [lg_entry_eq]
  generalize (lg_sl ([.ref (a 0), .int v1, .int v2]) ++ List.replicate (3 - (lg_sl ([.ref (a 0), .int v1, .int v2])).length) Slot.unset).toArray = ls at hl ⊢
  have hl : lv_has ls 3 [(0, .ref (a 0)), (1, .int v1), (2, .int v2)] := hl
  have KE : ∀ (H : Heap) (locs : List Loc), va_P (dC, dI) vwCl ((W_Model cI a S)) H → va_D A ((W_Model cI a S)) → va_S A s.heap H locs → W p l e (headSpec wsX5_isAt ({ frames := 1, cells := 0, slots := 0, locals := 22 } : Room)).room s m ([.ref (a 0), .int v1, .int v2] : List Value).toArray below meth c H locs 0 0 (MQ below (va_Qi (fun (r' : Int32) (_ : Unit) => b2i rr = r') (fun _ : Unit => jB (dC, dI) [(cI, .int)] A ((W_Model cI a S))) A) ([.ref (a 0), .int v1, .int v2] : List Value).toArray s 0 0 A) (F0 m 0 ls []) := by
    intro H locs hP hD hS
    unfold F_X5_isAt at hF
    refine lv_aload_n hx hb dX5_isAt_0 rfl (lv_at hl 0 rfl) ?_
    refine va_get (D := (dC, dI)) (ci := 5) (v := .int (g_Model_at S)) (C := RX5) (T := TX5) (N := 26) hx hb hts hinX5 hown hK hP 0 rfl rfl 6 (by decide) (hts (Cond.fieldLink RX5 68 "LearnedShapesModel" "at" "I") (List.mem_of_getElem? (i := 1) rfl)) (fun _ h9 => h9) rfl dX5_isAt_1 ?_
    refine lv_aload_n hx hb dX5_isAt_4 rfl (lv_at hl 0 rfl) ?_
    refine va_get (D := (dC, dI)) (ci := 5) (v := .int (g_Model_typed S)) (C := RX5) (T := TX5) (N := 26) hx hb hts hinX5 hown hK hP 0 rfl rfl 4 (by decide) (hts (Cond.fieldLink RX5 71 "LearnedShapesModel" "typed" "I") (List.mem_of_getElem? (i := 2) rfl)) (fun _ h9 => h9) rfl dX5_isAt_5 ?_
    refine lv_icmp_ge (tgt := 32) hx hb dX5_isAt_8 (by decide) (fun c1 => ?_) (fun c1 => ?_)
    · have hF := F_pos c1 hF
      refine lv_iconst (v := (0 : Int32)) hx hb dX5_isAt_32 (by decide) ?_
      have e50 := Option.some.inj hF
      subst e50
      exact W.zret (v := (0 : Int32)) hx hb hr (rfl) (fun t ht hW => ⟨⟨(0 : Int32), (), rfl, rfl, by rw [ht]; exact hP, va_K.moved hW.alike hK, hD⟩, hS.F ht⟩) hS.2.2 dX5_isAt_33
    · have hF := F_neg c1 hF
      refine lv_aload_n hx hb dX5_isAt_11 rfl (lv_at hl 0 rfl) ?_
      refine va_get (D := (dC, dI)) (ci := 5) (v := .ref (a 3)) (C := RX5) (T := TX5) (N := 26) hx hb hts hinX5 hown hK hP 0 rfl rfl 3 (by decide) (hts (Cond.fieldLink RX5 16 "LearnedShapesModel" "text" "[I") (List.mem_of_getElem? (i := 3) rfl)) (fun _ h9 => h9) rfl dX5_isAt_12 ?_
      refine lv_aload_n hx hb dX5_isAt_15 rfl (lv_at hl 0 rfl) ?_
      refine va_get (D := (dC, dI)) (ci := 5) (v := .int (g_Model_at S)) (C := RX5) (T := TX5) (N := 26) hx hb hts hinX5 hown hK hP 0 rfl rfl 6 (by decide) (hts (Cond.fieldLink RX5 68 "LearnedShapesModel" "at" "I") (List.mem_of_getElem? (i := 1) rfl)) (fun _ h9 => h9) rfl dX5_isAt_16 ?_
      obtain ⟨g2, hF⟩ := og_some hF
      refine va_iald (f := (g_Model_text S)) hx hb hK hP 3 0 rfl rfl (inb_in g2) dX5_isAt_19 ?_
      refine lv_iload_n hx hb dX5_isAt_20 rfl (lv_at hl 1 rfl) ?_
      refine lv_iload_n hx hb dX5_isAt_21 rfl (lv_at hl 2 rfl) ?_
      obtain ⟨r3, h4, hF⟩ := ob1_some hF
      have hPc := hP.sub (ws' := ([] : va_W)) [] rfl
      have hDc := hD.sub (ws' := ([] : va_W)) [] (by decide) rfl
      have hFc := va_free (wc := ([] : va_W)) hD hS hA [] rfl
      refine va_calli (va_runS (As := [.int ((g_Model_text S) (g_Model_at S).toNatClampNeg), .int v1, .int v2]) (rest := []) ⟨hx, hb, hml, hown, hts⟩ (c_X5_in l dC dI cI  H.size _ _ _ _ h4) (va_cwS 3 hts gX5_isAt_X5_in rfl rfl rfl (by decide +kernel) ⟨Nat.le_of_ble_eq_true rfl, Nat.le_of_ble_eq_true rfl⟩) (jPreS hK hPc hDc hN) rfl rfl hl.1 rfl (lv_room (Nat.le_of_ble_eq_true rfl)) dX5_isAt_22 ⟨Nat.le_of_ble_eq_true rfl, Nat.le_of_ble_eq_true rfl⟩) hS (fun q _ h => hFc q h) hFc (fun r' u' t H locs ht hvm hw hB hz1 hk1 hS => ?_)
      subst hw
      obtain ⟨hP1, -, hD1⟩ := hB
      rw [ht] at hP1
      obtain ⟨hP, hD⟩ := jJoin (wc := ([] : va_W)) (w1 := ([] : va_W)) (ws' := (W_Model cI a S)) hP hD [] [0, 1, 2, 3, 4, 5, 6, 7, 8, 9, 10, 11, 12, 13] [0, 1, 2, 3, 4, 5, 6, 7, 8, 9, 10, 11, 12, 13] rfl rfl (by decide) (by decide) hk1 hFc hP1 hD1 (by decide) rfl
      refine lv_if_eq (tgt := 32) hx hb dX5_isAt_25 (by decide) (fun c5 => ?_) (fun c5 => ?_)
      · have hF := F_pos c5 hF
        refine lv_iconst (v := (0 : Int32)) hx hb dX5_isAt_32 (by decide) ?_
        have e50 := Option.some.inj hF
        subst e50
        exact W.zret (v := (0 : Int32)) hx hb hr (rfl) (fun t ht hW => ⟨⟨(0 : Int32), (), rfl, rfl, by rw [ht]; exact hP, va_K.moved hW.alike hK, hD⟩, hS.F ht⟩) hS.2.2 dX5_isAt_33
      · have hF := F_neg c5 hF
        refine lv_iconst (v := (1 : Int32)) hx hb dX5_isAt_28 (by decide) ?_
        refine lv_goto (tgt := 33) hx hb dX5_isAt_29 (by decide) ?_
        have e50 := Option.some.inj hF
        subst e50
        exact W.zret (v := (1 : Int32)) hx hb hr (rfl) (fun t ht hW => ⟨⟨(1 : Int32), (), rfl, rfl, by rw [ht]; exact hP, va_K.moved hW.alike hK, hD⟩, hS.F ht⟩) hS.2.2 dX5_isAt_33
  exact KE _ _ hP hD hS
set_option maxHeartbeats 4000000 in
set_option maxRecDepth 100000 in
theorem c_X5_stops (l : Launch) (dC : Nat → ClassId) (dI : Nat → Nat → Nat) (cI : ClassId) (a : Nat → Nat) (sz : Nat) (S : S_Model)  (rr : Bool) (Y : S_Model) (hF : F_X5_stops S  = some (rr, Y)) : Met l yX5_stops wsX5_stops ({ frames := 0, cells := 0, slots := 0, locals := 0 } : Room) (va_Pc [.ref (a 0)] (jPre (dC, dI) [(cI, .int)] sz ((W_Model cI a S)))) (va_Qi (fun (r' : Int32) (u : S_Model) => b2i rr = r' ∧ Y = u) (fun u : S_Model => jB (dC, dI) [(cI, .int)] (va_A ((W_Model cI a S)) sz) ((W_Model cI a u))) (va_A ((W_Model cI a S)) sz)) 0 0 (va_A ((W_Model cI a S)) sz) := by
  refine Met.ofW (cc := cX5_stops) (maxL := 1) (ret := (some .boolean)) (by decide) rfl ?_
  intro p e s m args below meth c s₁ B hml hv
  obtain ⟨rfl, hsz, hP, hK, hD0, hN⟩ := hv
  have hx := B.exec
  have hb := B.bytes
  have hr := B.returns
  have hts := atoms_spec (ws := wsX5_stops) B.pre
  have hown : s.vm.findClass RX5 = some m.cls := findClass_of_methodNamed B.named
  have hlocks := B.notSynchronized
  have hinX5 : ∀ w ∈ u_ws RX5 TX5 26, w ∈ wsX5_stops := by decide +kernel
  subst hsz
  have hD := hD0.self (sz := s.heap.size)
  generalize hAe : (va_A ((W_Model cI a S)) s.heap.size) = A at hD ⊢
  have hA : ∀ q : Nat, s.heap.size ≤ q → A q := fun q h => by rw [← hAe]; exact Or.inr h
  have hS : va_S A s.heap s.heap [] := va_S.rf
  have hl := lv_entry ([.ref (a 0)]) (n := 1) (Nat.le_of_ble_eq_true rfl)
  rw [lg_entry_eq]
  generalize (lg_sl ([.ref (a 0)]) ++ List.replicate (1 - (lg_sl ([.ref (a 0)])).length) Slot.unset).toArray = ls at hl ⊢
  have hl : lv_has ls 1 [(0, .ref (a 0))] := hl
  have KE : ∀ (H : Heap) (locs : List Loc), va_P (dC, dI) vwCl ((W_Model cI a S)) H → va_D A ((W_Model cI a S)) → va_S A s.heap H locs → W p l e (headSpec wsX5_stops ({ frames := 0, cells := 0, slots := 0, locals := 0 } : Room)).room s m ([.ref (a 0)] : List Value).toArray below meth c H locs 0 0 (MQ below (va_Qi (fun (r' : Int32) (u : S_Model) => b2i rr = r' ∧ Y = u) (fun u : S_Model => jB (dC, dI) [(cI, .int)] A ((W_Model cI a u))) A) ([.ref (a 0)] : List Value).toArray s 0 0 A) (F0 m 0 ls []) := by
    intro H locs hP hD hS
    unfold F_X5_stops at hF
    refine lv_aload_n hx hb dX5_stops_0 rfl (lv_at hl 0 rfl) ?_
    refine lv_aload_n hx hb dX5_stops_1 rfl (lv_at hl 0 rfl) ?_
    refine va_get (D := (dC, dI)) (ci := 5) (v := .int (g_Model_at S)) (C := RX5) (T := TX5) (N := 26) hx hb hts hinX5 hown hK hP 0 rfl rfl 6 (by decide) (hts (Cond.fieldLink RX5 68 "LearnedShapesModel" "at" "I") (List.mem_of_getElem? (i := 1) rfl)) (fun _ h9 => h9) rfl dX5_stops_2 ?_
    refine lv_aload_n hx hb dX5_stops_5 rfl (lv_at hl 0 rfl) ?_
    refine va_get (D := (dC, dI)) (ci := 5) (v := .int (g_Model_typed S)) (C := RX5) (T := TX5) (N := 26) hx hb hts hinX5 hown hK hP 0 rfl rfl 4 (by decide) (hts (Cond.fieldLink RX5 71 "LearnedShapesModel" "typed" "I") (List.mem_of_getElem? (i := 2) rfl)) (fun _ h9 => h9) rfl dX5_stops_6 ?_
    refine lv_icmp_ge (tgt := 16) hx hb dX5_stops_9 (by decide) (fun c1 => ?_) (fun c1 => ?_)
    · have hF := F_pos c1 hF
      refine lv_iconst (v := (0 : Int32)) hx hb dX5_stops_16 (by decide) ?_
      refine va_put (D := (dC, dI)) (ci := 5) (v := .int (0 : Int32)) (ty := .boolean) (C := RX5) (T := TX5) (N := 26) hx hb hts hinX5 tyX5 tyX5_ok nmX5 hown hK hP hD hS 0 rfl rfl 7 (by decide) (hts (Cond.fieldLink RX5 74 "LearnedShapesModel" "isFault" "Z") (List.mem_of_getElem? (i := 3) rfl)) (fun _ h9 => h9) rfl (by decide +kernel) (rfl) rfl (Nat.le_of_ble_eq_true rfl) dX5_stops_17 (fun H locs hP hD hS => ?_)
      have hP : va_P (dC, dI) vwCl ((W_Model cI a (s_Model_isFault S (0 : Int32)))) H := hP
      have hD : va_D A ((W_Model cI a (s_Model_isFault S (0 : Int32)))) := hD
      refine lv_iconst (v := (0 : Int32)) hx hb dX5_stops_20 (by decide) ?_
      have e50 := Option.some.inj hF
      obtain ⟨e60, e51⟩ := Prod.mk.inj e50
      subst e60
      subst e51
      exact W.zret (v := (0 : Int32)) hx hb hr (rfl) (fun t ht hW => ⟨⟨(0 : Int32), (s_Model_isFault S (0 : Int32)), rfl, ⟨rfl, rfl⟩, by rw [ht]; exact hP, va_K.moved hW.alike hK, hD⟩, hS.F ht⟩) hS.2.2 dX5_stops_21
    · have hF := F_neg c1 hF
      refine lv_iconst (v := (1 : Int32)) hx hb dX5_stops_12 (by decide) ?_
      refine lv_goto (tgt := 17) hx hb dX5_stops_13 (by decide) ?_
      refine va_put (D := (dC, dI)) (ci := 5) (v := .int (1 : Int32)) (ty := .boolean) (C := RX5) (T := TX5) (N := 26) hx hb hts hinX5 tyX5 tyX5_ok nmX5 hown hK hP hD hS 0 rfl rfl 7 (by decide) (hts (Cond.fieldLink RX5 74 "LearnedShapesModel" "isFault" "Z") (List.mem_of_getElem? (i := 3) rfl)) (fun _ h9 => h9) rfl (by decide +kernel) (rfl) rfl (Nat.le_of_ble_eq_true rfl) dX5_stops_17 (fun H locs hP hD hS => ?_)
      have hP : va_P (dC, dI) vwCl ((W_Model cI a (s_Model_isFault S (1 : Int32)))) H := hP
      have hD : va_D A ((W_Model cI a (s_Model_isFault S (1 : Int32)))) := hD
      refine lv_iconst (v := (0 : Int32)) hx hb dX5_stops_20 (by decide) ?_
      have e50 := Option.some.inj hF
      obtain ⟨e60, e51⟩ := Prod.mk.inj e50
      subst e60
      subst e51
      exact W.zret (v := (0 : Int32)) hx hb hr (rfl) (fun t ht hW => ⟨⟨(0 : Int32), (s_Model_isFault S (1 : Int32)), rfl, ⟨rfl, rfl⟩, by rw [ht]; exact hP, va_K.moved hW.alike hK, hD⟩, hS.F ht⟩) hS.2.2 dX5_stops_21
  exact KE _ _ hP hD hS
set_option maxHeartbeats 4000000 in
set_option maxRecDepth 100000 in
theorem c_X5_isSign (l : Launch) (dC : Nat → ClassId) (dI : Nat → Nat → Nat) (cI : ClassId) (a : Nat → Nat) (sz : Nat) (S : S_Model) (v1 : Int32) (rr : Bool) (Y : S_Model) (hF : F_X5_isSign S v1 = some (rr, Y)) : Met l yX5_isSign wsX5_isSign ({ frames := 2, cells := 0, slots := 0, locals := 44 } : Room) (va_Pc [.ref (a 0), .int v1] (jPre (dC, dI) [(cI, .int)] sz ((W_Model cI a S)))) (va_Qi (fun (r' : Int32) (u : S_Model) => b2i rr = r' ∧ Y = u) (fun u : S_Model => jB (dC, dI) [(cI, .int)] (va_A ((W_Model cI a S)) sz) ((W_Model cI a u))) (va_A ((W_Model cI a S)) sz)) 0 0 (va_A ((W_Model cI a S)) sz) := by
  refine Met.ofW (cc := cX5_isSign) (maxL := 3) (ret := (some .boolean)) (by decide) rfl ?_
  intro p e s m args below meth c s₁ B hml hv
  obtain ⟨rfl, hsz, hP, hK, hD0, hN⟩ := hv
  have hx := B.exec
  have hb := B.bytes
  have hr := B.returns
  have hts := atoms_spec (ws := wsX5_isSign) B.pre
  have hown : s.vm.findClass RX5 = some m.cls := findClass_of_methodNamed B.named
  have hlocks := B.notSynchronized
  have hinX5 : ∀ w ∈ u_ws RX5 TX5 26, w ∈ wsX5_isSign := by decide +kernel
  subst hsz
  have hD := hD0.self (sz := s.heap.size)
  generalize hAe : (va_A ((W_Model cI a S)) s.heap.size) = A at hD ⊢
  have hA : ∀ q : Nat, s.heap.size ≤ q → A q := fun q h => by rw [← hAe]; exact Or.inr h
  have hS : va_S A s.heap s.heap [] := va_S.rf
  have hl := lv_entry ([.ref (a 0), .int v1]) (n := 3) (Nat.le_of_ble_eq_true rfl)
  rw [lg_entry_eq]
  generalize (lg_sl ([.ref (a 0), .int v1]) ++ List.replicate (3 - (lg_sl ([.ref (a 0), .int v1])).length) Slot.unset).toArray = ls at hl ⊢
  have hl : lv_has ls 3 [(0, .ref (a 0)), (1, .int v1)] := hl
  have KE : ∀ (H : Heap) (locs : List Loc), va_P (dC, dI) vwCl ((W_Model cI a S)) H → va_D A ((W_Model cI a S)) → va_S A s.heap H locs → W p l e (headSpec wsX5_isSign ({ frames := 2, cells := 0, slots := 0, locals := 44 } : Room)).room s m ([.ref (a 0), .int v1] : List Value).toArray below meth c H locs 0 0 (MQ below (va_Qi (fun (r' : Int32) (u : S_Model) => b2i rr = r' ∧ Y = u) (fun u : S_Model => jB (dC, dI) [(cI, .int)] A ((W_Model cI a u))) A) ([.ref (a 0), .int v1] : List Value).toArray s 0 0 A) (F0 m 0 ls []) := by
    intro H locs hP hD hS
    unfold F_X5_isSign at hF
    refine lv_aload_n hx hb dX5_isSign_0 rfl (lv_at hl 0 rfl) ?_
    refine lv_iload_n hx hb dX5_isSign_1 rfl (lv_at hl 1 rfl) ?_
    refine lv_iload_n hx hb dX5_isSign_2 rfl (lv_at hl 1 rfl) ?_
    obtain ⟨r1, h2, hF⟩ := ob1_some hF
    have hPc : va_P (dC, dI) vwCl ((W_Model cI a S)) H := hP
    have hDc : va_D A ((W_Model cI a S)) := hD
    have hFc := va_free (wc := (W_Model cI a S)) hD hS hA [0, 1, 2, 3, 4, 5, 6, 7, 8, 9, 10, 11, 12, 13] rfl
    refine va_calli (va_runV (As := [.int v1, .int v1]) (rest := []) ⟨hx, hb, hml, hown, hts⟩ (c_X5_isAt l dC dI cI a H.size _ _ _ _ h2) (cwV 2 hts gX5_isSign_X5_isAt rfl rfl rfl (by decide +kernel) ⟨Nat.le_of_ble_eq_true rfl, Nat.le_of_ble_eq_true rfl⟩) (jPreV hK hPc hDc hN (ci := 5) rfl rfl) rfl rfl hl.1 rfl (lv_room (Nat.le_of_ble_eq_true rfl)) dX5_isSign_3 ⟨Nat.le_of_ble_eq_true rfl, Nat.le_of_ble_eq_true rfl⟩) hS (fun q _ h => hFc q h) hFc (fun r' u' t H locs ht hvm hw hB hz1 hk1 hS => ?_)
    subst hw
    obtain ⟨hP1, -, hD1⟩ := hB
    rw [ht] at hP1
    have hP : va_P (dC, dI) vwCl ((W_Model cI a S)) H := hP1
    have hD : va_D A ((W_Model cI a S)) := hD1.weaken (fun _ _ _ h => hFc _ h)
    refine lv_istore_n (lv' := [(2, .int (b2i r1)), (0, .ref (a 0)), (1, .int v1)]) hx hb dX5_isSign_6 rfl hl (by decide) rfl (fun ls hl => ?_)
    refine lv_aload_n hx hb dX5_isSign_7 rfl (lv_at hl 1 rfl) ?_
    refine lv_dup hx hb dX5_isSign_8 rfl ?_
    refine va_get (D := (dC, dI)) (ci := 5) (v := .int (g_Model_at S)) (C := RX5) (T := TX5) (N := 26) hx hb hts hinX5 hown hK hP 0 rfl rfl 6 (by decide) (hts (Cond.fieldLink RX5 68 "LearnedShapesModel" "at" "I") (List.mem_of_getElem? (i := 1) rfl)) (fun _ h9 => h9) rfl dX5_isSign_9 ?_
    refine lv_iload_n hx hb dX5_isSign_12 rfl (lv_at hl 0 rfl) ?_
    refine lv_if_eq (tgt := 20) hx hb dX5_isSign_13 (by decide) (fun c3 => ?_) (fun c3 => ?_)
    · have hF := F_pos c3 hF
      refine lv_iconst (v := (0 : Int32)) hx hb dX5_isSign_20 (by decide) ?_
      refine lv_iadd hx hb dX5_isSign_21 ?_
      refine va_put (D := (dC, dI)) (ci := 5) (v := .int ((g_Model_at S) + (0 : Int32))) (ty := .int) (C := RX5) (T := TX5) (N := 26) hx hb hts hinX5 tyX5 tyX5_ok nmX5 hown hK hP hD hS 0 rfl rfl 6 (by decide) (hts (Cond.fieldLink RX5 68 "LearnedShapesModel" "at" "I") (List.mem_of_getElem? (i := 1) rfl)) (fun _ h9 => h9) rfl (by decide +kernel) (rfl) rfl (Nat.le_of_ble_eq_true rfl) dX5_isSign_22 (fun H locs hP hD hS => ?_)
      have hP : va_P (dC, dI) vwCl ((W_Model cI a (s_Model_at S ((g_Model_at S) + (0 : Int32))))) H := hP
      have hD : va_D A ((W_Model cI a (s_Model_at S ((g_Model_at S) + (0 : Int32))))) := hD
      refine lv_iload_n hx hb dX5_isSign_25 rfl (lv_at hl 0 rfl) ?_
      have e50 := Option.some.inj hF
      obtain ⟨e60, e51⟩ := Prod.mk.inj e50
      subst e60
      subst e51
      exact W.zret (v := (b2i r1)) hx hb hr (nb2i _) (fun t ht hW => ⟨⟨(b2i r1), (s_Model_at S ((g_Model_at S) + (0 : Int32))), rfl, ⟨rfl, rfl⟩, by rw [ht]; exact hP, va_K.moved hW.alike hK, hD⟩, hS.F ht⟩) hS.2.2 dX5_isSign_26
    · have hF := F_neg c3 hF
      refine lv_iconst (v := (1 : Int32)) hx hb dX5_isSign_16 (by decide) ?_
      refine lv_goto (tgt := 21) hx hb dX5_isSign_17 (by decide) ?_
      refine lv_iadd hx hb dX5_isSign_21 ?_
      refine va_put (D := (dC, dI)) (ci := 5) (v := .int ((g_Model_at S) + (1 : Int32))) (ty := .int) (C := RX5) (T := TX5) (N := 26) hx hb hts hinX5 tyX5 tyX5_ok nmX5 hown hK hP hD hS 0 rfl rfl 6 (by decide) (hts (Cond.fieldLink RX5 68 "LearnedShapesModel" "at" "I") (List.mem_of_getElem? (i := 1) rfl)) (fun _ h9 => h9) rfl (by decide +kernel) (rfl) rfl (Nat.le_of_ble_eq_true rfl) dX5_isSign_22 (fun H locs hP hD hS => ?_)
      have hP : va_P (dC, dI) vwCl ((W_Model cI a (s_Model_at S ((g_Model_at S) + (1 : Int32))))) H := hP
      have hD : va_D A ((W_Model cI a (s_Model_at S ((g_Model_at S) + (1 : Int32))))) := hD
      refine lv_iload_n hx hb dX5_isSign_25 rfl (lv_at hl 0 rfl) ?_
      have e50 := Option.some.inj hF
      obtain ⟨e60, e51⟩ := Prod.mk.inj e50
      subst e60
      subst e51
      exact W.zret (v := (b2i r1)) hx hb hr (nb2i _) (fun t ht hW => ⟨⟨(b2i r1), (s_Model_at S ((g_Model_at S) + (1 : Int32))), rfl, ⟨rfl, rfl⟩, by rw [ht]; exact hP, va_K.moved hW.alike hK, hD⟩, hS.F ht⟩) hS.2.2 dX5_isSign_26
  exact KE _ _ hP hD hS
set_option maxHeartbeats 4000000 in
set_option maxRecDepth 100000 in
theorem c_X5_comes (l : Launch) (dC : Nat → ClassId) (dI : Nat → Nat → Nat) (cI : ClassId) (a : Nat → Nat) (sz : Nat) (S : S_Model) (v1 : Int32) (v2 : Int32) (v3 : Int32) (Y : S_Model) (hF : F_X5_comes S v1 v2 v3 = some Y) : Met l yX5_comes wsX5_comes ({ frames := 0, cells := 0, slots := 0, locals := 0 } : Room) (va_Pc [.ref (a 0), .int v1, .int v2, .int v3] (jPre (dC, dI) [(cI, .int)] sz ((W_Model cI a S)))) (va_Qv (fun u : S_Model => Y = u) (fun u : S_Model => jB (dC, dI) [(cI, .int)] (va_A ((W_Model cI a S)) sz) ((W_Model cI a u))) (va_A ((W_Model cI a S)) sz)) 0 0 (va_A ((W_Model cI a S)) sz) := by
  refine Met.ofW (cc := cX5_comes) (maxL := 4) (ret := none) (by decide) rfl ?_
  intro p e s m args below meth c s₁ B hml hv
  obtain ⟨rfl, hsz, hP, hK, hD0, hN⟩ := hv
  have hx := B.exec
  have hb := B.bytes
  have hr := B.returns
  have hts := atoms_spec (ws := wsX5_comes) B.pre
  have hown : s.vm.findClass RX5 = some m.cls := findClass_of_methodNamed B.named
  have hlocks := B.notSynchronized
  have hinX5 : ∀ w ∈ u_ws RX5 TX5 26, w ∈ wsX5_comes := by decide +kernel
  subst hsz
  have hD := hD0.self (sz := s.heap.size)
  generalize hAe : (va_A ((W_Model cI a S)) s.heap.size) = A at hD ⊢
  have hA : ∀ q : Nat, s.heap.size ≤ q → A q := fun q h => by rw [← hAe]; exact Or.inr h
  have hS : va_S A s.heap s.heap [] := va_S.rf
  have hl := lv_entry ([.ref (a 0), .int v1, .int v2, .int v3]) (n := 4) (Nat.le_of_ble_eq_true rfl)
  rw [lg_entry_eq]
  generalize (lg_sl ([.ref (a 0), .int v1, .int v2, .int v3]) ++ List.replicate (4 - (lg_sl ([.ref (a 0), .int v1, .int v2, .int v3])).length) Slot.unset).toArray = ls at hl ⊢
  have hl : lv_has ls 4 [(0, .ref (a 0)), (1, .int v1), (2, .int v2), (3, .int v3)] := hl
  have K40 : ∀ (S : S_Model) (t1 : Int32) (t2 : Int32) (H : Heap) (locs : List Loc), F_X5_comes_40 v2 v3 S t1 t2 = some Y → va_P (dC, dI) vwCl ((W_Model cI a S)) H → va_D A ((W_Model cI a S)) → va_S A s.heap H locs → ∀ ls : Array Slot, lv_has ls 4 [(0, .ref (a 0)), (2, .int v2), (3, .int v3)] → W p l e (headSpec wsX5_comes ({ frames := 0, cells := 0, slots := 0, locals := 0 } : Room)).room s m ([.ref (a 0), .int v1, .int v2, .int v3] : List Value).toArray below meth c H locs 0 0 (MQ below (va_Qv (fun u : S_Model => Y = u) (fun u : S_Model => jB (dC, dI) [(cI, .int)] A ((W_Model cI a u))) A) ([.ref (a 0), .int v1, .int v2, .int v3] : List Value).toArray s 0 0 A) (F0 m 40 ls [.int t2, .int t1, .ref (a 5)]) := by
    intro S t1 t2 H locs hF hP hD hS ls hl
    unfold F_X5_comes_40 at hF
    obtain ⟨g1, hF⟩ := og_some hF
    refine va_iast (f := (g_Model_above S)) hx hb hK hP hD hS 5 0 rfl rfl (inb_in g1) dX5_comes_40 (fun H locs hP hD hS => ?_)
    have hP : va_P (dC, dI) vwCl ((W_Model cI a (s_Model_above S (upd (g_Model_above S) t1.toNatClampNeg t2)))) H := hP
    have hD : va_D A ((W_Model cI a (s_Model_above S (upd (g_Model_above S) t1.toNatClampNeg t2)))) := hD
    refine lv_aload_n hx hb dX5_comes_41 rfl (lv_at hl 0 rfl) ?_
    refine va_get (D := (dC, dI)) (ci := 5) (v := .ref (a 6)) (C := RX5) (T := TX5) (N := 26) hx hb hts hinX5 hown hK hP 0 rfl rfl 10 (by decide) (hts (Cond.fieldLink RX5 25 "LearnedShapesModel" "letters" "[I") (List.mem_of_getElem? (i := 6) rfl)) (fun _ h9 => h9) rfl dX5_comes_42 ?_
    refine lv_aload_n hx hb dX5_comes_45 rfl (lv_at hl 0 rfl) ?_
    refine va_get (D := (dC, dI)) (ci := 5) (v := .int (g_Model_valued S)) (C := RX5) (T := TX5) (N := 26) hx hb hts hinX5 hown hK hP 0 rfl rfl 14 (by decide) (hts (Cond.fieldLink RX5 82 "LearnedShapesModel" "valued" "I") (List.mem_of_getElem? (i := 2) rfl)) (fun _ h9 => h9) rfl dX5_comes_46 ?_
    refine lv_iload_n hx hb dX5_comes_49 rfl (lv_at hl 1 rfl) ?_
    obtain ⟨g2, hF⟩ := og_some hF
    refine va_iast (f := (g_Model_letters S)) hx hb hK hP hD hS 6 0 rfl rfl (inb_in g2) dX5_comes_50 (fun H locs hP hD hS => ?_)
    have hP : va_P (dC, dI) vwCl ((W_Model cI a (s_Model_letters (s_Model_above S (upd (g_Model_above S) t1.toNatClampNeg t2)) (upd (g_Model_letters S) (g_Model_valued S).toNatClampNeg v2)))) H := hP
    have hD : va_D A ((W_Model cI a (s_Model_letters (s_Model_above S (upd (g_Model_above S) t1.toNatClampNeg t2)) (upd (g_Model_letters S) (g_Model_valued S).toNatClampNeg v2)))) := hD
    refine lv_aload_n hx hb dX5_comes_51 rfl (lv_at hl 0 rfl) ?_
    refine va_get (D := (dC, dI)) (ci := 5) (v := .ref (a 7)) (C := RX5) (T := TX5) (N := 26) hx hb hts hinX5 hown hK hP 0 rfl rfl 11 (by decide) (hts (Cond.fieldLink RX5 28 "LearnedShapesModel" "begins" "[I") (List.mem_of_getElem? (i := 7) rfl)) (fun _ h9 => h9) rfl dX5_comes_52 ?_
    refine lv_aload_n hx hb dX5_comes_55 rfl (lv_at hl 0 rfl) ?_
    refine va_get (D := (dC, dI)) (ci := 5) (v := .int (g_Model_valued S)) (C := RX5) (T := TX5) (N := 26) hx hb hts hinX5 hown hK hP 0 rfl rfl 14 (by decide) (hts (Cond.fieldLink RX5 82 "LearnedShapesModel" "valued" "I") (List.mem_of_getElem? (i := 2) rfl)) (fun _ h9 => h9) rfl dX5_comes_56 ?_
    refine lv_iload_n hx hb dX5_comes_59 rfl (lv_at hl 2 rfl) ?_
    obtain ⟨g3, hF⟩ := og_some hF
    refine va_iast (f := (g_Model_begins S)) hx hb hK hP hD hS 7 0 rfl rfl (inb_in g3) dX5_comes_60 (fun H locs hP hD hS => ?_)
    have hP : va_P (dC, dI) vwCl ((W_Model cI a (s_Model_begins (s_Model_letters (s_Model_above S (upd (g_Model_above S) t1.toNatClampNeg t2)) (upd (g_Model_letters S) (g_Model_valued S).toNatClampNeg v2)) (upd (g_Model_begins S) (g_Model_valued S).toNatClampNeg v3)))) H := hP
    have hD : va_D A ((W_Model cI a (s_Model_begins (s_Model_letters (s_Model_above S (upd (g_Model_above S) t1.toNatClampNeg t2)) (upd (g_Model_letters S) (g_Model_valued S).toNatClampNeg v2)) (upd (g_Model_begins S) (g_Model_valued S).toNatClampNeg v3)))) := hD
    refine lv_aload_n hx hb dX5_comes_61 rfl (lv_at hl 0 rfl) ?_
    refine va_get (D := (dC, dI)) (ci := 5) (v := .ref (a 9)) (C := RX5) (T := TX5) (N := 26) hx hb hts hinX5 hown hK hP 0 rfl rfl 13 (by decide) (hts (Cond.fieldLink RX5 34 "LearnedShapesModel" "used" "[I") (List.mem_of_getElem? (i := 8) rfl)) (fun _ h9 => h9) rfl dX5_comes_62 ?_
    refine lv_aload_n hx hb dX5_comes_65 rfl (lv_at hl 0 rfl) ?_
    refine va_get (D := (dC, dI)) (ci := 5) (v := .int (g_Model_valued S)) (C := RX5) (T := TX5) (N := 26) hx hb hts hinX5 hown hK hP 0 rfl rfl 14 (by decide) (hts (Cond.fieldLink RX5 82 "LearnedShapesModel" "valued" "I") (List.mem_of_getElem? (i := 2) rfl)) (fun _ h9 => h9) rfl dX5_comes_66 ?_
    refine lv_iconst (v := (0 : Int32)) hx hb dX5_comes_69 (by decide) ?_
    obtain ⟨g4, hF⟩ := og_some hF
    refine va_iast (f := (g_Model_used S)) hx hb hK hP hD hS 9 0 rfl rfl (inb_in g4) dX5_comes_70 (fun H locs hP hD hS => ?_)
    have hP : va_P (dC, dI) vwCl ((W_Model cI a (s_Model_used (s_Model_begins (s_Model_letters (s_Model_above S (upd (g_Model_above S) t1.toNatClampNeg t2)) (upd (g_Model_letters S) (g_Model_valued S).toNatClampNeg v2)) (upd (g_Model_begins S) (g_Model_valued S).toNatClampNeg v3)) (upd (g_Model_used S) (g_Model_valued S).toNatClampNeg (0 : Int32))))) H := hP
    have hD : va_D A ((W_Model cI a (s_Model_used (s_Model_begins (s_Model_letters (s_Model_above S (upd (g_Model_above S) t1.toNatClampNeg t2)) (upd (g_Model_letters S) (g_Model_valued S).toNatClampNeg v2)) (upd (g_Model_begins S) (g_Model_valued S).toNatClampNeg v3)) (upd (g_Model_used S) (g_Model_valued S).toNatClampNeg (0 : Int32))))) := hD
    refine lv_aload_n hx hb dX5_comes_71 rfl (lv_at hl 0 rfl) ?_
    refine lv_dup hx hb dX5_comes_72 rfl ?_
    refine va_get (D := (dC, dI)) (ci := 5) (v := .int (g_Model_valued S)) (C := RX5) (T := TX5) (N := 26) hx hb hts hinX5 hown hK hP 0 rfl rfl 14 (by decide) (hts (Cond.fieldLink RX5 82 "LearnedShapesModel" "valued" "I") (List.mem_of_getElem? (i := 2) rfl)) (fun _ h9 => h9) rfl dX5_comes_73 ?_
    refine lv_iconst (v := (1 : Int32)) hx hb dX5_comes_76 (by decide) ?_
    refine lv_iadd hx hb dX5_comes_77 ?_
    refine va_put (D := (dC, dI)) (ci := 5) (v := .int ((g_Model_valued S) + (1 : Int32))) (ty := .int) (C := RX5) (T := TX5) (N := 26) hx hb hts hinX5 tyX5 tyX5_ok nmX5 hown hK hP hD hS 0 rfl rfl 14 (by decide) (hts (Cond.fieldLink RX5 82 "LearnedShapesModel" "valued" "I") (List.mem_of_getElem? (i := 2) rfl)) (fun _ h9 => h9) rfl (by decide +kernel) (rfl) rfl (Nat.le_of_ble_eq_true rfl) dX5_comes_78 (fun H locs hP hD hS => ?_)
    have hP : va_P (dC, dI) vwCl ((W_Model cI a (s_Model_valued (s_Model_used (s_Model_begins (s_Model_letters (s_Model_above S (upd (g_Model_above S) t1.toNatClampNeg t2)) (upd (g_Model_letters S) (g_Model_valued S).toNatClampNeg v2)) (upd (g_Model_begins S) (g_Model_valued S).toNatClampNeg v3)) (upd (g_Model_used S) (g_Model_valued S).toNatClampNeg (0 : Int32))) ((g_Model_valued S) + (1 : Int32))))) H := hP
    have hD : va_D A ((W_Model cI a (s_Model_valued (s_Model_used (s_Model_begins (s_Model_letters (s_Model_above S (upd (g_Model_above S) t1.toNatClampNeg t2)) (upd (g_Model_letters S) (g_Model_valued S).toNatClampNeg v2)) (upd (g_Model_begins S) (g_Model_valued S).toNatClampNeg v3)) (upd (g_Model_used S) (g_Model_valued S).toNatClampNeg (0 : Int32))) ((g_Model_valued S) + (1 : Int32))))) := hD
    have e50 := Option.some.inj hF
    subst e50
    exact W.vret hx hb hr (fun t ht hW => ⟨⟨(s_Model_valued (s_Model_used (s_Model_begins (s_Model_letters (s_Model_above S (upd (g_Model_above S) t1.toNatClampNeg t2)) (upd (g_Model_letters S) (g_Model_valued S).toNatClampNeg v2)) (upd (g_Model_begins S) (g_Model_valued S).toNatClampNeg v3)) (upd (g_Model_used S) (g_Model_valued S).toNatClampNeg (0 : Int32))) ((g_Model_valued S) + (1 : Int32))), rfl, rfl, by rw [ht]; exact hP, va_K.moved hW.alike hK, hD⟩, hS.F ht⟩) hS.2.2 dX5_comes_81
  have KE : ∀ (H : Heap) (locs : List Loc), va_P (dC, dI) vwCl ((W_Model cI a S)) H → va_D A ((W_Model cI a S)) → va_S A s.heap H locs → W p l e (headSpec wsX5_comes ({ frames := 0, cells := 0, slots := 0, locals := 0 } : Room)).room s m ([.ref (a 0), .int v1, .int v2, .int v3] : List Value).toArray below meth c H locs 0 0 (MQ below (va_Qv (fun u : S_Model => Y = u) (fun u : S_Model => jB (dC, dI) [(cI, .int)] A ((W_Model cI a u))) A) ([.ref (a 0), .int v1, .int v2, .int v3] : List Value).toArray s 0 0 A) (F0 m 0 ls []) := by
    intro H locs hP hD hS
    unfold F_X5_comes at hF
    refine lv_aload_n hx hb dX5_comes_0 rfl (lv_at hl 0 rfl) ?_
    refine va_get (D := (dC, dI)) (ci := 5) (v := .ref (a 4)) (C := RX5) (T := TX5) (N := 26) hx hb hts hinX5 hown hK hP 0 rfl rfl 8 (by decide) (hts (Cond.fieldLink RX5 19 "LearnedShapesModel" "kinds" "[I") (List.mem_of_getElem? (i := 1) rfl)) (fun _ h9 => h9) rfl dX5_comes_1 ?_
    refine lv_aload_n hx hb dX5_comes_4 rfl (lv_at hl 0 rfl) ?_
    refine va_get (D := (dC, dI)) (ci := 5) (v := .int (g_Model_valued S)) (C := RX5) (T := TX5) (N := 26) hx hb hts hinX5 hown hK hP 0 rfl rfl 14 (by decide) (hts (Cond.fieldLink RX5 82 "LearnedShapesModel" "valued" "I") (List.mem_of_getElem? (i := 2) rfl)) (fun _ h9 => h9) rfl dX5_comes_5 ?_
    refine lv_iload_n hx hb dX5_comes_8 rfl (lv_at hl 1 rfl) ?_
    obtain ⟨g5, hF⟩ := og_some hF
    refine va_iast (f := (g_Model_kinds S)) hx hb hK hP hD hS 4 0 rfl rfl (inb_in g5) dX5_comes_9 (fun H locs hP hD hS => ?_)
    have hP : va_P (dC, dI) vwCl ((W_Model cI a (s_Model_kinds S (upd (g_Model_kinds S) (g_Model_valued S).toNatClampNeg v1)))) H := hP
    have hD : va_D A ((W_Model cI a (s_Model_kinds S (upd (g_Model_kinds S) (g_Model_valued S).toNatClampNeg v1)))) := hD
    refine lv_aload_n hx hb dX5_comes_10 rfl (lv_at hl 0 rfl) ?_
    refine va_get (D := (dC, dI)) (ci := 5) (v := .ref (a 5)) (C := RX5) (T := TX5) (N := 26) hx hb hts hinX5 hown hK hP 0 rfl rfl 9 (by decide) (hts (Cond.fieldLink RX5 22 "LearnedShapesModel" "above" "[I") (List.mem_of_getElem? (i := 3) rfl)) (fun _ h9 => h9) rfl dX5_comes_11 ?_
    refine lv_aload_n hx hb dX5_comes_14 rfl (lv_at hl 0 rfl) ?_
    refine va_get (D := (dC, dI)) (ci := 5) (v := .int (g_Model_valued S)) (C := RX5) (T := TX5) (N := 26) hx hb hts hinX5 hown hK hP 0 rfl rfl 14 (by decide) (hts (Cond.fieldLink RX5 82 "LearnedShapesModel" "valued" "I") (List.mem_of_getElem? (i := 2) rfl)) (fun _ h9 => h9) rfl dX5_comes_15 ?_
    refine lv_aload_n hx hb dX5_comes_18 rfl (lv_at hl 0 rfl) ?_
    refine va_get (D := (dC, dI)) (ci := 5) (v := .int (g_Model_deep S)) (C := RX5) (T := TX5) (N := 26) hx hb hts hinX5 hown hK hP 0 rfl rfl 16 (by decide) (hts (Cond.fieldLink RX5 85 "LearnedShapesModel" "deep" "I") (List.mem_of_getElem? (i := 4) rfl)) (fun _ h9 => h9) rfl dX5_comes_19 ?_
    refine lv_if_ne (tgt := 29) hx hb dX5_comes_22 (by decide) (fun c6 => ?_) (fun c6 => ?_)
    · have hF := F_neg c6 hF
      refine lv_aload_n hx hb dX5_comes_29 rfl (lv_at hl 0 rfl) ?_
      refine va_get (D := (dC, dI)) (ci := 5) (v := .ref (a 10)) (C := RX5) (T := TX5) (N := 26) hx hb hts hinX5 hown hK hP 0 rfl rfl 15 (by decide) (hts (Cond.fieldLink RX5 37 "LearnedShapesModel" "open" "[I") (List.mem_of_getElem? (i := 5) rfl)) (fun _ h9 => h9) rfl dX5_comes_30 ?_
      refine lv_aload_n hx hb dX5_comes_33 rfl (lv_at hl 0 rfl) ?_
      refine va_get (D := (dC, dI)) (ci := 5) (v := .int (g_Model_deep S)) (C := RX5) (T := TX5) (N := 26) hx hb hts hinX5 hown hK hP 0 rfl rfl 16 (by decide) (hts (Cond.fieldLink RX5 85 "LearnedShapesModel" "deep" "I") (List.mem_of_getElem? (i := 4) rfl)) (fun _ h9 => h9) rfl dX5_comes_34 ?_
      refine lv_iconst (v := (1 : Int32)) hx hb dX5_comes_37 (by decide) ?_
      refine lv_isub hx hb dX5_comes_38 ?_
      obtain ⟨g7, hF⟩ := og_some hF
      refine va_iald (f := (g_Model_open S)) hx hb hK hP 10 0 rfl rfl (inb_in g7) dX5_comes_39 ?_
      exact K40 _ _ _ _ _ hF hP hD hS _ (lv_sub hl [0, 2, 3] rfl)
    · have hF := F_pos c6 hF
      refine lv_iconst (v := (-1 : Int32)) hx hb dX5_comes_25 (by decide) ?_
      refine lv_goto (tgt := 40) hx hb dX5_comes_26 (by decide) ?_
      exact K40 _ _ _ _ _ hF hP hD hS _ (lv_sub hl [0, 2, 3] rfl)
  exact KE _ _ hP hD hS
set_option maxHeartbeats 4000000 in
set_option maxRecDepth 100000 in
theorem c_X5_isNumber (l : Launch) (dC : Nat → ClassId) (dI : Nat → Nat → Nat) (cI : ClassId) (a : Nat → Nat) (sz : Nat) (S : S_Model) (v1 : Int32) (rr : Bool) (Y : S_Model) (hF : F_X5_isNumber S v1 = some (rr, Y)) : Met l yX5_isNumber wsX5_isNumber ({ frames := 3, cells := 0, slots := 0, locals := 66 } : Room) (va_Pc [.ref (a 0), .int v1] (jPre (dC, dI) [(cI, .int)] sz ((W_Model cI a S)))) (va_Qi (fun (r' : Int32) (u : S_Model) => b2i rr = r' ∧ Y = u) (fun u : S_Model => jB (dC, dI) [(cI, .int)] (va_A ((W_Model cI a S)) sz) ((W_Model cI a u))) (va_A ((W_Model cI a S)) sz)) 0 0 (va_A ((W_Model cI a S)) sz) := by
  refine Met.ofW (cc := cX5_isNumber) (maxL := 6) (ret := (some .boolean)) (by decide) rfl ?_
  intro p e s m args below meth c s₁ B hml hv
  obtain ⟨rfl, hsz, hP, hK, hD0, hN⟩ := hv
  have hx := B.exec
  have hb := B.bytes
  have hr := B.returns
  have hts := atoms_spec (ws := wsX5_isNumber) B.pre
  have hown : s.vm.findClass RX5 = some m.cls := findClass_of_methodNamed B.named
  have hlocks := B.notSynchronized
  have hinX5 : ∀ w ∈ u_ws RX5 TX5 26, w ∈ wsX5_isNumber := by decide +kernel
  subst hsz
  have hD := hD0.self (sz := s.heap.size)
  generalize hAe : (va_A ((W_Model cI a S)) s.heap.size) = A at hD ⊢
  have hA : ∀ q : Nat, s.heap.size ≤ q → A q := fun q h => by rw [← hAe]; exact Or.inr h
  have hS : va_S A s.heap s.heap [] := va_S.rf
  have hl := lv_entry ([.ref (a 0), .int v1]) (n := 6) (Nat.le_of_ble_eq_true rfl)
  rw [lg_entry_eq]
  generalize (lg_sl ([.ref (a 0), .int v1]) ++ List.replicate (6 - (lg_sl ([.ref (a 0), .int v1])).length) Slot.unset).toArray = ls at hl ⊢
  have hl : lv_has ls 6 [(0, .ref (a 0)), (1, .int v1)] := hl
  have K114 : ∀ (S : S_Model) (x2 : Int32) (H : Heap) (locs : List Loc), F_X5_isNumber_114 v1 S x2 = some (rr, Y) → va_P (dC, dI) vwCl ((W_Model cI a S)) H → va_D A ((W_Model cI a S)) → va_S A s.heap H locs → ∀ ls : Array Slot, lv_has ls 6 [(0, .ref (a 0)), (1, .int v1), (2, .int x2)] → W p l e (headSpec wsX5_isNumber ({ frames := 3, cells := 0, slots := 0, locals := 66 } : Room)).room s m ([.ref (a 0), .int v1] : List Value).toArray below meth c H locs 0 0 (MQ below (va_Qi (fun (r' : Int32) (u : S_Model) => b2i rr = r' ∧ Y = u) (fun u : S_Model => jB (dC, dI) [(cI, .int)] A ((W_Model cI a u))) A) ([.ref (a 0), .int v1] : List Value).toArray s 0 0 A) (F0 m 114 ls []) := by
    intro S x2 H locs hF hP hD hS ls hl
    unfold F_X5_isNumber_114 at hF
    refine lv_aload_n hx hb dX5_isNumber_114 rfl (lv_at hl 0 rfl) ?_
    refine lv_bipush (v := (46 : Int32)) hx hb dX5_isNumber_115 (by decide) ?_
    obtain ⟨r1, u2, h3, hF⟩ := ob2_some hF
    have hPc : va_P (dC, dI) vwCl ((W_Model cI a S)) H := hP
    have hDc : va_D A ((W_Model cI a S)) := hD
    have hFc := va_free (wc := (W_Model cI a S)) hD hS hA [0, 1, 2, 3, 4, 5, 6, 7, 8, 9, 10, 11, 12, 13] rfl
    refine va_calli (va_runV (As := [.int (46 : Int32)]) (rest := []) ⟨hx, hb, hml, hown, hts⟩ (c_X5_isSign l dC dI cI a H.size _ _ _ _ h3) (cwV 1 hts gX5_isNumber_X5_isSign rfl rfl rfl (by decide +kernel) ⟨Nat.le_of_ble_eq_true rfl, Nat.le_of_ble_eq_true rfl⟩) (jPreV hK hPc hDc hN (ci := 5) rfl rfl) rfl rfl hl.1 rfl (lv_room (Nat.le_of_ble_eq_true rfl)) dX5_isNumber_117 ⟨Nat.le_of_ble_eq_true rfl, Nat.le_of_ble_eq_true rfl⟩) hS (fun q _ h => hFc q h) hFc (fun r' u' t H locs ht hvm hw hB hz1 hk1 hS => ?_)
    obtain ⟨e1, e2⟩ := hw
    subst e1
    subst e2
    obtain ⟨hP1, -, hD1⟩ := hB
    rw [ht] at hP1
    have hP : va_P (dC, dI) vwCl ((W_Model cI a u2)) H := hP1
    have hD : va_D A ((W_Model cI a u2)) := hD1.weaken (fun _ _ _ h => hFc _ h)
    refine lv_istore (lv' := [(5, .int (b2i r1)), (0, .ref (a 0)), (1, .int v1), (2, .int x2)]) hx hb dX5_isNumber_120 hl (by decide) rfl (fun ls hl => ?_)
    refine lv_iload hx hb dX5_isNumber_122 (lv_at hl 0 rfl) ?_
    refine lv_if_eq (tgt := 178) hx hb dX5_isNumber_124 (by decide) (fun c4 => ?_) (fun c4 => ?_)
    · have hF := F_pos c4 hF
      refine lv_aload_n hx hb dX5_isNumber_178 rfl (lv_at hl 1 rfl) ?_
      refine lv_iload hx hb dX5_isNumber_179 (lv_at hl 0 rfl) ?_
      refine lv_if_eq (tgt := 188) hx hb dX5_isNumber_181 (by decide) (fun c5 => ?_) (fun c5 => ?_)
      · have hF := F_pos c5 hF
        refine lv_iconst (v := (2 : Int32)) hx hb dX5_isNumber_188 (by decide) ?_
        refine lv_iload_n hx hb dX5_isNumber_189 rfl (lv_at hl 2 rfl) ?_
        refine lv_iload_n hx hb dX5_isNumber_190 rfl (lv_at hl 3 rfl) ?_
        obtain ⟨u6, h7, hF⟩ := ob1_some hF
        have hPc : va_P (dC, dI) vwCl ((W_Model cI a u2)) H := hP
        have hDc : va_D A ((W_Model cI a u2)) := hD
        have hFc := va_free (wc := (W_Model cI a u2)) hD hS hA [0, 1, 2, 3, 4, 5, 6, 7, 8, 9, 10, 11, 12, 13] rfl
        refine va_callv (va_runV (As := [.int (2 : Int32), .int v1, .int x2]) (rest := []) ⟨hx, hb, hml, hown, hts⟩ (c_X5_comes l dC dI cI a H.size _ _ _ _ _ h7) (cwV 3 hts gX5_isNumber_X5_comes rfl rfl rfl (by decide +kernel) ⟨Nat.le_of_ble_eq_true rfl, Nat.le_of_ble_eq_true rfl⟩) (jPreV hK hPc hDc hN (ci := 5) rfl rfl) rfl rfl hl.1 rfl (lv_room (Nat.le_of_ble_eq_true rfl)) dX5_isNumber_191 ⟨Nat.le_of_ble_eq_true rfl, Nat.le_of_ble_eq_true rfl⟩) hS (fun q _ h => hFc q h) hFc (fun u' t H locs ht hvm hw hB hz1 hk1 hS => ?_)
        subst hw
        obtain ⟨hP1, -, hD1⟩ := hB
        rw [ht] at hP1
        have hP : va_P (dC, dI) vwCl ((W_Model cI a u6)) H := hP1
        have hD : va_D A ((W_Model cI a u6)) := hD1.weaken (fun _ _ _ h => hFc _ h)
        refine lv_iconst (v := (1 : Int32)) hx hb dX5_isNumber_194 (by decide) ?_
        have e50 := Option.some.inj hF
        obtain ⟨e60, e51⟩ := Prod.mk.inj e50
        subst e60
        subst e51
        exact W.zret (v := (1 : Int32)) hx hb hr (rfl) (fun t ht hW => ⟨⟨(1 : Int32), u6, rfl, ⟨rfl, rfl⟩, by rw [ht]; exact hP, va_K.moved hW.alike hK, hD⟩, hS.F ht⟩) hS.2.2 dX5_isNumber_195
      · have hF := F_neg c5 hF
        refine lv_iconst (v := (3 : Int32)) hx hb dX5_isNumber_184 (by decide) ?_
        refine lv_goto (tgt := 189) hx hb dX5_isNumber_185 (by decide) ?_
        refine lv_iload_n hx hb dX5_isNumber_189 rfl (lv_at hl 2 rfl) ?_
        refine lv_iload_n hx hb dX5_isNumber_190 rfl (lv_at hl 3 rfl) ?_
        obtain ⟨u8, h9, hF⟩ := ob1_some hF
        have hPc : va_P (dC, dI) vwCl ((W_Model cI a u2)) H := hP
        have hDc : va_D A ((W_Model cI a u2)) := hD
        have hFc := va_free (wc := (W_Model cI a u2)) hD hS hA [0, 1, 2, 3, 4, 5, 6, 7, 8, 9, 10, 11, 12, 13] rfl
        refine va_callv (va_runV (As := [.int (3 : Int32), .int v1, .int x2]) (rest := []) ⟨hx, hb, hml, hown, hts⟩ (c_X5_comes l dC dI cI a H.size _ _ _ _ _ h9) (cwV 3 hts gX5_isNumber_X5_comes rfl rfl rfl (by decide +kernel) ⟨Nat.le_of_ble_eq_true rfl, Nat.le_of_ble_eq_true rfl⟩) (jPreV hK hPc hDc hN (ci := 5) rfl rfl) rfl rfl hl.1 rfl (lv_room (Nat.le_of_ble_eq_true rfl)) dX5_isNumber_191 ⟨Nat.le_of_ble_eq_true rfl, Nat.le_of_ble_eq_true rfl⟩) hS (fun q _ h => hFc q h) hFc (fun u' t H locs ht hvm hw hB hz1 hk1 hS => ?_)
        subst hw
        obtain ⟨hP1, -, hD1⟩ := hB
        rw [ht] at hP1
        have hP : va_P (dC, dI) vwCl ((W_Model cI a u8)) H := hP1
        have hD : va_D A ((W_Model cI a u8)) := hD1.weaken (fun _ _ _ h => hFc _ h)
        refine lv_iconst (v := (1 : Int32)) hx hb dX5_isNumber_194 (by decide) ?_
        have e50 := Option.some.inj hF
        obtain ⟨e60, e51⟩ := Prod.mk.inj e50
        subst e60
        subst e51
        exact W.zret (v := (1 : Int32)) hx hb hr (rfl) (fun t ht hW => ⟨⟨(1 : Int32), u8, rfl, ⟨rfl, rfl⟩, by rw [ht]; exact hP, va_K.moved hW.alike hK, hD⟩, hS.F ht⟩) hS.2.2 dX5_isNumber_195
    · have hF := F_neg c4 hF
      refine lv_aload_n hx hb dX5_isNumber_127 rfl (lv_at hl 1 rfl) ?_
      refine lv_bipush (v := (48 : Int32)) hx hb dX5_isNumber_128 (by decide) ?_
      refine lv_bipush (v := (57 : Int32)) hx hb dX5_isNumber_130 (by decide) ?_
      obtain ⟨r10, h11, hF⟩ := ob1_some hF
      have hPc : va_P (dC, dI) vwCl ((W_Model cI a u2)) H := hP
      have hDc : va_D A ((W_Model cI a u2)) := hD
      have hFc := va_free (wc := (W_Model cI a u2)) hD hS hA [0, 1, 2, 3, 4, 5, 6, 7, 8, 9, 10, 11, 12, 13] rfl
      refine va_calli (va_runV (As := [.int (48 : Int32), .int (57 : Int32)]) (rest := []) ⟨hx, hb, hml, hown, hts⟩ (c_X5_isAt l dC dI cI a H.size _ _ _ _ h11) (cwV 2 hts gX5_isNumber_X5_isAt rfl rfl rfl (by decide +kernel) ⟨Nat.le_of_ble_eq_true rfl, Nat.le_of_ble_eq_true rfl⟩) (jPreV hK hPc hDc hN (ci := 5) rfl rfl) rfl rfl hl.1 rfl (lv_room (Nat.le_of_ble_eq_true rfl)) dX5_isNumber_132 ⟨Nat.le_of_ble_eq_true rfl, Nat.le_of_ble_eq_true rfl⟩) hS (fun q _ h => hFc q h) hFc (fun r' u' t H locs ht hvm hw hB hz1 hk1 hS => ?_)
      subst hw
      obtain ⟨hP1, -, hD1⟩ := hB
      rw [ht] at hP1
      have hP : va_P (dC, dI) vwCl ((W_Model cI a u2)) H := hP1
      have hD : va_D A ((W_Model cI a u2)) := hD1.weaken (fun _ _ _ h => hFc _ h)
      refine lv_if_ne (tgt := 143) hx hb dX5_isNumber_135 (by decide) (fun c12 => ?_) (fun c12 => ?_)
      · have hF := F_neg c12 hF
        refine lv_aload_n hx hb dX5_isNumber_143 rfl (lv_at hl 1 rfl) ?_
        refine lv_dup hx hb dX5_isNumber_144 rfl ?_
        refine va_get (D := (dC, dI)) (ci := 5) (v := .int (g_Model_at u2)) (C := RX5) (T := TX5) (N := 26) hx hb hts hinX5 hown hK hP 0 rfl rfl 6 (by decide) (hts (Cond.fieldLink RX5 68 "LearnedShapesModel" "at" "I") (List.mem_of_getElem? (i := 1) rfl)) (fun _ h9 => h9) rfl dX5_isNumber_145 ?_
        refine lv_iconst (v := (1 : Int32)) hx hb dX5_isNumber_148 (by decide) ?_
        refine lv_iadd hx hb dX5_isNumber_149 ?_
        refine va_put (D := (dC, dI)) (ci := 5) (v := .int ((g_Model_at u2) + (1 : Int32))) (ty := .int) (C := RX5) (T := TX5) (N := 26) hx hb hts hinX5 tyX5 tyX5_ok nmX5 hown hK hP hD hS 0 rfl rfl 6 (by decide) (hts (Cond.fieldLink RX5 68 "LearnedShapesModel" "at" "I") (List.mem_of_getElem? (i := 1) rfl)) (fun _ h9 => h9) rfl (by decide +kernel) (rfl) rfl (Nat.le_of_ble_eq_true rfl) dX5_isNumber_150 (fun H locs hP hD hS => ?_)
        have hP : va_P (dC, dI) vwCl ((W_Model cI a (s_Model_at u2 ((g_Model_at u2) + (1 : Int32))))) H := hP
        have hD : va_D A ((W_Model cI a (s_Model_at u2 ((g_Model_at u2) + (1 : Int32))))) := hD
        refine lv_aload_n hx hb dX5_isNumber_153 rfl (lv_at hl 1 rfl) ?_
        refine lv_dup hx hb dX5_isNumber_154 rfl ?_
        refine va_get (D := (dC, dI)) (ci := 5) (v := .int ((g_Model_at u2) + (1 : Int32))) (C := RX5) (T := TX5) (N := 26) hx hb hts hinX5 hown hK hP 0 rfl rfl 6 (by decide) (hts (Cond.fieldLink RX5 68 "LearnedShapesModel" "at" "I") (List.mem_of_getElem? (i := 1) rfl)) (fun _ h9 => h9) rfl dX5_isNumber_155 ?_
        refine lv_aload_n hx hb dX5_isNumber_158 rfl (lv_at hl 1 rfl) ?_
        refine lv_bipush (v := (48 : Int32)) hx hb dX5_isNumber_159 (by decide) ?_
        refine lv_bipush (v := (57 : Int32)) hx hb dX5_isNumber_161 (by decide) ?_
        obtain ⟨r13, h14, hF⟩ := ob1_some hF
        have hPc : va_P (dC, dI) vwCl ((W_Model cI a (s_Model_at u2 ((g_Model_at u2) + (1 : Int32))))) H := hP
        have hDc : va_D A ((W_Model cI a (s_Model_at u2 ((g_Model_at u2) + (1 : Int32))))) := hD
        have hFc := va_free (wc := (W_Model cI a (s_Model_at u2 ((g_Model_at u2) + (1 : Int32))))) hD hS hA [0, 1, 2, 3, 4, 5, 6, 7, 8, 9, 10, 11, 12, 13] rfl
        refine va_calli (va_runV (As := [.int (48 : Int32), .int (57 : Int32)]) (rest := [.int ((g_Model_at u2) + (1 : Int32)), .ref (a 0)]) ⟨hx, hb, hml, hown, hts⟩ (c_X5_isAt l dC dI cI a H.size _ _ _ _ h14) (cwV 2 hts gX5_isNumber_X5_isAt rfl rfl rfl (by decide +kernel) ⟨Nat.le_of_ble_eq_true rfl, Nat.le_of_ble_eq_true rfl⟩) (jPreV hK hPc hDc hN (ci := 5) rfl rfl) rfl rfl hl.1 rfl (lv_room (Nat.le_of_ble_eq_true rfl)) dX5_isNumber_163 ⟨Nat.le_of_ble_eq_true rfl, Nat.le_of_ble_eq_true rfl⟩) hS (fun q _ h => hFc q h) hFc (fun r' u' t H locs ht hvm hw hB hz1 hk1 hS => ?_)
        subst hw
        obtain ⟨hP1, -, hD1⟩ := hB
        rw [ht] at hP1
        have hP : va_P (dC, dI) vwCl ((W_Model cI a (s_Model_at u2 ((g_Model_at u2) + (1 : Int32))))) H := hP1
        have hD : va_D A ((W_Model cI a (s_Model_at u2 ((g_Model_at u2) + (1 : Int32))))) := hD1.weaken (fun _ _ _ h => hFc _ h)
        refine lv_if_eq (tgt := 173) hx hb dX5_isNumber_166 (by decide) (fun c15 => ?_) (fun c15 => ?_)
        · have hF := F_pos c15 hF
          refine lv_iconst (v := (0 : Int32)) hx hb dX5_isNumber_173 (by decide) ?_
          refine lv_iadd hx hb dX5_isNumber_174 ?_
          refine va_put (D := (dC, dI)) (ci := 5) (v := .int (((g_Model_at u2) + (1 : Int32)) + (0 : Int32))) (ty := .int) (C := RX5) (T := TX5) (N := 26) hx hb hts hinX5 tyX5 tyX5_ok nmX5 hown hK hP hD hS 0 rfl rfl 6 (by decide) (hts (Cond.fieldLink RX5 68 "LearnedShapesModel" "at" "I") (List.mem_of_getElem? (i := 1) rfl)) (fun _ h9 => h9) rfl (by decide +kernel) (rfl) rfl (Nat.le_of_ble_eq_true rfl) dX5_isNumber_175 (fun H locs hP hD hS => ?_)
          have hP : va_P (dC, dI) vwCl ((W_Model cI a (s_Model_at u2 (((g_Model_at u2) + (1 : Int32)) + (0 : Int32))))) H := hP
          have hD : va_D A ((W_Model cI a (s_Model_at u2 (((g_Model_at u2) + (1 : Int32)) + (0 : Int32))))) := hD
          refine lv_aload_n hx hb dX5_isNumber_178 rfl (lv_at hl 1 rfl) ?_
          refine lv_iload hx hb dX5_isNumber_179 (lv_at hl 0 rfl) ?_
          refine lv_if_eq (tgt := 188) hx hb dX5_isNumber_181 (by decide) (fun c16 => ?_) (fun c16 => ?_)
          · have hF := F_pos c16 hF
            refine lv_iconst (v := (2 : Int32)) hx hb dX5_isNumber_188 (by decide) ?_
            refine lv_iload_n hx hb dX5_isNumber_189 rfl (lv_at hl 2 rfl) ?_
            refine lv_iload_n hx hb dX5_isNumber_190 rfl (lv_at hl 3 rfl) ?_
            obtain ⟨u17, h18, hF⟩ := ob1_some hF
            have hPc : va_P (dC, dI) vwCl ((W_Model cI a (s_Model_at u2 (((g_Model_at u2) + (1 : Int32)) + (0 : Int32))))) H := hP
            have hDc : va_D A ((W_Model cI a (s_Model_at u2 (((g_Model_at u2) + (1 : Int32)) + (0 : Int32))))) := hD
            have hFc := va_free (wc := (W_Model cI a (s_Model_at u2 (((g_Model_at u2) + (1 : Int32)) + (0 : Int32))))) hD hS hA [0, 1, 2, 3, 4, 5, 6, 7, 8, 9, 10, 11, 12, 13] rfl
            refine va_callv (va_runV (As := [.int (2 : Int32), .int v1, .int x2]) (rest := []) ⟨hx, hb, hml, hown, hts⟩ (c_X5_comes l dC dI cI a H.size _ _ _ _ _ h18) (cwV 3 hts gX5_isNumber_X5_comes rfl rfl rfl (by decide +kernel) ⟨Nat.le_of_ble_eq_true rfl, Nat.le_of_ble_eq_true rfl⟩) (jPreV hK hPc hDc hN (ci := 5) rfl rfl) rfl rfl hl.1 rfl (lv_room (Nat.le_of_ble_eq_true rfl)) dX5_isNumber_191 ⟨Nat.le_of_ble_eq_true rfl, Nat.le_of_ble_eq_true rfl⟩) hS (fun q _ h => hFc q h) hFc (fun u' t H locs ht hvm hw hB hz1 hk1 hS => ?_)
            subst hw
            obtain ⟨hP1, -, hD1⟩ := hB
            rw [ht] at hP1
            have hP : va_P (dC, dI) vwCl ((W_Model cI a u17)) H := hP1
            have hD : va_D A ((W_Model cI a u17)) := hD1.weaken (fun _ _ _ h => hFc _ h)
            refine lv_iconst (v := (1 : Int32)) hx hb dX5_isNumber_194 (by decide) ?_
            have e50 := Option.some.inj hF
            obtain ⟨e60, e51⟩ := Prod.mk.inj e50
            subst e60
            subst e51
            exact W.zret (v := (1 : Int32)) hx hb hr (rfl) (fun t ht hW => ⟨⟨(1 : Int32), u17, rfl, ⟨rfl, rfl⟩, by rw [ht]; exact hP, va_K.moved hW.alike hK, hD⟩, hS.F ht⟩) hS.2.2 dX5_isNumber_195
          · have hF := F_neg c16 hF
            refine lv_iconst (v := (3 : Int32)) hx hb dX5_isNumber_184 (by decide) ?_
            refine lv_goto (tgt := 189) hx hb dX5_isNumber_185 (by decide) ?_
            refine lv_iload_n hx hb dX5_isNumber_189 rfl (lv_at hl 2 rfl) ?_
            refine lv_iload_n hx hb dX5_isNumber_190 rfl (lv_at hl 3 rfl) ?_
            obtain ⟨u19, h20, hF⟩ := ob1_some hF
            have hPc : va_P (dC, dI) vwCl ((W_Model cI a (s_Model_at u2 (((g_Model_at u2) + (1 : Int32)) + (0 : Int32))))) H := hP
            have hDc : va_D A ((W_Model cI a (s_Model_at u2 (((g_Model_at u2) + (1 : Int32)) + (0 : Int32))))) := hD
            have hFc := va_free (wc := (W_Model cI a (s_Model_at u2 (((g_Model_at u2) + (1 : Int32)) + (0 : Int32))))) hD hS hA [0, 1, 2, 3, 4, 5, 6, 7, 8, 9, 10, 11, 12, 13] rfl
            refine va_callv (va_runV (As := [.int (3 : Int32), .int v1, .int x2]) (rest := []) ⟨hx, hb, hml, hown, hts⟩ (c_X5_comes l dC dI cI a H.size _ _ _ _ _ h20) (cwV 3 hts gX5_isNumber_X5_comes rfl rfl rfl (by decide +kernel) ⟨Nat.le_of_ble_eq_true rfl, Nat.le_of_ble_eq_true rfl⟩) (jPreV hK hPc hDc hN (ci := 5) rfl rfl) rfl rfl hl.1 rfl (lv_room (Nat.le_of_ble_eq_true rfl)) dX5_isNumber_191 ⟨Nat.le_of_ble_eq_true rfl, Nat.le_of_ble_eq_true rfl⟩) hS (fun q _ h => hFc q h) hFc (fun u' t H locs ht hvm hw hB hz1 hk1 hS => ?_)
            subst hw
            obtain ⟨hP1, -, hD1⟩ := hB
            rw [ht] at hP1
            have hP : va_P (dC, dI) vwCl ((W_Model cI a u19)) H := hP1
            have hD : va_D A ((W_Model cI a u19)) := hD1.weaken (fun _ _ _ h => hFc _ h)
            refine lv_iconst (v := (1 : Int32)) hx hb dX5_isNumber_194 (by decide) ?_
            have e50 := Option.some.inj hF
            obtain ⟨e60, e51⟩ := Prod.mk.inj e50
            subst e60
            subst e51
            exact W.zret (v := (1 : Int32)) hx hb hr (rfl) (fun t ht hW => ⟨⟨(1 : Int32), u19, rfl, ⟨rfl, rfl⟩, by rw [ht]; exact hP, va_K.moved hW.alike hK, hD⟩, hS.F ht⟩) hS.2.2 dX5_isNumber_195
        · have hF := F_neg c15 hF
          refine lv_iconst (v := (1 : Int32)) hx hb dX5_isNumber_169 (by decide) ?_
          refine lv_goto (tgt := 174) hx hb dX5_isNumber_170 (by decide) ?_
          refine lv_iadd hx hb dX5_isNumber_174 ?_
          refine va_put (D := (dC, dI)) (ci := 5) (v := .int (((g_Model_at u2) + (1 : Int32)) + (1 : Int32))) (ty := .int) (C := RX5) (T := TX5) (N := 26) hx hb hts hinX5 tyX5 tyX5_ok nmX5 hown hK hP hD hS 0 rfl rfl 6 (by decide) (hts (Cond.fieldLink RX5 68 "LearnedShapesModel" "at" "I") (List.mem_of_getElem? (i := 1) rfl)) (fun _ h9 => h9) rfl (by decide +kernel) (rfl) rfl (Nat.le_of_ble_eq_true rfl) dX5_isNumber_175 (fun H locs hP hD hS => ?_)
          have hP : va_P (dC, dI) vwCl ((W_Model cI a (s_Model_at u2 (((g_Model_at u2) + (1 : Int32)) + (1 : Int32))))) H := hP
          have hD : va_D A ((W_Model cI a (s_Model_at u2 (((g_Model_at u2) + (1 : Int32)) + (1 : Int32))))) := hD
          refine lv_aload_n hx hb dX5_isNumber_178 rfl (lv_at hl 1 rfl) ?_
          refine lv_iload hx hb dX5_isNumber_179 (lv_at hl 0 rfl) ?_
          refine lv_if_eq (tgt := 188) hx hb dX5_isNumber_181 (by decide) (fun c21 => ?_) (fun c21 => ?_)
          · have hF := F_pos c21 hF
            refine lv_iconst (v := (2 : Int32)) hx hb dX5_isNumber_188 (by decide) ?_
            refine lv_iload_n hx hb dX5_isNumber_189 rfl (lv_at hl 2 rfl) ?_
            refine lv_iload_n hx hb dX5_isNumber_190 rfl (lv_at hl 3 rfl) ?_
            obtain ⟨u22, h23, hF⟩ := ob1_some hF
            have hPc : va_P (dC, dI) vwCl ((W_Model cI a (s_Model_at u2 (((g_Model_at u2) + (1 : Int32)) + (1 : Int32))))) H := hP
            have hDc : va_D A ((W_Model cI a (s_Model_at u2 (((g_Model_at u2) + (1 : Int32)) + (1 : Int32))))) := hD
            have hFc := va_free (wc := (W_Model cI a (s_Model_at u2 (((g_Model_at u2) + (1 : Int32)) + (1 : Int32))))) hD hS hA [0, 1, 2, 3, 4, 5, 6, 7, 8, 9, 10, 11, 12, 13] rfl
            refine va_callv (va_runV (As := [.int (2 : Int32), .int v1, .int x2]) (rest := []) ⟨hx, hb, hml, hown, hts⟩ (c_X5_comes l dC dI cI a H.size _ _ _ _ _ h23) (cwV 3 hts gX5_isNumber_X5_comes rfl rfl rfl (by decide +kernel) ⟨Nat.le_of_ble_eq_true rfl, Nat.le_of_ble_eq_true rfl⟩) (jPreV hK hPc hDc hN (ci := 5) rfl rfl) rfl rfl hl.1 rfl (lv_room (Nat.le_of_ble_eq_true rfl)) dX5_isNumber_191 ⟨Nat.le_of_ble_eq_true rfl, Nat.le_of_ble_eq_true rfl⟩) hS (fun q _ h => hFc q h) hFc (fun u' t H locs ht hvm hw hB hz1 hk1 hS => ?_)
            subst hw
            obtain ⟨hP1, -, hD1⟩ := hB
            rw [ht] at hP1
            have hP : va_P (dC, dI) vwCl ((W_Model cI a u22)) H := hP1
            have hD : va_D A ((W_Model cI a u22)) := hD1.weaken (fun _ _ _ h => hFc _ h)
            refine lv_iconst (v := (1 : Int32)) hx hb dX5_isNumber_194 (by decide) ?_
            have e50 := Option.some.inj hF
            obtain ⟨e60, e51⟩ := Prod.mk.inj e50
            subst e60
            subst e51
            exact W.zret (v := (1 : Int32)) hx hb hr (rfl) (fun t ht hW => ⟨⟨(1 : Int32), u22, rfl, ⟨rfl, rfl⟩, by rw [ht]; exact hP, va_K.moved hW.alike hK, hD⟩, hS.F ht⟩) hS.2.2 dX5_isNumber_195
          · have hF := F_neg c21 hF
            refine lv_iconst (v := (3 : Int32)) hx hb dX5_isNumber_184 (by decide) ?_
            refine lv_goto (tgt := 189) hx hb dX5_isNumber_185 (by decide) ?_
            refine lv_iload_n hx hb dX5_isNumber_189 rfl (lv_at hl 2 rfl) ?_
            refine lv_iload_n hx hb dX5_isNumber_190 rfl (lv_at hl 3 rfl) ?_
            obtain ⟨u24, h25, hF⟩ := ob1_some hF
            have hPc : va_P (dC, dI) vwCl ((W_Model cI a (s_Model_at u2 (((g_Model_at u2) + (1 : Int32)) + (1 : Int32))))) H := hP
            have hDc : va_D A ((W_Model cI a (s_Model_at u2 (((g_Model_at u2) + (1 : Int32)) + (1 : Int32))))) := hD
            have hFc := va_free (wc := (W_Model cI a (s_Model_at u2 (((g_Model_at u2) + (1 : Int32)) + (1 : Int32))))) hD hS hA [0, 1, 2, 3, 4, 5, 6, 7, 8, 9, 10, 11, 12, 13] rfl
            refine va_callv (va_runV (As := [.int (3 : Int32), .int v1, .int x2]) (rest := []) ⟨hx, hb, hml, hown, hts⟩ (c_X5_comes l dC dI cI a H.size _ _ _ _ _ h25) (cwV 3 hts gX5_isNumber_X5_comes rfl rfl rfl (by decide +kernel) ⟨Nat.le_of_ble_eq_true rfl, Nat.le_of_ble_eq_true rfl⟩) (jPreV hK hPc hDc hN (ci := 5) rfl rfl) rfl rfl hl.1 rfl (lv_room (Nat.le_of_ble_eq_true rfl)) dX5_isNumber_191 ⟨Nat.le_of_ble_eq_true rfl, Nat.le_of_ble_eq_true rfl⟩) hS (fun q _ h => hFc q h) hFc (fun u' t H locs ht hvm hw hB hz1 hk1 hS => ?_)
            subst hw
            obtain ⟨hP1, -, hD1⟩ := hB
            rw [ht] at hP1
            have hP : va_P (dC, dI) vwCl ((W_Model cI a u24)) H := hP1
            have hD : va_D A ((W_Model cI a u24)) := hD1.weaken (fun _ _ _ h => hFc _ h)
            refine lv_iconst (v := (1 : Int32)) hx hb dX5_isNumber_194 (by decide) ?_
            have e50 := Option.some.inj hF
            obtain ⟨e60, e51⟩ := Prod.mk.inj e50
            subst e60
            subst e51
            exact W.zret (v := (1 : Int32)) hx hb hr (rfl) (fun t ht hW => ⟨⟨(1 : Int32), u24, rfl, ⟨rfl, rfl⟩, by rw [ht]; exact hP, va_K.moved hW.alike hK, hD⟩, hS.F ht⟩) hS.2.2 dX5_isNumber_195
      · have hF := F_pos c12 hF
        refine lv_aload_n hx hb dX5_isNumber_138 rfl (lv_at hl 1 rfl) ?_
        obtain ⟨r26, u27, h28, hF⟩ := ob2_some hF
        have hPc : va_P (dC, dI) vwCl ((W_Model cI a u2)) H := hP
        have hDc : va_D A ((W_Model cI a u2)) := hD
        have hFc := va_free (wc := (W_Model cI a u2)) hD hS hA [0, 1, 2, 3, 4, 5, 6, 7, 8, 9, 10, 11, 12, 13] rfl
        refine va_calli (va_runV (As := []) (rest := []) ⟨hx, hb, hml, hown, hts⟩ (c_X5_stops l dC dI cI a H.size _ _ _ h28) (cwV 0 hts gX5_isNumber_X5_stops rfl rfl rfl (by decide +kernel) ⟨Nat.le_of_ble_eq_true rfl, Nat.le_of_ble_eq_true rfl⟩) (jPreV hK hPc hDc hN (ci := 5) rfl rfl) rfl rfl hl.1 rfl (lv_room (Nat.le_of_ble_eq_true rfl)) dX5_isNumber_139 ⟨Nat.le_of_ble_eq_true rfl, Nat.le_of_ble_eq_true rfl⟩) hS (fun q _ h => hFc q h) hFc (fun r' u' t H locs ht hvm hw hB hz1 hk1 hS => ?_)
        obtain ⟨e1, e2⟩ := hw
        subst e1
        subst e2
        obtain ⟨hP1, -, hD1⟩ := hB
        rw [ht] at hP1
        have hP : va_P (dC, dI) vwCl ((W_Model cI a u27)) H := hP1
        have hD : va_D A ((W_Model cI a u27)) := hD1.weaken (fun _ _ _ h => hFc _ h)
        have e50 := Option.some.inj hF
        obtain ⟨e60, e51⟩ := Prod.mk.inj e50
        subst e60
        subst e51
        exact W.zret (v := (b2i r26)) hx hb hr (nb2i _) (fun t ht hW => ⟨⟨(b2i r26), u27, rfl, ⟨rfl, rfl⟩, by rw [ht]; exact hP, va_K.moved hW.alike hK, hD⟩, hS.F ht⟩) hS.2.2 dX5_isNumber_142
  have K51 : ∀ (n51 : Nat) (S : S_Model) (x2 : Int32) (x3 : Bool) (x4 : Bool) (x5 : Int32) (H : Heap) (locs : List Loc), F_X5_isNumber_51 v1 n51 S x2 x3 x4 x5 = some (rr, Y) → va_P (dC, dI) vwCl ((W_Model cI a S)) H → va_D A ((W_Model cI a S)) → va_S A s.heap H locs → ∀ ls : Array Slot, lv_has ls 6 [(0, .ref (a 0)), (1, .int v1), (2, .int x2), (3, .int (b2i x3)), (4, .int (b2i x4)), (5, .int x5)] → W p l e (headSpec wsX5_isNumber ({ frames := 3, cells := 0, slots := 0, locals := 66 } : Room)).room s m ([.ref (a 0), .int v1] : List Value).toArray below meth c H locs 0 0 (MQ below (va_Qi (fun (r' : Int32) (u : S_Model) => b2i rr = r' ∧ Y = u) (fun u : S_Model => jB (dC, dI) [(cI, .int)] A ((W_Model cI a u))) A) ([.ref (a 0), .int v1] : List Value).toArray s 0 0 A) (F0 m 51 ls []) := by
    intro n51
    induction n51 with
    | zero => intro S x2 x3 x4 x5 H locs hF; exact nomatch hF
    | succ n51 ih51 =>
      intro S x2 x3 x4 x5 H locs hF hP hD hS ls hl
      rw [F_X5_isNumber_51_s] at hF
      refine lv_iload hx hb dX5_isNumber_51 (lv_at hl 5 rfl) ?_
      refine lv_iconst (v := (4 : Int32)) hx hb dX5_isNumber_53 (by decide) ?_
      refine lv_icmp_ge (tgt := 89) hx hb dX5_isNumber_54 (by decide) (fun c29 => ?_) (fun c29 => ?_)
      · have hF := F_pos c29 hF
        refine lv_iload hx hb dX5_isNumber_89 (lv_at hl 4 rfl) ?_
        refine lv_if_eq (tgt := 114) hx hb dX5_isNumber_91 (by decide) (fun c30 => ?_) (fun c30 => ?_)
        · have hF := F_pos c30 hF
          exact K114 _ _ _ _ hF hP hD hS _ (lv_sub hl [0, 1, 2] rfl)
        · have hF := F_neg c30 hF
          refine lv_iload_n hx hb dX5_isNumber_94 rfl (lv_at hl 3 rfl) ?_
          refine lv_if_eq (tgt := 114) hx hb dX5_isNumber_95 (by decide) (fun c31 => ?_) (fun c31 => ?_)
          · have hF := F_pos c31 hF
            exact K114 _ _ _ _ hF hP hD hS _ (lv_sub hl [0, 1, 2] rfl)
          · have hF := F_neg c31 hF
            refine lv_aload_n hx hb dX5_isNumber_98 rfl (lv_at hl 0 rfl) ?_
            refine lv_bipush (v := (46 : Int32)) hx hb dX5_isNumber_99 (by decide) ?_
            refine lv_bipush (v := (46 : Int32)) hx hb dX5_isNumber_101 (by decide) ?_
            obtain ⟨r32, h33, hF⟩ := ob1_some hF
            have hPc : va_P (dC, dI) vwCl ((W_Model cI a S)) H := hP
            have hDc : va_D A ((W_Model cI a S)) := hD
            have hFc := va_free (wc := (W_Model cI a S)) hD hS hA [0, 1, 2, 3, 4, 5, 6, 7, 8, 9, 10, 11, 12, 13] rfl
            refine va_calli (va_runV (As := [.int (46 : Int32), .int (46 : Int32)]) (rest := []) ⟨hx, hb, hml, hown, hts⟩ (c_X5_isAt l dC dI cI a H.size _ _ _ _ h33) (cwV 2 hts gX5_isNumber_X5_isAt rfl rfl rfl (by decide +kernel) ⟨Nat.le_of_ble_eq_true rfl, Nat.le_of_ble_eq_true rfl⟩) (jPreV hK hPc hDc hN (ci := 5) rfl rfl) rfl rfl hl.1 rfl (lv_room (Nat.le_of_ble_eq_true rfl)) dX5_isNumber_103 ⟨Nat.le_of_ble_eq_true rfl, Nat.le_of_ble_eq_true rfl⟩) hS (fun q _ h => hFc q h) hFc (fun r' u' t H locs ht hvm hw hB hz1 hk1 hS => ?_)
            subst hw
            obtain ⟨hP1, -, hD1⟩ := hB
            rw [ht] at hP1
            have hP : va_P (dC, dI) vwCl ((W_Model cI a S)) H := hP1
            have hD : va_D A ((W_Model cI a S)) := hD1.weaken (fun _ _ _ h => hFc _ h)
            refine lv_if_ne (tgt := 114) hx hb dX5_isNumber_106 (by decide) (fun c34 => ?_) (fun c34 => ?_)
            · have hF := F_neg c34 hF
              exact K114 _ _ _ _ hF hP hD hS _ (lv_sub hl [0, 1, 2] rfl)
            · have hF := F_pos c34 hF
              refine lv_aload_n hx hb dX5_isNumber_109 rfl (lv_at hl 0 rfl) ?_
              obtain ⟨r35, u36, h37, hF⟩ := ob2_some hF
              have hPc : va_P (dC, dI) vwCl ((W_Model cI a S)) H := hP
              have hDc : va_D A ((W_Model cI a S)) := hD
              have hFc := va_free (wc := (W_Model cI a S)) hD hS hA [0, 1, 2, 3, 4, 5, 6, 7, 8, 9, 10, 11, 12, 13] rfl
              refine va_calli (va_runV (As := []) (rest := []) ⟨hx, hb, hml, hown, hts⟩ (c_X5_stops l dC dI cI a H.size _ _ _ h37) (cwV 0 hts gX5_isNumber_X5_stops rfl rfl rfl (by decide +kernel) ⟨Nat.le_of_ble_eq_true rfl, Nat.le_of_ble_eq_true rfl⟩) (jPreV hK hPc hDc hN (ci := 5) rfl rfl) rfl rfl hl.1 rfl (lv_room (Nat.le_of_ble_eq_true rfl)) dX5_isNumber_110 ⟨Nat.le_of_ble_eq_true rfl, Nat.le_of_ble_eq_true rfl⟩) hS (fun q _ h => hFc q h) hFc (fun r' u' t H locs ht hvm hw hB hz1 hk1 hS => ?_)
              obtain ⟨e1, e2⟩ := hw
              subst e1
              subst e2
              obtain ⟨hP1, -, hD1⟩ := hB
              rw [ht] at hP1
              have hP : va_P (dC, dI) vwCl ((W_Model cI a u36)) H := hP1
              have hD : va_D A ((W_Model cI a u36)) := hD1.weaken (fun _ _ _ h => hFc _ h)
              have e50 := Option.some.inj hF
              obtain ⟨e60, e51⟩ := Prod.mk.inj e50
              subst e60
              subst e51
              exact W.zret (v := (b2i r35)) hx hb hr (nb2i _) (fun t ht hW => ⟨⟨(b2i r35), u36, rfl, ⟨rfl, rfl⟩, by rw [ht]; exact hP, va_K.moved hW.alike hK, hD⟩, hS.F ht⟩) hS.2.2 dX5_isNumber_113
      · have hF := F_neg c29 hF
        refine lv_iload hx hb dX5_isNumber_57 (lv_at hl 4 rfl) ?_
        refine lv_if_ne (tgt := 89) hx hb dX5_isNumber_59 (by decide) (fun c38 => ?_) (fun c38 => ?_)
        · have hF := F_neg c38 hF
          refine lv_iload hx hb dX5_isNumber_89 (lv_at hl 4 rfl) ?_
          refine lv_if_eq (tgt := 114) hx hb dX5_isNumber_91 (by decide) (fun c39 => ?_) (fun c39 => ?_)
          · have hF := F_pos c39 hF
            exact K114 _ _ _ _ hF hP hD hS _ (lv_sub hl [0, 1, 2] rfl)
          · have hF := F_neg c39 hF
            refine lv_iload_n hx hb dX5_isNumber_94 rfl (lv_at hl 3 rfl) ?_
            refine lv_if_eq (tgt := 114) hx hb dX5_isNumber_95 (by decide) (fun c40 => ?_) (fun c40 => ?_)
            · have hF := F_pos c40 hF
              exact K114 _ _ _ _ hF hP hD hS _ (lv_sub hl [0, 1, 2] rfl)
            · have hF := F_neg c40 hF
              refine lv_aload_n hx hb dX5_isNumber_98 rfl (lv_at hl 0 rfl) ?_
              refine lv_bipush (v := (46 : Int32)) hx hb dX5_isNumber_99 (by decide) ?_
              refine lv_bipush (v := (46 : Int32)) hx hb dX5_isNumber_101 (by decide) ?_
              obtain ⟨r41, h42, hF⟩ := ob1_some hF
              have hPc : va_P (dC, dI) vwCl ((W_Model cI a S)) H := hP
              have hDc : va_D A ((W_Model cI a S)) := hD
              have hFc := va_free (wc := (W_Model cI a S)) hD hS hA [0, 1, 2, 3, 4, 5, 6, 7, 8, 9, 10, 11, 12, 13] rfl
              refine va_calli (va_runV (As := [.int (46 : Int32), .int (46 : Int32)]) (rest := []) ⟨hx, hb, hml, hown, hts⟩ (c_X5_isAt l dC dI cI a H.size _ _ _ _ h42) (cwV 2 hts gX5_isNumber_X5_isAt rfl rfl rfl (by decide +kernel) ⟨Nat.le_of_ble_eq_true rfl, Nat.le_of_ble_eq_true rfl⟩) (jPreV hK hPc hDc hN (ci := 5) rfl rfl) rfl rfl hl.1 rfl (lv_room (Nat.le_of_ble_eq_true rfl)) dX5_isNumber_103 ⟨Nat.le_of_ble_eq_true rfl, Nat.le_of_ble_eq_true rfl⟩) hS (fun q _ h => hFc q h) hFc (fun r' u' t H locs ht hvm hw hB hz1 hk1 hS => ?_)
              subst hw
              obtain ⟨hP1, -, hD1⟩ := hB
              rw [ht] at hP1
              have hP : va_P (dC, dI) vwCl ((W_Model cI a S)) H := hP1
              have hD : va_D A ((W_Model cI a S)) := hD1.weaken (fun _ _ _ h => hFc _ h)
              refine lv_if_ne (tgt := 114) hx hb dX5_isNumber_106 (by decide) (fun c43 => ?_) (fun c43 => ?_)
              · have hF := F_neg c43 hF
                exact K114 _ _ _ _ hF hP hD hS _ (lv_sub hl [0, 1, 2] rfl)
              · have hF := F_pos c43 hF
                refine lv_aload_n hx hb dX5_isNumber_109 rfl (lv_at hl 0 rfl) ?_
                obtain ⟨r44, u45, h46, hF⟩ := ob2_some hF
                have hPc : va_P (dC, dI) vwCl ((W_Model cI a S)) H := hP
                have hDc : va_D A ((W_Model cI a S)) := hD
                have hFc := va_free (wc := (W_Model cI a S)) hD hS hA [0, 1, 2, 3, 4, 5, 6, 7, 8, 9, 10, 11, 12, 13] rfl
                refine va_calli (va_runV (As := []) (rest := []) ⟨hx, hb, hml, hown, hts⟩ (c_X5_stops l dC dI cI a H.size _ _ _ h46) (cwV 0 hts gX5_isNumber_X5_stops rfl rfl rfl (by decide +kernel) ⟨Nat.le_of_ble_eq_true rfl, Nat.le_of_ble_eq_true rfl⟩) (jPreV hK hPc hDc hN (ci := 5) rfl rfl) rfl rfl hl.1 rfl (lv_room (Nat.le_of_ble_eq_true rfl)) dX5_isNumber_110 ⟨Nat.le_of_ble_eq_true rfl, Nat.le_of_ble_eq_true rfl⟩) hS (fun q _ h => hFc q h) hFc (fun r' u' t H locs ht hvm hw hB hz1 hk1 hS => ?_)
                obtain ⟨e1, e2⟩ := hw
                subst e1
                subst e2
                obtain ⟨hP1, -, hD1⟩ := hB
                rw [ht] at hP1
                have hP : va_P (dC, dI) vwCl ((W_Model cI a u45)) H := hP1
                have hD : va_D A ((W_Model cI a u45)) := hD1.weaken (fun _ _ _ h => hFc _ h)
                have e50 := Option.some.inj hF
                obtain ⟨e60, e51⟩ := Prod.mk.inj e50
                subst e60
                subst e51
                exact W.zret (v := (b2i r44)) hx hb hr (nb2i _) (fun t ht hW => ⟨⟨(b2i r44), u45, rfl, ⟨rfl, rfl⟩, by rw [ht]; exact hP, va_K.moved hW.alike hK, hD⟩, hS.F ht⟩) hS.2.2 dX5_isNumber_113
        · have hF := F_pos c38 hF
          refine lv_aload_n hx hb dX5_isNumber_62 rfl (lv_at hl 0 rfl) ?_
          refine lv_bipush (v := (48 : Int32)) hx hb dX5_isNumber_63 (by decide) ?_
          refine lv_bipush (v := (57 : Int32)) hx hb dX5_isNumber_65 (by decide) ?_
          obtain ⟨r47, h48, hF⟩ := ob1_some hF
          have hPc : va_P (dC, dI) vwCl ((W_Model cI a S)) H := hP
          have hDc : va_D A ((W_Model cI a S)) := hD
          have hFc := va_free (wc := (W_Model cI a S)) hD hS hA [0, 1, 2, 3, 4, 5, 6, 7, 8, 9, 10, 11, 12, 13] rfl
          refine va_calli (va_runV (As := [.int (48 : Int32), .int (57 : Int32)]) (rest := []) ⟨hx, hb, hml, hown, hts⟩ (c_X5_isAt l dC dI cI a H.size _ _ _ _ h48) (cwV 2 hts gX5_isNumber_X5_isAt rfl rfl rfl (by decide +kernel) ⟨Nat.le_of_ble_eq_true rfl, Nat.le_of_ble_eq_true rfl⟩) (jPreV hK hPc hDc hN (ci := 5) rfl rfl) rfl rfl hl.1 rfl (lv_room (Nat.le_of_ble_eq_true rfl)) dX5_isNumber_67 ⟨Nat.le_of_ble_eq_true rfl, Nat.le_of_ble_eq_true rfl⟩) hS (fun q _ h => hFc q h) hFc (fun r' u' t H locs ht hvm hw hB hz1 hk1 hS => ?_)
          subst hw
          obtain ⟨hP1, -, hD1⟩ := hB
          rw [ht] at hP1
          have hP : va_P (dC, dI) vwCl ((W_Model cI a S)) H := hP1
          have hD : va_D A ((W_Model cI a S)) := hD1.weaken (fun _ _ _ h => hFc _ h)
          refine lv_if_eq (tgt := 89) hx hb dX5_isNumber_70 (by decide) (fun c49 => ?_) (fun c49 => ?_)
          · have hF := F_pos c49 hF
            refine lv_iload hx hb dX5_isNumber_89 (lv_at hl 4 rfl) ?_
            refine lv_if_eq (tgt := 114) hx hb dX5_isNumber_91 (by decide) (fun c50 => ?_) (fun c50 => ?_)
            · have hF := F_pos c50 hF
              exact K114 _ _ _ _ hF hP hD hS _ (lv_sub hl [0, 1, 2] rfl)
            · have hF := F_neg c50 hF
              refine lv_iload_n hx hb dX5_isNumber_94 rfl (lv_at hl 3 rfl) ?_
              refine lv_if_eq (tgt := 114) hx hb dX5_isNumber_95 (by decide) (fun c51 => ?_) (fun c51 => ?_)
              · have hF := F_pos c51 hF
                exact K114 _ _ _ _ hF hP hD hS _ (lv_sub hl [0, 1, 2] rfl)
              · have hF := F_neg c51 hF
                refine lv_aload_n hx hb dX5_isNumber_98 rfl (lv_at hl 0 rfl) ?_
                refine lv_bipush (v := (46 : Int32)) hx hb dX5_isNumber_99 (by decide) ?_
                refine lv_bipush (v := (46 : Int32)) hx hb dX5_isNumber_101 (by decide) ?_
                obtain ⟨r52, h53, hF⟩ := ob1_some hF
                have hPc : va_P (dC, dI) vwCl ((W_Model cI a S)) H := hP
                have hDc : va_D A ((W_Model cI a S)) := hD
                have hFc := va_free (wc := (W_Model cI a S)) hD hS hA [0, 1, 2, 3, 4, 5, 6, 7, 8, 9, 10, 11, 12, 13] rfl
                refine va_calli (va_runV (As := [.int (46 : Int32), .int (46 : Int32)]) (rest := []) ⟨hx, hb, hml, hown, hts⟩ (c_X5_isAt l dC dI cI a H.size _ _ _ _ h53) (cwV 2 hts gX5_isNumber_X5_isAt rfl rfl rfl (by decide +kernel) ⟨Nat.le_of_ble_eq_true rfl, Nat.le_of_ble_eq_true rfl⟩) (jPreV hK hPc hDc hN (ci := 5) rfl rfl) rfl rfl hl.1 rfl (lv_room (Nat.le_of_ble_eq_true rfl)) dX5_isNumber_103 ⟨Nat.le_of_ble_eq_true rfl, Nat.le_of_ble_eq_true rfl⟩) hS (fun q _ h => hFc q h) hFc (fun r' u' t H locs ht hvm hw hB hz1 hk1 hS => ?_)
                subst hw
                obtain ⟨hP1, -, hD1⟩ := hB
                rw [ht] at hP1
                have hP : va_P (dC, dI) vwCl ((W_Model cI a S)) H := hP1
                have hD : va_D A ((W_Model cI a S)) := hD1.weaken (fun _ _ _ h => hFc _ h)
                refine lv_if_ne (tgt := 114) hx hb dX5_isNumber_106 (by decide) (fun c54 => ?_) (fun c54 => ?_)
                · have hF := F_neg c54 hF
                  exact K114 _ _ _ _ hF hP hD hS _ (lv_sub hl [0, 1, 2] rfl)
                · have hF := F_pos c54 hF
                  refine lv_aload_n hx hb dX5_isNumber_109 rfl (lv_at hl 0 rfl) ?_
                  obtain ⟨r55, u56, h57, hF⟩ := ob2_some hF
                  have hPc : va_P (dC, dI) vwCl ((W_Model cI a S)) H := hP
                  have hDc : va_D A ((W_Model cI a S)) := hD
                  have hFc := va_free (wc := (W_Model cI a S)) hD hS hA [0, 1, 2, 3, 4, 5, 6, 7, 8, 9, 10, 11, 12, 13] rfl
                  refine va_calli (va_runV (As := []) (rest := []) ⟨hx, hb, hml, hown, hts⟩ (c_X5_stops l dC dI cI a H.size _ _ _ h57) (cwV 0 hts gX5_isNumber_X5_stops rfl rfl rfl (by decide +kernel) ⟨Nat.le_of_ble_eq_true rfl, Nat.le_of_ble_eq_true rfl⟩) (jPreV hK hPc hDc hN (ci := 5) rfl rfl) rfl rfl hl.1 rfl (lv_room (Nat.le_of_ble_eq_true rfl)) dX5_isNumber_110 ⟨Nat.le_of_ble_eq_true rfl, Nat.le_of_ble_eq_true rfl⟩) hS (fun q _ h => hFc q h) hFc (fun r' u' t H locs ht hvm hw hB hz1 hk1 hS => ?_)
                  obtain ⟨e1, e2⟩ := hw
                  subst e1
                  subst e2
                  obtain ⟨hP1, -, hD1⟩ := hB
                  rw [ht] at hP1
                  have hP : va_P (dC, dI) vwCl ((W_Model cI a u56)) H := hP1
                  have hD : va_D A ((W_Model cI a u56)) := hD1.weaken (fun _ _ _ h => hFc _ h)
                  have e50 := Option.some.inj hF
                  obtain ⟨e60, e51⟩ := Prod.mk.inj e50
                  subst e60
                  subst e51
                  exact W.zret (v := (b2i r55)) hx hb hr (nb2i _) (fun t ht hW => ⟨⟨(b2i r55), u56, rfl, ⟨rfl, rfl⟩, by rw [ht]; exact hP, va_K.moved hW.alike hK, hD⟩, hS.F ht⟩) hS.2.2 dX5_isNumber_113
          · have hF := F_neg c49 hF
            refine lv_aload_n hx hb dX5_isNumber_73 rfl (lv_at hl 0 rfl) ?_
            refine lv_dup hx hb dX5_isNumber_74 rfl ?_
            refine va_get (D := (dC, dI)) (ci := 5) (v := .int (g_Model_at S)) (C := RX5) (T := TX5) (N := 26) hx hb hts hinX5 hown hK hP 0 rfl rfl 6 (by decide) (hts (Cond.fieldLink RX5 68 "LearnedShapesModel" "at" "I") (List.mem_of_getElem? (i := 1) rfl)) (fun _ h9 => h9) rfl dX5_isNumber_75 ?_
            refine lv_iconst (v := (1 : Int32)) hx hb dX5_isNumber_78 (by decide) ?_
            refine lv_iadd hx hb dX5_isNumber_79 ?_
            refine va_put (D := (dC, dI)) (ci := 5) (v := .int ((g_Model_at S) + (1 : Int32))) (ty := .int) (C := RX5) (T := TX5) (N := 26) hx hb hts hinX5 tyX5 tyX5_ok nmX5 hown hK hP hD hS 0 rfl rfl 6 (by decide) (hts (Cond.fieldLink RX5 68 "LearnedShapesModel" "at" "I") (List.mem_of_getElem? (i := 1) rfl)) (fun _ h9 => h9) rfl (by decide +kernel) (rfl) rfl (Nat.le_of_ble_eq_true rfl) dX5_isNumber_80 (fun H locs hP hD hS => ?_)
            have hP : va_P (dC, dI) vwCl ((W_Model cI a (s_Model_at S ((g_Model_at S) + (1 : Int32))))) H := hP
            have hD : va_D A ((W_Model cI a (s_Model_at S ((g_Model_at S) + (1 : Int32))))) := hD
            refine lv_iinc (v := (x5 + (1 : Int32))) (lv' := [(5, .int (x5 + (1 : Int32))), (0, .ref (a 0)), (1, .int v1), (2, .int x2), (3, .int (b2i x3)), (4, .int (b2i x4))]) hx hb dX5_isNumber_83 hl (k := 5) rfl rfl (by decide) rfl (fun ls hl => ?_)
            refine lv_goto (tgt := 51) hx hb dX5_isNumber_86 (by decide) ?_
            exact ih51 _ _ _ _ _ _ _ hF hP hD hS _ (lv_sub hl [1, 2, 3, 4, 5, 0] rfl)
  have KE : ∀ (H : Heap) (locs : List Loc), va_P (dC, dI) vwCl ((W_Model cI a S)) H → va_D A ((W_Model cI a S)) → va_S A s.heap H locs → W p l e (headSpec wsX5_isNumber ({ frames := 3, cells := 0, slots := 0, locals := 66 } : Room)).room s m ([.ref (a 0), .int v1] : List Value).toArray below meth c H locs 0 0 (MQ below (va_Qi (fun (r' : Int32) (u : S_Model) => b2i rr = r' ∧ Y = u) (fun u : S_Model => jB (dC, dI) [(cI, .int)] A ((W_Model cI a u))) A) ([.ref (a 0), .int v1] : List Value).toArray s 0 0 A) (F0 m 0 ls []) := by
    intro H locs hP hD hS
    unfold F_X5_isNumber at hF
    refine lv_aload_n hx hb dX5_isNumber_0 rfl (lv_at hl 0 rfl) ?_
    refine va_get (D := (dC, dI)) (ci := 5) (v := .int (g_Model_at S)) (C := RX5) (T := TX5) (N := 26) hx hb hts hinX5 hown hK hP 0 rfl rfl 6 (by decide) (hts (Cond.fieldLink RX5 68 "LearnedShapesModel" "at" "I") (List.mem_of_getElem? (i := 1) rfl)) (fun _ h9 => h9) rfl dX5_isNumber_1 ?_
    refine lv_istore_n (lv' := [(2, .int (g_Model_at S)), (0, .ref (a 0)), (1, .int v1)]) hx hb dX5_isNumber_4 rfl hl (by decide) rfl (fun ls hl => ?_)
    refine lv_aload_n hx hb dX5_isNumber_5 rfl (lv_at hl 1 rfl) ?_
    refine lv_bipush (v := (45 : Int32)) hx hb dX5_isNumber_6 (by decide) ?_
    obtain ⟨r58, u59, h60, hF⟩ := ob2_some hF
    have hPc : va_P (dC, dI) vwCl ((W_Model cI a S)) H := hP
    have hDc : va_D A ((W_Model cI a S)) := hD
    have hFc := va_free (wc := (W_Model cI a S)) hD hS hA [0, 1, 2, 3, 4, 5, 6, 7, 8, 9, 10, 11, 12, 13] rfl
    refine va_calli (va_runV (As := [.int (45 : Int32)]) (rest := []) ⟨hx, hb, hml, hown, hts⟩ (c_X5_isSign l dC dI cI a H.size _ _ _ _ h60) (cwV 1 hts gX5_isNumber_X5_isSign rfl rfl rfl (by decide +kernel) ⟨Nat.le_of_ble_eq_true rfl, Nat.le_of_ble_eq_true rfl⟩) (jPreV hK hPc hDc hN (ci := 5) rfl rfl) rfl rfl hl.1 rfl (lv_room (Nat.le_of_ble_eq_true rfl)) dX5_isNumber_8 ⟨Nat.le_of_ble_eq_true rfl, Nat.le_of_ble_eq_true rfl⟩) hS (fun q _ h => hFc q h) hFc (fun r' u' t H locs ht hvm hw hB hz1 hk1 hS => ?_)
    obtain ⟨e1, e2⟩ := hw
    subst e1
    subst e2
    obtain ⟨hP1, -, hD1⟩ := hB
    rw [ht] at hP1
    have hP : va_P (dC, dI) vwCl ((W_Model cI a u59)) H := hP1
    have hD : va_D A ((W_Model cI a u59)) := hD1.weaken (fun _ _ _ h => hFc _ h)
    refine lv_istore_n (lv' := [(3, .int (b2i r58)), (2, .int (g_Model_at S)), (0, .ref (a 0)), (1, .int v1)]) hx hb dX5_isNumber_11 rfl hl (by decide) rfl (fun ls hl => ?_)
    refine lv_aload_n hx hb dX5_isNumber_12 rfl (lv_at hl 2 rfl) ?_
    refine lv_bipush (v := (48 : Int32)) hx hb dX5_isNumber_13 (by decide) ?_
    refine lv_bipush (v := (57 : Int32)) hx hb dX5_isNumber_15 (by decide) ?_
    obtain ⟨r61, h62, hF⟩ := ob1_some hF
    have hPc : va_P (dC, dI) vwCl ((W_Model cI a u59)) H := hP
    have hDc : va_D A ((W_Model cI a u59)) := hD
    have hFc := va_free (wc := (W_Model cI a u59)) hD hS hA [0, 1, 2, 3, 4, 5, 6, 7, 8, 9, 10, 11, 12, 13] rfl
    refine va_calli (va_runV (As := [.int (48 : Int32), .int (57 : Int32)]) (rest := []) ⟨hx, hb, hml, hown, hts⟩ (c_X5_isAt l dC dI cI a H.size _ _ _ _ h62) (cwV 2 hts gX5_isNumber_X5_isAt rfl rfl rfl (by decide +kernel) ⟨Nat.le_of_ble_eq_true rfl, Nat.le_of_ble_eq_true rfl⟩) (jPreV hK hPc hDc hN (ci := 5) rfl rfl) rfl rfl hl.1 rfl (lv_room (Nat.le_of_ble_eq_true rfl)) dX5_isNumber_17 ⟨Nat.le_of_ble_eq_true rfl, Nat.le_of_ble_eq_true rfl⟩) hS (fun q _ h => hFc q h) hFc (fun r' u' t H locs ht hvm hw hB hz1 hk1 hS => ?_)
    subst hw
    obtain ⟨hP1, -, hD1⟩ := hB
    rw [ht] at hP1
    have hP : va_P (dC, dI) vwCl ((W_Model cI a u59)) H := hP1
    have hD : va_D A ((W_Model cI a u59)) := hD1.weaken (fun _ _ _ h => hFc _ h)
    refine lv_if_ne (tgt := 28) hx hb dX5_isNumber_20 (by decide) (fun c63 => ?_) (fun c63 => ?_)
    · have hF := F_neg c63 hF
      refine lv_aload_n hx hb dX5_isNumber_28 rfl (lv_at hl 2 rfl) ?_
      refine lv_bipush (v := (48 : Int32)) hx hb dX5_isNumber_29 (by decide) ?_
      refine lv_bipush (v := (48 : Int32)) hx hb dX5_isNumber_31 (by decide) ?_
      obtain ⟨r64, h65, hF⟩ := ob1_some hF
      have hPc : va_P (dC, dI) vwCl ((W_Model cI a u59)) H := hP
      have hDc : va_D A ((W_Model cI a u59)) := hD
      have hFc := va_free (wc := (W_Model cI a u59)) hD hS hA [0, 1, 2, 3, 4, 5, 6, 7, 8, 9, 10, 11, 12, 13] rfl
      refine va_calli (va_runV (As := [.int (48 : Int32), .int (48 : Int32)]) (rest := []) ⟨hx, hb, hml, hown, hts⟩ (c_X5_isAt l dC dI cI a H.size _ _ _ _ h65) (cwV 2 hts gX5_isNumber_X5_isAt rfl rfl rfl (by decide +kernel) ⟨Nat.le_of_ble_eq_true rfl, Nat.le_of_ble_eq_true rfl⟩) (jPreV hK hPc hDc hN (ci := 5) rfl rfl) rfl rfl hl.1 rfl (lv_room (Nat.le_of_ble_eq_true rfl)) dX5_isNumber_33 ⟨Nat.le_of_ble_eq_true rfl, Nat.le_of_ble_eq_true rfl⟩) hS (fun q _ h => hFc q h) hFc (fun r' u' t H locs ht hvm hw hB hz1 hk1 hS => ?_)
      subst hw
      obtain ⟨hP1, -, hD1⟩ := hB
      rw [ht] at hP1
      have hP : va_P (dC, dI) vwCl ((W_Model cI a u59)) H := hP1
      have hD : va_D A ((W_Model cI a u59)) := hD1.weaken (fun _ _ _ h => hFc _ h)
      refine lv_istore (lv' := [(4, .int (b2i r64)), (3, .int (b2i r58)), (2, .int (g_Model_at S)), (0, .ref (a 0)), (1, .int v1)]) hx hb dX5_isNumber_36 hl (by decide) rfl (fun ls hl => ?_)
      refine lv_aload_n hx hb dX5_isNumber_38 rfl (lv_at hl 3 rfl) ?_
      refine lv_dup hx hb dX5_isNumber_39 rfl ?_
      refine va_get (D := (dC, dI)) (ci := 5) (v := .int (g_Model_at u59)) (C := RX5) (T := TX5) (N := 26) hx hb hts hinX5 hown hK hP 0 rfl rfl 6 (by decide) (hts (Cond.fieldLink RX5 68 "LearnedShapesModel" "at" "I") (List.mem_of_getElem? (i := 1) rfl)) (fun _ h9 => h9) rfl dX5_isNumber_40 ?_
      refine lv_iconst (v := (1 : Int32)) hx hb dX5_isNumber_43 (by decide) ?_
      refine lv_iadd hx hb dX5_isNumber_44 ?_
      refine va_put (D := (dC, dI)) (ci := 5) (v := .int ((g_Model_at u59) + (1 : Int32))) (ty := .int) (C := RX5) (T := TX5) (N := 26) hx hb hts hinX5 tyX5 tyX5_ok nmX5 hown hK hP hD hS 0 rfl rfl 6 (by decide) (hts (Cond.fieldLink RX5 68 "LearnedShapesModel" "at" "I") (List.mem_of_getElem? (i := 1) rfl)) (fun _ h9 => h9) rfl (by decide +kernel) (rfl) rfl (Nat.le_of_ble_eq_true rfl) dX5_isNumber_45 (fun H locs hP hD hS => ?_)
      have hP : va_P (dC, dI) vwCl ((W_Model cI a (s_Model_at u59 ((g_Model_at u59) + (1 : Int32))))) H := hP
      have hD : va_D A ((W_Model cI a (s_Model_at u59 ((g_Model_at u59) + (1 : Int32))))) := hD
      refine lv_iconst (v := (1 : Int32)) hx hb dX5_isNumber_48 (by decide) ?_
      refine lv_istore (lv' := [(5, .int (1 : Int32)), (4, .int (b2i r64)), (3, .int (b2i r58)), (2, .int (g_Model_at S)), (0, .ref (a 0)), (1, .int v1)]) hx hb dX5_isNumber_49 hl (by decide) rfl (fun ls hl => ?_)
      exact K51 _ _ _ _ _ _ _ _ hF hP hD hS _ (lv_sub hl [4, 5, 3, 2, 1, 0] rfl)
    · have hF := F_pos c63 hF
      refine lv_aload_n hx hb dX5_isNumber_23 rfl (lv_at hl 2 rfl) ?_
      obtain ⟨r66, u67, h68, hF⟩ := ob2_some hF
      have hPc : va_P (dC, dI) vwCl ((W_Model cI a u59)) H := hP
      have hDc : va_D A ((W_Model cI a u59)) := hD
      have hFc := va_free (wc := (W_Model cI a u59)) hD hS hA [0, 1, 2, 3, 4, 5, 6, 7, 8, 9, 10, 11, 12, 13] rfl
      refine va_calli (va_runV (As := []) (rest := []) ⟨hx, hb, hml, hown, hts⟩ (c_X5_stops l dC dI cI a H.size _ _ _ h68) (cwV 0 hts gX5_isNumber_X5_stops rfl rfl rfl (by decide +kernel) ⟨Nat.le_of_ble_eq_true rfl, Nat.le_of_ble_eq_true rfl⟩) (jPreV hK hPc hDc hN (ci := 5) rfl rfl) rfl rfl hl.1 rfl (lv_room (Nat.le_of_ble_eq_true rfl)) dX5_isNumber_24 ⟨Nat.le_of_ble_eq_true rfl, Nat.le_of_ble_eq_true rfl⟩) hS (fun q _ h => hFc q h) hFc (fun r' u' t H locs ht hvm hw hB hz1 hk1 hS => ?_)
      obtain ⟨e1, e2⟩ := hw
      subst e1
      subst e2
      obtain ⟨hP1, -, hD1⟩ := hB
      rw [ht] at hP1
      have hP : va_P (dC, dI) vwCl ((W_Model cI a u67)) H := hP1
      have hD : va_D A ((W_Model cI a u67)) := hD1.weaken (fun _ _ _ h => hFc _ h)
      have e50 := Option.some.inj hF
      obtain ⟨e60, e51⟩ := Prod.mk.inj e50
      subst e60
      subst e51
      exact W.zret (v := (b2i r66)) hx hb hr (nb2i _) (fun t ht hW => ⟨⟨(b2i r66), u67, rfl, ⟨rfl, rfl⟩, by rw [ht]; exact hP, va_K.moved hW.alike hK, hD⟩, hS.F ht⟩) hS.2.2 dX5_isNumber_27
  exact KE _ _ hP hD hS
set_option maxHeartbeats 4000000 in
set_option maxRecDepth 100000 in
theorem c_X5_isWord (l : Launch) (dC : Nat → ClassId) (dI : Nat → Nat → Nat) (cI : ClassId) (a : Nat → Nat) (sz : Nat) (S : S_Model) (v1 : Int32) (rr : Bool) (Y : S_Model) (hF : F_X5_isWord S v1 = some (rr, Y)) : Met l yX5_isWord wsX5_isWord ({ frames := 3, cells := 0, slots := 0, locals := 66 } : Room) (va_Pc [.ref (a 0), .int v1] (jPre (dC, dI) [(cI, .int)] sz ((W_Model cI a S)))) (va_Qi (fun (r' : Int32) (u : S_Model) => b2i rr = r' ∧ Y = u) (fun u : S_Model => jB (dC, dI) [(cI, .int)] (va_A ((W_Model cI a S)) sz) ((W_Model cI a u))) (va_A ((W_Model cI a S)) sz)) 0 0 (va_A ((W_Model cI a S)) sz) := by
  refine Met.ofW (cc := cX5_isWord) (maxL := 4) (ret := (some .boolean)) (by decide) rfl ?_
  intro p e s m args below meth c s₁ B hml hv
  obtain ⟨rfl, hsz, hP, hK, hD0, hN⟩ := hv
  have hx := B.exec
  have hb := B.bytes
  have hr := B.returns
  have hts := atoms_spec (ws := wsX5_isWord) B.pre
  have hown : s.vm.findClass RX5 = some m.cls := findClass_of_methodNamed B.named
  have hlocks := B.notSynchronized
  have hinX5 : ∀ w ∈ u_ws RX5 TX5 26, w ∈ wsX5_isWord := by decide +kernel
  subst hsz
  have hD := hD0.self (sz := s.heap.size)
  generalize hAe : (va_A ((W_Model cI a S)) s.heap.size) = A at hD ⊢
  have hA : ∀ q : Nat, s.heap.size ≤ q → A q := fun q h => by rw [← hAe]; exact Or.inr h
  have hS : va_S A s.heap s.heap [] := va_S.rf
  have hl := lv_entry ([.ref (a 0), .int v1]) (n := 4) (Nat.le_of_ble_eq_true rfl)
  rw [lg_entry_eq]
  generalize (lg_sl ([.ref (a 0), .int v1]) ++ List.replicate (4 - (lg_sl ([.ref (a 0), .int v1])).length) Slot.unset).toArray = ls at hl ⊢
  have hl : lv_has ls 4 [(0, .ref (a 0)), (1, .int v1)] := hl
  have K65 : ∀ (S : S_Model) (x2 : Int32) (H : Heap) (locs : List Loc), F_X5_isWord_65 v1 S x2 = some (rr, Y) → va_P (dC, dI) vwCl ((W_Model cI a S)) H → va_D A ((W_Model cI a S)) → va_S A s.heap H locs → ∀ ls : Array Slot, lv_has ls 4 [(0, .ref (a 0)), (1, .int v1), (2, .int x2)] → W p l e (headSpec wsX5_isWord ({ frames := 3, cells := 0, slots := 0, locals := 66 } : Room)).room s m ([.ref (a 0), .int v1] : List Value).toArray below meth c H locs 0 0 (MQ below (va_Qi (fun (r' : Int32) (u : S_Model) => b2i rr = r' ∧ Y = u) (fun u : S_Model => jB (dC, dI) [(cI, .int)] A ((W_Model cI a u))) A) ([.ref (a 0), .int v1] : List Value).toArray s 0 0 A) (F0 m 65 ls []) := by
    intro S x2 H locs hF hP hD hS ls hl
    unfold F_X5_isWord_65 at hF
    refine lv_aload_n hx hb dX5_isWord_65 rfl (lv_at hl 0 rfl) ?_
    refine lv_bipush (v := (39 : Int32)) hx hb dX5_isWord_66 (by decide) ?_
    obtain ⟨r1, u2, h3, hF⟩ := ob2_some hF
    have hPc : va_P (dC, dI) vwCl ((W_Model cI a S)) H := hP
    have hDc : va_D A ((W_Model cI a S)) := hD
    have hFc := va_free (wc := (W_Model cI a S)) hD hS hA [0, 1, 2, 3, 4, 5, 6, 7, 8, 9, 10, 11, 12, 13] rfl
    refine va_calli (va_runV (As := [.int (39 : Int32)]) (rest := []) ⟨hx, hb, hml, hown, hts⟩ (c_X5_isSign l dC dI cI a H.size _ _ _ _ h3) (cwV 1 hts gX5_isWord_X5_isSign rfl rfl rfl (by decide +kernel) ⟨Nat.le_of_ble_eq_true rfl, Nat.le_of_ble_eq_true rfl⟩) (jPreV hK hPc hDc hN (ci := 5) rfl rfl) rfl rfl hl.1 rfl (lv_room (Nat.le_of_ble_eq_true rfl)) dX5_isWord_68 ⟨Nat.le_of_ble_eq_true rfl, Nat.le_of_ble_eq_true rfl⟩) hS (fun q _ h => hFc q h) hFc (fun r' u' t H locs ht hvm hw hB hz1 hk1 hS => ?_)
    obtain ⟨e1, e2⟩ := hw
    subst e1
    subst e2
    obtain ⟨hP1, -, hD1⟩ := hB
    rw [ht] at hP1
    have hP : va_P (dC, dI) vwCl ((W_Model cI a u2)) H := hP1
    have hD : va_D A ((W_Model cI a u2)) := hD1.weaken (fun _ _ _ h => hFc _ h)
    refine lv_if_ne (tgt := 79) hx hb dX5_isWord_71 (by decide) (fun c4 => ?_) (fun c4 => ?_)
    · have hF := F_neg c4 hF
      refine lv_aload_n hx hb dX5_isWord_79 rfl (lv_at hl 0 rfl) ?_
      refine lv_iconst (v := (4 : Int32)) hx hb dX5_isWord_80 (by decide) ?_
      refine lv_iload_n hx hb dX5_isWord_81 rfl (lv_at hl 1 rfl) ?_
      refine lv_iload_n hx hb dX5_isWord_82 rfl (lv_at hl 2 rfl) ?_
      obtain ⟨u5, h6, hF⟩ := ob1_some hF
      have hPc : va_P (dC, dI) vwCl ((W_Model cI a u2)) H := hP
      have hDc : va_D A ((W_Model cI a u2)) := hD
      have hFc := va_free (wc := (W_Model cI a u2)) hD hS hA [0, 1, 2, 3, 4, 5, 6, 7, 8, 9, 10, 11, 12, 13] rfl
      refine va_callv (va_runV (As := [.int (4 : Int32), .int v1, .int x2]) (rest := []) ⟨hx, hb, hml, hown, hts⟩ (c_X5_comes l dC dI cI a H.size _ _ _ _ _ h6) (cwV 3 hts gX5_isWord_X5_comes rfl rfl rfl (by decide +kernel) ⟨Nat.le_of_ble_eq_true rfl, Nat.le_of_ble_eq_true rfl⟩) (jPreV hK hPc hDc hN (ci := 5) rfl rfl) rfl rfl hl.1 rfl (lv_room (Nat.le_of_ble_eq_true rfl)) dX5_isWord_83 ⟨Nat.le_of_ble_eq_true rfl, Nat.le_of_ble_eq_true rfl⟩) hS (fun q _ h => hFc q h) hFc (fun u' t H locs ht hvm hw hB hz1 hk1 hS => ?_)
      subst hw
      obtain ⟨hP1, -, hD1⟩ := hB
      rw [ht] at hP1
      have hP : va_P (dC, dI) vwCl ((W_Model cI a u5)) H := hP1
      have hD : va_D A ((W_Model cI a u5)) := hD1.weaken (fun _ _ _ h => hFc _ h)
      refine lv_iconst (v := (1 : Int32)) hx hb dX5_isWord_86 (by decide) ?_
      have e50 := Option.some.inj hF
      obtain ⟨e60, e51⟩ := Prod.mk.inj e50
      subst e60
      subst e51
      exact W.zret (v := (1 : Int32)) hx hb hr (rfl) (fun t ht hW => ⟨⟨(1 : Int32), u5, rfl, ⟨rfl, rfl⟩, by rw [ht]; exact hP, va_K.moved hW.alike hK, hD⟩, hS.F ht⟩) hS.2.2 dX5_isWord_87
    · have hF := F_pos c4 hF
      refine lv_aload_n hx hb dX5_isWord_74 rfl (lv_at hl 0 rfl) ?_
      obtain ⟨r7, u8, h9, hF⟩ := ob2_some hF
      have hPc : va_P (dC, dI) vwCl ((W_Model cI a u2)) H := hP
      have hDc : va_D A ((W_Model cI a u2)) := hD
      have hFc := va_free (wc := (W_Model cI a u2)) hD hS hA [0, 1, 2, 3, 4, 5, 6, 7, 8, 9, 10, 11, 12, 13] rfl
      refine va_calli (va_runV (As := []) (rest := []) ⟨hx, hb, hml, hown, hts⟩ (c_X5_stops l dC dI cI a H.size _ _ _ h9) (cwV 0 hts gX5_isWord_X5_stops rfl rfl rfl (by decide +kernel) ⟨Nat.le_of_ble_eq_true rfl, Nat.le_of_ble_eq_true rfl⟩) (jPreV hK hPc hDc hN (ci := 5) rfl rfl) rfl rfl hl.1 rfl (lv_room (Nat.le_of_ble_eq_true rfl)) dX5_isWord_75 ⟨Nat.le_of_ble_eq_true rfl, Nat.le_of_ble_eq_true rfl⟩) hS (fun q _ h => hFc q h) hFc (fun r' u' t H locs ht hvm hw hB hz1 hk1 hS => ?_)
      obtain ⟨e1, e2⟩ := hw
      subst e1
      subst e2
      obtain ⟨hP1, -, hD1⟩ := hB
      rw [ht] at hP1
      have hP : va_P (dC, dI) vwCl ((W_Model cI a u8)) H := hP1
      have hD : va_D A ((W_Model cI a u8)) := hD1.weaken (fun _ _ _ h => hFc _ h)
      have e50 := Option.some.inj hF
      obtain ⟨e60, e51⟩ := Prod.mk.inj e50
      subst e60
      subst e51
      exact W.zret (v := (b2i r7)) hx hb hr (nb2i _) (fun t ht hW => ⟨⟨(b2i r7), u8, rfl, ⟨rfl, rfl⟩, by rw [ht]; exact hP, va_K.moved hW.alike hK, hD⟩, hS.F ht⟩) hS.2.2 dX5_isWord_78
  have K33 : ∀ (n33 : Nat) (S : S_Model) (x2 : Int32) (x3 : Int32) (H : Heap) (locs : List Loc), F_X5_isWord_33 v1 n33 S x2 x3 = some (rr, Y) → va_P (dC, dI) vwCl ((W_Model cI a S)) H → va_D A ((W_Model cI a S)) → va_S A s.heap H locs → ∀ ls : Array Slot, lv_has ls 4 [(0, .ref (a 0)), (1, .int v1), (2, .int x2), (3, .int x3)] → W p l e (headSpec wsX5_isWord ({ frames := 3, cells := 0, slots := 0, locals := 66 } : Room)).room s m ([.ref (a 0), .int v1] : List Value).toArray below meth c H locs 0 0 (MQ below (va_Qi (fun (r' : Int32) (u : S_Model) => b2i rr = r' ∧ Y = u) (fun u : S_Model => jB (dC, dI) [(cI, .int)] A ((W_Model cI a u))) A) ([.ref (a 0), .int v1] : List Value).toArray s 0 0 A) (F0 m 33 ls []) := by
    intro n33
    induction n33 with
    | zero => intro S x2 x3 H locs hF; exact nomatch hF
    | succ n33 ih33 =>
      intro S x2 x3 H locs hF hP hD hS ls hl
      rw [F_X5_isWord_33_s] at hF
      refine lv_iload_n hx hb dX5_isWord_33 rfl (lv_at hl 3 rfl) ?_
      refine lv_iconst (v := (5 : Int32)) hx hb dX5_isWord_34 (by decide) ?_
      refine lv_icmp_ge (tgt := 65) hx hb dX5_isWord_35 (by decide) (fun c10 => ?_) (fun c10 => ?_)
      · have hF := F_pos c10 hF
        exact K65 _ _ _ _ hF hP hD hS _ (lv_sub hl [0, 1, 2] rfl)
      · have hF := F_neg c10 hF
        refine lv_aload_n hx hb dX5_isWord_38 rfl (lv_at hl 0 rfl) ?_
        refine lv_bipush (v := (97 : Int32)) hx hb dX5_isWord_39 (by decide) ?_
        refine lv_bipush (v := (122 : Int32)) hx hb dX5_isWord_41 (by decide) ?_
        obtain ⟨r11, h12, hF⟩ := ob1_some hF
        have hPc : va_P (dC, dI) vwCl ((W_Model cI a S)) H := hP
        have hDc : va_D A ((W_Model cI a S)) := hD
        have hFc := va_free (wc := (W_Model cI a S)) hD hS hA [0, 1, 2, 3, 4, 5, 6, 7, 8, 9, 10, 11, 12, 13] rfl
        refine va_calli (va_runV (As := [.int (97 : Int32), .int (122 : Int32)]) (rest := []) ⟨hx, hb, hml, hown, hts⟩ (c_X5_isAt l dC dI cI a H.size _ _ _ _ h12) (cwV 2 hts gX5_isWord_X5_isAt rfl rfl rfl (by decide +kernel) ⟨Nat.le_of_ble_eq_true rfl, Nat.le_of_ble_eq_true rfl⟩) (jPreV hK hPc hDc hN (ci := 5) rfl rfl) rfl rfl hl.1 rfl (lv_room (Nat.le_of_ble_eq_true rfl)) dX5_isWord_43 ⟨Nat.le_of_ble_eq_true rfl, Nat.le_of_ble_eq_true rfl⟩) hS (fun q _ h => hFc q h) hFc (fun r' u' t H locs ht hvm hw hB hz1 hk1 hS => ?_)
        subst hw
        obtain ⟨hP1, -, hD1⟩ := hB
        rw [ht] at hP1
        have hP : va_P (dC, dI) vwCl ((W_Model cI a S)) H := hP1
        have hD : va_D A ((W_Model cI a S)) := hD1.weaken (fun _ _ _ h => hFc _ h)
        refine lv_if_eq (tgt := 65) hx hb dX5_isWord_46 (by decide) (fun c13 => ?_) (fun c13 => ?_)
        · have hF := F_pos c13 hF
          exact K65 _ _ _ _ hF hP hD hS _ (lv_sub hl [0, 1, 2] rfl)
        · have hF := F_neg c13 hF
          refine lv_aload_n hx hb dX5_isWord_49 rfl (lv_at hl 0 rfl) ?_
          refine lv_dup hx hb dX5_isWord_50 rfl ?_
          refine va_get (D := (dC, dI)) (ci := 5) (v := .int (g_Model_at S)) (C := RX5) (T := TX5) (N := 26) hx hb hts hinX5 hown hK hP 0 rfl rfl 6 (by decide) (hts (Cond.fieldLink RX5 68 "LearnedShapesModel" "at" "I") (List.mem_of_getElem? (i := 1) rfl)) (fun _ h9 => h9) rfl dX5_isWord_51 ?_
          refine lv_iconst (v := (1 : Int32)) hx hb dX5_isWord_54 (by decide) ?_
          refine lv_iadd hx hb dX5_isWord_55 ?_
          refine va_put (D := (dC, dI)) (ci := 5) (v := .int ((g_Model_at S) + (1 : Int32))) (ty := .int) (C := RX5) (T := TX5) (N := 26) hx hb hts hinX5 tyX5 tyX5_ok nmX5 hown hK hP hD hS 0 rfl rfl 6 (by decide) (hts (Cond.fieldLink RX5 68 "LearnedShapesModel" "at" "I") (List.mem_of_getElem? (i := 1) rfl)) (fun _ h9 => h9) rfl (by decide +kernel) (rfl) rfl (Nat.le_of_ble_eq_true rfl) dX5_isWord_56 (fun H locs hP hD hS => ?_)
          have hP : va_P (dC, dI) vwCl ((W_Model cI a (s_Model_at S ((g_Model_at S) + (1 : Int32))))) H := hP
          have hD : va_D A ((W_Model cI a (s_Model_at S ((g_Model_at S) + (1 : Int32))))) := hD
          refine lv_iinc (v := (x3 + (1 : Int32))) (lv' := [(3, .int (x3 + (1 : Int32))), (0, .ref (a 0)), (1, .int v1), (2, .int x2)]) hx hb dX5_isWord_59 hl (k := 3) rfl rfl (by decide) rfl (fun ls hl => ?_)
          refine lv_goto (tgt := 33) hx hb dX5_isWord_62 (by decide) ?_
          exact ih33 _ _ _ _ _ hF hP hD hS _ (lv_sub hl [1, 2, 3, 0] rfl)
  have KE : ∀ (H : Heap) (locs : List Loc), va_P (dC, dI) vwCl ((W_Model cI a S)) H → va_D A ((W_Model cI a S)) → va_S A s.heap H locs → W p l e (headSpec wsX5_isWord ({ frames := 3, cells := 0, slots := 0, locals := 66 } : Room)).room s m ([.ref (a 0), .int v1] : List Value).toArray below meth c H locs 0 0 (MQ below (va_Qi (fun (r' : Int32) (u : S_Model) => b2i rr = r' ∧ Y = u) (fun u : S_Model => jB (dC, dI) [(cI, .int)] A ((W_Model cI a u))) A) ([.ref (a 0), .int v1] : List Value).toArray s 0 0 A) (F0 m 0 ls []) := by
    intro H locs hP hD hS
    unfold F_X5_isWord at hF
    refine lv_aload_n hx hb dX5_isWord_0 rfl (lv_at hl 0 rfl) ?_
    refine va_get (D := (dC, dI)) (ci := 5) (v := .int (g_Model_at S)) (C := RX5) (T := TX5) (N := 26) hx hb hts hinX5 hown hK hP 0 rfl rfl 6 (by decide) (hts (Cond.fieldLink RX5 68 "LearnedShapesModel" "at" "I") (List.mem_of_getElem? (i := 1) rfl)) (fun _ h9 => h9) rfl dX5_isWord_1 ?_
    refine lv_istore_n (lv' := [(2, .int (g_Model_at S)), (0, .ref (a 0)), (1, .int v1)]) hx hb dX5_isWord_4 rfl hl (by decide) rfl (fun ls hl => ?_)
    refine lv_aload_n hx hb dX5_isWord_5 rfl (lv_at hl 1 rfl) ?_
    refine lv_dup hx hb dX5_isWord_6 rfl ?_
    refine va_get (D := (dC, dI)) (ci := 5) (v := .int (g_Model_at S)) (C := RX5) (T := TX5) (N := 26) hx hb hts hinX5 hown hK hP 0 rfl rfl 6 (by decide) (hts (Cond.fieldLink RX5 68 "LearnedShapesModel" "at" "I") (List.mem_of_getElem? (i := 1) rfl)) (fun _ h9 => h9) rfl dX5_isWord_7 ?_
    refine lv_iconst (v := (1 : Int32)) hx hb dX5_isWord_10 (by decide) ?_
    refine lv_iadd hx hb dX5_isWord_11 ?_
    refine va_put (D := (dC, dI)) (ci := 5) (v := .int ((g_Model_at S) + (1 : Int32))) (ty := .int) (C := RX5) (T := TX5) (N := 26) hx hb hts hinX5 tyX5 tyX5_ok nmX5 hown hK hP hD hS 0 rfl rfl 6 (by decide) (hts (Cond.fieldLink RX5 68 "LearnedShapesModel" "at" "I") (List.mem_of_getElem? (i := 1) rfl)) (fun _ h9 => h9) rfl (by decide +kernel) (rfl) rfl (Nat.le_of_ble_eq_true rfl) dX5_isWord_12 (fun H locs hP hD hS => ?_)
    have hP : va_P (dC, dI) vwCl ((W_Model cI a (s_Model_at S ((g_Model_at S) + (1 : Int32))))) H := hP
    have hD : va_D A ((W_Model cI a (s_Model_at S ((g_Model_at S) + (1 : Int32))))) := hD
    refine lv_aload_n hx hb dX5_isWord_15 rfl (lv_at hl 1 rfl) ?_
    refine lv_bipush (v := (97 : Int32)) hx hb dX5_isWord_16 (by decide) ?_
    refine lv_bipush (v := (122 : Int32)) hx hb dX5_isWord_18 (by decide) ?_
    obtain ⟨r14, h15, hF⟩ := ob1_some hF
    have hPc : va_P (dC, dI) vwCl ((W_Model cI a (s_Model_at S ((g_Model_at S) + (1 : Int32))))) H := hP
    have hDc : va_D A ((W_Model cI a (s_Model_at S ((g_Model_at S) + (1 : Int32))))) := hD
    have hFc := va_free (wc := (W_Model cI a (s_Model_at S ((g_Model_at S) + (1 : Int32))))) hD hS hA [0, 1, 2, 3, 4, 5, 6, 7, 8, 9, 10, 11, 12, 13] rfl
    refine va_calli (va_runV (As := [.int (97 : Int32), .int (122 : Int32)]) (rest := []) ⟨hx, hb, hml, hown, hts⟩ (c_X5_isAt l dC dI cI a H.size _ _ _ _ h15) (cwV 2 hts gX5_isWord_X5_isAt rfl rfl rfl (by decide +kernel) ⟨Nat.le_of_ble_eq_true rfl, Nat.le_of_ble_eq_true rfl⟩) (jPreV hK hPc hDc hN (ci := 5) rfl rfl) rfl rfl hl.1 rfl (lv_room (Nat.le_of_ble_eq_true rfl)) dX5_isWord_20 ⟨Nat.le_of_ble_eq_true rfl, Nat.le_of_ble_eq_true rfl⟩) hS (fun q _ h => hFc q h) hFc (fun r' u' t H locs ht hvm hw hB hz1 hk1 hS => ?_)
    subst hw
    obtain ⟨hP1, -, hD1⟩ := hB
    rw [ht] at hP1
    have hP : va_P (dC, dI) vwCl ((W_Model cI a (s_Model_at S ((g_Model_at S) + (1 : Int32))))) H := hP1
    have hD : va_D A ((W_Model cI a (s_Model_at S ((g_Model_at S) + (1 : Int32))))) := hD1.weaken (fun _ _ _ h => hFc _ h)
    refine lv_if_ne (tgt := 31) hx hb dX5_isWord_23 (by decide) (fun c16 => ?_) (fun c16 => ?_)
    · have hF := F_neg c16 hF
      refine lv_iconst (v := (0 : Int32)) hx hb dX5_isWord_31 (by decide) ?_
      refine lv_istore_n (lv' := [(3, .int (0 : Int32)), (2, .int (g_Model_at S)), (0, .ref (a 0)), (1, .int v1)]) hx hb dX5_isWord_32 rfl hl (by decide) rfl (fun ls hl => ?_)
      exact K33 _ _ _ _ _ _ hF hP hD hS _ (lv_sub hl [2, 3, 1, 0] rfl)
    · have hF := F_pos c16 hF
      refine lv_aload_n hx hb dX5_isWord_26 rfl (lv_at hl 1 rfl) ?_
      obtain ⟨r17, u18, h19, hF⟩ := ob2_some hF
      have hPc : va_P (dC, dI) vwCl ((W_Model cI a (s_Model_at S ((g_Model_at S) + (1 : Int32))))) H := hP
      have hDc : va_D A ((W_Model cI a (s_Model_at S ((g_Model_at S) + (1 : Int32))))) := hD
      have hFc := va_free (wc := (W_Model cI a (s_Model_at S ((g_Model_at S) + (1 : Int32))))) hD hS hA [0, 1, 2, 3, 4, 5, 6, 7, 8, 9, 10, 11, 12, 13] rfl
      refine va_calli (va_runV (As := []) (rest := []) ⟨hx, hb, hml, hown, hts⟩ (c_X5_stops l dC dI cI a H.size _ _ _ h19) (cwV 0 hts gX5_isWord_X5_stops rfl rfl rfl (by decide +kernel) ⟨Nat.le_of_ble_eq_true rfl, Nat.le_of_ble_eq_true rfl⟩) (jPreV hK hPc hDc hN (ci := 5) rfl rfl) rfl rfl hl.1 rfl (lv_room (Nat.le_of_ble_eq_true rfl)) dX5_isWord_27 ⟨Nat.le_of_ble_eq_true rfl, Nat.le_of_ble_eq_true rfl⟩) hS (fun q _ h => hFc q h) hFc (fun r' u' t H locs ht hvm hw hB hz1 hk1 hS => ?_)
      obtain ⟨e1, e2⟩ := hw
      subst e1
      subst e2
      obtain ⟨hP1, -, hD1⟩ := hB
      rw [ht] at hP1
      have hP : va_P (dC, dI) vwCl ((W_Model cI a u18)) H := hP1
      have hD : va_D A ((W_Model cI a u18)) := hD1.weaken (fun _ _ _ h => hFc _ h)
      have e50 := Option.some.inj hF
      obtain ⟨e60, e51⟩ := Prod.mk.inj e50
      subst e60
      subst e51
      exact W.zret (v := (b2i r17)) hx hb hr (nb2i _) (fun t ht hW => ⟨⟨(b2i r17), u18, rfl, ⟨rfl, rfl⟩, by rw [ht]; exact hP, va_K.moved hW.alike hK, hD⟩, hS.F ht⟩) hS.2.2 dX5_isWord_30
  exact KE _ _ hP hD hS
set_option maxHeartbeats 4000000 in
set_option maxRecDepth 100000 in
theorem c_X5_opens (l : Launch) (dC : Nat → ClassId) (dI : Nat → Nat → Nat) (cI : ClassId) (a : Nat → Nat) (sz : Nat) (S : S_Model) (v1 : Int32) (v2 : Int32) (rr : Bool) (Y : S_Model) (hF : F_X5_opens S v1 v2 = some (rr, Y)) : Met l yX5_opens wsX5_opens ({ frames := 1, cells := 0, slots := 0, locals := 23 } : Room) (va_Pc [.ref (a 0), .int v1, .int v2] (jPre (dC, dI) [(cI, .int)] sz ((W_Model cI a S)))) (va_Qi (fun (r' : Int32) (u : S_Model) => b2i rr = r' ∧ Y = u) (fun u : S_Model => jB (dC, dI) [(cI, .int)] (va_A ((W_Model cI a S)) sz) ((W_Model cI a u))) (va_A ((W_Model cI a S)) sz)) 0 0 (va_A ((W_Model cI a S)) sz) := by
  refine Met.ofW (cc := cX5_opens) (maxL := 3) (ret := (some .boolean)) (by decide) rfl ?_
  intro p e s m args below meth c s₁ B hml hv
  obtain ⟨rfl, hsz, hP, hK, hD0, hN⟩ := hv
  have hx := B.exec
  have hb := B.bytes
  have hr := B.returns
  have hts := atoms_spec (ws := wsX5_opens) B.pre
  have hown : s.vm.findClass RX5 = some m.cls := findClass_of_methodNamed B.named
  have hlocks := B.notSynchronized
  have hinX5 : ∀ w ∈ u_ws RX5 TX5 26, w ∈ wsX5_opens := by decide +kernel
  subst hsz
  have hD := hD0.self (sz := s.heap.size)
  generalize hAe : (va_A ((W_Model cI a S)) s.heap.size) = A at hD ⊢
  have hA : ∀ q : Nat, s.heap.size ≤ q → A q := fun q h => by rw [← hAe]; exact Or.inr h
  have hS : va_S A s.heap s.heap [] := va_S.rf
  have hl := lv_entry ([.ref (a 0), .int v1, .int v2]) (n := 3) (Nat.le_of_ble_eq_true rfl)
  rw [lg_entry_eq]
  generalize (lg_sl ([.ref (a 0), .int v1, .int v2]) ++ List.replicate (3 - (lg_sl ([.ref (a 0), .int v1, .int v2])).length) Slot.unset).toArray = ls at hl ⊢
  have hl : lv_has ls 3 [(0, .ref (a 0)), (1, .int v1), (2, .int v2)] := hl
  have KE : ∀ (H : Heap) (locs : List Loc), va_P (dC, dI) vwCl ((W_Model cI a S)) H → va_D A ((W_Model cI a S)) → va_S A s.heap H locs → W p l e (headSpec wsX5_opens ({ frames := 1, cells := 0, slots := 0, locals := 23 } : Room)).room s m ([.ref (a 0), .int v1, .int v2] : List Value).toArray below meth c H locs 0 0 (MQ below (va_Qi (fun (r' : Int32) (u : S_Model) => b2i rr = r' ∧ Y = u) (fun u : S_Model => jB (dC, dI) [(cI, .int)] A ((W_Model cI a u))) A) ([.ref (a 0), .int v1, .int v2] : List Value).toArray s 0 0 A) (F0 m 0 ls []) := by
    intro H locs hP hD hS
    unfold F_X5_opens at hF
    refine lv_aload_n hx hb dX5_opens_0 rfl (lv_at hl 0 rfl) ?_
    refine va_get (D := (dC, dI)) (ci := 5) (v := .int (g_Model_deep S)) (C := RX5) (T := TX5) (N := 26) hx hb hts hinX5 hown hK hP 0 rfl rfl 16 (by decide) (hts (Cond.fieldLink RX5 85 "LearnedShapesModel" "deep" "I") (List.mem_of_getElem? (i := 1) rfl)) (fun _ h9 => h9) rfl dX5_opens_1 ?_
    refine lv_iconst (v := (4 : Int32)) hx hb dX5_opens_4 (by decide) ?_
    refine lv_icmp_ne (tgt := 13) hx hb dX5_opens_5 (by decide) (fun c1 => ?_) (fun c1 => ?_)
    · have hF := F_neg c1 hF
      refine lv_aload_n hx hb dX5_opens_13 rfl (lv_at hl 0 rfl) ?_
      refine lv_iload_n hx hb dX5_opens_14 rfl (lv_at hl 1 rfl) ?_
      refine lv_iload_n hx hb dX5_opens_15 rfl (lv_at hl 2 rfl) ?_
      refine lv_aload_n hx hb dX5_opens_16 rfl (lv_at hl 0 rfl) ?_
      refine va_get (D := (dC, dI)) (ci := 5) (v := .int (g_Model_at S)) (C := RX5) (T := TX5) (N := 26) hx hb hts hinX5 hown hK hP 0 rfl rfl 6 (by decide) (hts (Cond.fieldLink RX5 68 "LearnedShapesModel" "at" "I") (List.mem_of_getElem? (i := 2) rfl)) (fun _ h9 => h9) rfl dX5_opens_17 ?_
      obtain ⟨u2, h3, hF⟩ := ob1_some hF
      have hPc : va_P (dC, dI) vwCl ((W_Model cI a S)) H := hP
      have hDc : va_D A ((W_Model cI a S)) := hD
      have hFc := va_free (wc := (W_Model cI a S)) hD hS hA [0, 1, 2, 3, 4, 5, 6, 7, 8, 9, 10, 11, 12, 13] rfl
      refine va_callv (va_runV (As := [.int v1, .int v2, .int (g_Model_at S)]) (rest := []) ⟨hx, hb, hml, hown, hts⟩ (c_X5_comes l dC dI cI a H.size _ _ _ _ _ h3) (cwV 3 hts gX5_opens_X5_comes rfl rfl rfl (by decide +kernel) ⟨Nat.le_of_ble_eq_true rfl, Nat.le_of_ble_eq_true rfl⟩) (jPreV hK hPc hDc hN (ci := 5) rfl rfl) rfl rfl hl.1 rfl (lv_room (Nat.le_of_ble_eq_true rfl)) dX5_opens_20 ⟨Nat.le_of_ble_eq_true rfl, Nat.le_of_ble_eq_true rfl⟩) hS (fun q _ h => hFc q h) hFc (fun u' t H locs ht hvm hw hB hz1 hk1 hS => ?_)
      subst hw
      obtain ⟨hP1, -, hD1⟩ := hB
      rw [ht] at hP1
      have hP : va_P (dC, dI) vwCl ((W_Model cI a u2)) H := hP1
      have hD : va_D A ((W_Model cI a u2)) := hD1.weaken (fun _ _ _ h => hFc _ h)
      refine lv_aload_n hx hb dX5_opens_23 rfl (lv_at hl 0 rfl) ?_
      refine lv_dup hx hb dX5_opens_24 rfl ?_
      refine va_get (D := (dC, dI)) (ci := 5) (v := .int (g_Model_at u2)) (C := RX5) (T := TX5) (N := 26) hx hb hts hinX5 hown hK hP 0 rfl rfl 6 (by decide) (hts (Cond.fieldLink RX5 68 "LearnedShapesModel" "at" "I") (List.mem_of_getElem? (i := 2) rfl)) (fun _ h9 => h9) rfl dX5_opens_25 ?_
      refine lv_iconst (v := (1 : Int32)) hx hb dX5_opens_28 (by decide) ?_
      refine lv_iadd hx hb dX5_opens_29 ?_
      refine va_put (D := (dC, dI)) (ci := 5) (v := .int ((g_Model_at u2) + (1 : Int32))) (ty := .int) (C := RX5) (T := TX5) (N := 26) hx hb hts hinX5 tyX5 tyX5_ok nmX5 hown hK hP hD hS 0 rfl rfl 6 (by decide) (hts (Cond.fieldLink RX5 68 "LearnedShapesModel" "at" "I") (List.mem_of_getElem? (i := 2) rfl)) (fun _ h9 => h9) rfl (by decide +kernel) (rfl) rfl (Nat.le_of_ble_eq_true rfl) dX5_opens_30 (fun H locs hP hD hS => ?_)
      have hP : va_P (dC, dI) vwCl ((W_Model cI a (s_Model_at u2 ((g_Model_at u2) + (1 : Int32))))) H := hP
      have hD : va_D A ((W_Model cI a (s_Model_at u2 ((g_Model_at u2) + (1 : Int32))))) := hD
      refine lv_aload_n hx hb dX5_opens_33 rfl (lv_at hl 0 rfl) ?_
      refine va_get (D := (dC, dI)) (ci := 5) (v := .ref (a 10)) (C := RX5) (T := TX5) (N := 26) hx hb hts hinX5 hown hK hP 0 rfl rfl 15 (by decide) (hts (Cond.fieldLink RX5 37 "LearnedShapesModel" "open" "[I") (List.mem_of_getElem? (i := 3) rfl)) (fun _ h9 => h9) rfl dX5_opens_34 ?_
      refine lv_aload_n hx hb dX5_opens_37 rfl (lv_at hl 0 rfl) ?_
      refine va_get (D := (dC, dI)) (ci := 5) (v := .int (g_Model_deep u2)) (C := RX5) (T := TX5) (N := 26) hx hb hts hinX5 hown hK hP 0 rfl rfl 16 (by decide) (hts (Cond.fieldLink RX5 85 "LearnedShapesModel" "deep" "I") (List.mem_of_getElem? (i := 1) rfl)) (fun _ h9 => h9) rfl dX5_opens_38 ?_
      refine lv_aload_n hx hb dX5_opens_41 rfl (lv_at hl 0 rfl) ?_
      refine va_get (D := (dC, dI)) (ci := 5) (v := .int (g_Model_valued u2)) (C := RX5) (T := TX5) (N := 26) hx hb hts hinX5 hown hK hP 0 rfl rfl 14 (by decide) (hts (Cond.fieldLink RX5 82 "LearnedShapesModel" "valued" "I") (List.mem_of_getElem? (i := 4) rfl)) (fun _ h9 => h9) rfl dX5_opens_42 ?_
      refine lv_iconst (v := (1 : Int32)) hx hb dX5_opens_45 (by decide) ?_
      refine lv_isub hx hb dX5_opens_46 ?_
      obtain ⟨g4, hF⟩ := og_some hF
      refine va_iast (f := (g_Model_open u2)) hx hb hK hP hD hS 10 0 rfl rfl (inb_in g4) dX5_opens_47 (fun H locs hP hD hS => ?_)
      have hP : va_P (dC, dI) vwCl ((W_Model cI a (s_Model_open (s_Model_at u2 ((g_Model_at u2) + (1 : Int32))) (upd (g_Model_open u2) (g_Model_deep u2).toNatClampNeg ((g_Model_valued u2) - (1 : Int32)))))) H := hP
      have hD : va_D A ((W_Model cI a (s_Model_open (s_Model_at u2 ((g_Model_at u2) + (1 : Int32))) (upd (g_Model_open u2) (g_Model_deep u2).toNatClampNeg ((g_Model_valued u2) - (1 : Int32)))))) := hD
      refine lv_aload_n hx hb dX5_opens_48 rfl (lv_at hl 0 rfl) ?_
      refine lv_dup hx hb dX5_opens_49 rfl ?_
      refine va_get (D := (dC, dI)) (ci := 5) (v := .int (g_Model_deep u2)) (C := RX5) (T := TX5) (N := 26) hx hb hts hinX5 hown hK hP 0 rfl rfl 16 (by decide) (hts (Cond.fieldLink RX5 85 "LearnedShapesModel" "deep" "I") (List.mem_of_getElem? (i := 1) rfl)) (fun _ h9 => h9) rfl dX5_opens_50 ?_
      refine lv_iconst (v := (1 : Int32)) hx hb dX5_opens_53 (by decide) ?_
      refine lv_iadd hx hb dX5_opens_54 ?_
      refine va_put (D := (dC, dI)) (ci := 5) (v := .int ((g_Model_deep u2) + (1 : Int32))) (ty := .int) (C := RX5) (T := TX5) (N := 26) hx hb hts hinX5 tyX5 tyX5_ok nmX5 hown hK hP hD hS 0 rfl rfl 16 (by decide) (hts (Cond.fieldLink RX5 85 "LearnedShapesModel" "deep" "I") (List.mem_of_getElem? (i := 1) rfl)) (fun _ h9 => h9) rfl (by decide +kernel) (rfl) rfl (Nat.le_of_ble_eq_true rfl) dX5_opens_55 (fun H locs hP hD hS => ?_)
      have hP : va_P (dC, dI) vwCl ((W_Model cI a (s_Model_deep (s_Model_open (s_Model_at u2 ((g_Model_at u2) + (1 : Int32))) (upd (g_Model_open u2) (g_Model_deep u2).toNatClampNeg ((g_Model_valued u2) - (1 : Int32)))) ((g_Model_deep u2) + (1 : Int32))))) H := hP
      have hD : va_D A ((W_Model cI a (s_Model_deep (s_Model_open (s_Model_at u2 ((g_Model_at u2) + (1 : Int32))) (upd (g_Model_open u2) (g_Model_deep u2).toNatClampNeg ((g_Model_valued u2) - (1 : Int32)))) ((g_Model_deep u2) + (1 : Int32))))) := hD
      refine lv_aload_n hx hb dX5_opens_58 rfl (lv_at hl 0 rfl) ?_
      refine lv_aload_n hx hb dX5_opens_59 rfl (lv_at hl 0 rfl) ?_
      refine va_get (D := (dC, dI)) (ci := 5) (v := .int ((g_Model_deep u2) + (1 : Int32))) (C := RX5) (T := TX5) (N := 26) hx hb hts hinX5 hown hK hP 0 rfl rfl 16 (by decide) (hts (Cond.fieldLink RX5 85 "LearnedShapesModel" "deep" "I") (List.mem_of_getElem? (i := 1) rfl)) (fun _ h9 => h9) rfl dX5_opens_60 ?_
      refine lv_aload_n hx hb dX5_opens_63 rfl (lv_at hl 0 rfl) ?_
      refine va_get (D := (dC, dI)) (ci := 5) (v := .int (g_Model_deepest u2)) (C := RX5) (T := TX5) (N := 26) hx hb hts hinX5 hown hK hP 0 rfl rfl 17 (by decide) (hts (Cond.fieldLink RX5 99 "LearnedShapesModel" "deepest" "I") (List.mem_of_getElem? (i := 5) rfl)) (fun _ h9 => h9) rfl dX5_opens_64 ?_
      refine lv_icmp_le (tgt := 77) hx hb dX5_opens_67 (by decide) (fun c5 => ?_) (fun c5 => ?_)
      · have hF := F_pos c5 hF
        refine lv_aload_n hx hb dX5_opens_77 rfl (lv_at hl 0 rfl) ?_
        refine va_get (D := (dC, dI)) (ci := 5) (v := .int (g_Model_deepest u2)) (C := RX5) (T := TX5) (N := 26) hx hb hts hinX5 hown hK hP 0 rfl rfl 17 (by decide) (hts (Cond.fieldLink RX5 99 "LearnedShapesModel" "deepest" "I") (List.mem_of_getElem? (i := 5) rfl)) (fun _ h9 => h9) rfl dX5_opens_78 ?_
        refine va_put (D := (dC, dI)) (ci := 5) (v := .int (g_Model_deepest u2)) (ty := .int) (C := RX5) (T := TX5) (N := 26) hx hb hts hinX5 tyX5 tyX5_ok nmX5 hown hK hP hD hS 0 rfl rfl 17 (by decide) (hts (Cond.fieldLink RX5 99 "LearnedShapesModel" "deepest" "I") (List.mem_of_getElem? (i := 5) rfl)) (fun _ h9 => h9) rfl (by decide +kernel) (rfl) rfl (Nat.le_of_ble_eq_true rfl) dX5_opens_81 (fun H locs hP hD hS => ?_)
        have hP : va_P (dC, dI) vwCl ((W_Model cI a (s_Model_deep (s_Model_open (s_Model_at u2 ((g_Model_at u2) + (1 : Int32))) (upd (g_Model_open u2) (g_Model_deep u2).toNatClampNeg ((g_Model_valued u2) - (1 : Int32)))) ((g_Model_deep u2) + (1 : Int32))))) H := hP
        have hD : va_D A ((W_Model cI a (s_Model_deep (s_Model_open (s_Model_at u2 ((g_Model_at u2) + (1 : Int32))) (upd (g_Model_open u2) (g_Model_deep u2).toNatClampNeg ((g_Model_valued u2) - (1 : Int32)))) ((g_Model_deep u2) + (1 : Int32))))) := hD
        refine lv_iconst (v := (1 : Int32)) hx hb dX5_opens_84 (by decide) ?_
        have e50 := Option.some.inj hF
        obtain ⟨e60, e51⟩ := Prod.mk.inj e50
        subst e60
        subst e51
        exact W.zret (v := (1 : Int32)) hx hb hr (rfl) (fun t ht hW => ⟨⟨(1 : Int32), (s_Model_deep (s_Model_open (s_Model_at u2 ((g_Model_at u2) + (1 : Int32))) (upd (g_Model_open u2) (g_Model_deep u2).toNatClampNeg ((g_Model_valued u2) - (1 : Int32)))) ((g_Model_deep u2) + (1 : Int32))), rfl, ⟨rfl, rfl⟩, by rw [ht]; exact hP, va_K.moved hW.alike hK, hD⟩, hS.F ht⟩) hS.2.2 dX5_opens_85
      · have hF := F_neg c5 hF
        refine lv_aload_n hx hb dX5_opens_70 rfl (lv_at hl 0 rfl) ?_
        refine va_get (D := (dC, dI)) (ci := 5) (v := .int ((g_Model_deep u2) + (1 : Int32))) (C := RX5) (T := TX5) (N := 26) hx hb hts hinX5 hown hK hP 0 rfl rfl 16 (by decide) (hts (Cond.fieldLink RX5 85 "LearnedShapesModel" "deep" "I") (List.mem_of_getElem? (i := 1) rfl)) (fun _ h9 => h9) rfl dX5_opens_71 ?_
        refine lv_goto (tgt := 81) hx hb dX5_opens_74 (by decide) ?_
        refine va_put (D := (dC, dI)) (ci := 5) (v := .int ((g_Model_deep u2) + (1 : Int32))) (ty := .int) (C := RX5) (T := TX5) (N := 26) hx hb hts hinX5 tyX5 tyX5_ok nmX5 hown hK hP hD hS 0 rfl rfl 17 (by decide) (hts (Cond.fieldLink RX5 99 "LearnedShapesModel" "deepest" "I") (List.mem_of_getElem? (i := 5) rfl)) (fun _ h9 => h9) rfl (by decide +kernel) (rfl) rfl (Nat.le_of_ble_eq_true rfl) dX5_opens_81 (fun H locs hP hD hS => ?_)
        have hP : va_P (dC, dI) vwCl ((W_Model cI a (s_Model_deepest (s_Model_deep (s_Model_open (s_Model_at u2 ((g_Model_at u2) + (1 : Int32))) (upd (g_Model_open u2) (g_Model_deep u2).toNatClampNeg ((g_Model_valued u2) - (1 : Int32)))) ((g_Model_deep u2) + (1 : Int32))) ((g_Model_deep u2) + (1 : Int32))))) H := hP
        have hD : va_D A ((W_Model cI a (s_Model_deepest (s_Model_deep (s_Model_open (s_Model_at u2 ((g_Model_at u2) + (1 : Int32))) (upd (g_Model_open u2) (g_Model_deep u2).toNatClampNeg ((g_Model_valued u2) - (1 : Int32)))) ((g_Model_deep u2) + (1 : Int32))) ((g_Model_deep u2) + (1 : Int32))))) := hD
        refine lv_iconst (v := (1 : Int32)) hx hb dX5_opens_84 (by decide) ?_
        have e50 := Option.some.inj hF
        obtain ⟨e60, e51⟩ := Prod.mk.inj e50
        subst e60
        subst e51
        exact W.zret (v := (1 : Int32)) hx hb hr (rfl) (fun t ht hW => ⟨⟨(1 : Int32), (s_Model_deepest (s_Model_deep (s_Model_open (s_Model_at u2 ((g_Model_at u2) + (1 : Int32))) (upd (g_Model_open u2) (g_Model_deep u2).toNatClampNeg ((g_Model_valued u2) - (1 : Int32)))) ((g_Model_deep u2) + (1 : Int32))) ((g_Model_deep u2) + (1 : Int32))), rfl, ⟨rfl, rfl⟩, by rw [ht]; exact hP, va_K.moved hW.alike hK, hD⟩, hS.F ht⟩) hS.2.2 dX5_opens_85
    · have hF := F_pos c1 hF
      refine lv_aload_n hx hb dX5_opens_8 rfl (lv_at hl 0 rfl) ?_
      obtain ⟨r6, u7, h8, hF⟩ := ob2_some hF
      have hPc : va_P (dC, dI) vwCl ((W_Model cI a S)) H := hP
      have hDc : va_D A ((W_Model cI a S)) := hD
      have hFc := va_free (wc := (W_Model cI a S)) hD hS hA [0, 1, 2, 3, 4, 5, 6, 7, 8, 9, 10, 11, 12, 13] rfl
      refine va_calli (va_runV (As := []) (rest := []) ⟨hx, hb, hml, hown, hts⟩ (c_X5_stops l dC dI cI a H.size _ _ _ h8) (cwV 0 hts gX5_opens_X5_stops rfl rfl rfl (by decide +kernel) ⟨Nat.le_of_ble_eq_true rfl, Nat.le_of_ble_eq_true rfl⟩) (jPreV hK hPc hDc hN (ci := 5) rfl rfl) rfl rfl hl.1 rfl (lv_room (Nat.le_of_ble_eq_true rfl)) dX5_opens_9 ⟨Nat.le_of_ble_eq_true rfl, Nat.le_of_ble_eq_true rfl⟩) hS (fun q _ h => hFc q h) hFc (fun r' u' t H locs ht hvm hw hB hz1 hk1 hS => ?_)
      obtain ⟨e1, e2⟩ := hw
      subst e1
      subst e2
      obtain ⟨hP1, -, hD1⟩ := hB
      rw [ht] at hP1
      have hP : va_P (dC, dI) vwCl ((W_Model cI a u7)) H := hP1
      have hD : va_D A ((W_Model cI a u7)) := hD1.weaken (fun _ _ _ h => hFc _ h)
      have e50 := Option.some.inj hF
      obtain ⟨e60, e51⟩ := Prod.mk.inj e50
      subst e60
      subst e51
      exact W.zret (v := (b2i r6)) hx hb hr (nb2i _) (fun t ht hW => ⟨⟨(b2i r6), u7, rfl, ⟨rfl, rfl⟩, by rw [ht]; exact hP, va_K.moved hW.alike hK, hD⟩, hS.F ht⟩) hS.2.2 dX5_opens_12
  exact KE _ _ hP hD hS
set_option maxHeartbeats 4000000 in
set_option maxRecDepth 100000 in
theorem c_X5_isValue (l : Launch) (dC : Nat → ClassId) (dI : Nat → Nat → Nat) (cI : ClassId) (a : Nat → Nat) (sz : Nat) (S : S_Model) (v1 : Int32) (rr : Bool) (Y : S_Model) (hF : F_X5_isValue S v1 = some (rr, Y)) : Met l yX5_isValue wsX5_isValue ({ frames := 4, cells := 0, slots := 0, locals := 91 } : Room) (va_Pc [.ref (a 0), .int v1] (jPre (dC, dI) [(cI, .int)] sz ((W_Model cI a S)))) (va_Qi (fun (r' : Int32) (u : S_Model) => b2i rr = r' ∧ Y = u) (fun u : S_Model => jB (dC, dI) [(cI, .int)] (va_A ((W_Model cI a S)) sz) ((W_Model cI a u))) (va_A ((W_Model cI a S)) sz)) 0 0 (va_A ((W_Model cI a S)) sz) := by
  refine Met.ofW (cc := cX5_isValue) (maxL := 3) (ret := (some .boolean)) (by decide) rfl ?_
  intro p e s m args below meth c s₁ B hml hv
  obtain ⟨rfl, hsz, hP, hK, hD0, hN⟩ := hv
  have hx := B.exec
  have hb := B.bytes
  have hr := B.returns
  have hts := atoms_spec (ws := wsX5_isValue) B.pre
  have hown : s.vm.findClass RX5 = some m.cls := findClass_of_methodNamed B.named
  have hlocks := B.notSynchronized
  have hinX5 : ∀ w ∈ u_ws RX5 TX5 26, w ∈ wsX5_isValue := by decide +kernel
  subst hsz
  have hD := hD0.self (sz := s.heap.size)
  generalize hAe : (va_A ((W_Model cI a S)) s.heap.size) = A at hD ⊢
  have hA : ∀ q : Nat, s.heap.size ≤ q → A q := fun q h => by rw [← hAe]; exact Or.inr h
  have hS : va_S A s.heap s.heap [] := va_S.rf
  have hl := lv_entry ([.ref (a 0), .int v1]) (n := 3) (Nat.le_of_ble_eq_true rfl)
  rw [lg_entry_eq]
  generalize (lg_sl ([.ref (a 0), .int v1]) ++ List.replicate (3 - (lg_sl ([.ref (a 0), .int v1])).length) Slot.unset).toArray = ls at hl ⊢
  have hl : lv_has ls 3 [(0, .ref (a 0)), (1, .int v1)] := hl
  have K24 : ∀ (S : S_Model) (t0 : Int32) (H : Heap) (locs : List Loc), F_X5_isValue_24 v1 S t0 = some (rr, Y) → va_P (dC, dI) vwCl ((W_Model cI a S)) H → va_D A ((W_Model cI a S)) → va_S A s.heap H locs → ∀ ls : Array Slot, lv_has ls 3 [(0, .ref (a 0)), (1, .int v1)] → W p l e (headSpec wsX5_isValue ({ frames := 4, cells := 0, slots := 0, locals := 91 } : Room)).room s m ([.ref (a 0), .int v1] : List Value).toArray below meth c H locs 0 0 (MQ below (va_Qi (fun (r' : Int32) (u : S_Model) => b2i rr = r' ∧ Y = u) (fun u : S_Model => jB (dC, dI) [(cI, .int)] A ((W_Model cI a u))) A) ([.ref (a 0), .int v1] : List Value).toArray s 0 0 A) (F0 m 24 ls [.int t0]) := by
    intro S t0 H locs hF hP hD hS ls hl
    unfold F_X5_isValue_24 at hF
    refine lv_istore_n (lv' := [(2, .int t0), (0, .ref (a 0)), (1, .int v1)]) hx hb dX5_isValue_24 rfl hl (by decide) rfl (fun ls hl => ?_)
    refine lv_iload_n hx hb dX5_isValue_25 rfl (lv_at hl 0 rfl) ?_
    by_cases c1 : t0 = (39 : Int32)
    · have hF := F_pos c1 hF
      refine lv_lookup (tgt := 116) hx hb dX5_isValue_26 (by decide) (by rw [c1] <;> rfl) (by decide) ?_
      refine lv_aload_n hx hb dX5_isValue_116 rfl (lv_at hl 1 rfl) ?_
      refine lv_iload_n hx hb dX5_isValue_117 rfl (lv_at hl 2 rfl) ?_
      obtain ⟨r2, u3, h4, hF⟩ := ob2_some hF
      have hPc : va_P (dC, dI) vwCl ((W_Model cI a S)) H := hP
      have hDc : va_D A ((W_Model cI a S)) := hD
      have hFc := va_free (wc := (W_Model cI a S)) hD hS hA [0, 1, 2, 3, 4, 5, 6, 7, 8, 9, 10, 11, 12, 13] rfl
      refine va_calli (va_runV (As := [.int v1]) (rest := []) ⟨hx, hb, hml, hown, hts⟩ (c_X5_isWord l dC dI cI a H.size _ _ _ _ h4) (cwV 1 hts gX5_isValue_X5_isWord rfl rfl rfl (by decide +kernel) ⟨Nat.le_of_ble_eq_true rfl, Nat.le_of_ble_eq_true rfl⟩) (jPreV hK hPc hDc hN (ci := 5) rfl rfl) rfl rfl hl.1 rfl (lv_room (Nat.le_of_ble_eq_true rfl)) dX5_isValue_118 ⟨Nat.le_of_ble_eq_true rfl, Nat.le_of_ble_eq_true rfl⟩) hS (fun q _ h => hFc q h) hFc (fun r' u' t H locs ht hvm hw hB hz1 hk1 hS => ?_)
      obtain ⟨e1, e2⟩ := hw
      subst e1
      subst e2
      obtain ⟨hP1, -, hD1⟩ := hB
      rw [ht] at hP1
      have hP : va_P (dC, dI) vwCl ((W_Model cI a u3)) H := hP1
      have hD : va_D A ((W_Model cI a u3)) := hD1.weaken (fun _ _ _ h => hFc _ h)
      have e50 := Option.some.inj hF
      obtain ⟨e60, e51⟩ := Prod.mk.inj e50
      subst e60
      subst e51
      exact W.zret (v := (b2i r2)) hx hb hr (nb2i _) (fun t ht hW => ⟨⟨(b2i r2), u3, rfl, ⟨rfl, rfl⟩, by rw [ht]; exact hP, va_K.moved hW.alike hK, hD⟩, hS.F ht⟩) hS.2.2 dX5_isValue_121
    · have hF := F_neg c1 hF
      by_cases c5 : t0 = (40 : Int32)
      · have hF := F_pos c5 hF
        refine lv_lookup (tgt := 129) hx hb dX5_isValue_26 (by decide) (by rw [c5] <;> rfl) (by decide) ?_
        refine lv_aload_n hx hb dX5_isValue_129 rfl (lv_at hl 1 rfl) ?_
        refine lv_bipush (v := (6 : Int32)) hx hb dX5_isValue_130 (by decide) ?_
        refine lv_iload_n hx hb dX5_isValue_132 rfl (lv_at hl 2 rfl) ?_
        obtain ⟨r6, u7, h8, hF⟩ := ob2_some hF
        have hPc : va_P (dC, dI) vwCl ((W_Model cI a S)) H := hP
        have hDc : va_D A ((W_Model cI a S)) := hD
        have hFc := va_free (wc := (W_Model cI a S)) hD hS hA [0, 1, 2, 3, 4, 5, 6, 7, 8, 9, 10, 11, 12, 13] rfl
        refine va_calli (va_runV (As := [.int (6 : Int32), .int v1]) (rest := []) ⟨hx, hb, hml, hown, hts⟩ (c_X5_opens l dC dI cI a H.size _ _ _ _ _ h8) (cwV 2 hts gX5_isValue_X5_opens rfl rfl rfl (by decide +kernel) ⟨Nat.le_of_ble_eq_true rfl, Nat.le_of_ble_eq_true rfl⟩) (jPreV hK hPc hDc hN (ci := 5) rfl rfl) rfl rfl hl.1 rfl (lv_room (Nat.le_of_ble_eq_true rfl)) dX5_isValue_133 ⟨Nat.le_of_ble_eq_true rfl, Nat.le_of_ble_eq_true rfl⟩) hS (fun q _ h => hFc q h) hFc (fun r' u' t H locs ht hvm hw hB hz1 hk1 hS => ?_)
        obtain ⟨e1, e2⟩ := hw
        subst e1
        subst e2
        obtain ⟨hP1, -, hD1⟩ := hB
        rw [ht] at hP1
        have hP : va_P (dC, dI) vwCl ((W_Model cI a u7)) H := hP1
        have hD : va_D A ((W_Model cI a u7)) := hD1.weaken (fun _ _ _ h => hFc _ h)
        have e50 := Option.some.inj hF
        obtain ⟨e60, e51⟩ := Prod.mk.inj e50
        subst e60
        subst e51
        exact W.zret (v := (b2i r6)) hx hb hr (nb2i _) (fun t ht hW => ⟨⟨(b2i r6), u7, rfl, ⟨rfl, rfl⟩, by rw [ht]; exact hP, va_K.moved hW.alike hK, hD⟩, hS.F ht⟩) hS.2.2 dX5_isValue_136
      · have hF := F_neg c5 hF
        by_cases c9 : t0 = (91 : Int32)
        · have hF := F_pos c9 hF
          refine lv_lookup (tgt := 122) hx hb dX5_isValue_26 (by decide) (by rw [c9] <;> rfl) (by decide) ?_
          refine lv_aload_n hx hb dX5_isValue_122 rfl (lv_at hl 1 rfl) ?_
          refine lv_iconst (v := (5 : Int32)) hx hb dX5_isValue_123 (by decide) ?_
          refine lv_iload_n hx hb dX5_isValue_124 rfl (lv_at hl 2 rfl) ?_
          obtain ⟨r10, u11, h12, hF⟩ := ob2_some hF
          have hPc : va_P (dC, dI) vwCl ((W_Model cI a S)) H := hP
          have hDc : va_D A ((W_Model cI a S)) := hD
          have hFc := va_free (wc := (W_Model cI a S)) hD hS hA [0, 1, 2, 3, 4, 5, 6, 7, 8, 9, 10, 11, 12, 13] rfl
          refine va_calli (va_runV (As := [.int (5 : Int32), .int v1]) (rest := []) ⟨hx, hb, hml, hown, hts⟩ (c_X5_opens l dC dI cI a H.size _ _ _ _ _ h12) (cwV 2 hts gX5_isValue_X5_opens rfl rfl rfl (by decide +kernel) ⟨Nat.le_of_ble_eq_true rfl, Nat.le_of_ble_eq_true rfl⟩) (jPreV hK hPc hDc hN (ci := 5) rfl rfl) rfl rfl hl.1 rfl (lv_room (Nat.le_of_ble_eq_true rfl)) dX5_isValue_125 ⟨Nat.le_of_ble_eq_true rfl, Nat.le_of_ble_eq_true rfl⟩) hS (fun q _ h => hFc q h) hFc (fun r' u' t H locs ht hvm hw hB hz1 hk1 hS => ?_)
          obtain ⟨e1, e2⟩ := hw
          subst e1
          subst e2
          obtain ⟨hP1, -, hD1⟩ := hB
          rw [ht] at hP1
          have hP : va_P (dC, dI) vwCl ((W_Model cI a u11)) H := hP1
          have hD : va_D A ((W_Model cI a u11)) := hD1.weaken (fun _ _ _ h => hFc _ h)
          have e50 := Option.some.inj hF
          obtain ⟨e60, e51⟩ := Prod.mk.inj e50
          subst e60
          subst e51
          exact W.zret (v := (b2i r10)) hx hb hr (nb2i _) (fun t ht hW => ⟨⟨(b2i r10), u11, rfl, ⟨rfl, rfl⟩, by rw [ht]; exact hP, va_K.moved hW.alike hK, hD⟩, hS.F ht⟩) hS.2.2 dX5_isValue_128
        · have hF := F_neg c9 hF
          by_cases c13 : t0 = (102 : Int32)
          · have hF := F_pos c13 hF
            refine lv_lookup (tgt := 84) hx hb dX5_isValue_26 (by decide) (by rw [c13] <;> rfl) (by decide) ?_
            refine lv_aload_n hx hb dX5_isValue_84 rfl (lv_at hl 1 rfl) ?_
            refine lv_iload_n hx hb dX5_isValue_85 rfl (lv_at hl 0 rfl) ?_
            refine lv_bipush (v := (110 : Int32)) hx hb dX5_isValue_86 (by decide) ?_
            refine lv_icmp_ne (tgt := 95) hx hb dX5_isValue_88 (by decide) (fun c14 => ?_) (fun c14 => ?_)
            · have hF := F_neg c14 hF
              refine lv_iconst (v := (1 : Int32)) hx hb dX5_isValue_95 (by decide) ?_
              refine lv_iload_n hx hb dX5_isValue_96 rfl (lv_at hl 2 rfl) ?_
              refine lv_aload_n hx hb dX5_isValue_97 rfl (lv_at hl 1 rfl) ?_
              refine va_get (D := (dC, dI)) (ci := 5) (v := .int (g_Model_at S)) (C := RX5) (T := TX5) (N := 26) hx hb hts hinX5 hown hK hP 0 rfl rfl 6 (by decide) (hts (Cond.fieldLink RX5 68 "LearnedShapesModel" "at" "I") (List.mem_of_getElem? (i := 1) rfl)) (fun _ h9 => h9) rfl dX5_isValue_98 ?_
              obtain ⟨u15, h16, hF⟩ := ob1_some hF
              have hPc : va_P (dC, dI) vwCl ((W_Model cI a S)) H := hP
              have hDc : va_D A ((W_Model cI a S)) := hD
              have hFc := va_free (wc := (W_Model cI a S)) hD hS hA [0, 1, 2, 3, 4, 5, 6, 7, 8, 9, 10, 11, 12, 13] rfl
              refine va_callv (va_runV (As := [.int (1 : Int32), .int v1, .int (g_Model_at S)]) (rest := []) ⟨hx, hb, hml, hown, hts⟩ (c_X5_comes l dC dI cI a H.size _ _ _ _ _ h16) (cwV 3 hts gX5_isValue_X5_comes rfl rfl rfl (by decide +kernel) ⟨Nat.le_of_ble_eq_true rfl, Nat.le_of_ble_eq_true rfl⟩) (jPreV hK hPc hDc hN (ci := 5) rfl rfl) rfl rfl hl.1 rfl (lv_room (Nat.le_of_ble_eq_true rfl)) dX5_isValue_101 ⟨Nat.le_of_ble_eq_true rfl, Nat.le_of_ble_eq_true rfl⟩) hS (fun q _ h => hFc q h) hFc (fun u' t H locs ht hvm hw hB hz1 hk1 hS => ?_)
              subst hw
              obtain ⟨hP1, -, hD1⟩ := hB
              rw [ht] at hP1
              have hP : va_P (dC, dI) vwCl ((W_Model cI a u15)) H := hP1
              have hD : va_D A ((W_Model cI a u15)) := hD1.weaken (fun _ _ _ h => hFc _ h)
              refine lv_aload_n hx hb dX5_isValue_104 rfl (lv_at hl 1 rfl) ?_
              refine lv_dup hx hb dX5_isValue_105 rfl ?_
              refine va_get (D := (dC, dI)) (ci := 5) (v := .int (g_Model_at u15)) (C := RX5) (T := TX5) (N := 26) hx hb hts hinX5 hown hK hP 0 rfl rfl 6 (by decide) (hts (Cond.fieldLink RX5 68 "LearnedShapesModel" "at" "I") (List.mem_of_getElem? (i := 1) rfl)) (fun _ h9 => h9) rfl dX5_isValue_106 ?_
              refine lv_iconst (v := (1 : Int32)) hx hb dX5_isValue_109 (by decide) ?_
              refine lv_iadd hx hb dX5_isValue_110 ?_
              refine va_put (D := (dC, dI)) (ci := 5) (v := .int ((g_Model_at u15) + (1 : Int32))) (ty := .int) (C := RX5) (T := TX5) (N := 26) hx hb hts hinX5 tyX5 tyX5_ok nmX5 hown hK hP hD hS 0 rfl rfl 6 (by decide) (hts (Cond.fieldLink RX5 68 "LearnedShapesModel" "at" "I") (List.mem_of_getElem? (i := 1) rfl)) (fun _ h9 => h9) rfl (by decide +kernel) (rfl) rfl (Nat.le_of_ble_eq_true rfl) dX5_isValue_111 (fun H locs hP hD hS => ?_)
              have hP : va_P (dC, dI) vwCl ((W_Model cI a (s_Model_at u15 ((g_Model_at u15) + (1 : Int32))))) H := hP
              have hD : va_D A ((W_Model cI a (s_Model_at u15 ((g_Model_at u15) + (1 : Int32))))) := hD
              refine lv_iconst (v := (1 : Int32)) hx hb dX5_isValue_114 (by decide) ?_
              have e50 := Option.some.inj hF
              obtain ⟨e60, e51⟩ := Prod.mk.inj e50
              subst e60
              subst e51
              exact W.zret (v := (1 : Int32)) hx hb hr (rfl) (fun t ht hW => ⟨⟨(1 : Int32), (s_Model_at u15 ((g_Model_at u15) + (1 : Int32))), rfl, ⟨rfl, rfl⟩, by rw [ht]; exact hP, va_K.moved hW.alike hK, hD⟩, hS.F ht⟩) hS.2.2 dX5_isValue_115
            · have hF := F_pos c14 hF
              refine lv_iconst (v := (0 : Int32)) hx hb dX5_isValue_91 (by decide) ?_
              refine lv_goto (tgt := 96) hx hb dX5_isValue_92 (by decide) ?_
              refine lv_iload_n hx hb dX5_isValue_96 rfl (lv_at hl 2 rfl) ?_
              refine lv_aload_n hx hb dX5_isValue_97 rfl (lv_at hl 1 rfl) ?_
              refine va_get (D := (dC, dI)) (ci := 5) (v := .int (g_Model_at S)) (C := RX5) (T := TX5) (N := 26) hx hb hts hinX5 hown hK hP 0 rfl rfl 6 (by decide) (hts (Cond.fieldLink RX5 68 "LearnedShapesModel" "at" "I") (List.mem_of_getElem? (i := 1) rfl)) (fun _ h9 => h9) rfl dX5_isValue_98 ?_
              obtain ⟨u17, h18, hF⟩ := ob1_some hF
              have hPc : va_P (dC, dI) vwCl ((W_Model cI a S)) H := hP
              have hDc : va_D A ((W_Model cI a S)) := hD
              have hFc := va_free (wc := (W_Model cI a S)) hD hS hA [0, 1, 2, 3, 4, 5, 6, 7, 8, 9, 10, 11, 12, 13] rfl
              refine va_callv (va_runV (As := [.int (0 : Int32), .int v1, .int (g_Model_at S)]) (rest := []) ⟨hx, hb, hml, hown, hts⟩ (c_X5_comes l dC dI cI a H.size _ _ _ _ _ h18) (cwV 3 hts gX5_isValue_X5_comes rfl rfl rfl (by decide +kernel) ⟨Nat.le_of_ble_eq_true rfl, Nat.le_of_ble_eq_true rfl⟩) (jPreV hK hPc hDc hN (ci := 5) rfl rfl) rfl rfl hl.1 rfl (lv_room (Nat.le_of_ble_eq_true rfl)) dX5_isValue_101 ⟨Nat.le_of_ble_eq_true rfl, Nat.le_of_ble_eq_true rfl⟩) hS (fun q _ h => hFc q h) hFc (fun u' t H locs ht hvm hw hB hz1 hk1 hS => ?_)
              subst hw
              obtain ⟨hP1, -, hD1⟩ := hB
              rw [ht] at hP1
              have hP : va_P (dC, dI) vwCl ((W_Model cI a u17)) H := hP1
              have hD : va_D A ((W_Model cI a u17)) := hD1.weaken (fun _ _ _ h => hFc _ h)
              refine lv_aload_n hx hb dX5_isValue_104 rfl (lv_at hl 1 rfl) ?_
              refine lv_dup hx hb dX5_isValue_105 rfl ?_
              refine va_get (D := (dC, dI)) (ci := 5) (v := .int (g_Model_at u17)) (C := RX5) (T := TX5) (N := 26) hx hb hts hinX5 hown hK hP 0 rfl rfl 6 (by decide) (hts (Cond.fieldLink RX5 68 "LearnedShapesModel" "at" "I") (List.mem_of_getElem? (i := 1) rfl)) (fun _ h9 => h9) rfl dX5_isValue_106 ?_
              refine lv_iconst (v := (1 : Int32)) hx hb dX5_isValue_109 (by decide) ?_
              refine lv_iadd hx hb dX5_isValue_110 ?_
              refine va_put (D := (dC, dI)) (ci := 5) (v := .int ((g_Model_at u17) + (1 : Int32))) (ty := .int) (C := RX5) (T := TX5) (N := 26) hx hb hts hinX5 tyX5 tyX5_ok nmX5 hown hK hP hD hS 0 rfl rfl 6 (by decide) (hts (Cond.fieldLink RX5 68 "LearnedShapesModel" "at" "I") (List.mem_of_getElem? (i := 1) rfl)) (fun _ h9 => h9) rfl (by decide +kernel) (rfl) rfl (Nat.le_of_ble_eq_true rfl) dX5_isValue_111 (fun H locs hP hD hS => ?_)
              have hP : va_P (dC, dI) vwCl ((W_Model cI a (s_Model_at u17 ((g_Model_at u17) + (1 : Int32))))) H := hP
              have hD : va_D A ((W_Model cI a (s_Model_at u17 ((g_Model_at u17) + (1 : Int32))))) := hD
              refine lv_iconst (v := (1 : Int32)) hx hb dX5_isValue_114 (by decide) ?_
              have e50 := Option.some.inj hF
              obtain ⟨e60, e51⟩ := Prod.mk.inj e50
              subst e60
              subst e51
              exact W.zret (v := (1 : Int32)) hx hb hr (rfl) (fun t ht hW => ⟨⟨(1 : Int32), (s_Model_at u17 ((g_Model_at u17) + (1 : Int32))), rfl, ⟨rfl, rfl⟩, by rw [ht]; exact hP, va_K.moved hW.alike hK, hD⟩, hS.F ht⟩) hS.2.2 dX5_isValue_115
          · have hF := F_neg c13 hF
            by_cases c19 : t0 = (110 : Int32)
            · have hF := F_pos c19 hF
              refine lv_lookup (tgt := 84) hx hb dX5_isValue_26 (by decide) (by rw [c19] <;> rfl) (by decide) ?_
              refine lv_aload_n hx hb dX5_isValue_84 rfl (lv_at hl 1 rfl) ?_
              refine lv_iload_n hx hb dX5_isValue_85 rfl (lv_at hl 0 rfl) ?_
              refine lv_bipush (v := (110 : Int32)) hx hb dX5_isValue_86 (by decide) ?_
              refine lv_icmp_ne (tgt := 95) hx hb dX5_isValue_88 (by decide) (fun c20 => ?_) (fun c20 => ?_)
              · have hF := F_neg c20 hF
                refine lv_iconst (v := (1 : Int32)) hx hb dX5_isValue_95 (by decide) ?_
                refine lv_iload_n hx hb dX5_isValue_96 rfl (lv_at hl 2 rfl) ?_
                refine lv_aload_n hx hb dX5_isValue_97 rfl (lv_at hl 1 rfl) ?_
                refine va_get (D := (dC, dI)) (ci := 5) (v := .int (g_Model_at S)) (C := RX5) (T := TX5) (N := 26) hx hb hts hinX5 hown hK hP 0 rfl rfl 6 (by decide) (hts (Cond.fieldLink RX5 68 "LearnedShapesModel" "at" "I") (List.mem_of_getElem? (i := 1) rfl)) (fun _ h9 => h9) rfl dX5_isValue_98 ?_
                obtain ⟨u21, h22, hF⟩ := ob1_some hF
                have hPc : va_P (dC, dI) vwCl ((W_Model cI a S)) H := hP
                have hDc : va_D A ((W_Model cI a S)) := hD
                have hFc := va_free (wc := (W_Model cI a S)) hD hS hA [0, 1, 2, 3, 4, 5, 6, 7, 8, 9, 10, 11, 12, 13] rfl
                refine va_callv (va_runV (As := [.int (1 : Int32), .int v1, .int (g_Model_at S)]) (rest := []) ⟨hx, hb, hml, hown, hts⟩ (c_X5_comes l dC dI cI a H.size _ _ _ _ _ h22) (cwV 3 hts gX5_isValue_X5_comes rfl rfl rfl (by decide +kernel) ⟨Nat.le_of_ble_eq_true rfl, Nat.le_of_ble_eq_true rfl⟩) (jPreV hK hPc hDc hN (ci := 5) rfl rfl) rfl rfl hl.1 rfl (lv_room (Nat.le_of_ble_eq_true rfl)) dX5_isValue_101 ⟨Nat.le_of_ble_eq_true rfl, Nat.le_of_ble_eq_true rfl⟩) hS (fun q _ h => hFc q h) hFc (fun u' t H locs ht hvm hw hB hz1 hk1 hS => ?_)
                subst hw
                obtain ⟨hP1, -, hD1⟩ := hB
                rw [ht] at hP1
                have hP : va_P (dC, dI) vwCl ((W_Model cI a u21)) H := hP1
                have hD : va_D A ((W_Model cI a u21)) := hD1.weaken (fun _ _ _ h => hFc _ h)
                refine lv_aload_n hx hb dX5_isValue_104 rfl (lv_at hl 1 rfl) ?_
                refine lv_dup hx hb dX5_isValue_105 rfl ?_
                refine va_get (D := (dC, dI)) (ci := 5) (v := .int (g_Model_at u21)) (C := RX5) (T := TX5) (N := 26) hx hb hts hinX5 hown hK hP 0 rfl rfl 6 (by decide) (hts (Cond.fieldLink RX5 68 "LearnedShapesModel" "at" "I") (List.mem_of_getElem? (i := 1) rfl)) (fun _ h9 => h9) rfl dX5_isValue_106 ?_
                refine lv_iconst (v := (1 : Int32)) hx hb dX5_isValue_109 (by decide) ?_
                refine lv_iadd hx hb dX5_isValue_110 ?_
                refine va_put (D := (dC, dI)) (ci := 5) (v := .int ((g_Model_at u21) + (1 : Int32))) (ty := .int) (C := RX5) (T := TX5) (N := 26) hx hb hts hinX5 tyX5 tyX5_ok nmX5 hown hK hP hD hS 0 rfl rfl 6 (by decide) (hts (Cond.fieldLink RX5 68 "LearnedShapesModel" "at" "I") (List.mem_of_getElem? (i := 1) rfl)) (fun _ h9 => h9) rfl (by decide +kernel) (rfl) rfl (Nat.le_of_ble_eq_true rfl) dX5_isValue_111 (fun H locs hP hD hS => ?_)
                have hP : va_P (dC, dI) vwCl ((W_Model cI a (s_Model_at u21 ((g_Model_at u21) + (1 : Int32))))) H := hP
                have hD : va_D A ((W_Model cI a (s_Model_at u21 ((g_Model_at u21) + (1 : Int32))))) := hD
                refine lv_iconst (v := (1 : Int32)) hx hb dX5_isValue_114 (by decide) ?_
                have e50 := Option.some.inj hF
                obtain ⟨e60, e51⟩ := Prod.mk.inj e50
                subst e60
                subst e51
                exact W.zret (v := (1 : Int32)) hx hb hr (rfl) (fun t ht hW => ⟨⟨(1 : Int32), (s_Model_at u21 ((g_Model_at u21) + (1 : Int32))), rfl, ⟨rfl, rfl⟩, by rw [ht]; exact hP, va_K.moved hW.alike hK, hD⟩, hS.F ht⟩) hS.2.2 dX5_isValue_115
              · have hF := F_pos c20 hF
                refine lv_iconst (v := (0 : Int32)) hx hb dX5_isValue_91 (by decide) ?_
                refine lv_goto (tgt := 96) hx hb dX5_isValue_92 (by decide) ?_
                refine lv_iload_n hx hb dX5_isValue_96 rfl (lv_at hl 2 rfl) ?_
                refine lv_aload_n hx hb dX5_isValue_97 rfl (lv_at hl 1 rfl) ?_
                refine va_get (D := (dC, dI)) (ci := 5) (v := .int (g_Model_at S)) (C := RX5) (T := TX5) (N := 26) hx hb hts hinX5 hown hK hP 0 rfl rfl 6 (by decide) (hts (Cond.fieldLink RX5 68 "LearnedShapesModel" "at" "I") (List.mem_of_getElem? (i := 1) rfl)) (fun _ h9 => h9) rfl dX5_isValue_98 ?_
                obtain ⟨u23, h24, hF⟩ := ob1_some hF
                have hPc : va_P (dC, dI) vwCl ((W_Model cI a S)) H := hP
                have hDc : va_D A ((W_Model cI a S)) := hD
                have hFc := va_free (wc := (W_Model cI a S)) hD hS hA [0, 1, 2, 3, 4, 5, 6, 7, 8, 9, 10, 11, 12, 13] rfl
                refine va_callv (va_runV (As := [.int (0 : Int32), .int v1, .int (g_Model_at S)]) (rest := []) ⟨hx, hb, hml, hown, hts⟩ (c_X5_comes l dC dI cI a H.size _ _ _ _ _ h24) (cwV 3 hts gX5_isValue_X5_comes rfl rfl rfl (by decide +kernel) ⟨Nat.le_of_ble_eq_true rfl, Nat.le_of_ble_eq_true rfl⟩) (jPreV hK hPc hDc hN (ci := 5) rfl rfl) rfl rfl hl.1 rfl (lv_room (Nat.le_of_ble_eq_true rfl)) dX5_isValue_101 ⟨Nat.le_of_ble_eq_true rfl, Nat.le_of_ble_eq_true rfl⟩) hS (fun q _ h => hFc q h) hFc (fun u' t H locs ht hvm hw hB hz1 hk1 hS => ?_)
                subst hw
                obtain ⟨hP1, -, hD1⟩ := hB
                rw [ht] at hP1
                have hP : va_P (dC, dI) vwCl ((W_Model cI a u23)) H := hP1
                have hD : va_D A ((W_Model cI a u23)) := hD1.weaken (fun _ _ _ h => hFc _ h)
                refine lv_aload_n hx hb dX5_isValue_104 rfl (lv_at hl 1 rfl) ?_
                refine lv_dup hx hb dX5_isValue_105 rfl ?_
                refine va_get (D := (dC, dI)) (ci := 5) (v := .int (g_Model_at u23)) (C := RX5) (T := TX5) (N := 26) hx hb hts hinX5 hown hK hP 0 rfl rfl 6 (by decide) (hts (Cond.fieldLink RX5 68 "LearnedShapesModel" "at" "I") (List.mem_of_getElem? (i := 1) rfl)) (fun _ h9 => h9) rfl dX5_isValue_106 ?_
                refine lv_iconst (v := (1 : Int32)) hx hb dX5_isValue_109 (by decide) ?_
                refine lv_iadd hx hb dX5_isValue_110 ?_
                refine va_put (D := (dC, dI)) (ci := 5) (v := .int ((g_Model_at u23) + (1 : Int32))) (ty := .int) (C := RX5) (T := TX5) (N := 26) hx hb hts hinX5 tyX5 tyX5_ok nmX5 hown hK hP hD hS 0 rfl rfl 6 (by decide) (hts (Cond.fieldLink RX5 68 "LearnedShapesModel" "at" "I") (List.mem_of_getElem? (i := 1) rfl)) (fun _ h9 => h9) rfl (by decide +kernel) (rfl) rfl (Nat.le_of_ble_eq_true rfl) dX5_isValue_111 (fun H locs hP hD hS => ?_)
                have hP : va_P (dC, dI) vwCl ((W_Model cI a (s_Model_at u23 ((g_Model_at u23) + (1 : Int32))))) H := hP
                have hD : va_D A ((W_Model cI a (s_Model_at u23 ((g_Model_at u23) + (1 : Int32))))) := hD
                refine lv_iconst (v := (1 : Int32)) hx hb dX5_isValue_114 (by decide) ?_
                have e50 := Option.some.inj hF
                obtain ⟨e60, e51⟩ := Prod.mk.inj e50
                subst e60
                subst e51
                exact W.zret (v := (1 : Int32)) hx hb hr (rfl) (fun t ht hW => ⟨⟨(1 : Int32), (s_Model_at u23 ((g_Model_at u23) + (1 : Int32))), rfl, ⟨rfl, rfl⟩, by rw [ht]; exact hP, va_K.moved hW.alike hK, hD⟩, hS.F ht⟩) hS.2.2 dX5_isValue_115
            · have hF := F_neg c19 hF
              by_cases c25 : t0 = (116 : Int32)
              · have hF := F_pos c25 hF
                refine lv_lookup (tgt := 84) hx hb dX5_isValue_26 (by decide) (by rw [c25] <;> rfl) (by decide) ?_
                refine lv_aload_n hx hb dX5_isValue_84 rfl (lv_at hl 1 rfl) ?_
                refine lv_iload_n hx hb dX5_isValue_85 rfl (lv_at hl 0 rfl) ?_
                refine lv_bipush (v := (110 : Int32)) hx hb dX5_isValue_86 (by decide) ?_
                refine lv_icmp_ne (tgt := 95) hx hb dX5_isValue_88 (by decide) (fun c26 => ?_) (fun c26 => ?_)
                · have hF := F_neg c26 hF
                  refine lv_iconst (v := (1 : Int32)) hx hb dX5_isValue_95 (by decide) ?_
                  refine lv_iload_n hx hb dX5_isValue_96 rfl (lv_at hl 2 rfl) ?_
                  refine lv_aload_n hx hb dX5_isValue_97 rfl (lv_at hl 1 rfl) ?_
                  refine va_get (D := (dC, dI)) (ci := 5) (v := .int (g_Model_at S)) (C := RX5) (T := TX5) (N := 26) hx hb hts hinX5 hown hK hP 0 rfl rfl 6 (by decide) (hts (Cond.fieldLink RX5 68 "LearnedShapesModel" "at" "I") (List.mem_of_getElem? (i := 1) rfl)) (fun _ h9 => h9) rfl dX5_isValue_98 ?_
                  obtain ⟨u27, h28, hF⟩ := ob1_some hF
                  have hPc : va_P (dC, dI) vwCl ((W_Model cI a S)) H := hP
                  have hDc : va_D A ((W_Model cI a S)) := hD
                  have hFc := va_free (wc := (W_Model cI a S)) hD hS hA [0, 1, 2, 3, 4, 5, 6, 7, 8, 9, 10, 11, 12, 13] rfl
                  refine va_callv (va_runV (As := [.int (1 : Int32), .int v1, .int (g_Model_at S)]) (rest := []) ⟨hx, hb, hml, hown, hts⟩ (c_X5_comes l dC dI cI a H.size _ _ _ _ _ h28) (cwV 3 hts gX5_isValue_X5_comes rfl rfl rfl (by decide +kernel) ⟨Nat.le_of_ble_eq_true rfl, Nat.le_of_ble_eq_true rfl⟩) (jPreV hK hPc hDc hN (ci := 5) rfl rfl) rfl rfl hl.1 rfl (lv_room (Nat.le_of_ble_eq_true rfl)) dX5_isValue_101 ⟨Nat.le_of_ble_eq_true rfl, Nat.le_of_ble_eq_true rfl⟩) hS (fun q _ h => hFc q h) hFc (fun u' t H locs ht hvm hw hB hz1 hk1 hS => ?_)
                  subst hw
                  obtain ⟨hP1, -, hD1⟩ := hB
                  rw [ht] at hP1
                  have hP : va_P (dC, dI) vwCl ((W_Model cI a u27)) H := hP1
                  have hD : va_D A ((W_Model cI a u27)) := hD1.weaken (fun _ _ _ h => hFc _ h)
                  refine lv_aload_n hx hb dX5_isValue_104 rfl (lv_at hl 1 rfl) ?_
                  refine lv_dup hx hb dX5_isValue_105 rfl ?_
                  refine va_get (D := (dC, dI)) (ci := 5) (v := .int (g_Model_at u27)) (C := RX5) (T := TX5) (N := 26) hx hb hts hinX5 hown hK hP 0 rfl rfl 6 (by decide) (hts (Cond.fieldLink RX5 68 "LearnedShapesModel" "at" "I") (List.mem_of_getElem? (i := 1) rfl)) (fun _ h9 => h9) rfl dX5_isValue_106 ?_
                  refine lv_iconst (v := (1 : Int32)) hx hb dX5_isValue_109 (by decide) ?_
                  refine lv_iadd hx hb dX5_isValue_110 ?_
                  refine va_put (D := (dC, dI)) (ci := 5) (v := .int ((g_Model_at u27) + (1 : Int32))) (ty := .int) (C := RX5) (T := TX5) (N := 26) hx hb hts hinX5 tyX5 tyX5_ok nmX5 hown hK hP hD hS 0 rfl rfl 6 (by decide) (hts (Cond.fieldLink RX5 68 "LearnedShapesModel" "at" "I") (List.mem_of_getElem? (i := 1) rfl)) (fun _ h9 => h9) rfl (by decide +kernel) (rfl) rfl (Nat.le_of_ble_eq_true rfl) dX5_isValue_111 (fun H locs hP hD hS => ?_)
                  have hP : va_P (dC, dI) vwCl ((W_Model cI a (s_Model_at u27 ((g_Model_at u27) + (1 : Int32))))) H := hP
                  have hD : va_D A ((W_Model cI a (s_Model_at u27 ((g_Model_at u27) + (1 : Int32))))) := hD
                  refine lv_iconst (v := (1 : Int32)) hx hb dX5_isValue_114 (by decide) ?_
                  have e50 := Option.some.inj hF
                  obtain ⟨e60, e51⟩ := Prod.mk.inj e50
                  subst e60
                  subst e51
                  exact W.zret (v := (1 : Int32)) hx hb hr (rfl) (fun t ht hW => ⟨⟨(1 : Int32), (s_Model_at u27 ((g_Model_at u27) + (1 : Int32))), rfl, ⟨rfl, rfl⟩, by rw [ht]; exact hP, va_K.moved hW.alike hK, hD⟩, hS.F ht⟩) hS.2.2 dX5_isValue_115
                · have hF := F_pos c26 hF
                  refine lv_iconst (v := (0 : Int32)) hx hb dX5_isValue_91 (by decide) ?_
                  refine lv_goto (tgt := 96) hx hb dX5_isValue_92 (by decide) ?_
                  refine lv_iload_n hx hb dX5_isValue_96 rfl (lv_at hl 2 rfl) ?_
                  refine lv_aload_n hx hb dX5_isValue_97 rfl (lv_at hl 1 rfl) ?_
                  refine va_get (D := (dC, dI)) (ci := 5) (v := .int (g_Model_at S)) (C := RX5) (T := TX5) (N := 26) hx hb hts hinX5 hown hK hP 0 rfl rfl 6 (by decide) (hts (Cond.fieldLink RX5 68 "LearnedShapesModel" "at" "I") (List.mem_of_getElem? (i := 1) rfl)) (fun _ h9 => h9) rfl dX5_isValue_98 ?_
                  obtain ⟨u29, h30, hF⟩ := ob1_some hF
                  have hPc : va_P (dC, dI) vwCl ((W_Model cI a S)) H := hP
                  have hDc : va_D A ((W_Model cI a S)) := hD
                  have hFc := va_free (wc := (W_Model cI a S)) hD hS hA [0, 1, 2, 3, 4, 5, 6, 7, 8, 9, 10, 11, 12, 13] rfl
                  refine va_callv (va_runV (As := [.int (0 : Int32), .int v1, .int (g_Model_at S)]) (rest := []) ⟨hx, hb, hml, hown, hts⟩ (c_X5_comes l dC dI cI a H.size _ _ _ _ _ h30) (cwV 3 hts gX5_isValue_X5_comes rfl rfl rfl (by decide +kernel) ⟨Nat.le_of_ble_eq_true rfl, Nat.le_of_ble_eq_true rfl⟩) (jPreV hK hPc hDc hN (ci := 5) rfl rfl) rfl rfl hl.1 rfl (lv_room (Nat.le_of_ble_eq_true rfl)) dX5_isValue_101 ⟨Nat.le_of_ble_eq_true rfl, Nat.le_of_ble_eq_true rfl⟩) hS (fun q _ h => hFc q h) hFc (fun u' t H locs ht hvm hw hB hz1 hk1 hS => ?_)
                  subst hw
                  obtain ⟨hP1, -, hD1⟩ := hB
                  rw [ht] at hP1
                  have hP : va_P (dC, dI) vwCl ((W_Model cI a u29)) H := hP1
                  have hD : va_D A ((W_Model cI a u29)) := hD1.weaken (fun _ _ _ h => hFc _ h)
                  refine lv_aload_n hx hb dX5_isValue_104 rfl (lv_at hl 1 rfl) ?_
                  refine lv_dup hx hb dX5_isValue_105 rfl ?_
                  refine va_get (D := (dC, dI)) (ci := 5) (v := .int (g_Model_at u29)) (C := RX5) (T := TX5) (N := 26) hx hb hts hinX5 hown hK hP 0 rfl rfl 6 (by decide) (hts (Cond.fieldLink RX5 68 "LearnedShapesModel" "at" "I") (List.mem_of_getElem? (i := 1) rfl)) (fun _ h9 => h9) rfl dX5_isValue_106 ?_
                  refine lv_iconst (v := (1 : Int32)) hx hb dX5_isValue_109 (by decide) ?_
                  refine lv_iadd hx hb dX5_isValue_110 ?_
                  refine va_put (D := (dC, dI)) (ci := 5) (v := .int ((g_Model_at u29) + (1 : Int32))) (ty := .int) (C := RX5) (T := TX5) (N := 26) hx hb hts hinX5 tyX5 tyX5_ok nmX5 hown hK hP hD hS 0 rfl rfl 6 (by decide) (hts (Cond.fieldLink RX5 68 "LearnedShapesModel" "at" "I") (List.mem_of_getElem? (i := 1) rfl)) (fun _ h9 => h9) rfl (by decide +kernel) (rfl) rfl (Nat.le_of_ble_eq_true rfl) dX5_isValue_111 (fun H locs hP hD hS => ?_)
                  have hP : va_P (dC, dI) vwCl ((W_Model cI a (s_Model_at u29 ((g_Model_at u29) + (1 : Int32))))) H := hP
                  have hD : va_D A ((W_Model cI a (s_Model_at u29 ((g_Model_at u29) + (1 : Int32))))) := hD
                  refine lv_iconst (v := (1 : Int32)) hx hb dX5_isValue_114 (by decide) ?_
                  have e50 := Option.some.inj hF
                  obtain ⟨e60, e51⟩ := Prod.mk.inj e50
                  subst e60
                  subst e51
                  exact W.zret (v := (1 : Int32)) hx hb hr (rfl) (fun t ht hW => ⟨⟨(1 : Int32), (s_Model_at u29 ((g_Model_at u29) + (1 : Int32))), rfl, ⟨rfl, rfl⟩, by rw [ht]; exact hP, va_K.moved hW.alike hK, hD⟩, hS.F ht⟩) hS.2.2 dX5_isValue_115
              · have hF := F_neg c25 hF
                refine lv_lookup (off := 111) (tgt := 137) hx hb dX5_isValue_26 (by decide) (by show Op.lookupswitch.offset [(39, 90), (40, 103), (91, 96), (102, 58), (110, 58), (116, 58)] 111 (t0).toInt = 111; rw [lv_osw (a := 39) c1 rfl, lv_osw (a := 40) c5 rfl, lv_osw (a := 91) c9 rfl, lv_osw (a := 102) c13 rfl, lv_osw (a := 110) c19 rfl, lv_osw (a := 116) c25 rfl] <;> rfl) (by decide) ?_
                refine lv_iload_n hx hb dX5_isValue_137 rfl (lv_at hl 0 rfl) ?_
                refine lv_bipush (v := (45 : Int32)) hx hb dX5_isValue_138 (by decide) ?_
                refine lv_icmp_eq (tgt := 154) hx hb dX5_isValue_140 (by decide) (fun c31 => ?_) (fun c31 => ?_)
                · have hF := F_pos c31 hF
                  refine lv_aload_n hx hb dX5_isValue_154 rfl (lv_at hl 1 rfl) ?_
                  refine lv_iload_n hx hb dX5_isValue_155 rfl (lv_at hl 2 rfl) ?_
                  obtain ⟨r32, u33, h34, hF⟩ := ob2_some hF
                  have hPc : va_P (dC, dI) vwCl ((W_Model cI a S)) H := hP
                  have hDc : va_D A ((W_Model cI a S)) := hD
                  have hFc := va_free (wc := (W_Model cI a S)) hD hS hA [0, 1, 2, 3, 4, 5, 6, 7, 8, 9, 10, 11, 12, 13] rfl
                  refine va_calli (va_runV (As := [.int v1]) (rest := []) ⟨hx, hb, hml, hown, hts⟩ (c_X5_isNumber l dC dI cI a H.size _ _ _ _ h34) (cwV 1 hts gX5_isValue_X5_isNumber rfl rfl rfl (by decide +kernel) ⟨Nat.le_of_ble_eq_true rfl, Nat.le_of_ble_eq_true rfl⟩) (jPreV hK hPc hDc hN (ci := 5) rfl rfl) rfl rfl hl.1 rfl (lv_room (Nat.le_of_ble_eq_true rfl)) dX5_isValue_156 ⟨Nat.le_of_ble_eq_true rfl, Nat.le_of_ble_eq_true rfl⟩) hS (fun q _ h => hFc q h) hFc (fun r' u' t H locs ht hvm hw hB hz1 hk1 hS => ?_)
                  obtain ⟨e1, e2⟩ := hw
                  subst e1
                  subst e2
                  obtain ⟨hP1, -, hD1⟩ := hB
                  rw [ht] at hP1
                  have hP : va_P (dC, dI) vwCl ((W_Model cI a u33)) H := hP1
                  have hD : va_D A ((W_Model cI a u33)) := hD1.weaken (fun _ _ _ h => hFc _ h)
                  refine lv_goto (tgt := 166) hx hb dX5_isValue_159 (by decide) ?_
                  have e50 := Option.some.inj hF
                  obtain ⟨e60, e51⟩ := Prod.mk.inj e50
                  subst e60
                  subst e51
                  exact W.zret (v := (b2i r32)) hx hb hr (nb2i _) (fun t ht hW => ⟨⟨(b2i r32), u33, rfl, ⟨rfl, rfl⟩, by rw [ht]; exact hP, va_K.moved hW.alike hK, hD⟩, hS.F ht⟩) hS.2.2 dX5_isValue_166
                · have hF := F_neg c31 hF
                  refine lv_iload_n hx hb dX5_isValue_143 rfl (lv_at hl 0 rfl) ?_
                  refine lv_bipush (v := (48 : Int32)) hx hb dX5_isValue_144 (by decide) ?_
                  refine lv_bipush (v := (57 : Int32)) hx hb dX5_isValue_146 (by decide) ?_
                  obtain ⟨r35, h36, hF⟩ := ob1_some hF
                  have hPc := hP.sub (ws' := ([] : va_W)) [] rfl
                  have hDc := hD.sub (ws' := ([] : va_W)) [] (by decide) rfl
                  have hFc := va_free (wc := ([] : va_W)) hD hS hA [] rfl
                  refine va_calli (va_runS (As := [.int t0, .int (48 : Int32), .int (57 : Int32)]) (rest := []) ⟨hx, hb, hml, hown, hts⟩ (c_X5_in l dC dI cI  H.size _ _ _ _ h36) (va_cwS 3 hts gX5_isValue_X5_in rfl rfl rfl (by decide +kernel) ⟨Nat.le_of_ble_eq_true rfl, Nat.le_of_ble_eq_true rfl⟩) (jPreS hK hPc hDc hN) rfl rfl hl.1 rfl (lv_room (Nat.le_of_ble_eq_true rfl)) dX5_isValue_148 ⟨Nat.le_of_ble_eq_true rfl, Nat.le_of_ble_eq_true rfl⟩) hS (fun q _ h => hFc q h) hFc (fun r' u' t H locs ht hvm hw hB hz1 hk1 hS => ?_)
                  subst hw
                  obtain ⟨hP1, -, hD1⟩ := hB
                  rw [ht] at hP1
                  obtain ⟨hP, hD⟩ := jJoin (wc := ([] : va_W)) (w1 := ([] : va_W)) (ws' := (W_Model cI a S)) hP hD [] [0, 1, 2, 3, 4, 5, 6, 7, 8, 9, 10, 11, 12, 13] [0, 1, 2, 3, 4, 5, 6, 7, 8, 9, 10, 11, 12, 13] rfl rfl (by decide) (by decide) hk1 hFc hP1 hD1 (by decide) rfl
                  refine lv_if_eq (tgt := 162) hx hb dX5_isValue_151 (by decide) (fun c37 => ?_) (fun c37 => ?_)
                  · have hF := F_pos c37 hF
                    refine lv_aload_n hx hb dX5_isValue_162 rfl (lv_at hl 1 rfl) ?_
                    obtain ⟨r38, u39, h40, hF⟩ := ob2_some hF
                    have hPc : va_P (dC, dI) vwCl ((W_Model cI a S)) H := hP
                    have hDc : va_D A ((W_Model cI a S)) := hD
                    have hFc := va_free (wc := (W_Model cI a S)) hD hS hA [0, 1, 2, 3, 4, 5, 6, 7, 8, 9, 10, 11, 12, 13] rfl
                    refine va_calli (va_runV (As := []) (rest := []) ⟨hx, hb, hml, hown, hts⟩ (c_X5_stops l dC dI cI a H.size _ _ _ h40) (cwV 0 hts gX5_isValue_X5_stops rfl rfl rfl (by decide +kernel) ⟨Nat.le_of_ble_eq_true rfl, Nat.le_of_ble_eq_true rfl⟩) (jPreV hK hPc hDc hN (ci := 5) rfl rfl) rfl rfl hl.1 rfl (lv_room (Nat.le_of_ble_eq_true rfl)) dX5_isValue_163 ⟨Nat.le_of_ble_eq_true rfl, Nat.le_of_ble_eq_true rfl⟩) hS (fun q _ h => hFc q h) hFc (fun r' u' t H locs ht hvm hw hB hz1 hk1 hS => ?_)
                    obtain ⟨e1, e2⟩ := hw
                    subst e1
                    subst e2
                    obtain ⟨hP1, -, hD1⟩ := hB
                    rw [ht] at hP1
                    have hP : va_P (dC, dI) vwCl ((W_Model cI a u39)) H := hP1
                    have hD : va_D A ((W_Model cI a u39)) := hD1.weaken (fun _ _ _ h => hFc _ h)
                    have e50 := Option.some.inj hF
                    obtain ⟨e60, e51⟩ := Prod.mk.inj e50
                    subst e60
                    subst e51
                    exact W.zret (v := (b2i r38)) hx hb hr (nb2i _) (fun t ht hW => ⟨⟨(b2i r38), u39, rfl, ⟨rfl, rfl⟩, by rw [ht]; exact hP, va_K.moved hW.alike hK, hD⟩, hS.F ht⟩) hS.2.2 dX5_isValue_166
                  · have hF := F_neg c37 hF
                    refine lv_aload_n hx hb dX5_isValue_154 rfl (lv_at hl 1 rfl) ?_
                    refine lv_iload_n hx hb dX5_isValue_155 rfl (lv_at hl 2 rfl) ?_
                    obtain ⟨r41, u42, h43, hF⟩ := ob2_some hF
                    have hPc : va_P (dC, dI) vwCl ((W_Model cI a S)) H := hP
                    have hDc : va_D A ((W_Model cI a S)) := hD
                    have hFc := va_free (wc := (W_Model cI a S)) hD hS hA [0, 1, 2, 3, 4, 5, 6, 7, 8, 9, 10, 11, 12, 13] rfl
                    refine va_calli (va_runV (As := [.int v1]) (rest := []) ⟨hx, hb, hml, hown, hts⟩ (c_X5_isNumber l dC dI cI a H.size _ _ _ _ h43) (cwV 1 hts gX5_isValue_X5_isNumber rfl rfl rfl (by decide +kernel) ⟨Nat.le_of_ble_eq_true rfl, Nat.le_of_ble_eq_true rfl⟩) (jPreV hK hPc hDc hN (ci := 5) rfl rfl) rfl rfl hl.1 rfl (lv_room (Nat.le_of_ble_eq_true rfl)) dX5_isValue_156 ⟨Nat.le_of_ble_eq_true rfl, Nat.le_of_ble_eq_true rfl⟩) hS (fun q _ h => hFc q h) hFc (fun r' u' t H locs ht hvm hw hB hz1 hk1 hS => ?_)
                    obtain ⟨e1, e2⟩ := hw
                    subst e1
                    subst e2
                    obtain ⟨hP1, -, hD1⟩ := hB
                    rw [ht] at hP1
                    have hP : va_P (dC, dI) vwCl ((W_Model cI a u42)) H := hP1
                    have hD : va_D A ((W_Model cI a u42)) := hD1.weaken (fun _ _ _ h => hFc _ h)
                    refine lv_goto (tgt := 166) hx hb dX5_isValue_159 (by decide) ?_
                    have e50 := Option.some.inj hF
                    obtain ⟨e60, e51⟩ := Prod.mk.inj e50
                    subst e60
                    subst e51
                    exact W.zret (v := (b2i r41)) hx hb hr (nb2i _) (fun t ht hW => ⟨⟨(b2i r41), u42, rfl, ⟨rfl, rfl⟩, by rw [ht]; exact hP, va_K.moved hW.alike hK, hD⟩, hS.F ht⟩) hS.2.2 dX5_isValue_166
  have KE : ∀ (H : Heap) (locs : List Loc), va_P (dC, dI) vwCl ((W_Model cI a S)) H → va_D A ((W_Model cI a S)) → va_S A s.heap H locs → W p l e (headSpec wsX5_isValue ({ frames := 4, cells := 0, slots := 0, locals := 91 } : Room)).room s m ([.ref (a 0), .int v1] : List Value).toArray below meth c H locs 0 0 (MQ below (va_Qi (fun (r' : Int32) (u : S_Model) => b2i rr = r' ∧ Y = u) (fun u : S_Model => jB (dC, dI) [(cI, .int)] A ((W_Model cI a u))) A) ([.ref (a 0), .int v1] : List Value).toArray s 0 0 A) (F0 m 0 ls []) := by
    intro H locs hP hD hS
    unfold F_X5_isValue at hF
    refine lv_aload_n hx hb dX5_isValue_0 rfl (lv_at hl 0 rfl) ?_
    refine va_get (D := (dC, dI)) (ci := 5) (v := .int (g_Model_at S)) (C := RX5) (T := TX5) (N := 26) hx hb hts hinX5 hown hK hP 0 rfl rfl 6 (by decide) (hts (Cond.fieldLink RX5 68 "LearnedShapesModel" "at" "I") (List.mem_of_getElem? (i := 1) rfl)) (fun _ h9 => h9) rfl dX5_isValue_1 ?_
    refine lv_aload_n hx hb dX5_isValue_4 rfl (lv_at hl 0 rfl) ?_
    refine va_get (D := (dC, dI)) (ci := 5) (v := .int (g_Model_typed S)) (C := RX5) (T := TX5) (N := 26) hx hb hts hinX5 hown hK hP 0 rfl rfl 4 (by decide) (hts (Cond.fieldLink RX5 71 "LearnedShapesModel" "typed" "I") (List.mem_of_getElem? (i := 2) rfl)) (fun _ h9 => h9) rfl dX5_isValue_5 ?_
    refine lv_icmp_ge (tgt := 23) hx hb dX5_isValue_8 (by decide) (fun c44 => ?_) (fun c44 => ?_)
    · have hF := F_pos c44 hF
      refine lv_iconst (v := (0 : Int32)) hx hb dX5_isValue_23 (by decide) ?_
      exact K24 _ _ _ _ hF hP hD hS _ (lv_sub hl [0, 1] rfl)
    · have hF := F_neg c44 hF
      refine lv_aload_n hx hb dX5_isValue_11 rfl (lv_at hl 0 rfl) ?_
      refine va_get (D := (dC, dI)) (ci := 5) (v := .ref (a 3)) (C := RX5) (T := TX5) (N := 26) hx hb hts hinX5 hown hK hP 0 rfl rfl 3 (by decide) (hts (Cond.fieldLink RX5 16 "LearnedShapesModel" "text" "[I") (List.mem_of_getElem? (i := 3) rfl)) (fun _ h9 => h9) rfl dX5_isValue_12 ?_
      refine lv_aload_n hx hb dX5_isValue_15 rfl (lv_at hl 0 rfl) ?_
      refine va_get (D := (dC, dI)) (ci := 5) (v := .int (g_Model_at S)) (C := RX5) (T := TX5) (N := 26) hx hb hts hinX5 hown hK hP 0 rfl rfl 6 (by decide) (hts (Cond.fieldLink RX5 68 "LearnedShapesModel" "at" "I") (List.mem_of_getElem? (i := 1) rfl)) (fun _ h9 => h9) rfl dX5_isValue_16 ?_
      obtain ⟨g45, hF⟩ := og_some hF
      refine va_iald (f := (g_Model_text S)) hx hb hK hP 3 0 rfl rfl (inb_in g45) dX5_isValue_19 ?_
      refine lv_goto (tgt := 24) hx hb dX5_isValue_20 (by decide) ?_
      exact K24 _ _ _ _ hF hP hD hS _ (lv_sub hl [0, 1] rfl)
  exact KE _ _ hP hD hS
set_option maxHeartbeats 4000000 in
set_option maxRecDepth 100000 in
theorem c_X5_closes (l : Launch) (dC : Nat → ClassId) (dI : Nat → Nat → Nat) (cI : ClassId) (a : Nat → Nat) (sz : Nat) (S : S_Model) (v1 : Int32) (rr : Bool) (Y : S_Model) (hF : F_X5_closes S v1 = some (rr, Y)) : Met l yX5_closes wsX5_closes ({ frames := 0, cells := 0, slots := 0, locals := 0 } : Room) (va_Pc [.ref (a 0), .int v1] (jPre (dC, dI) [(cI, .int)] sz ((W_Model cI a S)))) (va_Qi (fun (r' : Int32) (u : S_Model) => b2i rr = r' ∧ Y = u) (fun u : S_Model => jB (dC, dI) [(cI, .int)] (va_A ((W_Model cI a S)) sz) ((W_Model cI a u))) (va_A ((W_Model cI a S)) sz)) 0 0 (va_A ((W_Model cI a S)) sz) := by
  refine Met.ofW (cc := cX5_closes) (maxL := 2) (ret := (some .boolean)) (by decide) rfl ?_
  intro p e s m args below meth c s₁ B hml hv
  obtain ⟨rfl, hsz, hP, hK, hD0, hN⟩ := hv
  have hx := B.exec
  have hb := B.bytes
  have hr := B.returns
  have hts := atoms_spec (ws := wsX5_closes) B.pre
  have hown : s.vm.findClass RX5 = some m.cls := findClass_of_methodNamed B.named
  have hlocks := B.notSynchronized
  have hinX5 : ∀ w ∈ u_ws RX5 TX5 26, w ∈ wsX5_closes := by decide +kernel
  subst hsz
  have hD := hD0.self (sz := s.heap.size)
  generalize hAe : (va_A ((W_Model cI a S)) s.heap.size) = A at hD ⊢
  have hA : ∀ q : Nat, s.heap.size ≤ q → A q := fun q h => by rw [← hAe]; exact Or.inr h
  have hS : va_S A s.heap s.heap [] := va_S.rf
  have hl := lv_entry ([.ref (a 0), .int v1]) (n := 2) (Nat.le_of_ble_eq_true rfl)
  rw [lg_entry_eq]
  generalize (lg_sl ([.ref (a 0), .int v1]) ++ List.replicate (2 - (lg_sl ([.ref (a 0), .int v1])).length) Slot.unset).toArray = ls at hl ⊢
  have hl : lv_has ls 2 [(0, .ref (a 0)), (1, .int v1)] := hl
  have KE : ∀ (H : Heap) (locs : List Loc), va_P (dC, dI) vwCl ((W_Model cI a S)) H → va_D A ((W_Model cI a S)) → va_S A s.heap H locs → W p l e (headSpec wsX5_closes ({ frames := 0, cells := 0, slots := 0, locals := 0 } : Room)).room s m ([.ref (a 0), .int v1] : List Value).toArray below meth c H locs 0 0 (MQ below (va_Qi (fun (r' : Int32) (u : S_Model) => b2i rr = r' ∧ Y = u) (fun u : S_Model => jB (dC, dI) [(cI, .int)] A ((W_Model cI a u))) A) ([.ref (a 0), .int v1] : List Value).toArray s 0 0 A) (F0 m 0 ls []) := by
    intro H locs hP hD hS
    unfold F_X5_closes at hF
    refine lv_aload_n hx hb dX5_closes_0 rfl (lv_at hl 0 rfl) ?_
    refine va_get (D := (dC, dI)) (ci := 5) (v := .ref (a 8)) (C := RX5) (T := TX5) (N := 26) hx hb hts hinX5 hown hK hP 0 rfl rfl 12 (by decide) (hts (Cond.fieldLink RX5 31 "LearnedShapesModel" "ends" "[I") (List.mem_of_getElem? (i := 1) rfl)) (fun _ h9 => h9) rfl dX5_closes_1 ?_
    refine lv_iload_n hx hb dX5_closes_4 rfl (lv_at hl 1 rfl) ?_
    refine lv_aload_n hx hb dX5_closes_5 rfl (lv_at hl 0 rfl) ?_
    refine va_get (D := (dC, dI)) (ci := 5) (v := .int (g_Model_at S)) (C := RX5) (T := TX5) (N := 26) hx hb hts hinX5 hown hK hP 0 rfl rfl 6 (by decide) (hts (Cond.fieldLink RX5 68 "LearnedShapesModel" "at" "I") (List.mem_of_getElem? (i := 2) rfl)) (fun _ h9 => h9) rfl dX5_closes_6 ?_
    obtain ⟨g1, hF⟩ := og_some hF
    refine va_iast (f := (g_Model_ends S)) hx hb hK hP hD hS 8 0 rfl rfl (inb_in g1) dX5_closes_9 (fun H locs hP hD hS => ?_)
    have hP : va_P (dC, dI) vwCl ((W_Model cI a (s_Model_ends S (upd (g_Model_ends S) v1.toNatClampNeg (g_Model_at S))))) H := hP
    have hD : va_D A ((W_Model cI a (s_Model_ends S (upd (g_Model_ends S) v1.toNatClampNeg (g_Model_at S))))) := hD
    refine lv_aload_n hx hb dX5_closes_10 rfl (lv_at hl 0 rfl) ?_
    refine lv_dup hx hb dX5_closes_11 rfl ?_
    refine va_get (D := (dC, dI)) (ci := 5) (v := .int (g_Model_at S)) (C := RX5) (T := TX5) (N := 26) hx hb hts hinX5 hown hK hP 0 rfl rfl 6 (by decide) (hts (Cond.fieldLink RX5 68 "LearnedShapesModel" "at" "I") (List.mem_of_getElem? (i := 2) rfl)) (fun _ h9 => h9) rfl dX5_closes_12 ?_
    refine lv_iconst (v := (1 : Int32)) hx hb dX5_closes_15 (by decide) ?_
    refine lv_iadd hx hb dX5_closes_16 ?_
    refine va_put (D := (dC, dI)) (ci := 5) (v := .int ((g_Model_at S) + (1 : Int32))) (ty := .int) (C := RX5) (T := TX5) (N := 26) hx hb hts hinX5 tyX5 tyX5_ok nmX5 hown hK hP hD hS 0 rfl rfl 6 (by decide) (hts (Cond.fieldLink RX5 68 "LearnedShapesModel" "at" "I") (List.mem_of_getElem? (i := 2) rfl)) (fun _ h9 => h9) rfl (by decide +kernel) (rfl) rfl (Nat.le_of_ble_eq_true rfl) dX5_closes_17 (fun H locs hP hD hS => ?_)
    have hP : va_P (dC, dI) vwCl ((W_Model cI a (s_Model_ends (s_Model_at S ((g_Model_at S) + (1 : Int32))) (upd (g_Model_ends S) v1.toNatClampNeg (g_Model_at S))))) H := hP
    have hD : va_D A ((W_Model cI a (s_Model_ends (s_Model_at S ((g_Model_at S) + (1 : Int32))) (upd (g_Model_ends S) v1.toNatClampNeg (g_Model_at S))))) := hD
    refine lv_aload_n hx hb dX5_closes_20 rfl (lv_at hl 0 rfl) ?_
    refine lv_dup hx hb dX5_closes_21 rfl ?_
    refine va_get (D := (dC, dI)) (ci := 5) (v := .int (g_Model_deep S)) (C := RX5) (T := TX5) (N := 26) hx hb hts hinX5 hown hK hP 0 rfl rfl 16 (by decide) (hts (Cond.fieldLink RX5 85 "LearnedShapesModel" "deep" "I") (List.mem_of_getElem? (i := 3) rfl)) (fun _ h9 => h9) rfl dX5_closes_22 ?_
    refine lv_iconst (v := (1 : Int32)) hx hb dX5_closes_25 (by decide) ?_
    refine lv_isub hx hb dX5_closes_26 ?_
    refine va_put (D := (dC, dI)) (ci := 5) (v := .int ((g_Model_deep S) - (1 : Int32))) (ty := .int) (C := RX5) (T := TX5) (N := 26) hx hb hts hinX5 tyX5 tyX5_ok nmX5 hown hK hP hD hS 0 rfl rfl 16 (by decide) (hts (Cond.fieldLink RX5 85 "LearnedShapesModel" "deep" "I") (List.mem_of_getElem? (i := 3) rfl)) (fun _ h9 => h9) rfl (by decide +kernel) (rfl) rfl (Nat.le_of_ble_eq_true rfl) dX5_closes_27 (fun H locs hP hD hS => ?_)
    have hP : va_P (dC, dI) vwCl ((W_Model cI a (s_Model_deep (s_Model_ends (s_Model_at S ((g_Model_at S) + (1 : Int32))) (upd (g_Model_ends S) v1.toNatClampNeg (g_Model_at S))) ((g_Model_deep S) - (1 : Int32))))) H := hP
    have hD : va_D A ((W_Model cI a (s_Model_deep (s_Model_ends (s_Model_at S ((g_Model_at S) + (1 : Int32))) (upd (g_Model_ends S) v1.toNatClampNeg (g_Model_at S))) ((g_Model_deep S) - (1 : Int32))))) := hD
    refine lv_iconst (v := (1 : Int32)) hx hb dX5_closes_30 (by decide) ?_
    have e50 := Option.some.inj hF
    obtain ⟨e60, e51⟩ := Prod.mk.inj e50
    subst e60
    subst e51
    exact W.zret (v := (1 : Int32)) hx hb hr (rfl) (fun t ht hW => ⟨⟨(1 : Int32), (s_Model_deep (s_Model_ends (s_Model_at S ((g_Model_at S) + (1 : Int32))) (upd (g_Model_ends S) v1.toNatClampNeg (g_Model_at S))) ((g_Model_deep S) - (1 : Int32))), rfl, ⟨rfl, rfl⟩, by rw [ht]; exact hP, va_K.moved hW.alike hK, hD⟩, hS.F ht⟩) hS.2.2 dX5_closes_31
  exact KE _ _ hP hD hS
set_option maxHeartbeats 4000000 in
set_option maxRecDepth 100000 in
theorem c_X5_goesOn (l : Launch) (dC : Nat → ClassId) (dI : Nat → Nat → Nat) (cI : ClassId) (a : Nat → Nat) (sz : Nat) (S : S_Model)  (rr : Bool) (Y : S_Model) (hF : F_X5_goesOn S  = some (rr, Y)) : Met l yX5_goesOn wsX5_goesOn ({ frames := 5, cells := 0, slots := 0, locals := 113 } : Room) (va_Pc [.ref (a 0)] (jPre (dC, dI) [(cI, .int)] sz ((W_Model cI a S)))) (va_Qi (fun (r' : Int32) (u : S_Model) => b2i rr = r' ∧ Y = u) (fun u : S_Model => jB (dC, dI) [(cI, .int)] (va_A ((W_Model cI a S)) sz) ((W_Model cI a u))) (va_A ((W_Model cI a S)) sz)) 0 0 (va_A ((W_Model cI a S)) sz) := by
  refine Met.ofW (cc := cX5_goesOn) (maxL := 3) (ret := (some .boolean)) (by decide) rfl ?_
  intro p e s m args below meth c s₁ B hml hv
  obtain ⟨rfl, hsz, hP, hK, hD0, hN⟩ := hv
  have hx := B.exec
  have hb := B.bytes
  have hr := B.returns
  have hts := atoms_spec (ws := wsX5_goesOn) B.pre
  have hown : s.vm.findClass RX5 = some m.cls := findClass_of_methodNamed B.named
  have hlocks := B.notSynchronized
  have hinX5 : ∀ w ∈ u_ws RX5 TX5 26, w ∈ wsX5_goesOn := by decide +kernel
  subst hsz
  have hD := hD0.self (sz := s.heap.size)
  generalize hAe : (va_A ((W_Model cI a S)) s.heap.size) = A at hD ⊢
  have hA : ∀ q : Nat, s.heap.size ≤ q → A q := fun q h => by rw [← hAe]; exact Or.inr h
  have hS : va_S A s.heap s.heap [] := va_S.rf
  have hl := lv_entry ([.ref (a 0)]) (n := 3) (Nat.le_of_ble_eq_true rfl)
  rw [lg_entry_eq]
  generalize (lg_sl ([.ref (a 0)]) ++ List.replicate (3 - (lg_sl ([.ref (a 0)])).length) Slot.unset).toArray = ls at hl ⊢
  have hl : lv_has ls 3 [(0, .ref (a 0))] := hl
  have KE : ∀ (H : Heap) (locs : List Loc), va_P (dC, dI) vwCl ((W_Model cI a S)) H → va_D A ((W_Model cI a S)) → va_S A s.heap H locs → W p l e (headSpec wsX5_goesOn ({ frames := 5, cells := 0, slots := 0, locals := 113 } : Room)).room s m ([.ref (a 0)] : List Value).toArray below meth c H locs 0 0 (MQ below (va_Qi (fun (r' : Int32) (u : S_Model) => b2i rr = r' ∧ Y = u) (fun u : S_Model => jB (dC, dI) [(cI, .int)] A ((W_Model cI a u))) A) ([.ref (a 0)] : List Value).toArray s 0 0 A) (F0 m 0 ls []) := by
    intro H locs hP hD hS
    unfold F_X5_goesOn at hF
    refine lv_aload_n hx hb dX5_goesOn_0 rfl (lv_at hl 0 rfl) ?_
    refine va_get (D := (dC, dI)) (ci := 5) (v := .ref (a 10)) (C := RX5) (T := TX5) (N := 26) hx hb hts hinX5 hown hK hP 0 rfl rfl 15 (by decide) (hts (Cond.fieldLink RX5 37 "LearnedShapesModel" "open" "[I") (List.mem_of_getElem? (i := 1) rfl)) (fun _ h9 => h9) rfl dX5_goesOn_1 ?_
    refine lv_aload_n hx hb dX5_goesOn_4 rfl (lv_at hl 0 rfl) ?_
    refine va_get (D := (dC, dI)) (ci := 5) (v := .int (g_Model_deep S)) (C := RX5) (T := TX5) (N := 26) hx hb hts hinX5 hown hK hP 0 rfl rfl 16 (by decide) (hts (Cond.fieldLink RX5 85 "LearnedShapesModel" "deep" "I") (List.mem_of_getElem? (i := 2) rfl)) (fun _ h9 => h9) rfl dX5_goesOn_5 ?_
    refine lv_iconst (v := (1 : Int32)) hx hb dX5_goesOn_8 (by decide) ?_
    refine lv_isub hx hb dX5_goesOn_9 ?_
    obtain ⟨g1, hF⟩ := og_some hF
    refine va_iald (f := (g_Model_open S)) hx hb hK hP 10 0 rfl rfl (inb_in g1) dX5_goesOn_10 ?_
    refine lv_istore_n (lv' := [(1, .int ((g_Model_open S) ((g_Model_deep S) - (1 : Int32)).toNatClampNeg)), (0, .ref (a 0))]) hx hb dX5_goesOn_11 rfl hl (by decide) rfl (fun ls hl => ?_)
    refine lv_aload_n hx hb dX5_goesOn_12 rfl (lv_at hl 1 rfl) ?_
    refine va_get (D := (dC, dI)) (ci := 5) (v := .ref (a 4)) (C := RX5) (T := TX5) (N := 26) hx hb hts hinX5 hown hK hP 0 rfl rfl 8 (by decide) (hts (Cond.fieldLink RX5 19 "LearnedShapesModel" "kinds" "[I") (List.mem_of_getElem? (i := 3) rfl)) (fun _ h9 => h9) rfl dX5_goesOn_13 ?_
    refine lv_iload_n hx hb dX5_goesOn_16 rfl (lv_at hl 0 rfl) ?_
    obtain ⟨g2, hF⟩ := og_some hF
    refine va_iald (f := (g_Model_kinds S)) hx hb hK hP 4 0 rfl rfl (inb_in g2) dX5_goesOn_17 ?_
    refine lv_bipush (v := (6 : Int32)) hx hb dX5_goesOn_18 (by decide) ?_
    refine lv_icmp_ne (tgt := 122) hx hb dX5_goesOn_20 (by decide) (fun c3 => ?_) (fun c3 => ?_)
    · have hF := F_neg c3 hF
      refine lv_aload_n hx hb dX5_goesOn_122 rfl (lv_at hl 1 rfl) ?_
      refine lv_bipush (v := (93 : Int32)) hx hb dX5_goesOn_123 (by decide) ?_
      refine lv_bipush (v := (93 : Int32)) hx hb dX5_goesOn_125 (by decide) ?_
      obtain ⟨r4, h5, hF⟩ := ob1_some hF
      have hPc : va_P (dC, dI) vwCl ((W_Model cI a S)) H := hP
      have hDc : va_D A ((W_Model cI a S)) := hD
      have hFc := va_free (wc := (W_Model cI a S)) hD hS hA [0, 1, 2, 3, 4, 5, 6, 7, 8, 9, 10, 11, 12, 13] rfl
      refine va_calli (va_runV (As := [.int (93 : Int32), .int (93 : Int32)]) (rest := []) ⟨hx, hb, hml, hown, hts⟩ (c_X5_isAt l dC dI cI a H.size _ _ _ _ h5) (cwV 2 hts gX5_goesOn_X5_isAt rfl rfl rfl (by decide +kernel) ⟨Nat.le_of_ble_eq_true rfl, Nat.le_of_ble_eq_true rfl⟩) (jPreV hK hPc hDc hN (ci := 5) rfl rfl) rfl rfl hl.1 rfl (lv_room (Nat.le_of_ble_eq_true rfl)) dX5_goesOn_127 ⟨Nat.le_of_ble_eq_true rfl, Nat.le_of_ble_eq_true rfl⟩) hS (fun q _ h => hFc q h) hFc (fun r' u' t H locs ht hvm hw hB hz1 hk1 hS => ?_)
      subst hw
      obtain ⟨hP1, -, hD1⟩ := hB
      rw [ht] at hP1
      have hP : va_P (dC, dI) vwCl ((W_Model cI a S)) H := hP1
      have hD : va_D A ((W_Model cI a S)) := hD1.weaken (fun _ _ _ h => hFc _ h)
      refine lv_if_eq (tgt := 139) hx hb dX5_goesOn_130 (by decide) (fun c6 => ?_) (fun c6 => ?_)
      · have hF := F_pos c6 hF
        refine lv_aload_n hx hb dX5_goesOn_139 rfl (lv_at hl 1 rfl) ?_
        refine va_get (D := (dC, dI)) (ci := 5) (v := .ref (a 9)) (C := RX5) (T := TX5) (N := 26) hx hb hts hinX5 hown hK hP 0 rfl rfl 13 (by decide) (hts (Cond.fieldLink RX5 34 "LearnedShapesModel" "used" "[I") (List.mem_of_getElem? (i := 4) rfl)) (fun _ h9 => h9) rfl dX5_goesOn_140 ?_
        refine lv_iload_n hx hb dX5_goesOn_143 rfl (lv_at hl 0 rfl) ?_
        obtain ⟨g7, hF⟩ := og_some hF
        refine va_iald (f := (g_Model_used S)) hx hb hK hP 9 0 rfl rfl (inb_in g7) dX5_goesOn_144 ?_
        refine lv_iconst (v := (1 : Int32)) hx hb dX5_goesOn_145 (by decide) ?_
        refine lv_icmp_ne (tgt := 163) hx hb dX5_goesOn_146 (by decide) (fun c8 => ?_) (fun c8 => ?_)
        · have hF := F_neg c8 hF
          refine lv_aload_n hx hb dX5_goesOn_163 rfl (lv_at hl 1 rfl) ?_
          refine va_get (D := (dC, dI)) (ci := 5) (v := .ref (a 9)) (C := RX5) (T := TX5) (N := 26) hx hb hts hinX5 hown hK hP 0 rfl rfl 13 (by decide) (hts (Cond.fieldLink RX5 34 "LearnedShapesModel" "used" "[I") (List.mem_of_getElem? (i := 4) rfl)) (fun _ h9 => h9) rfl dX5_goesOn_164 ?_
          refine lv_iload_n hx hb dX5_goesOn_167 rfl (lv_at hl 0 rfl) ?_
          refine lv_iconst (v := (1 : Int32)) hx hb dX5_goesOn_168 (by decide) ?_
          obtain ⟨g9, hF⟩ := og_some hF
          refine va_iast (f := (g_Model_used S)) hx hb hK hP hD hS 9 0 rfl rfl (inb_in g9) dX5_goesOn_169 (fun H locs hP hD hS => ?_)
          have hP : va_P (dC, dI) vwCl ((W_Model cI a (s_Model_used S (upd (g_Model_used S) ((g_Model_open S) ((g_Model_deep S) - (1 : Int32)).toNatClampNeg).toNatClampNeg (1 : Int32))))) H := hP
          have hD : va_D A ((W_Model cI a (s_Model_used S (upd (g_Model_used S) ((g_Model_open S) ((g_Model_deep S) - (1 : Int32)).toNatClampNeg).toNatClampNeg (1 : Int32))))) := hD
          refine lv_aload_n hx hb dX5_goesOn_170 rfl (lv_at hl 1 rfl) ?_
          refine lv_bipush (v := (8 : Int32)) hx hb dX5_goesOn_171 (by decide) ?_
          obtain ⟨r10, u11, h12, hF⟩ := ob2_some hF
          have hPc : va_P (dC, dI) vwCl ((W_Model cI a (s_Model_used S (upd (g_Model_used S) ((g_Model_open S) ((g_Model_deep S) - (1 : Int32)).toNatClampNeg).toNatClampNeg (1 : Int32))))) H := hP
          have hDc : va_D A ((W_Model cI a (s_Model_used S (upd (g_Model_used S) ((g_Model_open S) ((g_Model_deep S) - (1 : Int32)).toNatClampNeg).toNatClampNeg (1 : Int32))))) := hD
          have hFc := va_free (wc := (W_Model cI a (s_Model_used S (upd (g_Model_used S) ((g_Model_open S) ((g_Model_deep S) - (1 : Int32)).toNatClampNeg).toNatClampNeg (1 : Int32))))) hD hS hA [0, 1, 2, 3, 4, 5, 6, 7, 8, 9, 10, 11, 12, 13] rfl
          refine va_calli (va_runV (As := [.int (8 : Int32)]) (rest := []) ⟨hx, hb, hml, hown, hts⟩ (c_X5_isValue l dC dI cI a H.size _ _ _ _ h12) (cwV 1 hts gX5_goesOn_X5_isValue rfl rfl rfl (by decide +kernel) ⟨Nat.le_of_ble_eq_true rfl, Nat.le_of_ble_eq_true rfl⟩) (jPreV hK hPc hDc hN (ci := 5) rfl rfl) rfl rfl hl.1 rfl (lv_room (Nat.le_of_ble_eq_true rfl)) dX5_goesOn_173 ⟨Nat.le_of_ble_eq_true rfl, Nat.le_of_ble_eq_true rfl⟩) hS (fun q _ h => hFc q h) hFc (fun r' u' t H locs ht hvm hw hB hz1 hk1 hS => ?_)
          obtain ⟨e1, e2⟩ := hw
          subst e1
          subst e2
          obtain ⟨hP1, -, hD1⟩ := hB
          rw [ht] at hP1
          have hP : va_P (dC, dI) vwCl ((W_Model cI a u11)) H := hP1
          have hD : va_D A ((W_Model cI a u11)) := hD1.weaken (fun _ _ _ h => hFc _ h)
          have e50 := Option.some.inj hF
          obtain ⟨e60, e51⟩ := Prod.mk.inj e50
          subst e60
          subst e51
          exact W.zret (v := (b2i r10)) hx hb hr (nb2i _) (fun t ht hW => ⟨⟨(b2i r10), u11, rfl, ⟨rfl, rfl⟩, by rw [ht]; exact hP, va_K.moved hW.alike hK, hD⟩, hS.F ht⟩) hS.2.2 dX5_goesOn_176
        · have hF := F_pos c8 hF
          refine lv_aload_n hx hb dX5_goesOn_149 rfl (lv_at hl 1 rfl) ?_
          refine lv_bipush (v := (44 : Int32)) hx hb dX5_goesOn_150 (by decide) ?_
          obtain ⟨r13, u14, h15, hF⟩ := ob2_some hF
          have hPc : va_P (dC, dI) vwCl ((W_Model cI a S)) H := hP
          have hDc : va_D A ((W_Model cI a S)) := hD
          have hFc := va_free (wc := (W_Model cI a S)) hD hS hA [0, 1, 2, 3, 4, 5, 6, 7, 8, 9, 10, 11, 12, 13] rfl
          refine va_calli (va_runV (As := [.int (44 : Int32)]) (rest := []) ⟨hx, hb, hml, hown, hts⟩ (c_X5_isSign l dC dI cI a H.size _ _ _ _ h15) (cwV 1 hts gX5_goesOn_X5_isSign rfl rfl rfl (by decide +kernel) ⟨Nat.le_of_ble_eq_true rfl, Nat.le_of_ble_eq_true rfl⟩) (jPreV hK hPc hDc hN (ci := 5) rfl rfl) rfl rfl hl.1 rfl (lv_room (Nat.le_of_ble_eq_true rfl)) dX5_goesOn_152 ⟨Nat.le_of_ble_eq_true rfl, Nat.le_of_ble_eq_true rfl⟩) hS (fun q _ h => hFc q h) hFc (fun r' u' t H locs ht hvm hw hB hz1 hk1 hS => ?_)
          obtain ⟨e1, e2⟩ := hw
          subst e1
          subst e2
          obtain ⟨hP1, -, hD1⟩ := hB
          rw [ht] at hP1
          have hP : va_P (dC, dI) vwCl ((W_Model cI a u14)) H := hP1
          have hD : va_D A ((W_Model cI a u14)) := hD1.weaken (fun _ _ _ h => hFc _ h)
          refine lv_if_ne (tgt := 163) hx hb dX5_goesOn_155 (by decide) (fun c16 => ?_) (fun c16 => ?_)
          · have hF := F_neg c16 hF
            refine lv_aload_n hx hb dX5_goesOn_163 rfl (lv_at hl 1 rfl) ?_
            refine va_get (D := (dC, dI)) (ci := 5) (v := .ref (a 9)) (C := RX5) (T := TX5) (N := 26) hx hb hts hinX5 hown hK hP 0 rfl rfl 13 (by decide) (hts (Cond.fieldLink RX5 34 "LearnedShapesModel" "used" "[I") (List.mem_of_getElem? (i := 4) rfl)) (fun _ h9 => h9) rfl dX5_goesOn_164 ?_
            refine lv_iload_n hx hb dX5_goesOn_167 rfl (lv_at hl 0 rfl) ?_
            refine lv_iconst (v := (1 : Int32)) hx hb dX5_goesOn_168 (by decide) ?_
            obtain ⟨g17, hF⟩ := og_some hF
            refine va_iast (f := (g_Model_used u14)) hx hb hK hP hD hS 9 0 rfl rfl (inb_in g17) dX5_goesOn_169 (fun H locs hP hD hS => ?_)
            have hP : va_P (dC, dI) vwCl ((W_Model cI a (s_Model_used u14 (upd (g_Model_used u14) ((g_Model_open S) ((g_Model_deep S) - (1 : Int32)).toNatClampNeg).toNatClampNeg (1 : Int32))))) H := hP
            have hD : va_D A ((W_Model cI a (s_Model_used u14 (upd (g_Model_used u14) ((g_Model_open S) ((g_Model_deep S) - (1 : Int32)).toNatClampNeg).toNatClampNeg (1 : Int32))))) := hD
            refine lv_aload_n hx hb dX5_goesOn_170 rfl (lv_at hl 1 rfl) ?_
            refine lv_bipush (v := (8 : Int32)) hx hb dX5_goesOn_171 (by decide) ?_
            obtain ⟨r18, u19, h20, hF⟩ := ob2_some hF
            have hPc : va_P (dC, dI) vwCl ((W_Model cI a (s_Model_used u14 (upd (g_Model_used u14) ((g_Model_open S) ((g_Model_deep S) - (1 : Int32)).toNatClampNeg).toNatClampNeg (1 : Int32))))) H := hP
            have hDc : va_D A ((W_Model cI a (s_Model_used u14 (upd (g_Model_used u14) ((g_Model_open S) ((g_Model_deep S) - (1 : Int32)).toNatClampNeg).toNatClampNeg (1 : Int32))))) := hD
            have hFc := va_free (wc := (W_Model cI a (s_Model_used u14 (upd (g_Model_used u14) ((g_Model_open S) ((g_Model_deep S) - (1 : Int32)).toNatClampNeg).toNatClampNeg (1 : Int32))))) hD hS hA [0, 1, 2, 3, 4, 5, 6, 7, 8, 9, 10, 11, 12, 13] rfl
            refine va_calli (va_runV (As := [.int (8 : Int32)]) (rest := []) ⟨hx, hb, hml, hown, hts⟩ (c_X5_isValue l dC dI cI a H.size _ _ _ _ h20) (cwV 1 hts gX5_goesOn_X5_isValue rfl rfl rfl (by decide +kernel) ⟨Nat.le_of_ble_eq_true rfl, Nat.le_of_ble_eq_true rfl⟩) (jPreV hK hPc hDc hN (ci := 5) rfl rfl) rfl rfl hl.1 rfl (lv_room (Nat.le_of_ble_eq_true rfl)) dX5_goesOn_173 ⟨Nat.le_of_ble_eq_true rfl, Nat.le_of_ble_eq_true rfl⟩) hS (fun q _ h => hFc q h) hFc (fun r' u' t H locs ht hvm hw hB hz1 hk1 hS => ?_)
            obtain ⟨e1, e2⟩ := hw
            subst e1
            subst e2
            obtain ⟨hP1, -, hD1⟩ := hB
            rw [ht] at hP1
            have hP : va_P (dC, dI) vwCl ((W_Model cI a u19)) H := hP1
            have hD : va_D A ((W_Model cI a u19)) := hD1.weaken (fun _ _ _ h => hFc _ h)
            have e50 := Option.some.inj hF
            obtain ⟨e60, e51⟩ := Prod.mk.inj e50
            subst e60
            subst e51
            exact W.zret (v := (b2i r18)) hx hb hr (nb2i _) (fun t ht hW => ⟨⟨(b2i r18), u19, rfl, ⟨rfl, rfl⟩, by rw [ht]; exact hP, va_K.moved hW.alike hK, hD⟩, hS.F ht⟩) hS.2.2 dX5_goesOn_176
          · have hF := F_pos c16 hF
            refine lv_aload_n hx hb dX5_goesOn_158 rfl (lv_at hl 1 rfl) ?_
            obtain ⟨r21, u22, h23, hF⟩ := ob2_some hF
            have hPc : va_P (dC, dI) vwCl ((W_Model cI a u14)) H := hP
            have hDc : va_D A ((W_Model cI a u14)) := hD
            have hFc := va_free (wc := (W_Model cI a u14)) hD hS hA [0, 1, 2, 3, 4, 5, 6, 7, 8, 9, 10, 11, 12, 13] rfl
            refine va_calli (va_runV (As := []) (rest := []) ⟨hx, hb, hml, hown, hts⟩ (c_X5_stops l dC dI cI a H.size _ _ _ h23) (cwV 0 hts gX5_goesOn_X5_stops rfl rfl rfl (by decide +kernel) ⟨Nat.le_of_ble_eq_true rfl, Nat.le_of_ble_eq_true rfl⟩) (jPreV hK hPc hDc hN (ci := 5) rfl rfl) rfl rfl hl.1 rfl (lv_room (Nat.le_of_ble_eq_true rfl)) dX5_goesOn_159 ⟨Nat.le_of_ble_eq_true rfl, Nat.le_of_ble_eq_true rfl⟩) hS (fun q _ h => hFc q h) hFc (fun r' u' t H locs ht hvm hw hB hz1 hk1 hS => ?_)
            obtain ⟨e1, e2⟩ := hw
            subst e1
            subst e2
            obtain ⟨hP1, -, hD1⟩ := hB
            rw [ht] at hP1
            have hP : va_P (dC, dI) vwCl ((W_Model cI a u22)) H := hP1
            have hD : va_D A ((W_Model cI a u22)) := hD1.weaken (fun _ _ _ h => hFc _ h)
            have e50 := Option.some.inj hF
            obtain ⟨e60, e51⟩ := Prod.mk.inj e50
            subst e60
            subst e51
            exact W.zret (v := (b2i r21)) hx hb hr (nb2i _) (fun t ht hW => ⟨⟨(b2i r21), u22, rfl, ⟨rfl, rfl⟩, by rw [ht]; exact hP, va_K.moved hW.alike hK, hD⟩, hS.F ht⟩) hS.2.2 dX5_goesOn_162
      · have hF := F_neg c6 hF
        refine lv_aload_n hx hb dX5_goesOn_133 rfl (lv_at hl 1 rfl) ?_
        refine lv_iload_n hx hb dX5_goesOn_134 rfl (lv_at hl 0 rfl) ?_
        obtain ⟨r24, u25, h26, hF⟩ := ob2_some hF
        have hPc : va_P (dC, dI) vwCl ((W_Model cI a S)) H := hP
        have hDc : va_D A ((W_Model cI a S)) := hD
        have hFc := va_free (wc := (W_Model cI a S)) hD hS hA [0, 1, 2, 3, 4, 5, 6, 7, 8, 9, 10, 11, 12, 13] rfl
        refine va_calli (va_runV (As := [.int ((g_Model_open S) ((g_Model_deep S) - (1 : Int32)).toNatClampNeg)]) (rest := []) ⟨hx, hb, hml, hown, hts⟩ (c_X5_closes l dC dI cI a H.size _ _ _ _ h26) (cwV 1 hts gX5_goesOn_X5_closes rfl rfl rfl (by decide +kernel) ⟨Nat.le_of_ble_eq_true rfl, Nat.le_of_ble_eq_true rfl⟩) (jPreV hK hPc hDc hN (ci := 5) rfl rfl) rfl rfl hl.1 rfl (lv_room (Nat.le_of_ble_eq_true rfl)) dX5_goesOn_135 ⟨Nat.le_of_ble_eq_true rfl, Nat.le_of_ble_eq_true rfl⟩) hS (fun q _ h => hFc q h) hFc (fun r' u' t H locs ht hvm hw hB hz1 hk1 hS => ?_)
        obtain ⟨e1, e2⟩ := hw
        subst e1
        subst e2
        obtain ⟨hP1, -, hD1⟩ := hB
        rw [ht] at hP1
        have hP : va_P (dC, dI) vwCl ((W_Model cI a u25)) H := hP1
        have hD : va_D A ((W_Model cI a u25)) := hD1.weaken (fun _ _ _ h => hFc _ h)
        have e50 := Option.some.inj hF
        obtain ⟨e60, e51⟩ := Prod.mk.inj e50
        subst e60
        subst e51
        exact W.zret (v := (b2i r24)) hx hb hr (nb2i _) (fun t ht hW => ⟨⟨(b2i r24), u25, rfl, ⟨rfl, rfl⟩, by rw [ht]; exact hP, va_K.moved hW.alike hK, hD⟩, hS.F ht⟩) hS.2.2 dX5_goesOn_138
    · have hF := F_pos c3 hF
      refine lv_aload_n hx hb dX5_goesOn_23 rfl (lv_at hl 1 rfl) ?_
      refine lv_bipush (v := (41 : Int32)) hx hb dX5_goesOn_24 (by decide) ?_
      refine lv_bipush (v := (41 : Int32)) hx hb dX5_goesOn_26 (by decide) ?_
      obtain ⟨r27, h28, hF⟩ := ob1_some hF
      have hPc : va_P (dC, dI) vwCl ((W_Model cI a S)) H := hP
      have hDc : va_D A ((W_Model cI a S)) := hD
      have hFc := va_free (wc := (W_Model cI a S)) hD hS hA [0, 1, 2, 3, 4, 5, 6, 7, 8, 9, 10, 11, 12, 13] rfl
      refine va_calli (va_runV (As := [.int (41 : Int32), .int (41 : Int32)]) (rest := []) ⟨hx, hb, hml, hown, hts⟩ (c_X5_isAt l dC dI cI a H.size _ _ _ _ h28) (cwV 2 hts gX5_goesOn_X5_isAt rfl rfl rfl (by decide +kernel) ⟨Nat.le_of_ble_eq_true rfl, Nat.le_of_ble_eq_true rfl⟩) (jPreV hK hPc hDc hN (ci := 5) rfl rfl) rfl rfl hl.1 rfl (lv_room (Nat.le_of_ble_eq_true rfl)) dX5_goesOn_28 ⟨Nat.le_of_ble_eq_true rfl, Nat.le_of_ble_eq_true rfl⟩) hS (fun q _ h => hFc q h) hFc (fun r' u' t H locs ht hvm hw hB hz1 hk1 hS => ?_)
      subst hw
      obtain ⟨hP1, -, hD1⟩ := hB
      rw [ht] at hP1
      have hP : va_P (dC, dI) vwCl ((W_Model cI a S)) H := hP1
      have hD : va_D A ((W_Model cI a S)) := hD1.weaken (fun _ _ _ h => hFc _ h)
      refine lv_if_eq (tgt := 40) hx hb dX5_goesOn_31 (by decide) (fun c29 => ?_) (fun c29 => ?_)
      · have hF := F_pos c29 hF
        refine lv_aload_n hx hb dX5_goesOn_40 rfl (lv_at hl 1 rfl) ?_
        refine lv_bipush (v := (65 : Int32)) hx hb dX5_goesOn_41 (by decide) ?_
        refine lv_bipush (v := (72 : Int32)) hx hb dX5_goesOn_43 (by decide) ?_
        obtain ⟨r30, h31, hF⟩ := ob1_some hF
        have hPc : va_P (dC, dI) vwCl ((W_Model cI a S)) H := hP
        have hDc : va_D A ((W_Model cI a S)) := hD
        have hFc := va_free (wc := (W_Model cI a S)) hD hS hA [0, 1, 2, 3, 4, 5, 6, 7, 8, 9, 10, 11, 12, 13] rfl
        refine va_calli (va_runV (As := [.int (65 : Int32), .int (72 : Int32)]) (rest := []) ⟨hx, hb, hml, hown, hts⟩ (c_X5_isAt l dC dI cI a H.size _ _ _ _ h31) (cwV 2 hts gX5_goesOn_X5_isAt rfl rfl rfl (by decide +kernel) ⟨Nat.le_of_ble_eq_true rfl, Nat.le_of_ble_eq_true rfl⟩) (jPreV hK hPc hDc hN (ci := 5) rfl rfl) rfl rfl hl.1 rfl (lv_room (Nat.le_of_ble_eq_true rfl)) dX5_goesOn_45 ⟨Nat.le_of_ble_eq_true rfl, Nat.le_of_ble_eq_true rfl⟩) hS (fun q _ h => hFc q h) hFc (fun r' u' t H locs ht hvm hw hB hz1 hk1 hS => ?_)
        subst hw
        obtain ⟨hP1, -, hD1⟩ := hB
        rw [ht] at hP1
        have hP : va_P (dC, dI) vwCl ((W_Model cI a S)) H := hP1
        have hD : va_D A ((W_Model cI a S)) := hD1.weaken (fun _ _ _ h => hFc _ h)
        refine lv_if_eq (tgt := 76) hx hb dX5_goesOn_48 (by decide) (fun c32 => ?_) (fun c32 => ?_)
        · have hF := F_pos c32 hF
          refine lv_aload_n hx hb dX5_goesOn_76 rfl (lv_at hl 1 rfl) ?_
          obtain ⟨r33, u34, h35, hF⟩ := ob2_some hF
          have hPc : va_P (dC, dI) vwCl ((W_Model cI a S)) H := hP
          have hDc : va_D A ((W_Model cI a S)) := hD
          have hFc := va_free (wc := (W_Model cI a S)) hD hS hA [0, 1, 2, 3, 4, 5, 6, 7, 8, 9, 10, 11, 12, 13] rfl
          refine va_calli (va_runV (As := []) (rest := []) ⟨hx, hb, hml, hown, hts⟩ (c_X5_stops l dC dI cI a H.size _ _ _ h35) (cwV 0 hts gX5_goesOn_X5_stops rfl rfl rfl (by decide +kernel) ⟨Nat.le_of_ble_eq_true rfl, Nat.le_of_ble_eq_true rfl⟩) (jPreV hK hPc hDc hN (ci := 5) rfl rfl) rfl rfl hl.1 rfl (lv_room (Nat.le_of_ble_eq_true rfl)) dX5_goesOn_77 ⟨Nat.le_of_ble_eq_true rfl, Nat.le_of_ble_eq_true rfl⟩) hS (fun q _ h => hFc q h) hFc (fun r' u' t H locs ht hvm hw hB hz1 hk1 hS => ?_)
          obtain ⟨e1, e2⟩ := hw
          subst e1
          subst e2
          obtain ⟨hP1, -, hD1⟩ := hB
          rw [ht] at hP1
          have hP : va_P (dC, dI) vwCl ((W_Model cI a u34)) H := hP1
          have hD : va_D A ((W_Model cI a u34)) := hD1.weaken (fun _ _ _ h => hFc _ h)
          have e50 := Option.some.inj hF
          obtain ⟨e60, e51⟩ := Prod.mk.inj e50
          subst e60
          subst e51
          exact W.zret (v := (b2i r33)) hx hb hr (nb2i _) (fun t ht hW => ⟨⟨(b2i r33), u34, rfl, ⟨rfl, rfl⟩, by rw [ht]; exact hP, va_K.moved hW.alike hK, hD⟩, hS.F ht⟩) hS.2.2 dX5_goesOn_80
        · have hF := F_neg c32 hF
          refine lv_aload_n hx hb dX5_goesOn_51 rfl (lv_at hl 1 rfl) ?_
          refine va_get (D := (dC, dI)) (ci := 5) (v := .ref (a 9)) (C := RX5) (T := TX5) (N := 26) hx hb hts hinX5 hown hK hP 0 rfl rfl 13 (by decide) (hts (Cond.fieldLink RX5 34 "LearnedShapesModel" "used" "[I") (List.mem_of_getElem? (i := 4) rfl)) (fun _ h9 => h9) rfl dX5_goesOn_52 ?_
          refine lv_iload_n hx hb dX5_goesOn_55 rfl (lv_at hl 0 rfl) ?_
          obtain ⟨g36, hF⟩ := og_some hF
          refine va_iald (f := (g_Model_used S)) hx hb hK hP 9 0 rfl rfl (inb_in g36) dX5_goesOn_56 ?_
          refine lv_aload_n hx hb dX5_goesOn_57 rfl (lv_at hl 1 rfl) ?_
          refine va_get (D := (dC, dI)) (ci := 5) (v := .ref (a 3)) (C := RX5) (T := TX5) (N := 26) hx hb hts hinX5 hown hK hP 0 rfl rfl 3 (by decide) (hts (Cond.fieldLink RX5 16 "LearnedShapesModel" "text" "[I") (List.mem_of_getElem? (i := 5) rfl)) (fun _ h9 => h9) rfl dX5_goesOn_58 ?_
          refine lv_aload_n hx hb dX5_goesOn_61 rfl (lv_at hl 1 rfl) ?_
          refine va_get (D := (dC, dI)) (ci := 5) (v := .int (g_Model_at S)) (C := RX5) (T := TX5) (N := 26) hx hb hts hinX5 hown hK hP 0 rfl rfl 6 (by decide) (hts (Cond.fieldLink RX5 68 "LearnedShapesModel" "at" "I") (List.mem_of_getElem? (i := 6) rfl)) (fun _ h9 => h9) rfl dX5_goesOn_62 ?_
          obtain ⟨g37, hF⟩ := og_some hF
          refine va_iald (f := (g_Model_text S)) hx hb hK hP 3 0 rfl rfl (inb_in g37) dX5_goesOn_65 ?_
          refine lv_bipush (v := (65 : Int32)) hx hb dX5_goesOn_66 (by decide) ?_
          refine lv_isub hx hb dX5_goesOn_68 ?_
          refine lv_ishr hx hb dX5_goesOn_69 ?_
          refine lv_iconst (v := (1 : Int32)) hx hb dX5_goesOn_70 (by decide) ?_
          refine lv_iand hx hb dX5_goesOn_71 ?_
          refine lv_iconst (v := (1 : Int32)) hx hb dX5_goesOn_72 (by decide) ?_
          refine lv_icmp_ne (tgt := 81) hx hb dX5_goesOn_73 (by decide) (fun c38 => ?_) (fun c38 => ?_)
          · have hF := F_neg c38 hF
            refine lv_aload_n hx hb dX5_goesOn_81 rfl (lv_at hl 1 rfl) ?_
            refine va_get (D := (dC, dI)) (ci := 5) (v := .ref (a 3)) (C := RX5) (T := TX5) (N := 26) hx hb hts hinX5 hown hK hP 0 rfl rfl 3 (by decide) (hts (Cond.fieldLink RX5 16 "LearnedShapesModel" "text" "[I") (List.mem_of_getElem? (i := 5) rfl)) (fun _ h9 => h9) rfl dX5_goesOn_82 ?_
            refine lv_aload_n hx hb dX5_goesOn_85 rfl (lv_at hl 1 rfl) ?_
            refine va_get (D := (dC, dI)) (ci := 5) (v := .int (g_Model_at S)) (C := RX5) (T := TX5) (N := 26) hx hb hts hinX5 hown hK hP 0 rfl rfl 6 (by decide) (hts (Cond.fieldLink RX5 68 "LearnedShapesModel" "at" "I") (List.mem_of_getElem? (i := 6) rfl)) (fun _ h9 => h9) rfl dX5_goesOn_86 ?_
            obtain ⟨g39, hF⟩ := og_some hF
            refine va_iald (f := (g_Model_text S)) hx hb hK hP 3 0 rfl rfl (inb_in g39) dX5_goesOn_89 ?_
            refine lv_bipush (v := (65 : Int32)) hx hb dX5_goesOn_90 (by decide) ?_
            refine lv_isub hx hb dX5_goesOn_92 ?_
            refine lv_istore_n (lv' := [(2, .int (((g_Model_text S) (g_Model_at S).toNatClampNeg) - (65 : Int32))), (1, .int ((g_Model_open S) ((g_Model_deep S) - (1 : Int32)).toNatClampNeg)), (0, .ref (a 0))]) hx hb dX5_goesOn_93 rfl hl (by decide) rfl (fun ls hl => ?_)
            refine lv_aload_n hx hb dX5_goesOn_94 rfl (lv_at hl 2 rfl) ?_
            refine va_get (D := (dC, dI)) (ci := 5) (v := .ref (a 9)) (C := RX5) (T := TX5) (N := 26) hx hb hts hinX5 hown hK hP 0 rfl rfl 13 (by decide) (hts (Cond.fieldLink RX5 34 "LearnedShapesModel" "used" "[I") (List.mem_of_getElem? (i := 4) rfl)) (fun _ h9 => h9) rfl dX5_goesOn_95 ?_
            refine lv_iload_n hx hb dX5_goesOn_98 rfl (lv_at hl 1 rfl) ?_
            refine lv_dup2_11 hx hb dX5_goesOn_99 rfl rfl ?_
            obtain ⟨g40, hF⟩ := og_some hF
            refine va_iald (f := (g_Model_used S)) hx hb hK hP 9 0 rfl rfl (inb_in g40) dX5_goesOn_100 ?_
            refine lv_iconst (v := (1 : Int32)) hx hb dX5_goesOn_101 (by decide) ?_
            refine lv_iload_n hx hb dX5_goesOn_102 rfl (lv_at hl 0 rfl) ?_
            refine lv_ishl hx hb dX5_goesOn_103 ?_
            refine lv_ior hx hb dX5_goesOn_104 ?_
            obtain ⟨g41, hF⟩ := og_some hF
            refine va_iast (f := (g_Model_used S)) hx hb hK hP hD hS 9 0 rfl rfl (inb_in g41) dX5_goesOn_105 (fun H locs hP hD hS => ?_)
            have hP : va_P (dC, dI) vwCl ((W_Model cI a (s_Model_used S (upd (g_Model_used S) ((g_Model_open S) ((g_Model_deep S) - (1 : Int32)).toNatClampNeg).toNatClampNeg (((g_Model_used S) ((g_Model_open S) ((g_Model_deep S) - (1 : Int32)).toNatClampNeg).toNatClampNeg) ||| ((1 : Int32) <<< ((((g_Model_text S) (g_Model_at S).toNatClampNeg) - (65 : Int32)) &&& 31))))))) H := hP
            have hD : va_D A ((W_Model cI a (s_Model_used S (upd (g_Model_used S) ((g_Model_open S) ((g_Model_deep S) - (1 : Int32)).toNatClampNeg).toNatClampNeg (((g_Model_used S) ((g_Model_open S) ((g_Model_deep S) - (1 : Int32)).toNatClampNeg).toNatClampNeg) ||| ((1 : Int32) <<< ((((g_Model_text S) (g_Model_at S).toNatClampNeg) - (65 : Int32)) &&& 31))))))) := hD
            refine lv_aload_n hx hb dX5_goesOn_106 rfl (lv_at hl 2 rfl) ?_
            refine lv_dup hx hb dX5_goesOn_107 rfl ?_
            refine va_get (D := (dC, dI)) (ci := 5) (v := .int (g_Model_at S)) (C := RX5) (T := TX5) (N := 26) hx hb hts hinX5 hown hK hP 0 rfl rfl 6 (by decide) (hts (Cond.fieldLink RX5 68 "LearnedShapesModel" "at" "I") (List.mem_of_getElem? (i := 6) rfl)) (fun _ h9 => h9) rfl dX5_goesOn_108 ?_
            refine lv_iconst (v := (1 : Int32)) hx hb dX5_goesOn_111 (by decide) ?_
            refine lv_iadd hx hb dX5_goesOn_112 ?_
            refine va_put (D := (dC, dI)) (ci := 5) (v := .int ((g_Model_at S) + (1 : Int32))) (ty := .int) (C := RX5) (T := TX5) (N := 26) hx hb hts hinX5 tyX5 tyX5_ok nmX5 hown hK hP hD hS 0 rfl rfl 6 (by decide) (hts (Cond.fieldLink RX5 68 "LearnedShapesModel" "at" "I") (List.mem_of_getElem? (i := 6) rfl)) (fun _ h9 => h9) rfl (by decide +kernel) (rfl) rfl (Nat.le_of_ble_eq_true rfl) dX5_goesOn_113 (fun H locs hP hD hS => ?_)
            have hP : va_P (dC, dI) vwCl ((W_Model cI a (s_Model_used (s_Model_at S ((g_Model_at S) + (1 : Int32))) (upd (g_Model_used S) ((g_Model_open S) ((g_Model_deep S) - (1 : Int32)).toNatClampNeg).toNatClampNeg (((g_Model_used S) ((g_Model_open S) ((g_Model_deep S) - (1 : Int32)).toNatClampNeg).toNatClampNeg) ||| ((1 : Int32) <<< ((((g_Model_text S) (g_Model_at S).toNatClampNeg) - (65 : Int32)) &&& 31))))))) H := hP
            have hD : va_D A ((W_Model cI a (s_Model_used (s_Model_at S ((g_Model_at S) + (1 : Int32))) (upd (g_Model_used S) ((g_Model_open S) ((g_Model_deep S) - (1 : Int32)).toNatClampNeg).toNatClampNeg (((g_Model_used S) ((g_Model_open S) ((g_Model_deep S) - (1 : Int32)).toNatClampNeg).toNatClampNeg) ||| ((1 : Int32) <<< ((((g_Model_text S) (g_Model_at S).toNatClampNeg) - (65 : Int32)) &&& 31))))))) := hD
            refine lv_aload_n hx hb dX5_goesOn_116 rfl (lv_at hl 2 rfl) ?_
            refine lv_iload_n hx hb dX5_goesOn_117 rfl (lv_at hl 0 rfl) ?_
            obtain ⟨r42, u43, h44, hF⟩ := ob2_some hF
            have hPc : va_P (dC, dI) vwCl ((W_Model cI a (s_Model_used (s_Model_at S ((g_Model_at S) + (1 : Int32))) (upd (g_Model_used S) ((g_Model_open S) ((g_Model_deep S) - (1 : Int32)).toNatClampNeg).toNatClampNeg (((g_Model_used S) ((g_Model_open S) ((g_Model_deep S) - (1 : Int32)).toNatClampNeg).toNatClampNeg) ||| ((1 : Int32) <<< ((((g_Model_text S) (g_Model_at S).toNatClampNeg) - (65 : Int32)) &&& 31))))))) H := hP
            have hDc : va_D A ((W_Model cI a (s_Model_used (s_Model_at S ((g_Model_at S) + (1 : Int32))) (upd (g_Model_used S) ((g_Model_open S) ((g_Model_deep S) - (1 : Int32)).toNatClampNeg).toNatClampNeg (((g_Model_used S) ((g_Model_open S) ((g_Model_deep S) - (1 : Int32)).toNatClampNeg).toNatClampNeg) ||| ((1 : Int32) <<< ((((g_Model_text S) (g_Model_at S).toNatClampNeg) - (65 : Int32)) &&& 31))))))) := hD
            have hFc := va_free (wc := (W_Model cI a (s_Model_used (s_Model_at S ((g_Model_at S) + (1 : Int32))) (upd (g_Model_used S) ((g_Model_open S) ((g_Model_deep S) - (1 : Int32)).toNatClampNeg).toNatClampNeg (((g_Model_used S) ((g_Model_open S) ((g_Model_deep S) - (1 : Int32)).toNatClampNeg).toNatClampNeg) ||| ((1 : Int32) <<< ((((g_Model_text S) (g_Model_at S).toNatClampNeg) - (65 : Int32)) &&& 31))))))) hD hS hA [0, 1, 2, 3, 4, 5, 6, 7, 8, 9, 10, 11, 12, 13] rfl
            refine va_calli (va_runV (As := [.int (((g_Model_text S) (g_Model_at S).toNatClampNeg) - (65 : Int32))]) (rest := []) ⟨hx, hb, hml, hown, hts⟩ (c_X5_isValue l dC dI cI a H.size _ _ _ _ h44) (cwV 1 hts gX5_goesOn_X5_isValue rfl rfl rfl (by decide +kernel) ⟨Nat.le_of_ble_eq_true rfl, Nat.le_of_ble_eq_true rfl⟩) (jPreV hK hPc hDc hN (ci := 5) rfl rfl) rfl rfl hl.1 rfl (lv_room (Nat.le_of_ble_eq_true rfl)) dX5_goesOn_118 ⟨Nat.le_of_ble_eq_true rfl, Nat.le_of_ble_eq_true rfl⟩) hS (fun q _ h => hFc q h) hFc (fun r' u' t H locs ht hvm hw hB hz1 hk1 hS => ?_)
            obtain ⟨e1, e2⟩ := hw
            subst e1
            subst e2
            obtain ⟨hP1, -, hD1⟩ := hB
            rw [ht] at hP1
            have hP : va_P (dC, dI) vwCl ((W_Model cI a u43)) H := hP1
            have hD : va_D A ((W_Model cI a u43)) := hD1.weaken (fun _ _ _ h => hFc _ h)
            have e50 := Option.some.inj hF
            obtain ⟨e60, e51⟩ := Prod.mk.inj e50
            subst e60
            subst e51
            exact W.zret (v := (b2i r42)) hx hb hr (nb2i _) (fun t ht hW => ⟨⟨(b2i r42), u43, rfl, ⟨rfl, rfl⟩, by rw [ht]; exact hP, va_K.moved hW.alike hK, hD⟩, hS.F ht⟩) hS.2.2 dX5_goesOn_121
          · have hF := F_pos c38 hF
            refine lv_aload_n hx hb dX5_goesOn_76 rfl (lv_at hl 1 rfl) ?_
            obtain ⟨r45, u46, h47, hF⟩ := ob2_some hF
            have hPc : va_P (dC, dI) vwCl ((W_Model cI a S)) H := hP
            have hDc : va_D A ((W_Model cI a S)) := hD
            have hFc := va_free (wc := (W_Model cI a S)) hD hS hA [0, 1, 2, 3, 4, 5, 6, 7, 8, 9, 10, 11, 12, 13] rfl
            refine va_calli (va_runV (As := []) (rest := []) ⟨hx, hb, hml, hown, hts⟩ (c_X5_stops l dC dI cI a H.size _ _ _ h47) (cwV 0 hts gX5_goesOn_X5_stops rfl rfl rfl (by decide +kernel) ⟨Nat.le_of_ble_eq_true rfl, Nat.le_of_ble_eq_true rfl⟩) (jPreV hK hPc hDc hN (ci := 5) rfl rfl) rfl rfl hl.1 rfl (lv_room (Nat.le_of_ble_eq_true rfl)) dX5_goesOn_77 ⟨Nat.le_of_ble_eq_true rfl, Nat.le_of_ble_eq_true rfl⟩) hS (fun q _ h => hFc q h) hFc (fun r' u' t H locs ht hvm hw hB hz1 hk1 hS => ?_)
            obtain ⟨e1, e2⟩ := hw
            subst e1
            subst e2
            obtain ⟨hP1, -, hD1⟩ := hB
            rw [ht] at hP1
            have hP : va_P (dC, dI) vwCl ((W_Model cI a u46)) H := hP1
            have hD : va_D A ((W_Model cI a u46)) := hD1.weaken (fun _ _ _ h => hFc _ h)
            have e50 := Option.some.inj hF
            obtain ⟨e60, e51⟩ := Prod.mk.inj e50
            subst e60
            subst e51
            exact W.zret (v := (b2i r45)) hx hb hr (nb2i _) (fun t ht hW => ⟨⟨(b2i r45), u46, rfl, ⟨rfl, rfl⟩, by rw [ht]; exact hP, va_K.moved hW.alike hK, hD⟩, hS.F ht⟩) hS.2.2 dX5_goesOn_80
      · have hF := F_neg c29 hF
        refine lv_aload_n hx hb dX5_goesOn_34 rfl (lv_at hl 1 rfl) ?_
        refine lv_iload_n hx hb dX5_goesOn_35 rfl (lv_at hl 0 rfl) ?_
        obtain ⟨r48, u49, h50, hF⟩ := ob2_some hF
        have hPc : va_P (dC, dI) vwCl ((W_Model cI a S)) H := hP
        have hDc : va_D A ((W_Model cI a S)) := hD
        have hFc := va_free (wc := (W_Model cI a S)) hD hS hA [0, 1, 2, 3, 4, 5, 6, 7, 8, 9, 10, 11, 12, 13] rfl
        refine va_calli (va_runV (As := [.int ((g_Model_open S) ((g_Model_deep S) - (1 : Int32)).toNatClampNeg)]) (rest := []) ⟨hx, hb, hml, hown, hts⟩ (c_X5_closes l dC dI cI a H.size _ _ _ _ h50) (cwV 1 hts gX5_goesOn_X5_closes rfl rfl rfl (by decide +kernel) ⟨Nat.le_of_ble_eq_true rfl, Nat.le_of_ble_eq_true rfl⟩) (jPreV hK hPc hDc hN (ci := 5) rfl rfl) rfl rfl hl.1 rfl (lv_room (Nat.le_of_ble_eq_true rfl)) dX5_goesOn_36 ⟨Nat.le_of_ble_eq_true rfl, Nat.le_of_ble_eq_true rfl⟩) hS (fun q _ h => hFc q h) hFc (fun r' u' t H locs ht hvm hw hB hz1 hk1 hS => ?_)
        obtain ⟨e1, e2⟩ := hw
        subst e1
        subst e2
        obtain ⟨hP1, -, hD1⟩ := hB
        rw [ht] at hP1
        have hP : va_P (dC, dI) vwCl ((W_Model cI a u49)) H := hP1
        have hD : va_D A ((W_Model cI a u49)) := hD1.weaken (fun _ _ _ h => hFc _ h)
        have e50 := Option.some.inj hF
        obtain ⟨e60, e51⟩ := Prod.mk.inj e50
        subst e60
        subst e51
        exact W.zret (v := (b2i r48)) hx hb hr (nb2i _) (fun t ht hW => ⟨⟨(b2i r48), u49, rfl, ⟨rfl, rfl⟩, by rw [ht]; exact hP, va_K.moved hW.alike hK, hD⟩, hS.F ht⟩) hS.2.2 dX5_goesOn_39
  exact KE _ _ hP hD hS
set_option maxHeartbeats 4000000 in
set_option maxRecDepth 100000 in
theorem c_X5_isText (l : Launch) (dC : Nat → ClassId) (dI : Nat → Nat → Nat) (cI : ClassId) (a : Nat → Nat) (sz : Nat) (S : S_Model)  (rr : Bool) (Y : S_Model) (hF : F_X5_isText S  = some (rr, Y)) : Met l yX5_isText wsX5_isText ({ frames := 6, cells := 0, slots := 0, locals := 135 } : Room) (va_Pc [.ref (a 0)] (jPre (dC, dI) [(cI, .int)] sz ((W_Model cI a S)))) (va_Qi (fun (r' : Int32) (u : S_Model) => b2i rr = r' ∧ Y = u) (fun u : S_Model => jB (dC, dI) [(cI, .int)] (va_A ((W_Model cI a S)) sz) ((W_Model cI a u))) (va_A ((W_Model cI a S)) sz)) 0 0 (va_A ((W_Model cI a S)) sz) := by
  refine Met.ofW (cc := cX5_isText) (maxL := 1) (ret := (some .boolean)) (by decide) rfl ?_
  intro p e s m args below meth c s₁ B hml hv
  obtain ⟨rfl, hsz, hP, hK, hD0, hN⟩ := hv
  have hx := B.exec
  have hb := B.bytes
  have hr := B.returns
  have hts := atoms_spec (ws := wsX5_isText) B.pre
  have hown : s.vm.findClass RX5 = some m.cls := findClass_of_methodNamed B.named
  have hlocks := B.notSynchronized
  have hinX5 : ∀ w ∈ u_ws RX5 TX5 26, w ∈ wsX5_isText := by decide +kernel
  subst hsz
  have hD := hD0.self (sz := s.heap.size)
  generalize hAe : (va_A ((W_Model cI a S)) s.heap.size) = A at hD ⊢
  have hA : ∀ q : Nat, s.heap.size ≤ q → A q := fun q h => by rw [← hAe]; exact Or.inr h
  have hS : va_S A s.heap s.heap [] := va_S.rf
  have hl := lv_entry ([.ref (a 0)]) (n := 1) (Nat.le_of_ble_eq_true rfl)
  rw [lg_entry_eq]
  generalize (lg_sl ([.ref (a 0)]) ++ List.replicate (1 - (lg_sl ([.ref (a 0)])).length) Slot.unset).toArray = ls at hl ⊢
  have hl : lv_has ls 1 [(0, .ref (a 0))] := hl
  have K49 : ∀ (n49 : Nat) (S : S_Model) (H : Heap) (locs : List Loc), F_X5_isText_49 n49 S = some (rr, Y) → va_P (dC, dI) vwCl ((W_Model cI a S)) H → va_D A ((W_Model cI a S)) → va_S A s.heap H locs → ∀ ls : Array Slot, lv_has ls 1 [(0, .ref (a 0))] → W p l e (headSpec wsX5_isText ({ frames := 6, cells := 0, slots := 0, locals := 135 } : Room)).room s m ([.ref (a 0)] : List Value).toArray below meth c H locs 0 0 (MQ below (va_Qi (fun (r' : Int32) (u : S_Model) => b2i rr = r' ∧ Y = u) (fun u : S_Model => jB (dC, dI) [(cI, .int)] A ((W_Model cI a u))) A) ([.ref (a 0)] : List Value).toArray s 0 0 A) (F0 m 49 ls []) := by
    intro n49
    induction n49 with
    | zero => intro S H locs hF; exact nomatch hF
    | succ n49 ih49 =>
      intro S H locs hF hP hD hS ls hl
      rw [F_X5_isText_49_s] at hF
      refine lv_aload_n hx hb dX5_isText_49 rfl (lv_at hl 0 rfl) ?_
      refine va_get (D := (dC, dI)) (ci := 5) (v := .int (g_Model_deep S)) (C := RX5) (T := TX5) (N := 26) hx hb hts hinX5 hown hK hP 0 rfl rfl 16 (by decide) (hts (Cond.fieldLink RX5 85 "LearnedShapesModel" "deep" "I") (List.mem_of_getElem? (i := 3) rfl)) (fun _ h9 => h9) rfl dX5_isText_50 ?_
      refine lv_if_le (tgt := 65) hx hb dX5_isText_53 (by decide) (fun c1 => ?_) (fun c1 => ?_)
      · have hF := F_pos c1 hF
        refine lv_aload_n hx hb dX5_isText_65 rfl (lv_at hl 0 rfl) ?_
        refine lv_aload_n hx hb dX5_isText_66 rfl (lv_at hl 0 rfl) ?_
        refine va_get (D := (dC, dI)) (ci := 5) (v := .int (g_Model_at S)) (C := RX5) (T := TX5) (N := 26) hx hb hts hinX5 hown hK hP 0 rfl rfl 6 (by decide) (hts (Cond.fieldLink RX5 68 "LearnedShapesModel" "at" "I") (List.mem_of_getElem? (i := 1) rfl)) (fun _ h9 => h9) rfl dX5_isText_67 ?_
        refine lv_aload_n hx hb dX5_isText_70 rfl (lv_at hl 0 rfl) ?_
        refine va_get (D := (dC, dI)) (ci := 5) (v := .int (g_Model_typed S)) (C := RX5) (T := TX5) (N := 26) hx hb hts hinX5 hown hK hP 0 rfl rfl 4 (by decide) (hts (Cond.fieldLink RX5 71 "LearnedShapesModel" "typed" "I") (List.mem_of_getElem? (i := 6) rfl)) (fun _ h9 => h9) rfl dX5_isText_71 ?_
        refine lv_icmp_ge (tgt := 81) hx hb dX5_isText_74 (by decide) (fun c2 => ?_) (fun c2 => ?_)
        · have hF := F_pos c2 hF
          refine lv_iconst (v := (0 : Int32)) hx hb dX5_isText_81 (by decide) ?_
          refine va_put (D := (dC, dI)) (ci := 5) (v := .int (0 : Int32)) (ty := .boolean) (C := RX5) (T := TX5) (N := 26) hx hb hts hinX5 tyX5 tyX5_ok nmX5 hown hK hP hD hS 0 rfl rfl 7 (by decide) (hts (Cond.fieldLink RX5 74 "LearnedShapesModel" "isFault" "Z") (List.mem_of_getElem? (i := 5) rfl)) (fun _ h9 => h9) rfl (by decide +kernel) (rfl) rfl (Nat.le_of_ble_eq_true rfl) dX5_isText_82 (fun H locs hP hD hS => ?_)
          have hP : va_P (dC, dI) vwCl ((W_Model cI a (s_Model_isFault S (0 : Int32)))) H := hP
          have hD : va_D A ((W_Model cI a (s_Model_isFault S (0 : Int32)))) := hD
          refine lv_aload_n hx hb dX5_isText_85 rfl (lv_at hl 0 rfl) ?_
          refine va_get (D := (dC, dI)) (ci := 5) (v := .int (g_Model_at S)) (C := RX5) (T := TX5) (N := 26) hx hb hts hinX5 hown hK hP 0 rfl rfl 6 (by decide) (hts (Cond.fieldLink RX5 68 "LearnedShapesModel" "at" "I") (List.mem_of_getElem? (i := 1) rfl)) (fun _ h9 => h9) rfl dX5_isText_86 ?_
          refine lv_aload_n hx hb dX5_isText_89 rfl (lv_at hl 0 rfl) ?_
          refine va_get (D := (dC, dI)) (ci := 5) (v := .int (g_Model_typed S)) (C := RX5) (T := TX5) (N := 26) hx hb hts hinX5 hown hK hP 0 rfl rfl 4 (by decide) (hts (Cond.fieldLink RX5 71 "LearnedShapesModel" "typed" "I") (List.mem_of_getElem? (i := 6) rfl)) (fun _ h9 => h9) rfl dX5_isText_90 ?_
          refine lv_icmp_ne (tgt := 100) hx hb dX5_isText_93 (by decide) (fun c3 => ?_) (fun c3 => ?_)
          · have hF := F_neg c3 hF
            refine lv_iconst (v := (0 : Int32)) hx hb dX5_isText_100 (by decide) ?_
            have e50 := Option.some.inj hF
            obtain ⟨e60, e51⟩ := Prod.mk.inj e50
            subst e60
            subst e51
            exact W.zret (v := (0 : Int32)) hx hb hr (rfl) (fun t ht hW => ⟨⟨(0 : Int32), (s_Model_isFault S (0 : Int32)), rfl, ⟨rfl, rfl⟩, by rw [ht]; exact hP, va_K.moved hW.alike hK, hD⟩, hS.F ht⟩) hS.2.2 dX5_isText_101
          · have hF := F_pos c3 hF
            refine lv_iconst (v := (1 : Int32)) hx hb dX5_isText_96 (by decide) ?_
            refine lv_goto (tgt := 101) hx hb dX5_isText_97 (by decide) ?_
            have e50 := Option.some.inj hF
            obtain ⟨e60, e51⟩ := Prod.mk.inj e50
            subst e60
            subst e51
            exact W.zret (v := (1 : Int32)) hx hb hr (rfl) (fun t ht hW => ⟨⟨(1 : Int32), (s_Model_isFault S (0 : Int32)), rfl, ⟨rfl, rfl⟩, by rw [ht]; exact hP, va_K.moved hW.alike hK, hD⟩, hS.F ht⟩) hS.2.2 dX5_isText_101
        · have hF := F_neg c2 hF
          refine lv_iconst (v := (1 : Int32)) hx hb dX5_isText_77 (by decide) ?_
          refine lv_goto (tgt := 82) hx hb dX5_isText_78 (by decide) ?_
          refine va_put (D := (dC, dI)) (ci := 5) (v := .int (1 : Int32)) (ty := .boolean) (C := RX5) (T := TX5) (N := 26) hx hb hts hinX5 tyX5 tyX5_ok nmX5 hown hK hP hD hS 0 rfl rfl 7 (by decide) (hts (Cond.fieldLink RX5 74 "LearnedShapesModel" "isFault" "Z") (List.mem_of_getElem? (i := 5) rfl)) (fun _ h9 => h9) rfl (by decide +kernel) (rfl) rfl (Nat.le_of_ble_eq_true rfl) dX5_isText_82 (fun H locs hP hD hS => ?_)
          have hP : va_P (dC, dI) vwCl ((W_Model cI a (s_Model_isFault S (1 : Int32)))) H := hP
          have hD : va_D A ((W_Model cI a (s_Model_isFault S (1 : Int32)))) := hD
          refine lv_aload_n hx hb dX5_isText_85 rfl (lv_at hl 0 rfl) ?_
          refine va_get (D := (dC, dI)) (ci := 5) (v := .int (g_Model_at S)) (C := RX5) (T := TX5) (N := 26) hx hb hts hinX5 hown hK hP 0 rfl rfl 6 (by decide) (hts (Cond.fieldLink RX5 68 "LearnedShapesModel" "at" "I") (List.mem_of_getElem? (i := 1) rfl)) (fun _ h9 => h9) rfl dX5_isText_86 ?_
          refine lv_aload_n hx hb dX5_isText_89 rfl (lv_at hl 0 rfl) ?_
          refine va_get (D := (dC, dI)) (ci := 5) (v := .int (g_Model_typed S)) (C := RX5) (T := TX5) (N := 26) hx hb hts hinX5 hown hK hP 0 rfl rfl 4 (by decide) (hts (Cond.fieldLink RX5 71 "LearnedShapesModel" "typed" "I") (List.mem_of_getElem? (i := 6) rfl)) (fun _ h9 => h9) rfl dX5_isText_90 ?_
          refine lv_icmp_ne (tgt := 100) hx hb dX5_isText_93 (by decide) (fun c4 => ?_) (fun c4 => ?_)
          · have hF := F_neg c4 hF
            refine lv_iconst (v := (0 : Int32)) hx hb dX5_isText_100 (by decide) ?_
            have e50 := Option.some.inj hF
            obtain ⟨e60, e51⟩ := Prod.mk.inj e50
            subst e60
            subst e51
            exact W.zret (v := (0 : Int32)) hx hb hr (rfl) (fun t ht hW => ⟨⟨(0 : Int32), (s_Model_isFault S (1 : Int32)), rfl, ⟨rfl, rfl⟩, by rw [ht]; exact hP, va_K.moved hW.alike hK, hD⟩, hS.F ht⟩) hS.2.2 dX5_isText_101
          · have hF := F_pos c4 hF
            refine lv_iconst (v := (1 : Int32)) hx hb dX5_isText_96 (by decide) ?_
            refine lv_goto (tgt := 101) hx hb dX5_isText_97 (by decide) ?_
            have e50 := Option.some.inj hF
            obtain ⟨e60, e51⟩ := Prod.mk.inj e50
            subst e60
            subst e51
            exact W.zret (v := (1 : Int32)) hx hb hr (rfl) (fun t ht hW => ⟨⟨(1 : Int32), (s_Model_isFault S (1 : Int32)), rfl, ⟨rfl, rfl⟩, by rw [ht]; exact hP, va_K.moved hW.alike hK, hD⟩, hS.F ht⟩) hS.2.2 dX5_isText_101
      · have hF := F_neg c1 hF
        refine lv_aload_n hx hb dX5_isText_56 rfl (lv_at hl 0 rfl) ?_
        obtain ⟨r5, u6, h7, hF⟩ := ob2_some hF
        have hPc : va_P (dC, dI) vwCl ((W_Model cI a S)) H := hP
        have hDc : va_D A ((W_Model cI a S)) := hD
        have hFc := va_free (wc := (W_Model cI a S)) hD hS hA [0, 1, 2, 3, 4, 5, 6, 7, 8, 9, 10, 11, 12, 13] rfl
        refine va_calli (va_runV (As := []) (rest := []) ⟨hx, hb, hml, hown, hts⟩ (c_X5_goesOn l dC dI cI a H.size _ _ _ h7) (cwV 0 hts gX5_isText_X5_goesOn rfl rfl rfl (by decide +kernel) ⟨Nat.le_of_ble_eq_true rfl, Nat.le_of_ble_eq_true rfl⟩) (jPreV hK hPc hDc hN (ci := 5) rfl rfl) rfl rfl hl.1 rfl (lv_room (Nat.le_of_ble_eq_true rfl)) dX5_isText_57 ⟨Nat.le_of_ble_eq_true rfl, Nat.le_of_ble_eq_true rfl⟩) hS (fun q _ h => hFc q h) hFc (fun r' u' t H locs ht hvm hw hB hz1 hk1 hS => ?_)
        obtain ⟨e1, e2⟩ := hw
        subst e1
        subst e2
        obtain ⟨hP1, -, hD1⟩ := hB
        rw [ht] at hP1
        have hP : va_P (dC, dI) vwCl ((W_Model cI a u6)) H := hP1
        have hD : va_D A ((W_Model cI a u6)) := hD1.weaken (fun _ _ _ h => hFc _ h)
        refine lv_if_ne (tgt := 49) hx hb dX5_isText_60 (by decide) (fun c8 => ?_) (fun c8 => ?_)
        · have hF := F_neg c8 hF
          exact ih49 _ _ _ hF hP hD hS _ (lv_sub hl [0] rfl)
        · have hF := F_pos c8 hF
          refine lv_iconst (v := (0 : Int32)) hx hb dX5_isText_63 (by decide) ?_
          have e50 := Option.some.inj hF
          obtain ⟨e60, e51⟩ := Prod.mk.inj e50
          subst e60
          subst e51
          exact W.zret (v := (0 : Int32)) hx hb hr (rfl) (fun t ht hW => ⟨⟨(0 : Int32), u6, rfl, ⟨rfl, rfl⟩, by rw [ht]; exact hP, va_K.moved hW.alike hK, hD⟩, hS.F ht⟩) hS.2.2 dX5_isText_64
  have KE : ∀ (H : Heap) (locs : List Loc), va_P (dC, dI) vwCl ((W_Model cI a S)) H → va_D A ((W_Model cI a S)) → va_S A s.heap H locs → W p l e (headSpec wsX5_isText ({ frames := 6, cells := 0, slots := 0, locals := 135 } : Room)).room s m ([.ref (a 0)] : List Value).toArray below meth c H locs 0 0 (MQ below (va_Qi (fun (r' : Int32) (u : S_Model) => b2i rr = r' ∧ Y = u) (fun u : S_Model => jB (dC, dI) [(cI, .int)] A ((W_Model cI a u))) A) ([.ref (a 0)] : List Value).toArray s 0 0 A) (F0 m 0 ls []) := by
    intro H locs hP hD hS
    unfold F_X5_isText at hF
    refine lv_aload_n hx hb dX5_isText_0 rfl (lv_at hl 0 rfl) ?_
    refine lv_iconst (v := (0 : Int32)) hx hb dX5_isText_1 (by decide) ?_
    refine va_put (D := (dC, dI)) (ci := 5) (v := .int (0 : Int32)) (ty := .int) (C := RX5) (T := TX5) (N := 26) hx hb hts hinX5 tyX5 tyX5_ok nmX5 hown hK hP hD hS 0 rfl rfl 6 (by decide) (hts (Cond.fieldLink RX5 68 "LearnedShapesModel" "at" "I") (List.mem_of_getElem? (i := 1) rfl)) (fun _ h9 => h9) rfl (by decide +kernel) (rfl) rfl (Nat.le_of_ble_eq_true rfl) dX5_isText_2 (fun H locs hP hD hS => ?_)
    have hP : va_P (dC, dI) vwCl ((W_Model cI a (s_Model_at S (0 : Int32)))) H := hP
    have hD : va_D A ((W_Model cI a (s_Model_at S (0 : Int32)))) := hD
    refine lv_aload_n hx hb dX5_isText_5 rfl (lv_at hl 0 rfl) ?_
    refine lv_iconst (v := (0 : Int32)) hx hb dX5_isText_6 (by decide) ?_
    refine va_put (D := (dC, dI)) (ci := 5) (v := .int (0 : Int32)) (ty := .int) (C := RX5) (T := TX5) (N := 26) hx hb hts hinX5 tyX5 tyX5_ok nmX5 hown hK hP hD hS 0 rfl rfl 14 (by decide) (hts (Cond.fieldLink RX5 82 "LearnedShapesModel" "valued" "I") (List.mem_of_getElem? (i := 2) rfl)) (fun _ h9 => h9) rfl (by decide +kernel) (rfl) rfl (Nat.le_of_ble_eq_true rfl) dX5_isText_7 (fun H locs hP hD hS => ?_)
    have hP : va_P (dC, dI) vwCl ((W_Model cI a (s_Model_valued (s_Model_at S (0 : Int32)) (0 : Int32)))) H := hP
    have hD : va_D A ((W_Model cI a (s_Model_valued (s_Model_at S (0 : Int32)) (0 : Int32)))) := hD
    refine lv_aload_n hx hb dX5_isText_10 rfl (lv_at hl 0 rfl) ?_
    refine lv_iconst (v := (0 : Int32)) hx hb dX5_isText_11 (by decide) ?_
    refine va_put (D := (dC, dI)) (ci := 5) (v := .int (0 : Int32)) (ty := .int) (C := RX5) (T := TX5) (N := 26) hx hb hts hinX5 tyX5 tyX5_ok nmX5 hown hK hP hD hS 0 rfl rfl 16 (by decide) (hts (Cond.fieldLink RX5 85 "LearnedShapesModel" "deep" "I") (List.mem_of_getElem? (i := 3) rfl)) (fun _ h9 => h9) rfl (by decide +kernel) (rfl) rfl (Nat.le_of_ble_eq_true rfl) dX5_isText_12 (fun H locs hP hD hS => ?_)
    have hP : va_P (dC, dI) vwCl ((W_Model cI a (s_Model_deep (s_Model_valued (s_Model_at S (0 : Int32)) (0 : Int32)) (0 : Int32)))) H := hP
    have hD : va_D A ((W_Model cI a (s_Model_deep (s_Model_valued (s_Model_at S (0 : Int32)) (0 : Int32)) (0 : Int32)))) := hD
    refine lv_aload_n hx hb dX5_isText_15 rfl (lv_at hl 0 rfl) ?_
    refine lv_iconst (v := (0 : Int32)) hx hb dX5_isText_16 (by decide) ?_
    refine va_put (D := (dC, dI)) (ci := 5) (v := .int (0 : Int32)) (ty := .int) (C := RX5) (T := TX5) (N := 26) hx hb hts hinX5 tyX5 tyX5_ok nmX5 hown hK hP hD hS 0 rfl rfl 17 (by decide) (hts (Cond.fieldLink RX5 99 "LearnedShapesModel" "deepest" "I") (List.mem_of_getElem? (i := 4) rfl)) (fun _ h9 => h9) rfl (by decide +kernel) (rfl) rfl (Nat.le_of_ble_eq_true rfl) dX5_isText_17 (fun H locs hP hD hS => ?_)
    have hP : va_P (dC, dI) vwCl ((W_Model cI a (s_Model_deepest (s_Model_deep (s_Model_valued (s_Model_at S (0 : Int32)) (0 : Int32)) (0 : Int32)) (0 : Int32)))) H := hP
    have hD : va_D A ((W_Model cI a (s_Model_deepest (s_Model_deep (s_Model_valued (s_Model_at S (0 : Int32)) (0 : Int32)) (0 : Int32)) (0 : Int32)))) := hD
    refine lv_aload_n hx hb dX5_isText_20 rfl (lv_at hl 0 rfl) ?_
    refine lv_iconst (v := (0 : Int32)) hx hb dX5_isText_21 (by decide) ?_
    refine va_put (D := (dC, dI)) (ci := 5) (v := .int (0 : Int32)) (ty := .boolean) (C := RX5) (T := TX5) (N := 26) hx hb hts hinX5 tyX5 tyX5_ok nmX5 hown hK hP hD hS 0 rfl rfl 7 (by decide) (hts (Cond.fieldLink RX5 74 "LearnedShapesModel" "isFault" "Z") (List.mem_of_getElem? (i := 5) rfl)) (fun _ h9 => h9) rfl (by decide +kernel) (rfl) rfl (Nat.le_of_ble_eq_true rfl) dX5_isText_22 (fun H locs hP hD hS => ?_)
    have hP : va_P (dC, dI) vwCl ((W_Model cI a (s_Model_deepest (s_Model_deep (s_Model_valued (s_Model_isFault (s_Model_at S (0 : Int32)) (0 : Int32)) (0 : Int32)) (0 : Int32)) (0 : Int32)))) H := hP
    have hD : va_D A ((W_Model cI a (s_Model_deepest (s_Model_deep (s_Model_valued (s_Model_isFault (s_Model_at S (0 : Int32)) (0 : Int32)) (0 : Int32)) (0 : Int32)) (0 : Int32)))) := hD
    refine lv_aload_n hx hb dX5_isText_25 rfl (lv_at hl 0 rfl) ?_
    refine lv_bipush (v := (40 : Int32)) hx hb dX5_isText_26 (by decide) ?_
    refine lv_bipush (v := (40 : Int32)) hx hb dX5_isText_28 (by decide) ?_
    obtain ⟨r9, h10, hF⟩ := ob1_some hF
    have hPc : va_P (dC, dI) vwCl ((W_Model cI a (s_Model_deepest (s_Model_deep (s_Model_valued (s_Model_isFault (s_Model_at S (0 : Int32)) (0 : Int32)) (0 : Int32)) (0 : Int32)) (0 : Int32)))) H := hP
    have hDc : va_D A ((W_Model cI a (s_Model_deepest (s_Model_deep (s_Model_valued (s_Model_isFault (s_Model_at S (0 : Int32)) (0 : Int32)) (0 : Int32)) (0 : Int32)) (0 : Int32)))) := hD
    have hFc := va_free (wc := (W_Model cI a (s_Model_deepest (s_Model_deep (s_Model_valued (s_Model_isFault (s_Model_at S (0 : Int32)) (0 : Int32)) (0 : Int32)) (0 : Int32)) (0 : Int32)))) hD hS hA [0, 1, 2, 3, 4, 5, 6, 7, 8, 9, 10, 11, 12, 13] rfl
    refine va_calli (va_runV (As := [.int (40 : Int32), .int (40 : Int32)]) (rest := []) ⟨hx, hb, hml, hown, hts⟩ (c_X5_isAt l dC dI cI a H.size _ _ _ _ h10) (cwV 2 hts gX5_isText_X5_isAt rfl rfl rfl (by decide +kernel) ⟨Nat.le_of_ble_eq_true rfl, Nat.le_of_ble_eq_true rfl⟩) (jPreV hK hPc hDc hN (ci := 5) rfl rfl) rfl rfl hl.1 rfl (lv_room (Nat.le_of_ble_eq_true rfl)) dX5_isText_30 ⟨Nat.le_of_ble_eq_true rfl, Nat.le_of_ble_eq_true rfl⟩) hS (fun q _ h => hFc q h) hFc (fun r' u' t H locs ht hvm hw hB hz1 hk1 hS => ?_)
    subst hw
    obtain ⟨hP1, -, hD1⟩ := hB
    rw [ht] at hP1
    have hP : va_P (dC, dI) vwCl ((W_Model cI a (s_Model_deepest (s_Model_deep (s_Model_valued (s_Model_isFault (s_Model_at S (0 : Int32)) (0 : Int32)) (0 : Int32)) (0 : Int32)) (0 : Int32)))) H := hP1
    have hD : va_D A ((W_Model cI a (s_Model_deepest (s_Model_deep (s_Model_valued (s_Model_isFault (s_Model_at S (0 : Int32)) (0 : Int32)) (0 : Int32)) (0 : Int32)) (0 : Int32)))) := hD1.weaken (fun _ _ _ h => hFc _ h)
    refine lv_if_ne (tgt := 41) hx hb dX5_isText_33 (by decide) (fun c11 => ?_) (fun c11 => ?_)
    · have hF := F_neg c11 hF
      refine lv_aload_n hx hb dX5_isText_41 rfl (lv_at hl 0 rfl) ?_
      refine lv_bipush (v := (6 : Int32)) hx hb dX5_isText_42 (by decide) ?_
      refine lv_iconst (v := (-1 : Int32)) hx hb dX5_isText_44 (by decide) ?_
      obtain ⟨r12, u13, h14, hF⟩ := ob2_some hF
      have hPc : va_P (dC, dI) vwCl ((W_Model cI a (s_Model_deepest (s_Model_deep (s_Model_valued (s_Model_isFault (s_Model_at S (0 : Int32)) (0 : Int32)) (0 : Int32)) (0 : Int32)) (0 : Int32)))) H := hP
      have hDc : va_D A ((W_Model cI a (s_Model_deepest (s_Model_deep (s_Model_valued (s_Model_isFault (s_Model_at S (0 : Int32)) (0 : Int32)) (0 : Int32)) (0 : Int32)) (0 : Int32)))) := hD
      have hFc := va_free (wc := (W_Model cI a (s_Model_deepest (s_Model_deep (s_Model_valued (s_Model_isFault (s_Model_at S (0 : Int32)) (0 : Int32)) (0 : Int32)) (0 : Int32)) (0 : Int32)))) hD hS hA [0, 1, 2, 3, 4, 5, 6, 7, 8, 9, 10, 11, 12, 13] rfl
      refine va_calli (va_runV (As := [.int (6 : Int32), .int (-1 : Int32)]) (rest := []) ⟨hx, hb, hml, hown, hts⟩ (c_X5_opens l dC dI cI a H.size _ _ _ _ _ h14) (cwV 2 hts gX5_isText_X5_opens rfl rfl rfl (by decide +kernel) ⟨Nat.le_of_ble_eq_true rfl, Nat.le_of_ble_eq_true rfl⟩) (jPreV hK hPc hDc hN (ci := 5) rfl rfl) rfl rfl hl.1 rfl (lv_room (Nat.le_of_ble_eq_true rfl)) dX5_isText_45 ⟨Nat.le_of_ble_eq_true rfl, Nat.le_of_ble_eq_true rfl⟩) hS (fun q _ h => hFc q h) hFc (fun r' u' t H locs ht hvm hw hB hz1 hk1 hS => ?_)
      obtain ⟨e1, e2⟩ := hw
      subst e1
      subst e2
      obtain ⟨hP1, -, hD1⟩ := hB
      rw [ht] at hP1
      have hP : va_P (dC, dI) vwCl ((W_Model cI a u13)) H := hP1
      have hD : va_D A ((W_Model cI a u13)) := hD1.weaken (fun _ _ _ h => hFc _ h)
      refine lv_pop hx hb dX5_isText_48 rfl ?_
      exact K49 _ _ _ _ hF hP hD hS _ (lv_sub hl [0] rfl)
    · have hF := F_pos c11 hF
      refine lv_aload_n hx hb dX5_isText_36 rfl (lv_at hl 0 rfl) ?_
      obtain ⟨r15, u16, h17, hF⟩ := ob2_some hF
      have hPc : va_P (dC, dI) vwCl ((W_Model cI a (s_Model_deepest (s_Model_deep (s_Model_valued (s_Model_isFault (s_Model_at S (0 : Int32)) (0 : Int32)) (0 : Int32)) (0 : Int32)) (0 : Int32)))) H := hP
      have hDc : va_D A ((W_Model cI a (s_Model_deepest (s_Model_deep (s_Model_valued (s_Model_isFault (s_Model_at S (0 : Int32)) (0 : Int32)) (0 : Int32)) (0 : Int32)) (0 : Int32)))) := hD
      have hFc := va_free (wc := (W_Model cI a (s_Model_deepest (s_Model_deep (s_Model_valued (s_Model_isFault (s_Model_at S (0 : Int32)) (0 : Int32)) (0 : Int32)) (0 : Int32)) (0 : Int32)))) hD hS hA [0, 1, 2, 3, 4, 5, 6, 7, 8, 9, 10, 11, 12, 13] rfl
      refine va_calli (va_runV (As := []) (rest := []) ⟨hx, hb, hml, hown, hts⟩ (c_X5_stops l dC dI cI a H.size _ _ _ h17) (cwV 0 hts gX5_isText_X5_stops rfl rfl rfl (by decide +kernel) ⟨Nat.le_of_ble_eq_true rfl, Nat.le_of_ble_eq_true rfl⟩) (jPreV hK hPc hDc hN (ci := 5) rfl rfl) rfl rfl hl.1 rfl (lv_room (Nat.le_of_ble_eq_true rfl)) dX5_isText_37 ⟨Nat.le_of_ble_eq_true rfl, Nat.le_of_ble_eq_true rfl⟩) hS (fun q _ h => hFc q h) hFc (fun r' u' t H locs ht hvm hw hB hz1 hk1 hS => ?_)
      obtain ⟨e1, e2⟩ := hw
      subst e1
      subst e2
      obtain ⟨hP1, -, hD1⟩ := hB
      rw [ht] at hP1
      have hP : va_P (dC, dI) vwCl ((W_Model cI a u16)) H := hP1
      have hD : va_D A ((W_Model cI a u16)) := hD1.weaken (fun _ _ _ h => hFc _ h)
      have e50 := Option.some.inj hF
      obtain ⟨e60, e51⟩ := Prod.mk.inj e50
      subst e60
      subst e51
      exact W.zret (v := (b2i r15)) hx hb hr (nb2i _) (fun t ht hW => ⟨⟨(b2i r15), u16, rfl, ⟨rfl, rfl⟩, by rw [ht]; exact hP, va_K.moved hW.alike hK, hD⟩, hS.F ht⟩) hS.2.2 dX5_isText_40
  exact KE _ _ hP hD hS
set_option maxHeartbeats 4000000 in
set_option maxRecDepth 100000 in
theorem c_X5_append (l : Launch) (dC : Nat → ClassId) (dI : Nat → Nat → Nat) (cI : ClassId) (a : Nat → Nat) (sz : Nat) (S : S_Model) (v1 : Int32) (rr : Int32) (Y : S_Model) (hF : F_X5_append S v1 = some (rr, Y)) : Met l yX5_append wsX5_append ({ frames := 1, cells := 0, slots := 0, locals := 22 } : Room) (va_Pc [.ref (a 0), .int v1] (jPre (dC, dI) [(cI, .int)] sz ((W_Model cI a S)))) (va_Qi (fun (r' : Int32) (u : S_Model) => rr = r' ∧ Y = u) (fun u : S_Model => jB (dC, dI) [(cI, .int)] (va_A ((W_Model cI a S)) sz) ((W_Model cI a u))) (va_A ((W_Model cI a S)) sz)) 0 0 (va_A ((W_Model cI a S)) sz) := by
  refine Met.ofW (cc := cX5_append) (maxL := 2) (ret := (some .int)) (by decide) rfl ?_
  intro p e s m args below meth c s₁ B hml hv
  obtain ⟨rfl, hsz, hP, hK, hD0, hN⟩ := hv
  have hx := B.exec
  have hb := B.bytes
  have hr := B.returns
  have hts := atoms_spec (ws := wsX5_append) B.pre
  have hown : s.vm.findClass RX5 = some m.cls := findClass_of_methodNamed B.named
  have hlocks := B.notSynchronized
  have hinX5 : ∀ w ∈ u_ws RX5 TX5 26, w ∈ wsX5_append := by decide +kernel
  subst hsz
  have hD := hD0.self (sz := s.heap.size)
  generalize hAe : (va_A ((W_Model cI a S)) s.heap.size) = A at hD ⊢
  have hA : ∀ q : Nat, s.heap.size ≤ q → A q := fun q h => by rw [← hAe]; exact Or.inr h
  have hS : va_S A s.heap s.heap [] := va_S.rf
  have hl := lv_entry ([.ref (a 0), .int v1]) (n := 2) (Nat.le_of_ble_eq_true rfl)
  rw [lg_entry_eq]
  generalize (lg_sl ([.ref (a 0), .int v1]) ++ List.replicate (2 - (lg_sl ([.ref (a 0), .int v1])).length) Slot.unset).toArray = ls at hl ⊢
  have hl : lv_has ls 2 [(0, .ref (a 0)), (1, .int v1)] := hl
  have KE : ∀ (H : Heap) (locs : List Loc), va_P (dC, dI) vwCl ((W_Model cI a S)) H → va_D A ((W_Model cI a S)) → va_S A s.heap H locs → W p l e (headSpec wsX5_append ({ frames := 1, cells := 0, slots := 0, locals := 22 } : Room)).room s m ([.ref (a 0), .int v1] : List Value).toArray below meth c H locs 0 0 (MQ below (va_Qi (fun (r' : Int32) (u : S_Model) => rr = r' ∧ Y = u) (fun u : S_Model => jB (dC, dI) [(cI, .int)] A ((W_Model cI a u))) A) ([.ref (a 0), .int v1] : List Value).toArray s 0 0 A) (F0 m 0 ls []) := by
    intro H locs hP hD hS
    unfold F_X5_append at hF
    refine lv_aload_n hx hb dX5_append_0 rfl (lv_at hl 0 rfl) ?_
    refine lv_iconst (v := (0 : Int32)) hx hb dX5_append_1 (by decide) ?_
    refine va_put (D := (dC, dI)) (ci := 5) (v := .int (0 : Int32)) (ty := .int) (C := RX5) (T := TX5) (N := 26) hx hb hts hinX5 tyX5 tyX5_ok nmX5 hown hK hP hD hS 0 rfl rfl 5 (by decide) (hts (Cond.fieldLink RX5 49 "LearnedShapesModel" "thrown" "I") (List.mem_of_getElem? (i := 1) rfl)) (fun _ h9 => h9) rfl (by decide +kernel) (rfl) rfl (Nat.le_of_ble_eq_true rfl) dX5_append_2 (fun H locs hP hD hS => ?_)
    have hP : va_P (dC, dI) vwCl ((W_Model cI a (s_Model_thrown S (0 : Int32)))) H := hP
    have hD : va_D A ((W_Model cI a (s_Model_thrown S (0 : Int32)))) := hD
    refine lv_iload_n hx hb dX5_append_5 rfl (lv_at hl 1 rfl) ?_
    refine lv_bipush (v := (33 : Int32)) hx hb dX5_append_6 (by decide) ?_
    refine lv_bipush (v := (126 : Int32)) hx hb dX5_append_8 (by decide) ?_
    obtain ⟨r1, h2, hF⟩ := ob1_some hF
    have hPc := hP.sub (ws' := ([] : va_W)) [] rfl
    have hDc := hD.sub (ws' := ([] : va_W)) [] (by decide) rfl
    have hFc := va_free (wc := ([] : va_W)) hD hS hA [] rfl
    refine va_calli (va_runS (As := [.int v1, .int (33 : Int32), .int (126 : Int32)]) (rest := []) ⟨hx, hb, hml, hown, hts⟩ (c_X5_in l dC dI cI  H.size _ _ _ _ h2) (va_cwS 3 hts gX5_append_X5_in rfl rfl rfl (by decide +kernel) ⟨Nat.le_of_ble_eq_true rfl, Nat.le_of_ble_eq_true rfl⟩) (jPreS hK hPc hDc hN) rfl rfl hl.1 rfl (lv_room (Nat.le_of_ble_eq_true rfl)) dX5_append_10 ⟨Nat.le_of_ble_eq_true rfl, Nat.le_of_ble_eq_true rfl⟩) hS (fun q _ h => hFc q h) hFc (fun r' u' t H locs ht hvm hw hB hz1 hk1 hS => ?_)
    subst hw
    obtain ⟨hP1, -, hD1⟩ := hB
    rw [ht] at hP1
    obtain ⟨hP, hD⟩ := jJoin (wc := ([] : va_W)) (w1 := ([] : va_W)) (ws' := (W_Model cI a (s_Model_thrown S (0 : Int32)))) hP hD [] [0, 1, 2, 3, 4, 5, 6, 7, 8, 9, 10, 11, 12, 13] [0, 1, 2, 3, 4, 5, 6, 7, 8, 9, 10, 11, 12, 13] rfl rfl (by decide) (by decide) hk1 hFc hP1 hD1 (by decide) rfl
    refine lv_if_ne (tgt := 22) hx hb dX5_append_13 (by decide) (fun c3 => ?_) (fun c3 => ?_)
    · have hF := F_neg c3 hF
      refine lv_aload_n hx hb dX5_append_22 rfl (lv_at hl 0 rfl) ?_
      refine va_get (D := (dC, dI)) (ci := 5) (v := .int (g_Model_typed S)) (C := RX5) (T := TX5) (N := 26) hx hb hts hinX5 hown hK hP 0 rfl rfl 4 (by decide) (hts (Cond.fieldLink RX5 71 "LearnedShapesModel" "typed" "I") (List.mem_of_getElem? (i := 2) rfl)) (fun _ h9 => h9) rfl dX5_append_23 ?_
      refine lv_bipush (v := (60 : Int32)) hx hb dX5_append_26 (by decide) ?_
      refine lv_icmp_ne (tgt := 37) hx hb dX5_append_28 (by decide) (fun c4 => ?_) (fun c4 => ?_)
      · have hF := F_neg c4 hF
        refine lv_aload_n hx hb dX5_append_37 rfl (lv_at hl 0 rfl) ?_
        refine va_get (D := (dC, dI)) (ci := 5) (v := .ref (a 3)) (C := RX5) (T := TX5) (N := 26) hx hb hts hinX5 hown hK hP 0 rfl rfl 3 (by decide) (hts (Cond.fieldLink RX5 16 "LearnedShapesModel" "text" "[I") (List.mem_of_getElem? (i := 3) rfl)) (fun _ h9 => h9) rfl dX5_append_38 ?_
        refine lv_aload_n hx hb dX5_append_41 rfl (lv_at hl 0 rfl) ?_
        refine va_get (D := (dC, dI)) (ci := 5) (v := .int (g_Model_typed S)) (C := RX5) (T := TX5) (N := 26) hx hb hts hinX5 hown hK hP 0 rfl rfl 4 (by decide) (hts (Cond.fieldLink RX5 71 "LearnedShapesModel" "typed" "I") (List.mem_of_getElem? (i := 2) rfl)) (fun _ h9 => h9) rfl dX5_append_42 ?_
        refine lv_iload_n hx hb dX5_append_45 rfl (lv_at hl 1 rfl) ?_
        obtain ⟨g5, hF⟩ := og_some hF
        refine va_iast (f := (g_Model_text S)) hx hb hK hP hD hS 3 0 rfl rfl (inb_in g5) dX5_append_46 (fun H locs hP hD hS => ?_)
        have hP : va_P (dC, dI) vwCl ((W_Model cI a (s_Model_thrown (s_Model_text S (upd (g_Model_text S) (g_Model_typed S).toNatClampNeg v1)) (0 : Int32)))) H := hP
        have hD : va_D A ((W_Model cI a (s_Model_thrown (s_Model_text S (upd (g_Model_text S) (g_Model_typed S).toNatClampNeg v1)) (0 : Int32)))) := hD
        refine lv_aload_n hx hb dX5_append_47 rfl (lv_at hl 0 rfl) ?_
        refine lv_dup hx hb dX5_append_48 rfl ?_
        refine va_get (D := (dC, dI)) (ci := 5) (v := .int (g_Model_typed S)) (C := RX5) (T := TX5) (N := 26) hx hb hts hinX5 hown hK hP 0 rfl rfl 4 (by decide) (hts (Cond.fieldLink RX5 71 "LearnedShapesModel" "typed" "I") (List.mem_of_getElem? (i := 2) rfl)) (fun _ h9 => h9) rfl dX5_append_49 ?_
        refine lv_iconst (v := (1 : Int32)) hx hb dX5_append_52 (by decide) ?_
        refine lv_iadd hx hb dX5_append_53 ?_
        refine va_put (D := (dC, dI)) (ci := 5) (v := .int ((g_Model_typed S) + (1 : Int32))) (ty := .int) (C := RX5) (T := TX5) (N := 26) hx hb hts hinX5 tyX5 tyX5_ok nmX5 hown hK hP hD hS 0 rfl rfl 4 (by decide) (hts (Cond.fieldLink RX5 71 "LearnedShapesModel" "typed" "I") (List.mem_of_getElem? (i := 2) rfl)) (fun _ h9 => h9) rfl (by decide +kernel) (rfl) rfl (Nat.le_of_ble_eq_true rfl) dX5_append_54 (fun H locs hP hD hS => ?_)
        have hP : va_P (dC, dI) vwCl ((W_Model cI a (s_Model_thrown (s_Model_typed (s_Model_text S (upd (g_Model_text S) (g_Model_typed S).toNatClampNeg v1)) ((g_Model_typed S) + (1 : Int32))) (0 : Int32)))) H := hP
        have hD : va_D A ((W_Model cI a (s_Model_thrown (s_Model_typed (s_Model_text S (upd (g_Model_text S) (g_Model_typed S).toNatClampNeg v1)) ((g_Model_typed S) + (1 : Int32))) (0 : Int32)))) := hD
        refine lv_aload_n hx hb dX5_append_57 rfl (lv_at hl 0 rfl) ?_
        refine va_get (D := (dC, dI)) (ci := 5) (v := .int ((g_Model_typed S) + (1 : Int32))) (C := RX5) (T := TX5) (N := 26) hx hb hts hinX5 hown hK hP 0 rfl rfl 4 (by decide) (hts (Cond.fieldLink RX5 71 "LearnedShapesModel" "typed" "I") (List.mem_of_getElem? (i := 2) rfl)) (fun _ h9 => h9) rfl dX5_append_58 ?_
        have e50 := Option.some.inj hF
        obtain ⟨e60, e51⟩ := Prod.mk.inj e50
        subst e60
        subst e51
        exact W.iret (v := ((g_Model_typed S) + (1 : Int32))) hx hb hr (fun t ht hW => ⟨⟨((g_Model_typed S) + (1 : Int32)), (s_Model_thrown (s_Model_typed (s_Model_text S (upd (g_Model_text S) (g_Model_typed S).toNatClampNeg v1)) ((g_Model_typed S) + (1 : Int32))) (0 : Int32)), rfl, ⟨rfl, rfl⟩, by rw [ht]; exact hP, va_K.moved hW.alike hK, hD⟩, hS.F ht⟩) hS.2.2 dX5_append_61
      · have hF := F_pos c4 hF
        refine lv_aload_n hx hb dX5_append_31 rfl (lv_at hl 0 rfl) ?_
        refine lv_iconst (v := (2 : Int32)) hx hb dX5_append_32 (by decide) ?_
        obtain ⟨r6, u7, h8, hF⟩ := ob2_some hF
        have hPc : va_P (dC, dI) vwCl ((W_Model cI a (s_Model_thrown S (0 : Int32)))) H := hP
        have hDc : va_D A ((W_Model cI a (s_Model_thrown S (0 : Int32)))) := hD
        have hFc := va_free (wc := (W_Model cI a (s_Model_thrown S (0 : Int32)))) hD hS hA [0, 1, 2, 3, 4, 5, 6, 7, 8, 9, 10, 11, 12, 13] rfl
        refine va_calli (va_runV (As := [.int (2 : Int32)]) (rest := []) ⟨hx, hb, hml, hown, hts⟩ (c_X5_fails l dC dI cI a H.size _ _ _ _ h8) (cwV 1 hts gX5_append_X5_fails rfl rfl rfl (by decide +kernel) ⟨Nat.le_of_ble_eq_true rfl, Nat.le_of_ble_eq_true rfl⟩) (jPreV hK hPc hDc hN (ci := 5) rfl rfl) rfl rfl hl.1 rfl (lv_room (Nat.le_of_ble_eq_true rfl)) dX5_append_33 ⟨Nat.le_of_ble_eq_true rfl, Nat.le_of_ble_eq_true rfl⟩) hS (fun q _ h => hFc q h) hFc (fun r' u' t H locs ht hvm hw hB hz1 hk1 hS => ?_)
        obtain ⟨e1, e2⟩ := hw
        subst e1
        subst e2
        obtain ⟨hP1, -, hD1⟩ := hB
        rw [ht] at hP1
        have hP : va_P (dC, dI) vwCl ((W_Model cI a u7)) H := hP1
        have hD : va_D A ((W_Model cI a u7)) := hD1.weaken (fun _ _ _ h => hFc _ h)
        have e50 := Option.some.inj hF
        obtain ⟨e60, e51⟩ := Prod.mk.inj e50
        subst e60
        subst e51
        exact W.iret (v := r6) hx hb hr (fun t ht hW => ⟨⟨r6, u7, rfl, ⟨rfl, rfl⟩, by rw [ht]; exact hP, va_K.moved hW.alike hK, hD⟩, hS.F ht⟩) hS.2.2 dX5_append_36
    · have hF := F_pos c3 hF
      refine lv_aload_n hx hb dX5_append_16 rfl (lv_at hl 0 rfl) ?_
      refine lv_iconst (v := (1 : Int32)) hx hb dX5_append_17 (by decide) ?_
      obtain ⟨r9, u10, h11, hF⟩ := ob2_some hF
      have hPc : va_P (dC, dI) vwCl ((W_Model cI a (s_Model_thrown S (0 : Int32)))) H := hP
      have hDc : va_D A ((W_Model cI a (s_Model_thrown S (0 : Int32)))) := hD
      have hFc := va_free (wc := (W_Model cI a (s_Model_thrown S (0 : Int32)))) hD hS hA [0, 1, 2, 3, 4, 5, 6, 7, 8, 9, 10, 11, 12, 13] rfl
      refine va_calli (va_runV (As := [.int (1 : Int32)]) (rest := []) ⟨hx, hb, hml, hown, hts⟩ (c_X5_fails l dC dI cI a H.size _ _ _ _ h11) (cwV 1 hts gX5_append_X5_fails rfl rfl rfl (by decide +kernel) ⟨Nat.le_of_ble_eq_true rfl, Nat.le_of_ble_eq_true rfl⟩) (jPreV hK hPc hDc hN (ci := 5) rfl rfl) rfl rfl hl.1 rfl (lv_room (Nat.le_of_ble_eq_true rfl)) dX5_append_18 ⟨Nat.le_of_ble_eq_true rfl, Nat.le_of_ble_eq_true rfl⟩) hS (fun q _ h => hFc q h) hFc (fun r' u' t H locs ht hvm hw hB hz1 hk1 hS => ?_)
      obtain ⟨e1, e2⟩ := hw
      subst e1
      subst e2
      obtain ⟨hP1, -, hD1⟩ := hB
      rw [ht] at hP1
      have hP : va_P (dC, dI) vwCl ((W_Model cI a u10)) H := hP1
      have hD : va_D A ((W_Model cI a u10)) := hD1.weaken (fun _ _ _ h => hFc _ h)
      have e50 := Option.some.inj hF
      obtain ⟨e60, e51⟩ := Prod.mk.inj e50
      subst e60
      subst e51
      exact W.iret (v := r9) hx hb hr (fun t ht hW => ⟨⟨r9, u10, rfl, ⟨rfl, rfl⟩, by rw [ht]; exact hP, va_K.moved hW.alike hK, hD⟩, hS.F ht⟩) hS.2.2 dX5_append_21
  exact KE _ _ hP hD hS
set_option maxHeartbeats 4000000 in
set_option maxRecDepth 100000 in
theorem c_X5_clearBuffer (l : Launch) (dC : Nat → ClassId) (dI : Nat → Nat → Nat) (cI : ClassId) (a : Nat → Nat) (sz : Nat) (S : S_Model)  (rr : Int32) (Y : S_Model) (hF : F_X5_clearBuffer S  = some (rr, Y)) : Met l yX5_clearBuffer wsX5_clearBuffer ({ frames := 0, cells := 0, slots := 0, locals := 0 } : Room) (va_Pc [.ref (a 0)] (jPre (dC, dI) [(cI, .int)] sz ((W_Model cI a S)))) (va_Qi (fun (r' : Int32) (u : S_Model) => rr = r' ∧ Y = u) (fun u : S_Model => jB (dC, dI) [(cI, .int)] (va_A ((W_Model cI a S)) sz) ((W_Model cI a u))) (va_A ((W_Model cI a S)) sz)) 0 0 (va_A ((W_Model cI a S)) sz) := by
  refine Met.ofW (cc := cX5_clearBuffer) (maxL := 2) (ret := (some .int)) (by decide) rfl ?_
  intro p e s m args below meth c s₁ B hml hv
  obtain ⟨rfl, hsz, hP, hK, hD0, hN⟩ := hv
  have hx := B.exec
  have hb := B.bytes
  have hr := B.returns
  have hts := atoms_spec (ws := wsX5_clearBuffer) B.pre
  have hown : s.vm.findClass RX5 = some m.cls := findClass_of_methodNamed B.named
  have hlocks := B.notSynchronized
  have hinX5 : ∀ w ∈ u_ws RX5 TX5 26, w ∈ wsX5_clearBuffer := by decide +kernel
  subst hsz
  have hD := hD0.self (sz := s.heap.size)
  generalize hAe : (va_A ((W_Model cI a S)) s.heap.size) = A at hD ⊢
  have hA : ∀ q : Nat, s.heap.size ≤ q → A q := fun q h => by rw [← hAe]; exact Or.inr h
  have hS : va_S A s.heap s.heap [] := va_S.rf
  have hl := lv_entry ([.ref (a 0)]) (n := 2) (Nat.le_of_ble_eq_true rfl)
  rw [lg_entry_eq]
  generalize (lg_sl ([.ref (a 0)]) ++ List.replicate (2 - (lg_sl ([.ref (a 0)])).length) Slot.unset).toArray = ls at hl ⊢
  have hl : lv_has ls 2 [(0, .ref (a 0))] := hl
  have KE : ∀ (H : Heap) (locs : List Loc), va_P (dC, dI) vwCl ((W_Model cI a S)) H → va_D A ((W_Model cI a S)) → va_S A s.heap H locs → W p l e (headSpec wsX5_clearBuffer ({ frames := 0, cells := 0, slots := 0, locals := 0 } : Room)).room s m ([.ref (a 0)] : List Value).toArray below meth c H locs 0 0 (MQ below (va_Qi (fun (r' : Int32) (u : S_Model) => rr = r' ∧ Y = u) (fun u : S_Model => jB (dC, dI) [(cI, .int)] A ((W_Model cI a u))) A) ([.ref (a 0)] : List Value).toArray s 0 0 A) (F0 m 0 ls []) := by
    intro H locs hP hD hS
    unfold F_X5_clearBuffer at hF
    refine lv_aload_n hx hb dX5_clearBuffer_0 rfl (lv_at hl 0 rfl) ?_
    refine lv_iconst (v := (0 : Int32)) hx hb dX5_clearBuffer_1 (by decide) ?_
    refine va_put (D := (dC, dI)) (ci := 5) (v := .int (0 : Int32)) (ty := .int) (C := RX5) (T := TX5) (N := 26) hx hb hts hinX5 tyX5 tyX5_ok nmX5 hown hK hP hD hS 0 rfl rfl 5 (by decide) (hts (Cond.fieldLink RX5 49 "LearnedShapesModel" "thrown" "I") (List.mem_of_getElem? (i := 1) rfl)) (fun _ h9 => h9) rfl (by decide +kernel) (rfl) rfl (Nat.le_of_ble_eq_true rfl) dX5_clearBuffer_2 (fun H locs hP hD hS => ?_)
    have hP : va_P (dC, dI) vwCl ((W_Model cI a (s_Model_thrown S (0 : Int32)))) H := hP
    have hD : va_D A ((W_Model cI a (s_Model_thrown S (0 : Int32)))) := hD
    refine lv_aload_n hx hb dX5_clearBuffer_5 rfl (lv_at hl 0 rfl) ?_
    refine va_get (D := (dC, dI)) (ci := 5) (v := .int (g_Model_typed S)) (C := RX5) (T := TX5) (N := 26) hx hb hts hinX5 hown hK hP 0 rfl rfl 4 (by decide) (hts (Cond.fieldLink RX5 71 "LearnedShapesModel" "typed" "I") (List.mem_of_getElem? (i := 2) rfl)) (fun _ h9 => h9) rfl dX5_clearBuffer_6 ?_
    refine lv_istore_n (lv' := [(1, .int (g_Model_typed S)), (0, .ref (a 0))]) hx hb dX5_clearBuffer_9 rfl hl (by decide) rfl (fun ls hl => ?_)
    refine lv_aload_n hx hb dX5_clearBuffer_10 rfl (lv_at hl 1 rfl) ?_
    refine lv_iconst (v := (0 : Int32)) hx hb dX5_clearBuffer_11 (by decide) ?_
    refine va_put (D := (dC, dI)) (ci := 5) (v := .int (0 : Int32)) (ty := .int) (C := RX5) (T := TX5) (N := 26) hx hb hts hinX5 tyX5 tyX5_ok nmX5 hown hK hP hD hS 0 rfl rfl 4 (by decide) (hts (Cond.fieldLink RX5 71 "LearnedShapesModel" "typed" "I") (List.mem_of_getElem? (i := 2) rfl)) (fun _ h9 => h9) rfl (by decide +kernel) (rfl) rfl (Nat.le_of_ble_eq_true rfl) dX5_clearBuffer_12 (fun H locs hP hD hS => ?_)
    have hP : va_P (dC, dI) vwCl ((W_Model cI a (s_Model_thrown (s_Model_typed S (0 : Int32)) (0 : Int32)))) H := hP
    have hD : va_D A ((W_Model cI a (s_Model_thrown (s_Model_typed S (0 : Int32)) (0 : Int32)))) := hD
    refine lv_iload_n hx hb dX5_clearBuffer_15 rfl (lv_at hl 0 rfl) ?_
    have e50 := Option.some.inj hF
    obtain ⟨e60, e51⟩ := Prod.mk.inj e50
    subst e60
    subst e51
    exact W.iret (v := (g_Model_typed S)) hx hb hr (fun t ht hW => ⟨⟨(g_Model_typed S), (s_Model_thrown (s_Model_typed S (0 : Int32)) (0 : Int32)), rfl, ⟨rfl, rfl⟩, by rw [ht]; exact hP, va_K.moved hW.alike hK, hD⟩, hS.F ht⟩) hS.2.2 dX5_clearBuffer_16
  exact KE _ _ hP hD hS
set_option maxHeartbeats 4000000 in
set_option maxRecDepth 100000 in
theorem c_X5_firstError (l : Launch) (dC : Nat → ClassId) (dI : Nat → Nat → Nat) (cI : ClassId) (a : Nat → Nat) (sz : Nat) (S : S_Model)  (rr : Int32) (Y : S_Model) (hF : F_X5_firstError S  = some (rr, Y)) : Met l yX5_firstError wsX5_firstError ({ frames := 7, cells := 0, slots := 0, locals := 155 } : Room) (va_Pc [.ref (a 0)] (jPre (dC, dI) [(cI, .int)] sz ((W_Model cI a S)))) (va_Qi (fun (r' : Int32) (u : S_Model) => rr = r' ∧ Y = u) (fun u : S_Model => jB (dC, dI) [(cI, .int)] (va_A ((W_Model cI a S)) sz) ((W_Model cI a u))) (va_A ((W_Model cI a S)) sz)) 0 0 (va_A ((W_Model cI a S)) sz) := by
  refine Met.ofW (cc := cX5_firstError) (maxL := 2) (ret := (some .int)) (by decide) rfl ?_
  intro p e s m args below meth c s₁ B hml hv
  obtain ⟨rfl, hsz, hP, hK, hD0, hN⟩ := hv
  have hx := B.exec
  have hb := B.bytes
  have hr := B.returns
  have hts := atoms_spec (ws := wsX5_firstError) B.pre
  have hown : s.vm.findClass RX5 = some m.cls := findClass_of_methodNamed B.named
  have hlocks := B.notSynchronized
  have hinX5 : ∀ w ∈ u_ws RX5 TX5 26, w ∈ wsX5_firstError := by decide +kernel
  subst hsz
  have hD := hD0.self (sz := s.heap.size)
  generalize hAe : (va_A ((W_Model cI a S)) s.heap.size) = A at hD ⊢
  have hA : ∀ q : Nat, s.heap.size ≤ q → A q := fun q h => by rw [← hAe]; exact Or.inr h
  have hS : va_S A s.heap s.heap [] := va_S.rf
  have hl := lv_entry ([.ref (a 0)]) (n := 2) (Nat.le_of_ble_eq_true rfl)
  rw [lg_entry_eq]
  generalize (lg_sl ([.ref (a 0)]) ++ List.replicate (2 - (lg_sl ([.ref (a 0)])).length) Slot.unset).toArray = ls at hl ⊢
  have hl : lv_has ls 2 [(0, .ref (a 0))] := hl
  have KE : ∀ (H : Heap) (locs : List Loc), va_P (dC, dI) vwCl ((W_Model cI a S)) H → va_D A ((W_Model cI a S)) → va_S A s.heap H locs → W p l e (headSpec wsX5_firstError ({ frames := 7, cells := 0, slots := 0, locals := 155 } : Room)).room s m ([.ref (a 0)] : List Value).toArray below meth c H locs 0 0 (MQ below (va_Qi (fun (r' : Int32) (u : S_Model) => rr = r' ∧ Y = u) (fun u : S_Model => jB (dC, dI) [(cI, .int)] A ((W_Model cI a u))) A) ([.ref (a 0)] : List Value).toArray s 0 0 A) (F0 m 0 ls []) := by
    intro H locs hP hD hS
    unfold F_X5_firstError at hF
    refine lv_aload_n hx hb dX5_firstError_0 rfl (lv_at hl 0 rfl) ?_
    refine lv_iconst (v := (0 : Int32)) hx hb dX5_firstError_1 (by decide) ?_
    refine va_put (D := (dC, dI)) (ci := 5) (v := .int (0 : Int32)) (ty := .int) (C := RX5) (T := TX5) (N := 26) hx hb hts hinX5 tyX5 tyX5_ok nmX5 hown hK hP hD hS 0 rfl rfl 5 (by decide) (hts (Cond.fieldLink RX5 49 "LearnedShapesModel" "thrown" "I") (List.mem_of_getElem? (i := 1) rfl)) (fun _ h9 => h9) rfl (by decide +kernel) (rfl) rfl (Nat.le_of_ble_eq_true rfl) dX5_firstError_2 (fun H locs hP hD hS => ?_)
    have hP : va_P (dC, dI) vwCl ((W_Model cI a (s_Model_thrown S (0 : Int32)))) H := hP
    have hD : va_D A ((W_Model cI a (s_Model_thrown S (0 : Int32)))) := hD
    refine lv_aload_n hx hb dX5_firstError_5 rfl (lv_at hl 0 rfl) ?_
    obtain ⟨r1, u2, h3, hF⟩ := ob2_some hF
    have hPc : va_P (dC, dI) vwCl ((W_Model cI a (s_Model_thrown S (0 : Int32)))) H := hP
    have hDc : va_D A ((W_Model cI a (s_Model_thrown S (0 : Int32)))) := hD
    have hFc := va_free (wc := (W_Model cI a (s_Model_thrown S (0 : Int32)))) hD hS hA [0, 1, 2, 3, 4, 5, 6, 7, 8, 9, 10, 11, 12, 13] rfl
    refine va_calli (va_runV (As := []) (rest := []) ⟨hx, hb, hml, hown, hts⟩ (c_X5_isText l dC dI cI a H.size _ _ _ h3) (cwV 0 hts gX5_firstError_X5_isText rfl rfl rfl (by decide +kernel) ⟨Nat.le_of_ble_eq_true rfl, Nat.le_of_ble_eq_true rfl⟩) (jPreV hK hPc hDc hN (ci := 5) rfl rfl) rfl rfl hl.1 rfl (lv_room (Nat.le_of_ble_eq_true rfl)) dX5_firstError_6 ⟨Nat.le_of_ble_eq_true rfl, Nat.le_of_ble_eq_true rfl⟩) hS (fun q _ h => hFc q h) hFc (fun r' u' t H locs ht hvm hw hB hz1 hk1 hS => ?_)
    obtain ⟨e1, e2⟩ := hw
    subst e1
    subst e2
    obtain ⟨hP1, -, hD1⟩ := hB
    rw [ht] at hP1
    have hP : va_P (dC, dI) vwCl ((W_Model cI a u2)) H := hP1
    have hD : va_D A ((W_Model cI a u2)) := hD1.weaken (fun _ _ _ h => hFc _ h)
    refine lv_istore_n (lv' := [(1, .int (b2i r1)), (0, .ref (a 0))]) hx hb dX5_firstError_9 rfl hl (by decide) rfl (fun ls hl => ?_)
    refine lv_iload_n hx hb dX5_firstError_10 rfl (lv_at hl 0 rfl) ?_
    refine lv_if_ne (tgt := 28) hx hb dX5_firstError_11 (by decide) (fun c4 => ?_) (fun c4 => ?_)
    · have hF := F_neg c4 hF
      refine lv_aload_n hx hb dX5_firstError_28 rfl (lv_at hl 1 rfl) ?_
      refine va_get (D := (dC, dI)) (ci := 5) (v := .int (g_Model_typed u2)) (C := RX5) (T := TX5) (N := 26) hx hb hts hinX5 hown hK hP 0 rfl rfl 4 (by decide) (hts (Cond.fieldLink RX5 71 "LearnedShapesModel" "typed" "I") (List.mem_of_getElem? (i := 4) rfl)) (fun _ h9 => h9) rfl dX5_firstError_29 ?_
      have e50 := Option.some.inj hF
      obtain ⟨e60, e51⟩ := Prod.mk.inj e50
      subst e60
      subst e51
      exact W.iret (v := (g_Model_typed u2)) hx hb hr (fun t ht hW => ⟨⟨(g_Model_typed u2), u2, rfl, ⟨rfl, rfl⟩, by rw [ht]; exact hP, va_K.moved hW.alike hK, hD⟩, hS.F ht⟩) hS.2.2 dX5_firstError_32
    · have hF := F_pos c4 hF
      refine lv_aload_n hx hb dX5_firstError_14 rfl (lv_at hl 1 rfl) ?_
      refine va_get (D := (dC, dI)) (ci := 5) (v := .int (g_Model_isFault u2)) (C := RX5) (T := TX5) (N := 26) hx hb hts hinX5 hown hK hP 0 rfl rfl 7 (by decide) (hts (Cond.fieldLink RX5 74 "LearnedShapesModel" "isFault" "Z") (List.mem_of_getElem? (i := 2) rfl)) (fun _ h9 => h9) rfl dX5_firstError_15 ?_
      refine lv_if_eq (tgt := 28) hx hb dX5_firstError_18 (by decide) (fun c5 => ?_) (fun c5 => ?_)
      · have hF := F_pos c5 hF
        refine lv_aload_n hx hb dX5_firstError_28 rfl (lv_at hl 1 rfl) ?_
        refine va_get (D := (dC, dI)) (ci := 5) (v := .int (g_Model_typed u2)) (C := RX5) (T := TX5) (N := 26) hx hb hts hinX5 hown hK hP 0 rfl rfl 4 (by decide) (hts (Cond.fieldLink RX5 71 "LearnedShapesModel" "typed" "I") (List.mem_of_getElem? (i := 4) rfl)) (fun _ h9 => h9) rfl dX5_firstError_29 ?_
        have e50 := Option.some.inj hF
        obtain ⟨e60, e51⟩ := Prod.mk.inj e50
        subst e60
        subst e51
        exact W.iret (v := (g_Model_typed u2)) hx hb hr (fun t ht hW => ⟨⟨(g_Model_typed u2), u2, rfl, ⟨rfl, rfl⟩, by rw [ht]; exact hP, va_K.moved hW.alike hK, hD⟩, hS.F ht⟩) hS.2.2 dX5_firstError_32
      · have hF := F_neg c5 hF
        refine lv_aload_n hx hb dX5_firstError_21 rfl (lv_at hl 1 rfl) ?_
        refine va_get (D := (dC, dI)) (ci := 5) (v := .int (g_Model_at u2)) (C := RX5) (T := TX5) (N := 26) hx hb hts hinX5 hown hK hP 0 rfl rfl 6 (by decide) (hts (Cond.fieldLink RX5 68 "LearnedShapesModel" "at" "I") (List.mem_of_getElem? (i := 3) rfl)) (fun _ h9 => h9) rfl dX5_firstError_22 ?_
        refine lv_goto (tgt := 32) hx hb dX5_firstError_25 (by decide) ?_
        have e50 := Option.some.inj hF
        obtain ⟨e60, e51⟩ := Prod.mk.inj e50
        subst e60
        subst e51
        exact W.iret (v := (g_Model_at u2)) hx hb hr (fun t ht hW => ⟨⟨(g_Model_at u2), u2, rfl, ⟨rfl, rfl⟩, by rw [ht]; exact hP, va_K.moved hW.alike hK, hD⟩, hS.F ht⟩) hS.2.2 dX5_firstError_32
  exact KE _ _ hP hD hS
set_option maxHeartbeats 4000000 in
set_option maxRecDepth 100000 in
theorem c_X5_joined (l : Launch) (dC : Nat → ClassId) (dI : Nat → Nat → Nat) (cI : ClassId) (sz : Nat)  (v1 : Int32) (v2 : Int32) (rr : Int32) (hF : F_X5_joined  v1 v2 = some rr) : Met l yX5_joined wsX5_joined ({ frames := 1, cells := 0, slots := 0, locals := 22 } : Room) (va_Pc [.int v1, .int v2] (jPre (dC, dI) [(cI, .int)] sz (([] : va_W)))) (va_Qi (fun (r' : Int32) (_ : Unit) => rr = r') (fun _ : Unit => jB (dC, dI) [(cI, .int)] (va_A (([] : va_W)) sz) (([] : va_W))) (va_A (([] : va_W)) sz)) 0 0 (va_A (([] : va_W)) sz) := by
  refine Met.ofW (cc := cX5_joined) (maxL := 2) (ret := (some .int)) (by decide) rfl ?_
  intro p e s m args below meth c s₁ B hml hv
  obtain ⟨rfl, hsz, hP, hK, hD0, hN⟩ := hv
  have hx := B.exec
  have hb := B.bytes
  have hr := B.returns
  have hts := atoms_spec (ws := wsX5_joined) B.pre
  have hown : s.vm.findClass RX5 = some m.cls := findClass_of_methodNamed B.named
  have hlocks := B.notSynchronized
  subst hsz
  have hD := hD0.self (sz := s.heap.size)
  generalize hAe : (va_A (([] : va_W)) s.heap.size) = A at hD ⊢
  have hA : ∀ q : Nat, s.heap.size ≤ q → A q := fun q h => by rw [← hAe]; exact Or.inr h
  have hS : va_S A s.heap s.heap [] := va_S.rf
  have hl := lv_entry ([.int v1, .int v2]) (n := 2) (Nat.le_of_ble_eq_true rfl)
  rw [lg_entry_eq]
  generalize (lg_sl ([.int v1, .int v2]) ++ List.replicate (2 - (lg_sl ([.int v1, .int v2])).length) Slot.unset).toArray = ls at hl ⊢
  have hl : lv_has ls 2 [(0, .int v1), (1, .int v2)] := hl
  have KE : ∀ (H : Heap) (locs : List Loc), va_P (dC, dI) vwCl (([] : va_W)) H → va_D A (([] : va_W)) → va_S A s.heap H locs → W p l e (headSpec wsX5_joined ({ frames := 1, cells := 0, slots := 0, locals := 22 } : Room)).room s m ([.int v1, .int v2] : List Value).toArray below meth c H locs 0 0 (MQ below (va_Qi (fun (r' : Int32) (_ : Unit) => rr = r') (fun _ : Unit => jB (dC, dI) [(cI, .int)] A (([] : va_W))) A) ([.int v1, .int v2] : List Value).toArray s 0 0 A) (F0 m 0 ls []) := by
    intro H locs hP hD hS
    unfold F_X5_joined at hF
    refine lv_iload_n hx hb dX5_joined_0 rfl (lv_at hl 0 rfl) ?_
    refine lv_iload_n hx hb dX5_joined_1 rfl (lv_at hl 1 rfl) ?_
    refine lv_icmp_eq (tgt := 9) hx hb dX5_joined_2 (by decide) (fun c1 => ?_) (fun c1 => ?_)
    · have hF := F_pos c1 hF
      refine lv_iload_n hx hb dX5_joined_9 rfl (lv_at hl 0 rfl) ?_
      have e50 := Option.some.inj hF
      subst e50
      exact W.iret (v := v1) hx hb hr (fun t ht hW => ⟨⟨v1, (), rfl, rfl, by rw [ht]; exact hP, va_K.moved hW.alike hK, hD⟩, hS.F ht⟩) hS.2.2 dX5_joined_10
    · have hF := F_neg c1 hF
      refine lv_iload_n hx hb dX5_joined_5 rfl (lv_at hl 1 rfl) ?_
      refine lv_if_ne (tgt := 11) hx hb dX5_joined_6 (by decide) (fun c2 => ?_) (fun c2 => ?_)
      · have hF := F_neg c2 hF
        refine lv_iload_n hx hb dX5_joined_11 rfl (lv_at hl 0 rfl) ?_
        refine lv_if_ne (tgt := 17) hx hb dX5_joined_12 (by decide) (fun c3 => ?_) (fun c3 => ?_)
        · have hF := F_neg c3 hF
          refine lv_iload_n hx hb dX5_joined_17 rfl (lv_at hl 0 rfl) ?_
          refine lv_iconst (v := (1 : Int32)) hx hb dX5_joined_18 (by decide) ?_
          refine lv_iconst (v := (4 : Int32)) hx hb dX5_joined_19 (by decide) ?_
          obtain ⟨r4, h5, hF⟩ := ob1_some hF
          have hPc : va_P (dC, dI) vwCl (([] : va_W)) H := hP
          have hDc : va_D A (([] : va_W)) := hD
          have hFc := va_free (wc := ([] : va_W)) hD hS hA [] rfl
          refine va_calli (va_runS (As := [.int v1, .int (1 : Int32), .int (4 : Int32)]) (rest := []) ⟨hx, hb, hml, hown, hts⟩ (c_X5_in l dC dI cI  H.size _ _ _ _ h5) (va_cwS 3 hts gX5_joined_X5_in rfl rfl rfl (by decide +kernel) ⟨Nat.le_of_ble_eq_true rfl, Nat.le_of_ble_eq_true rfl⟩) (jPreS hK hPc hDc hN) rfl rfl hl.1 rfl (lv_room (Nat.le_of_ble_eq_true rfl)) dX5_joined_20 ⟨Nat.le_of_ble_eq_true rfl, Nat.le_of_ble_eq_true rfl⟩) hS (fun q _ h => hFc q h) hFc (fun r' u' t H locs ht hvm hw hB hz1 hk1 hS => ?_)
          subst hw
          obtain ⟨hP1, -, hD1⟩ := hB
          rw [ht] at hP1
          have hP : va_P (dC, dI) vwCl (([] : va_W)) H := hP1
          have hD : va_D A (([] : va_W)) := hD1.weaken (fun _ _ _ h => hFc _ h)
          refine lv_if_eq (tgt := 35) hx hb dX5_joined_23 (by decide) (fun c6 => ?_) (fun c6 => ?_)
          · have hF := F_pos c6 hF
            refine lv_bipush (v := (7 : Int32)) hx hb dX5_joined_35 (by decide) ?_
            have e50 := Option.some.inj hF
            subst e50
            exact W.iret (v := (7 : Int32)) hx hb hr (fun t ht hW => ⟨⟨(7 : Int32), (), rfl, rfl, by rw [ht]; exact hP, va_K.moved hW.alike hK, hD⟩, hS.F ht⟩) hS.2.2 dX5_joined_37
          · have hF := F_neg c6 hF
            refine lv_iload_n hx hb dX5_joined_26 rfl (lv_at hl 1 rfl) ?_
            refine lv_iconst (v := (1 : Int32)) hx hb dX5_joined_27 (by decide) ?_
            refine lv_iconst (v := (4 : Int32)) hx hb dX5_joined_28 (by decide) ?_
            obtain ⟨r7, h8, hF⟩ := ob1_some hF
            have hPc : va_P (dC, dI) vwCl (([] : va_W)) H := hP
            have hDc : va_D A (([] : va_W)) := hD
            have hFc := va_free (wc := ([] : va_W)) hD hS hA [] rfl
            refine va_calli (va_runS (As := [.int v2, .int (1 : Int32), .int (4 : Int32)]) (rest := []) ⟨hx, hb, hml, hown, hts⟩ (c_X5_in l dC dI cI  H.size _ _ _ _ h8) (va_cwS 3 hts gX5_joined_X5_in rfl rfl rfl (by decide +kernel) ⟨Nat.le_of_ble_eq_true rfl, Nat.le_of_ble_eq_true rfl⟩) (jPreS hK hPc hDc hN) rfl rfl hl.1 rfl (lv_room (Nat.le_of_ble_eq_true rfl)) dX5_joined_29 ⟨Nat.le_of_ble_eq_true rfl, Nat.le_of_ble_eq_true rfl⟩) hS (fun q _ h => hFc q h) hFc (fun r' u' t H locs ht hvm hw hB hz1 hk1 hS => ?_)
            subst hw
            obtain ⟨hP1, -, hD1⟩ := hB
            rw [ht] at hP1
            have hP : va_P (dC, dI) vwCl (([] : va_W)) H := hP1
            have hD : va_D A (([] : va_W)) := hD1.weaken (fun _ _ _ h => hFc _ h)
            refine lv_if_ne (tgt := 38) hx hb dX5_joined_32 (by decide) (fun c9 => ?_) (fun c9 => ?_)
            · have hF := F_neg c9 hF
              refine lv_iload_n hx hb dX5_joined_38 rfl (lv_at hl 0 rfl) ?_
              refine lv_iconst (v := (2 : Int32)) hx hb dX5_joined_39 (by decide) ?_
              refine lv_iconst (v := (3 : Int32)) hx hb dX5_joined_40 (by decide) ?_
              obtain ⟨r10, h11, hF⟩ := ob1_some hF
              have hPc : va_P (dC, dI) vwCl (([] : va_W)) H := hP
              have hDc : va_D A (([] : va_W)) := hD
              have hFc := va_free (wc := ([] : va_W)) hD hS hA [] rfl
              refine va_calli (va_runS (As := [.int v1, .int (2 : Int32), .int (3 : Int32)]) (rest := []) ⟨hx, hb, hml, hown, hts⟩ (c_X5_in l dC dI cI  H.size _ _ _ _ h11) (va_cwS 3 hts gX5_joined_X5_in rfl rfl rfl (by decide +kernel) ⟨Nat.le_of_ble_eq_true rfl, Nat.le_of_ble_eq_true rfl⟩) (jPreS hK hPc hDc hN) rfl rfl hl.1 rfl (lv_room (Nat.le_of_ble_eq_true rfl)) dX5_joined_41 ⟨Nat.le_of_ble_eq_true rfl, Nat.le_of_ble_eq_true rfl⟩) hS (fun q _ h => hFc q h) hFc (fun r' u' t H locs ht hvm hw hB hz1 hk1 hS => ?_)
              subst hw
              obtain ⟨hP1, -, hD1⟩ := hB
              rw [ht] at hP1
              have hP : va_P (dC, dI) vwCl (([] : va_W)) H := hP1
              have hD : va_D A (([] : va_W)) := hD1.weaken (fun _ _ _ h => hFc _ h)
              refine lv_if_eq (tgt := 60) hx hb dX5_joined_44 (by decide) (fun c12 => ?_) (fun c12 => ?_)
              · have hF := F_pos c12 hF
                refine lv_iconst (v := (4 : Int32)) hx hb dX5_joined_60 (by decide) ?_
                have e50 := Option.some.inj hF
                subst e50
                exact W.iret (v := (4 : Int32)) hx hb hr (fun t ht hW => ⟨⟨(4 : Int32), (), rfl, rfl, by rw [ht]; exact hP, va_K.moved hW.alike hK, hD⟩, hS.F ht⟩) hS.2.2 dX5_joined_61
              · have hF := F_neg c12 hF
                refine lv_iload_n hx hb dX5_joined_47 rfl (lv_at hl 1 rfl) ?_
                refine lv_iconst (v := (2 : Int32)) hx hb dX5_joined_48 (by decide) ?_
                refine lv_iconst (v := (3 : Int32)) hx hb dX5_joined_49 (by decide) ?_
                obtain ⟨r13, h14, hF⟩ := ob1_some hF
                have hPc : va_P (dC, dI) vwCl (([] : va_W)) H := hP
                have hDc : va_D A (([] : va_W)) := hD
                have hFc := va_free (wc := ([] : va_W)) hD hS hA [] rfl
                refine va_calli (va_runS (As := [.int v2, .int (2 : Int32), .int (3 : Int32)]) (rest := []) ⟨hx, hb, hml, hown, hts⟩ (c_X5_in l dC dI cI  H.size _ _ _ _ h14) (va_cwS 3 hts gX5_joined_X5_in rfl rfl rfl (by decide +kernel) ⟨Nat.le_of_ble_eq_true rfl, Nat.le_of_ble_eq_true rfl⟩) (jPreS hK hPc hDc hN) rfl rfl hl.1 rfl (lv_room (Nat.le_of_ble_eq_true rfl)) dX5_joined_50 ⟨Nat.le_of_ble_eq_true rfl, Nat.le_of_ble_eq_true rfl⟩) hS (fun q _ h => hFc q h) hFc (fun r' u' t H locs ht hvm hw hB hz1 hk1 hS => ?_)
                subst hw
                obtain ⟨hP1, -, hD1⟩ := hB
                rw [ht] at hP1
                have hP : va_P (dC, dI) vwCl (([] : va_W)) H := hP1
                have hD : va_D A (([] : va_W)) := hD1.weaken (fun _ _ _ h => hFc _ h)
                refine lv_if_eq (tgt := 60) hx hb dX5_joined_53 (by decide) (fun c15 => ?_) (fun c15 => ?_)
                · have hF := F_pos c15 hF
                  refine lv_iconst (v := (4 : Int32)) hx hb dX5_joined_60 (by decide) ?_
                  have e50 := Option.some.inj hF
                  subst e50
                  exact W.iret (v := (4 : Int32)) hx hb hr (fun t ht hW => ⟨⟨(4 : Int32), (), rfl, rfl, by rw [ht]; exact hP, va_K.moved hW.alike hK, hD⟩, hS.F ht⟩) hS.2.2 dX5_joined_61
                · have hF := F_neg c15 hF
                  refine lv_iconst (v := (3 : Int32)) hx hb dX5_joined_56 (by decide) ?_
                  refine lv_goto (tgt := 61) hx hb dX5_joined_57 (by decide) ?_
                  have e50 := Option.some.inj hF
                  subst e50
                  exact W.iret (v := (3 : Int32)) hx hb hr (fun t ht hW => ⟨⟨(3 : Int32), (), rfl, rfl, by rw [ht]; exact hP, va_K.moved hW.alike hK, hD⟩, hS.F ht⟩) hS.2.2 dX5_joined_61
            · have hF := F_pos c9 hF
              refine lv_bipush (v := (7 : Int32)) hx hb dX5_joined_35 (by decide) ?_
              have e50 := Option.some.inj hF
              subst e50
              exact W.iret (v := (7 : Int32)) hx hb hr (fun t ht hW => ⟨⟨(7 : Int32), (), rfl, rfl, by rw [ht]; exact hP, va_K.moved hW.alike hK, hD⟩, hS.F ht⟩) hS.2.2 dX5_joined_37
        · have hF := F_pos c3 hF
          refine lv_iload_n hx hb dX5_joined_15 rfl (lv_at hl 1 rfl) ?_
          have e50 := Option.some.inj hF
          subst e50
          exact W.iret (v := v2) hx hb hr (fun t ht hW => ⟨⟨v2, (), rfl, rfl, by rw [ht]; exact hP, va_K.moved hW.alike hK, hD⟩, hS.F ht⟩) hS.2.2 dX5_joined_16
      · have hF := F_pos c2 hF
        refine lv_iload_n hx hb dX5_joined_9 rfl (lv_at hl 0 rfl) ?_
        have e50 := Option.some.inj hF
        subst e50
        exact W.iret (v := v1) hx hb hr (fun t ht hW => ⟨⟨v1, (), rfl, rfl, by rw [ht]; exact hP, va_K.moved hW.alike hK, hD⟩, hS.F ht⟩) hS.2.2 dX5_joined_10
  exact KE _ _ hP hD hS
set_option maxHeartbeats 4000000 in
set_option maxRecDepth 100000 in
theorem c_X5_lays (l : Launch) (dC : Nat → ClassId) (dI : Nat → Nat → Nat) (cI : ClassId) (a : Nat → Nat) (sz : Nat) (S : S_Model) (v1 : Int32) (Y : S_Model) (hF : F_X5_lays S v1 = some Y) : Met l yX5_lays wsX5_lays ({ frames := 0, cells := 0, slots := 0, locals := 0 } : Room) (va_Pc [.ref (a 0), .int v1] (jPre (dC, dI) [(cI, .int)] sz ((W_Model cI a S)))) (va_Qv (fun u : S_Model => Y = u) (fun u : S_Model => jB (dC, dI) [(cI, .int)] (va_A ((W_Model cI a S)) sz) ((W_Model cI a u))) (va_A ((W_Model cI a S)) sz)) 0 0 (va_A ((W_Model cI a S)) sz) := by
  refine Met.ofW (cc := cX5_lays) (maxL := 3) (ret := none) (by decide) rfl ?_
  intro p e s m args below meth c s₁ B hml hv
  obtain ⟨rfl, hsz, hP, hK, hD0, hN⟩ := hv
  have hx := B.exec
  have hb := B.bytes
  have hr := B.returns
  have hts := atoms_spec (ws := wsX5_lays) B.pre
  have hown : s.vm.findClass RX5 = some m.cls := findClass_of_methodNamed B.named
  have hlocks := B.notSynchronized
  have hinX5 : ∀ w ∈ u_ws RX5 TX5 26, w ∈ wsX5_lays := by decide +kernel
  subst hsz
  have hD := hD0.self (sz := s.heap.size)
  generalize hAe : (va_A ((W_Model cI a S)) s.heap.size) = A at hD ⊢
  have hA : ∀ q : Nat, s.heap.size ≤ q → A q := fun q h => by rw [← hAe]; exact Or.inr h
  have hS : va_S A s.heap s.heap [] := va_S.rf
  have hl := lv_entry ([.ref (a 0), .int v1]) (n := 3) (Nat.le_of_ble_eq_true rfl)
  rw [lg_entry_eq]
  generalize (lg_sl ([.ref (a 0), .int v1]) ++ List.replicate (3 - (lg_sl ([.ref (a 0), .int v1])).length) Slot.unset).toArray = ls at hl ⊢
  have hl : lv_has ls 3 [(0, .ref (a 0)), (1, .int v1)] := hl
  have K2 : ∀ (n2 : Nat) (S : S_Model) (x2 : Int32) (H : Heap) (locs : List Loc), F_X5_lays_2 v1 n2 S x2 = some Y → va_P (dC, dI) vwCl ((W_Model cI a S)) H → va_D A ((W_Model cI a S)) → va_S A s.heap H locs → ∀ ls : Array Slot, lv_has ls 3 [(0, .ref (a 0)), (1, .int v1), (2, .int x2)] → W p l e (headSpec wsX5_lays ({ frames := 0, cells := 0, slots := 0, locals := 0 } : Room)).room s m ([.ref (a 0), .int v1] : List Value).toArray below meth c H locs 0 0 (MQ below (va_Qv (fun u : S_Model => Y = u) (fun u : S_Model => jB (dC, dI) [(cI, .int)] A ((W_Model cI a u))) A) ([.ref (a 0), .int v1] : List Value).toArray s 0 0 A) (F0 m 2 ls []) := by
    intro n2
    induction n2 with
    | zero => intro S x2 H locs hF; exact nomatch hF
    | succ n2 ih2 =>
      intro S x2 H locs hF hP hD hS ls hl
      rw [F_X5_lays_2_s] at hF
      refine lv_iload_n hx hb dX5_lays_2 rfl (lv_at hl 2 rfl) ?_
      refine lv_sipush (v := (210 : Int32)) hx hb dX5_lays_3 (by decide) ?_
      refine lv_icmp_ge (tgt := 35) hx hb dX5_lays_6 (by decide) (fun c1 => ?_) (fun c1 => ?_)
      · have hF := F_pos c1 hF
        refine lv_aload_n hx hb dX5_lays_35 rfl (lv_at hl 0 rfl) ?_
        refine lv_aload_n hx hb dX5_lays_36 rfl (lv_at hl 0 rfl) ?_
        refine va_get (D := (dC, dI)) (ci := 5) (v := .ref (a 1)) (C := RX5) (T := TX5) (N := 26) hx hb hts hinX5 hown hK hP 0 rfl rfl 0 (by decide) (hts (Cond.fieldLink RX5 7 "LearnedShapesModel" "now" "[I") (List.mem_of_getElem? (i := 2) rfl)) (fun _ h9 => h9) rfl dX5_lays_37 ?_
        refine lv_iconst (v := (3 : Int32)) hx hb dX5_lays_40 (by decide) ?_
        refine lv_iload_n hx hb dX5_lays_41 rfl (lv_at hl 1 rfl) ?_
        refine lv_iadd hx hb dX5_lays_42 ?_
        obtain ⟨g2, hF⟩ := og_some hF
        refine va_iald (f := (g_Model_now S)) hx hb hK hP 1 0 rfl rfl (inb_in g2) dX5_lays_43 ?_
        refine va_put (D := (dC, dI)) (ci := 5) (v := .int ((g_Model_now S) ((3 : Int32) + v1).toNatClampNeg)) (ty := .int) (C := RX5) (T := TX5) (N := 26) hx hb hts hinX5 tyX5 tyX5_ok nmX5 hown hK hP hD hS 0 rfl rfl 19 (by decide) (hts (Cond.fieldLink RX5 123 "LearnedShapesModel" "top" "I") (List.mem_of_getElem? (i := 3) rfl)) (fun _ h9 => h9) rfl (by decide +kernel) (rfl) rfl (Nat.le_of_ble_eq_true rfl) dX5_lays_44 (fun H locs hP hD hS => ?_)
        have hP : va_P (dC, dI) vwCl ((W_Model cI a (s_Model_top S ((g_Model_now S) ((3 : Int32) + v1).toNatClampNeg)))) H := hP
        have hD : va_D A ((W_Model cI a (s_Model_top S ((g_Model_now S) ((3 : Int32) + v1).toNatClampNeg)))) := hD
        refine lv_aload_n hx hb dX5_lays_47 rfl (lv_at hl 0 rfl) ?_
        refine lv_iconst (v := (0 : Int32)) hx hb dX5_lays_48 (by decide) ?_
        refine va_put (D := (dC, dI)) (ci := 5) (v := .int (0 : Int32)) (ty := .boolean) (C := RX5) (T := TX5) (N := 26) hx hb hts hinX5 tyX5 tyX5_ok nmX5 hown hK hP hD hS 0 rfl rfl 22 (by decide) (hts (Cond.fieldLink RX5 126 "LearnedShapesModel" "becameAny" "Z") (List.mem_of_getElem? (i := 4) rfl)) (fun _ h9 => h9) rfl (by decide +kernel) (rfl) rfl (Nat.le_of_ble_eq_true rfl) dX5_lays_49 (fun H locs hP hD hS => ?_)
        have hP : va_P (dC, dI) vwCl ((W_Model cI a (s_Model_becameAny (s_Model_top S ((g_Model_now S) ((3 : Int32) + v1).toNatClampNeg)) (0 : Int32)))) H := hP
        have hD : va_D A ((W_Model cI a (s_Model_becameAny (s_Model_top S ((g_Model_now S) ((3 : Int32) + v1).toNatClampNeg)) (0 : Int32)))) := hD
        have e50 := Option.some.inj hF
        subst e50
        exact W.vret hx hb hr (fun t ht hW => ⟨⟨(s_Model_becameAny (s_Model_top S ((g_Model_now S) ((3 : Int32) + v1).toNatClampNeg)) (0 : Int32)), rfl, rfl, by rw [ht]; exact hP, va_K.moved hW.alike hK, hD⟩, hS.F ht⟩) hS.2.2 dX5_lays_52
      · have hF := F_neg c1 hF
        refine lv_aload_n hx hb dX5_lays_9 rfl (lv_at hl 0 rfl) ?_
        refine va_get (D := (dC, dI)) (ci := 5) (v := .ref (a 11)) (C := RX5) (T := TX5) (N := 26) hx hb hts hinX5 hown hK hP 0 rfl rfl 18 (by decide) (hts (Cond.fieldLink RX5 40 "LearnedShapesModel" "tree" "[I") (List.mem_of_getElem? (i := 1) rfl)) (fun _ h9 => h9) rfl dX5_lays_10 ?_
        refine lv_iload_n hx hb dX5_lays_13 rfl (lv_at hl 2 rfl) ?_
        refine lv_aload_n hx hb dX5_lays_14 rfl (lv_at hl 0 rfl) ?_
        refine va_get (D := (dC, dI)) (ci := 5) (v := .ref (a 1)) (C := RX5) (T := TX5) (N := 26) hx hb hts hinX5 hown hK hP 0 rfl rfl 0 (by decide) (hts (Cond.fieldLink RX5 7 "LearnedShapesModel" "now" "[I") (List.mem_of_getElem? (i := 2) rfl)) (fun _ h9 => h9) rfl dX5_lays_15 ?_
        refine lv_iconst (v := (5 : Int32)) hx hb dX5_lays_18 (by decide) ?_
        refine lv_sipush (v := (210 : Int32)) hx hb dX5_lays_19 (by decide) ?_
        refine lv_iload_n hx hb dX5_lays_22 rfl (lv_at hl 1 rfl) ?_
        refine lv_imul hx hb dX5_lays_23 ?_
        refine lv_iadd hx hb dX5_lays_24 ?_
        refine lv_iload_n hx hb dX5_lays_25 rfl (lv_at hl 2 rfl) ?_
        refine lv_iadd hx hb dX5_lays_26 ?_
        obtain ⟨g3, hF⟩ := og_some hF
        refine va_iald (f := (g_Model_now S)) hx hb hK hP 1 0 rfl rfl (inb_in g3) dX5_lays_27 ?_
        obtain ⟨g4, hF⟩ := og_some hF
        refine va_iast (f := (g_Model_tree S)) hx hb hK hP hD hS 11 0 rfl rfl (inb_in g4) dX5_lays_28 (fun H locs hP hD hS => ?_)
        have hP : va_P (dC, dI) vwCl ((W_Model cI a (s_Model_tree S (upd (g_Model_tree S) x2.toNatClampNeg ((g_Model_now S) (((5 : Int32) + ((210 : Int32) * v1)) + x2).toNatClampNeg))))) H := hP
        have hD : va_D A ((W_Model cI a (s_Model_tree S (upd (g_Model_tree S) x2.toNatClampNeg ((g_Model_now S) (((5 : Int32) + ((210 : Int32) * v1)) + x2).toNatClampNeg))))) := hD
        refine lv_iinc (v := (x2 + (1 : Int32))) (lv' := [(2, .int (x2 + (1 : Int32))), (0, .ref (a 0)), (1, .int v1)]) hx hb dX5_lays_29 hl (k := 2) rfl rfl (by decide) rfl (fun ls hl => ?_)
        refine lv_goto (tgt := 2) hx hb dX5_lays_32 (by decide) ?_
        exact ih2 _ _ _ _ hF hP hD hS _ (lv_sub hl [1, 2, 0] rfl)
  have KE : ∀ (H : Heap) (locs : List Loc), va_P (dC, dI) vwCl ((W_Model cI a S)) H → va_D A ((W_Model cI a S)) → va_S A s.heap H locs → W p l e (headSpec wsX5_lays ({ frames := 0, cells := 0, slots := 0, locals := 0 } : Room)).room s m ([.ref (a 0), .int v1] : List Value).toArray below meth c H locs 0 0 (MQ below (va_Qv (fun u : S_Model => Y = u) (fun u : S_Model => jB (dC, dI) [(cI, .int)] A ((W_Model cI a u))) A) ([.ref (a 0), .int v1] : List Value).toArray s 0 0 A) (F0 m 0 ls []) := by
    intro H locs hP hD hS
    unfold F_X5_lays at hF
    refine lv_iconst (v := (0 : Int32)) hx hb dX5_lays_0 (by decide) ?_
    refine lv_istore_n (lv' := [(2, .int (0 : Int32)), (0, .ref (a 0)), (1, .int v1)]) hx hb dX5_lays_1 rfl hl (by decide) rfl (fun ls hl => ?_)
    exact K2 _ _ _ _ _ hF hP hD hS _ (lv_sub hl [1, 2, 0] rfl)
  exact KE _ _ hP hD hS
set_option maxHeartbeats 4000000 in
set_option maxRecDepth 100000 in
theorem c_X5_childAt (l : Launch) (dC : Nat → ClassId) (dI : Nat → Nat → Nat) (cI : ClassId) (a : Nat → Nat) (sz : Nat) (S : S_Model) (v1 : Int32) (v2 : Int32) (rr : Int32) (hF : F_X5_childAt S v1 v2 = some rr) : Met l yX5_childAt wsX5_childAt ({ frames := 0, cells := 0, slots := 0, locals := 0 } : Room) (va_Pc [.ref (a 0), .int v1, .int v2] (jPre (dC, dI) [(cI, .int)] sz ((W_Model cI a S)))) (va_Qi (fun (r' : Int32) (_ : Unit) => rr = r') (fun _ : Unit => jB (dC, dI) [(cI, .int)] (va_A ((W_Model cI a S)) sz) ((W_Model cI a S))) (va_A ((W_Model cI a S)) sz)) 0 0 (va_A ((W_Model cI a S)) sz) := by
  refine Met.ofW (cc := cX5_childAt) (maxL := 4) (ret := (some .int)) (by decide) rfl ?_
  intro p e s m args below meth c s₁ B hml hv
  obtain ⟨rfl, hsz, hP, hK, hD0, hN⟩ := hv
  have hx := B.exec
  have hb := B.bytes
  have hr := B.returns
  have hts := atoms_spec (ws := wsX5_childAt) B.pre
  have hown : s.vm.findClass RX5 = some m.cls := findClass_of_methodNamed B.named
  have hlocks := B.notSynchronized
  have hinX5 : ∀ w ∈ u_ws RX5 TX5 26, w ∈ wsX5_childAt := by decide +kernel
  subst hsz
  have hD := hD0.self (sz := s.heap.size)
  generalize hAe : (va_A ((W_Model cI a S)) s.heap.size) = A at hD ⊢
  have hA : ∀ q : Nat, s.heap.size ≤ q → A q := fun q h => by rw [← hAe]; exact Or.inr h
  have hS : va_S A s.heap s.heap [] := va_S.rf
  have hl := lv_entry ([.ref (a 0), .int v1, .int v2]) (n := 4) (Nat.le_of_ble_eq_true rfl)
  rw [lg_entry_eq]
  generalize (lg_sl ([.ref (a 0), .int v1, .int v2]) ++ List.replicate (4 - (lg_sl ([.ref (a 0), .int v1, .int v2])).length) Slot.unset).toArray = ls at hl ⊢
  have hl : lv_has ls 4 [(0, .ref (a 0)), (1, .int v1), (2, .int v2)] := hl
  have K2 : ∀ (n2 : Nat) (x3 : Int32) (H : Heap) (locs : List Loc), F_X5_childAt_2 v1 v2 S n2 x3 = some rr → va_P (dC, dI) vwCl ((W_Model cI a S)) H → va_D A ((W_Model cI a S)) → va_S A s.heap H locs → ∀ ls : Array Slot, lv_has ls 4 [(0, .ref (a 0)), (1, .int v1), (2, .int v2), (3, .int x3)] → W p l e (headSpec wsX5_childAt ({ frames := 0, cells := 0, slots := 0, locals := 0 } : Room)).room s m ([.ref (a 0), .int v1, .int v2] : List Value).toArray below meth c H locs 0 0 (MQ below (va_Qi (fun (r' : Int32) (_ : Unit) => rr = r') (fun _ : Unit => jB (dC, dI) [(cI, .int)] A ((W_Model cI a S))) A) ([.ref (a 0), .int v1, .int v2] : List Value).toArray s 0 0 A) (F0 m 2 ls []) := by
    intro n2
    induction n2 with
    | zero => intro x3 H locs hF; exact nomatch hF
    | succ n2 ih2 =>
      intro x3 H locs hF hP hD hS ls hl
      rw [F_X5_childAt_2_s] at hF
      refine lv_iload_n hx hb dX5_childAt_2 rfl (lv_at hl 3 rfl) ?_
      refine lv_aload_n hx hb dX5_childAt_3 rfl (lv_at hl 0 rfl) ?_
      refine va_get (D := (dC, dI)) (ci := 5) (v := .int (g_Model_top S)) (C := RX5) (T := TX5) (N := 26) hx hb hts hinX5 hown hK hP 0 rfl rfl 19 (by decide) (hts (Cond.fieldLink RX5 123 "LearnedShapesModel" "top" "I") (List.mem_of_getElem? (i := 1) rfl)) (fun _ h9 => h9) rfl dX5_childAt_4 ?_
      refine lv_icmp_ge (tgt := 61) hx hb dX5_childAt_7 (by decide) (fun c1 => ?_) (fun c1 => ?_)
      · have hF := F_pos c1 hF
        refine lv_iconst (v := (-1 : Int32)) hx hb dX5_childAt_61 (by decide) ?_
        have e50 := Option.some.inj hF
        subst e50
        exact W.iret (v := (-1 : Int32)) hx hb hr (fun t ht hW => ⟨⟨(-1 : Int32), (), rfl, rfl, by rw [ht]; exact hP, va_K.moved hW.alike hK, hD⟩, hS.F ht⟩) hS.2.2 dX5_childAt_62
      · have hF := F_neg c1 hF
        refine lv_aload_n hx hb dX5_childAt_10 rfl (lv_at hl 0 rfl) ?_
        refine va_get (D := (dC, dI)) (ci := 5) (v := .ref (a 11)) (C := RX5) (T := TX5) (N := 26) hx hb hts hinX5 hown hK hP 0 rfl rfl 18 (by decide) (hts (Cond.fieldLink RX5 40 "LearnedShapesModel" "tree" "[I") (List.mem_of_getElem? (i := 2) rfl)) (fun _ h9 => h9) rfl dX5_childAt_11 ?_
        refine lv_bipush (v := (7 : Int32)) hx hb dX5_childAt_14 (by decide) ?_
        refine lv_iload_n hx hb dX5_childAt_16 rfl (lv_at hl 3 rfl) ?_
        refine lv_imul hx hb dX5_childAt_17 ?_
        obtain ⟨g2, hF⟩ := og_some hF
        refine va_iald (f := (g_Model_tree S)) hx hb hK hP 11 0 rfl rfl (inb_in g2) dX5_childAt_18 ?_
        refine lv_iconst (v := (-1 : Int32)) hx hb dX5_childAt_19 (by decide) ?_
        refine lv_icmp_eq (tgt := 55) hx hb dX5_childAt_20 (by decide) (fun c3 => ?_) (fun c3 => ?_)
        · have hF := F_pos c3 hF
          refine lv_iinc (v := (x3 + (1 : Int32))) (lv' := [(3, .int (x3 + (1 : Int32))), (0, .ref (a 0)), (1, .int v1), (2, .int v2)]) hx hb dX5_childAt_55 hl (k := 3) rfl rfl (by decide) rfl (fun ls hl => ?_)
          refine lv_goto (tgt := 2) hx hb dX5_childAt_58 (by decide) ?_
          exact ih2 _ _ _ hF hP hD hS _ (lv_sub hl [1, 2, 3, 0] rfl)
        · have hF := F_neg c3 hF
          refine lv_aload_n hx hb dX5_childAt_23 rfl (lv_at hl 0 rfl) ?_
          refine va_get (D := (dC, dI)) (ci := 5) (v := .ref (a 11)) (C := RX5) (T := TX5) (N := 26) hx hb hts hinX5 hown hK hP 0 rfl rfl 18 (by decide) (hts (Cond.fieldLink RX5 40 "LearnedShapesModel" "tree" "[I") (List.mem_of_getElem? (i := 2) rfl)) (fun _ h9 => h9) rfl dX5_childAt_24 ?_
          refine lv_bipush (v := (7 : Int32)) hx hb dX5_childAt_27 (by decide) ?_
          refine lv_iload_n hx hb dX5_childAt_29 rfl (lv_at hl 3 rfl) ?_
          refine lv_imul hx hb dX5_childAt_30 ?_
          refine lv_iconst (v := (1 : Int32)) hx hb dX5_childAt_31 (by decide) ?_
          refine lv_iadd hx hb dX5_childAt_32 ?_
          obtain ⟨g4, hF⟩ := og_some hF
          refine va_iald (f := (g_Model_tree S)) hx hb hK hP 11 0 rfl rfl (inb_in g4) dX5_childAt_33 ?_
          refine lv_iload_n hx hb dX5_childAt_34 rfl (lv_at hl 1 rfl) ?_
          refine lv_icmp_ne (tgt := 55) hx hb dX5_childAt_35 (by decide) (fun c5 => ?_) (fun c5 => ?_)
          · have hF := F_neg c5 hF
            refine lv_iinc (v := (x3 + (1 : Int32))) (lv' := [(3, .int (x3 + (1 : Int32))), (0, .ref (a 0)), (1, .int v1), (2, .int v2)]) hx hb dX5_childAt_55 hl (k := 3) rfl rfl (by decide) rfl (fun ls hl => ?_)
            refine lv_goto (tgt := 2) hx hb dX5_childAt_58 (by decide) ?_
            exact ih2 _ _ _ hF hP hD hS _ (lv_sub hl [1, 2, 3, 0] rfl)
          · have hF := F_pos c5 hF
            refine lv_aload_n hx hb dX5_childAt_38 rfl (lv_at hl 0 rfl) ?_
            refine va_get (D := (dC, dI)) (ci := 5) (v := .ref (a 11)) (C := RX5) (T := TX5) (N := 26) hx hb hts hinX5 hown hK hP 0 rfl rfl 18 (by decide) (hts (Cond.fieldLink RX5 40 "LearnedShapesModel" "tree" "[I") (List.mem_of_getElem? (i := 2) rfl)) (fun _ h9 => h9) rfl dX5_childAt_39 ?_
            refine lv_bipush (v := (7 : Int32)) hx hb dX5_childAt_42 (by decide) ?_
            refine lv_iload_n hx hb dX5_childAt_44 rfl (lv_at hl 3 rfl) ?_
            refine lv_imul hx hb dX5_childAt_45 ?_
            refine lv_iconst (v := (2 : Int32)) hx hb dX5_childAt_46 (by decide) ?_
            refine lv_iadd hx hb dX5_childAt_47 ?_
            obtain ⟨g6, hF⟩ := og_some hF
            refine va_iald (f := (g_Model_tree S)) hx hb hK hP 11 0 rfl rfl (inb_in g6) dX5_childAt_48 ?_
            refine lv_iload_n hx hb dX5_childAt_49 rfl (lv_at hl 2 rfl) ?_
            refine lv_icmp_ne (tgt := 55) hx hb dX5_childAt_50 (by decide) (fun c7 => ?_) (fun c7 => ?_)
            · have hF := F_neg c7 hF
              refine lv_iinc (v := (x3 + (1 : Int32))) (lv' := [(3, .int (x3 + (1 : Int32))), (0, .ref (a 0)), (1, .int v1), (2, .int v2)]) hx hb dX5_childAt_55 hl (k := 3) rfl rfl (by decide) rfl (fun ls hl => ?_)
              refine lv_goto (tgt := 2) hx hb dX5_childAt_58 (by decide) ?_
              exact ih2 _ _ _ hF hP hD hS _ (lv_sub hl [1, 2, 3, 0] rfl)
            · have hF := F_pos c7 hF
              refine lv_iload_n hx hb dX5_childAt_53 rfl (lv_at hl 3 rfl) ?_
              have e50 := Option.some.inj hF
              subst e50
              exact W.iret (v := x3) hx hb hr (fun t ht hW => ⟨⟨x3, (), rfl, rfl, by rw [ht]; exact hP, va_K.moved hW.alike hK, hD⟩, hS.F ht⟩) hS.2.2 dX5_childAt_54
  have KE : ∀ (H : Heap) (locs : List Loc), va_P (dC, dI) vwCl ((W_Model cI a S)) H → va_D A ((W_Model cI a S)) → va_S A s.heap H locs → W p l e (headSpec wsX5_childAt ({ frames := 0, cells := 0, slots := 0, locals := 0 } : Room)).room s m ([.ref (a 0), .int v1, .int v2] : List Value).toArray below meth c H locs 0 0 (MQ below (va_Qi (fun (r' : Int32) (_ : Unit) => rr = r') (fun _ : Unit => jB (dC, dI) [(cI, .int)] A ((W_Model cI a S))) A) ([.ref (a 0), .int v1, .int v2] : List Value).toArray s 0 0 A) (F0 m 0 ls []) := by
    intro H locs hP hD hS
    unfold F_X5_childAt at hF
    refine lv_iconst (v := (0 : Int32)) hx hb dX5_childAt_0 (by decide) ?_
    refine lv_istore_n (lv' := [(3, .int (0 : Int32)), (0, .ref (a 0)), (1, .int v1), (2, .int v2)]) hx hb dX5_childAt_1 rfl hl (by decide) rfl (fun ls hl => ?_)
    exact K2 _ _ _ _ hF hP hD hS _ (lv_sub hl [1, 2, 3, 0] rfl)
  exact KE _ _ hP hD hS
set_option maxHeartbeats 4000000 in
set_option maxRecDepth 100000 in
theorem c_X5_makes (l : Launch) (dC : Nat → ClassId) (dI : Nat → Nat → Nat) (cI : ClassId) (a : Nat → Nat) (sz : Nat) (S : S_Model) (v1 : Int32) (v2 : Int32) (v3 : Int32) (v4 : Int32) (rr : Int32) (Y : S_Model) (hF : F_X5_makes S v1 v2 v3 v4 = some (rr, Y)) : Met l yX5_makes wsX5_makes ({ frames := 0, cells := 0, slots := 0, locals := 0 } : Room) (va_Pc [.ref (a 0), .int v1, .int v2, .int v3, .int v4] (jPre (dC, dI) [(cI, .int)] sz ((W_Model cI a S)))) (va_Qi (fun (r' : Int32) (u : S_Model) => rr = r' ∧ Y = u) (fun u : S_Model => jB (dC, dI) [(cI, .int)] (va_A ((W_Model cI a S)) sz) ((W_Model cI a u))) (va_A ((W_Model cI a S)) sz)) 0 0 (va_A ((W_Model cI a S)) sz) := by
  refine Met.ofW (cc := cX5_makes) (maxL := 6) (ret := (some .int)) (by decide) rfl ?_
  intro p e s m args below meth c s₁ B hml hv
  obtain ⟨rfl, hsz, hP, hK, hD0, hN⟩ := hv
  have hx := B.exec
  have hb := B.bytes
  have hr := B.returns
  have hts := atoms_spec (ws := wsX5_makes) B.pre
  have hown : s.vm.findClass RX5 = some m.cls := findClass_of_methodNamed B.named
  have hlocks := B.notSynchronized
  have hinX5 : ∀ w ∈ u_ws RX5 TX5 26, w ∈ wsX5_makes := by decide +kernel
  subst hsz
  have hD := hD0.self (sz := s.heap.size)
  generalize hAe : (va_A ((W_Model cI a S)) s.heap.size) = A at hD ⊢
  have hA : ∀ q : Nat, s.heap.size ≤ q → A q := fun q h => by rw [← hAe]; exact Or.inr h
  have hS : va_S A s.heap s.heap [] := va_S.rf
  have hl := lv_entry ([.ref (a 0), .int v1, .int v2, .int v3, .int v4]) (n := 6) (Nat.le_of_ble_eq_true rfl)
  rw [lg_entry_eq]
  generalize (lg_sl ([.ref (a 0), .int v1, .int v2, .int v3, .int v4]) ++ List.replicate (6 - (lg_sl ([.ref (a 0), .int v1, .int v2, .int v3, .int v4])).length) Slot.unset).toArray = ls at hl ⊢
  have hl : lv_has ls 6 [(0, .ref (a 0)), (1, .int v1), (2, .int v2), (3, .int v3), (4, .int v4)] := hl
  have KE : ∀ (H : Heap) (locs : List Loc), va_P (dC, dI) vwCl ((W_Model cI a S)) H → va_D A ((W_Model cI a S)) → va_S A s.heap H locs → W p l e (headSpec wsX5_makes ({ frames := 0, cells := 0, slots := 0, locals := 0 } : Room)).room s m ([.ref (a 0), .int v1, .int v2, .int v3, .int v4] : List Value).toArray below meth c H locs 0 0 (MQ below (va_Qi (fun (r' : Int32) (u : S_Model) => rr = r' ∧ Y = u) (fun u : S_Model => jB (dC, dI) [(cI, .int)] A ((W_Model cI a u))) A) ([.ref (a 0), .int v1, .int v2, .int v3, .int v4] : List Value).toArray s 0 0 A) (F0 m 0 ls []) := by
    intro H locs hP hD hS
    unfold F_X5_makes at hF
    refine lv_bipush (v := (7 : Int32)) hx hb dX5_makes_0 (by decide) ?_
    refine lv_aload_n hx hb dX5_makes_2 rfl (lv_at hl 0 rfl) ?_
    refine va_get (D := (dC, dI)) (ci := 5) (v := .int (g_Model_top S)) (C := RX5) (T := TX5) (N := 26) hx hb hts hinX5 hown hK hP 0 rfl rfl 19 (by decide) (hts (Cond.fieldLink RX5 123 "LearnedShapesModel" "top" "I") (List.mem_of_getElem? (i := 1) rfl)) (fun _ h9 => h9) rfl dX5_makes_3 ?_
    refine lv_imul hx hb dX5_makes_6 ?_
    refine lv_istore (lv' := [(5, .int ((7 : Int32) * (g_Model_top S))), (0, .ref (a 0)), (1, .int v1), (2, .int v2), (3, .int v3), (4, .int v4)]) hx hb dX5_makes_7 hl (by decide) rfl (fun ls hl => ?_)
    refine lv_aload_n hx hb dX5_makes_9 rfl (lv_at hl 1 rfl) ?_
    refine va_get (D := (dC, dI)) (ci := 5) (v := .ref (a 11)) (C := RX5) (T := TX5) (N := 26) hx hb hts hinX5 hown hK hP 0 rfl rfl 18 (by decide) (hts (Cond.fieldLink RX5 40 "LearnedShapesModel" "tree" "[I") (List.mem_of_getElem? (i := 2) rfl)) (fun _ h9 => h9) rfl dX5_makes_10 ?_
    refine lv_iload hx hb dX5_makes_13 (lv_at hl 0 rfl) ?_
    refine lv_iload_n hx hb dX5_makes_15 rfl (lv_at hl 4 rfl) ?_
    obtain ⟨g1, hF⟩ := og_some hF
    refine va_iast (f := (g_Model_tree S)) hx hb hK hP hD hS 11 0 rfl rfl (inb_in g1) dX5_makes_16 (fun H locs hP hD hS => ?_)
    have hP : va_P (dC, dI) vwCl ((W_Model cI a (s_Model_tree S (upd (g_Model_tree S) ((7 : Int32) * (g_Model_top S)).toNatClampNeg v3)))) H := hP
    have hD : va_D A ((W_Model cI a (s_Model_tree S (upd (g_Model_tree S) ((7 : Int32) * (g_Model_top S)).toNatClampNeg v3)))) := hD
    refine lv_aload_n hx hb dX5_makes_17 rfl (lv_at hl 1 rfl) ?_
    refine va_get (D := (dC, dI)) (ci := 5) (v := .ref (a 11)) (C := RX5) (T := TX5) (N := 26) hx hb hts hinX5 hown hK hP 0 rfl rfl 18 (by decide) (hts (Cond.fieldLink RX5 40 "LearnedShapesModel" "tree" "[I") (List.mem_of_getElem? (i := 2) rfl)) (fun _ h9 => h9) rfl dX5_makes_18 ?_
    refine lv_iload hx hb dX5_makes_21 (lv_at hl 0 rfl) ?_
    refine lv_iconst (v := (1 : Int32)) hx hb dX5_makes_23 (by decide) ?_
    refine lv_iadd hx hb dX5_makes_24 ?_
    refine lv_iload_n hx hb dX5_makes_25 rfl (lv_at hl 2 rfl) ?_
    obtain ⟨g2, hF⟩ := og_some hF
    refine va_iast (f := (upd (g_Model_tree S) ((7 : Int32) * (g_Model_top S)).toNatClampNeg v3)) hx hb hK hP hD hS 11 0 rfl rfl (inb_in g2) dX5_makes_26 (fun H locs hP hD hS => ?_)
    have hP : va_P (dC, dI) vwCl ((W_Model cI a (s_Model_tree S (upd (upd (g_Model_tree S) ((7 : Int32) * (g_Model_top S)).toNatClampNeg v3) (((7 : Int32) * (g_Model_top S)) + (1 : Int32)).toNatClampNeg v1)))) H := hP
    have hD : va_D A ((W_Model cI a (s_Model_tree S (upd (upd (g_Model_tree S) ((7 : Int32) * (g_Model_top S)).toNatClampNeg v3) (((7 : Int32) * (g_Model_top S)) + (1 : Int32)).toNatClampNeg v1)))) := hD
    refine lv_aload_n hx hb dX5_makes_27 rfl (lv_at hl 1 rfl) ?_
    refine va_get (D := (dC, dI)) (ci := 5) (v := .ref (a 11)) (C := RX5) (T := TX5) (N := 26) hx hb hts hinX5 hown hK hP 0 rfl rfl 18 (by decide) (hts (Cond.fieldLink RX5 40 "LearnedShapesModel" "tree" "[I") (List.mem_of_getElem? (i := 2) rfl)) (fun _ h9 => h9) rfl dX5_makes_28 ?_
    refine lv_iload hx hb dX5_makes_31 (lv_at hl 0 rfl) ?_
    refine lv_iconst (v := (2 : Int32)) hx hb dX5_makes_33 (by decide) ?_
    refine lv_iadd hx hb dX5_makes_34 ?_
    refine lv_iload_n hx hb dX5_makes_35 rfl (lv_at hl 3 rfl) ?_
    obtain ⟨g3, hF⟩ := og_some hF
    refine va_iast (f := (upd (upd (g_Model_tree S) ((7 : Int32) * (g_Model_top S)).toNatClampNeg v3) (((7 : Int32) * (g_Model_top S)) + (1 : Int32)).toNatClampNeg v1)) hx hb hK hP hD hS 11 0 rfl rfl (inb_in g3) dX5_makes_36 (fun H locs hP hD hS => ?_)
    have hP : va_P (dC, dI) vwCl ((W_Model cI a (s_Model_tree S (upd (upd (upd (g_Model_tree S) ((7 : Int32) * (g_Model_top S)).toNatClampNeg v3) (((7 : Int32) * (g_Model_top S)) + (1 : Int32)).toNatClampNeg v1) (((7 : Int32) * (g_Model_top S)) + (2 : Int32)).toNatClampNeg v2)))) H := hP
    have hD : va_D A ((W_Model cI a (s_Model_tree S (upd (upd (upd (g_Model_tree S) ((7 : Int32) * (g_Model_top S)).toNatClampNeg v3) (((7 : Int32) * (g_Model_top S)) + (1 : Int32)).toNatClampNeg v1) (((7 : Int32) * (g_Model_top S)) + (2 : Int32)).toNatClampNeg v2)))) := hD
    refine lv_aload_n hx hb dX5_makes_37 rfl (lv_at hl 1 rfl) ?_
    refine va_get (D := (dC, dI)) (ci := 5) (v := .ref (a 11)) (C := RX5) (T := TX5) (N := 26) hx hb hts hinX5 hown hK hP 0 rfl rfl 18 (by decide) (hts (Cond.fieldLink RX5 40 "LearnedShapesModel" "tree" "[I") (List.mem_of_getElem? (i := 2) rfl)) (fun _ h9 => h9) rfl dX5_makes_38 ?_
    refine lv_iload hx hb dX5_makes_41 (lv_at hl 0 rfl) ?_
    refine lv_iconst (v := (3 : Int32)) hx hb dX5_makes_43 (by decide) ?_
    refine lv_iadd hx hb dX5_makes_44 ?_
    refine lv_iconst (v := (0 : Int32)) hx hb dX5_makes_45 (by decide) ?_
    obtain ⟨g4, hF⟩ := og_some hF
    refine va_iast (f := (upd (upd (upd (g_Model_tree S) ((7 : Int32) * (g_Model_top S)).toNatClampNeg v3) (((7 : Int32) * (g_Model_top S)) + (1 : Int32)).toNatClampNeg v1) (((7 : Int32) * (g_Model_top S)) + (2 : Int32)).toNatClampNeg v2)) hx hb hK hP hD hS 11 0 rfl rfl (inb_in g4) dX5_makes_46 (fun H locs hP hD hS => ?_)
    have hP : va_P (dC, dI) vwCl ((W_Model cI a (s_Model_tree S (upd (upd (upd (upd (g_Model_tree S) ((7 : Int32) * (g_Model_top S)).toNatClampNeg v3) (((7 : Int32) * (g_Model_top S)) + (1 : Int32)).toNatClampNeg v1) (((7 : Int32) * (g_Model_top S)) + (2 : Int32)).toNatClampNeg v2) (((7 : Int32) * (g_Model_top S)) + (3 : Int32)).toNatClampNeg (0 : Int32))))) H := hP
    have hD : va_D A ((W_Model cI a (s_Model_tree S (upd (upd (upd (upd (g_Model_tree S) ((7 : Int32) * (g_Model_top S)).toNatClampNeg v3) (((7 : Int32) * (g_Model_top S)) + (1 : Int32)).toNatClampNeg v1) (((7 : Int32) * (g_Model_top S)) + (2 : Int32)).toNatClampNeg v2) (((7 : Int32) * (g_Model_top S)) + (3 : Int32)).toNatClampNeg (0 : Int32))))) := hD
    refine lv_aload_n hx hb dX5_makes_47 rfl (lv_at hl 1 rfl) ?_
    refine va_get (D := (dC, dI)) (ci := 5) (v := .ref (a 11)) (C := RX5) (T := TX5) (N := 26) hx hb hts hinX5 hown hK hP 0 rfl rfl 18 (by decide) (hts (Cond.fieldLink RX5 40 "LearnedShapesModel" "tree" "[I") (List.mem_of_getElem? (i := 2) rfl)) (fun _ h9 => h9) rfl dX5_makes_48 ?_
    refine lv_iload hx hb dX5_makes_51 (lv_at hl 0 rfl) ?_
    refine lv_iconst (v := (4 : Int32)) hx hb dX5_makes_53 (by decide) ?_
    refine lv_iadd hx hb dX5_makes_54 ?_
    refine lv_iconst (v := (0 : Int32)) hx hb dX5_makes_55 (by decide) ?_
    obtain ⟨g5, hF⟩ := og_some hF
    refine va_iast (f := (upd (upd (upd (upd (g_Model_tree S) ((7 : Int32) * (g_Model_top S)).toNatClampNeg v3) (((7 : Int32) * (g_Model_top S)) + (1 : Int32)).toNatClampNeg v1) (((7 : Int32) * (g_Model_top S)) + (2 : Int32)).toNatClampNeg v2) (((7 : Int32) * (g_Model_top S)) + (3 : Int32)).toNatClampNeg (0 : Int32))) hx hb hK hP hD hS 11 0 rfl rfl (inb_in g5) dX5_makes_56 (fun H locs hP hD hS => ?_)
    have hP : va_P (dC, dI) vwCl ((W_Model cI a (s_Model_tree S (upd (upd (upd (upd (upd (g_Model_tree S) ((7 : Int32) * (g_Model_top S)).toNatClampNeg v3) (((7 : Int32) * (g_Model_top S)) + (1 : Int32)).toNatClampNeg v1) (((7 : Int32) * (g_Model_top S)) + (2 : Int32)).toNatClampNeg v2) (((7 : Int32) * (g_Model_top S)) + (3 : Int32)).toNatClampNeg (0 : Int32)) (((7 : Int32) * (g_Model_top S)) + (4 : Int32)).toNatClampNeg (0 : Int32))))) H := hP
    have hD : va_D A ((W_Model cI a (s_Model_tree S (upd (upd (upd (upd (upd (g_Model_tree S) ((7 : Int32) * (g_Model_top S)).toNatClampNeg v3) (((7 : Int32) * (g_Model_top S)) + (1 : Int32)).toNatClampNeg v1) (((7 : Int32) * (g_Model_top S)) + (2 : Int32)).toNatClampNeg v2) (((7 : Int32) * (g_Model_top S)) + (3 : Int32)).toNatClampNeg (0 : Int32)) (((7 : Int32) * (g_Model_top S)) + (4 : Int32)).toNatClampNeg (0 : Int32))))) := hD
    refine lv_aload_n hx hb dX5_makes_57 rfl (lv_at hl 1 rfl) ?_
    refine va_get (D := (dC, dI)) (ci := 5) (v := .ref (a 11)) (C := RX5) (T := TX5) (N := 26) hx hb hts hinX5 hown hK hP 0 rfl rfl 18 (by decide) (hts (Cond.fieldLink RX5 40 "LearnedShapesModel" "tree" "[I") (List.mem_of_getElem? (i := 2) rfl)) (fun _ h9 => h9) rfl dX5_makes_58 ?_
    refine lv_iload hx hb dX5_makes_61 (lv_at hl 0 rfl) ?_
    refine lv_iconst (v := (5 : Int32)) hx hb dX5_makes_63 (by decide) ?_
    refine lv_iadd hx hb dX5_makes_64 ?_
    refine lv_iconst (v := (0 : Int32)) hx hb dX5_makes_65 (by decide) ?_
    obtain ⟨g6, hF⟩ := og_some hF
    refine va_iast (f := (upd (upd (upd (upd (upd (g_Model_tree S) ((7 : Int32) * (g_Model_top S)).toNatClampNeg v3) (((7 : Int32) * (g_Model_top S)) + (1 : Int32)).toNatClampNeg v1) (((7 : Int32) * (g_Model_top S)) + (2 : Int32)).toNatClampNeg v2) (((7 : Int32) * (g_Model_top S)) + (3 : Int32)).toNatClampNeg (0 : Int32)) (((7 : Int32) * (g_Model_top S)) + (4 : Int32)).toNatClampNeg (0 : Int32))) hx hb hK hP hD hS 11 0 rfl rfl (inb_in g6) dX5_makes_66 (fun H locs hP hD hS => ?_)
    have hP : va_P (dC, dI) vwCl ((W_Model cI a (s_Model_tree S (upd (upd (upd (upd (upd (upd (g_Model_tree S) ((7 : Int32) * (g_Model_top S)).toNatClampNeg v3) (((7 : Int32) * (g_Model_top S)) + (1 : Int32)).toNatClampNeg v1) (((7 : Int32) * (g_Model_top S)) + (2 : Int32)).toNatClampNeg v2) (((7 : Int32) * (g_Model_top S)) + (3 : Int32)).toNatClampNeg (0 : Int32)) (((7 : Int32) * (g_Model_top S)) + (4 : Int32)).toNatClampNeg (0 : Int32)) (((7 : Int32) * (g_Model_top S)) + (5 : Int32)).toNatClampNeg (0 : Int32))))) H := hP
    have hD : va_D A ((W_Model cI a (s_Model_tree S (upd (upd (upd (upd (upd (upd (g_Model_tree S) ((7 : Int32) * (g_Model_top S)).toNatClampNeg v3) (((7 : Int32) * (g_Model_top S)) + (1 : Int32)).toNatClampNeg v1) (((7 : Int32) * (g_Model_top S)) + (2 : Int32)).toNatClampNeg v2) (((7 : Int32) * (g_Model_top S)) + (3 : Int32)).toNatClampNeg (0 : Int32)) (((7 : Int32) * (g_Model_top S)) + (4 : Int32)).toNatClampNeg (0 : Int32)) (((7 : Int32) * (g_Model_top S)) + (5 : Int32)).toNatClampNeg (0 : Int32))))) := hD
    refine lv_aload_n hx hb dX5_makes_67 rfl (lv_at hl 1 rfl) ?_
    refine va_get (D := (dC, dI)) (ci := 5) (v := .ref (a 11)) (C := RX5) (T := TX5) (N := 26) hx hb hts hinX5 hown hK hP 0 rfl rfl 18 (by decide) (hts (Cond.fieldLink RX5 40 "LearnedShapesModel" "tree" "[I") (List.mem_of_getElem? (i := 2) rfl)) (fun _ h9 => h9) rfl dX5_makes_68 ?_
    refine lv_iload hx hb dX5_makes_71 (lv_at hl 0 rfl) ?_
    refine lv_bipush (v := (6 : Int32)) hx hb dX5_makes_73 (by decide) ?_
    refine lv_iadd hx hb dX5_makes_75 ?_
    refine lv_iload hx hb dX5_makes_76 (lv_at hl 5 rfl) ?_
    obtain ⟨g7, hF⟩ := og_some hF
    refine va_iast (f := (upd (upd (upd (upd (upd (upd (g_Model_tree S) ((7 : Int32) * (g_Model_top S)).toNatClampNeg v3) (((7 : Int32) * (g_Model_top S)) + (1 : Int32)).toNatClampNeg v1) (((7 : Int32) * (g_Model_top S)) + (2 : Int32)).toNatClampNeg v2) (((7 : Int32) * (g_Model_top S)) + (3 : Int32)).toNatClampNeg (0 : Int32)) (((7 : Int32) * (g_Model_top S)) + (4 : Int32)).toNatClampNeg (0 : Int32)) (((7 : Int32) * (g_Model_top S)) + (5 : Int32)).toNatClampNeg (0 : Int32))) hx hb hK hP hD hS 11 0 rfl rfl (inb_in g7) dX5_makes_78 (fun H locs hP hD hS => ?_)
    have hP : va_P (dC, dI) vwCl ((W_Model cI a (s_Model_tree S (upd (upd (upd (upd (upd (upd (upd (g_Model_tree S) ((7 : Int32) * (g_Model_top S)).toNatClampNeg v3) (((7 : Int32) * (g_Model_top S)) + (1 : Int32)).toNatClampNeg v1) (((7 : Int32) * (g_Model_top S)) + (2 : Int32)).toNatClampNeg v2) (((7 : Int32) * (g_Model_top S)) + (3 : Int32)).toNatClampNeg (0 : Int32)) (((7 : Int32) * (g_Model_top S)) + (4 : Int32)).toNatClampNeg (0 : Int32)) (((7 : Int32) * (g_Model_top S)) + (5 : Int32)).toNatClampNeg (0 : Int32)) (((7 : Int32) * (g_Model_top S)) + (6 : Int32)).toNatClampNeg v4)))) H := hP
    have hD : va_D A ((W_Model cI a (s_Model_tree S (upd (upd (upd (upd (upd (upd (upd (g_Model_tree S) ((7 : Int32) * (g_Model_top S)).toNatClampNeg v3) (((7 : Int32) * (g_Model_top S)) + (1 : Int32)).toNatClampNeg v1) (((7 : Int32) * (g_Model_top S)) + (2 : Int32)).toNatClampNeg v2) (((7 : Int32) * (g_Model_top S)) + (3 : Int32)).toNatClampNeg (0 : Int32)) (((7 : Int32) * (g_Model_top S)) + (4 : Int32)).toNatClampNeg (0 : Int32)) (((7 : Int32) * (g_Model_top S)) + (5 : Int32)).toNatClampNeg (0 : Int32)) (((7 : Int32) * (g_Model_top S)) + (6 : Int32)).toNatClampNeg v4)))) := hD
    refine lv_aload_n hx hb dX5_makes_79 rfl (lv_at hl 1 rfl) ?_
    refine lv_dup hx hb dX5_makes_80 rfl ?_
    refine va_get (D := (dC, dI)) (ci := 5) (v := .int (g_Model_top S)) (C := RX5) (T := TX5) (N := 26) hx hb hts hinX5 hown hK hP 0 rfl rfl 19 (by decide) (hts (Cond.fieldLink RX5 123 "LearnedShapesModel" "top" "I") (List.mem_of_getElem? (i := 1) rfl)) (fun _ h9 => h9) rfl dX5_makes_81 ?_
    refine lv_iconst (v := (1 : Int32)) hx hb dX5_makes_84 (by decide) ?_
    refine lv_iadd hx hb dX5_makes_85 ?_
    refine va_put (D := (dC, dI)) (ci := 5) (v := .int ((g_Model_top S) + (1 : Int32))) (ty := .int) (C := RX5) (T := TX5) (N := 26) hx hb hts hinX5 tyX5 tyX5_ok nmX5 hown hK hP hD hS 0 rfl rfl 19 (by decide) (hts (Cond.fieldLink RX5 123 "LearnedShapesModel" "top" "I") (List.mem_of_getElem? (i := 1) rfl)) (fun _ h9 => h9) rfl (by decide +kernel) (rfl) rfl (Nat.le_of_ble_eq_true rfl) dX5_makes_86 (fun H locs hP hD hS => ?_)
    have hP : va_P (dC, dI) vwCl ((W_Model cI a (s_Model_top (s_Model_tree S (upd (upd (upd (upd (upd (upd (upd (g_Model_tree S) ((7 : Int32) * (g_Model_top S)).toNatClampNeg v3) (((7 : Int32) * (g_Model_top S)) + (1 : Int32)).toNatClampNeg v1) (((7 : Int32) * (g_Model_top S)) + (2 : Int32)).toNatClampNeg v2) (((7 : Int32) * (g_Model_top S)) + (3 : Int32)).toNatClampNeg (0 : Int32)) (((7 : Int32) * (g_Model_top S)) + (4 : Int32)).toNatClampNeg (0 : Int32)) (((7 : Int32) * (g_Model_top S)) + (5 : Int32)).toNatClampNeg (0 : Int32)) (((7 : Int32) * (g_Model_top S)) + (6 : Int32)).toNatClampNeg v4)) ((g_Model_top S) + (1 : Int32))))) H := hP
    have hD : va_D A ((W_Model cI a (s_Model_top (s_Model_tree S (upd (upd (upd (upd (upd (upd (upd (g_Model_tree S) ((7 : Int32) * (g_Model_top S)).toNatClampNeg v3) (((7 : Int32) * (g_Model_top S)) + (1 : Int32)).toNatClampNeg v1) (((7 : Int32) * (g_Model_top S)) + (2 : Int32)).toNatClampNeg v2) (((7 : Int32) * (g_Model_top S)) + (3 : Int32)).toNatClampNeg (0 : Int32)) (((7 : Int32) * (g_Model_top S)) + (4 : Int32)).toNatClampNeg (0 : Int32)) (((7 : Int32) * (g_Model_top S)) + (5 : Int32)).toNatClampNeg (0 : Int32)) (((7 : Int32) * (g_Model_top S)) + (6 : Int32)).toNatClampNeg v4)) ((g_Model_top S) + (1 : Int32))))) := hD
    refine lv_aload_n hx hb dX5_makes_89 rfl (lv_at hl 1 rfl) ?_
    refine va_get (D := (dC, dI)) (ci := 5) (v := .int ((g_Model_top S) + (1 : Int32))) (C := RX5) (T := TX5) (N := 26) hx hb hts hinX5 hown hK hP 0 rfl rfl 19 (by decide) (hts (Cond.fieldLink RX5 123 "LearnedShapesModel" "top" "I") (List.mem_of_getElem? (i := 1) rfl)) (fun _ h9 => h9) rfl dX5_makes_90 ?_
    refine lv_iconst (v := (1 : Int32)) hx hb dX5_makes_93 (by decide) ?_
    refine lv_isub hx hb dX5_makes_94 ?_
    have e50 := Option.some.inj hF
    obtain ⟨e60, e51⟩ := Prod.mk.inj e50
    subst e60
    subst e51
    exact W.iret (v := (((g_Model_top S) + (1 : Int32)) - (1 : Int32))) hx hb hr (fun t ht hW => ⟨⟨(((g_Model_top S) + (1 : Int32)) - (1 : Int32)), (s_Model_top (s_Model_tree S (upd (upd (upd (upd (upd (upd (upd (g_Model_tree S) ((7 : Int32) * (g_Model_top S)).toNatClampNeg v3) (((7 : Int32) * (g_Model_top S)) + (1 : Int32)).toNatClampNeg v1) (((7 : Int32) * (g_Model_top S)) + (2 : Int32)).toNatClampNeg v2) (((7 : Int32) * (g_Model_top S)) + (3 : Int32)).toNatClampNeg (0 : Int32)) (((7 : Int32) * (g_Model_top S)) + (4 : Int32)).toNatClampNeg (0 : Int32)) (((7 : Int32) * (g_Model_top S)) + (5 : Int32)).toNatClampNeg (0 : Int32)) (((7 : Int32) * (g_Model_top S)) + (6 : Int32)).toNatClampNeg v4)) ((g_Model_top S) + (1 : Int32))), rfl, ⟨rfl, rfl⟩, by rw [ht]; exact hP, va_K.moved hW.alike hK, hD⟩, hS.F ht⟩) hS.2.2 dX5_makes_95
  exact KE _ _ hP hD hS
set_option maxHeartbeats 4000000 in
set_option maxRecDepth 100000 in
theorem c_X5_bares (l : Launch) (dC : Nat → ClassId) (dI : Nat → Nat → Nat) (cI : ClassId) (a : Nat → Nat) (sz : Nat) (S : S_Model) (v1 : Int32) (Y : S_Model) (hF : F_X5_bares S v1 = some Y) : Met l yX5_bares wsX5_bares ({ frames := 0, cells := 0, slots := 0, locals := 0 } : Room) (va_Pc [.ref (a 0), .int v1] (jPre (dC, dI) [(cI, .int)] sz ((W_Model cI a S)))) (va_Qv (fun u : S_Model => Y = u) (fun u : S_Model => jB (dC, dI) [(cI, .int)] (va_A ((W_Model cI a S)) sz) ((W_Model cI a u))) (va_A ((W_Model cI a S)) sz)) 0 0 (va_A ((W_Model cI a S)) sz) := by
  refine Met.ofW (cc := cX5_bares) (maxL := 5) (ret := none) (by decide) rfl ?_
  intro p e s m args below meth c s₁ B hml hv
  obtain ⟨rfl, hsz, hP, hK, hD0, hN⟩ := hv
  have hx := B.exec
  have hb := B.bytes
  have hr := B.returns
  have hts := atoms_spec (ws := wsX5_bares) B.pre
  have hown : s.vm.findClass RX5 = some m.cls := findClass_of_methodNamed B.named
  have hlocks := B.notSynchronized
  have hinX5 : ∀ w ∈ u_ws RX5 TX5 26, w ∈ wsX5_bares := by decide +kernel
  subst hsz
  have hD := hD0.self (sz := s.heap.size)
  generalize hAe : (va_A ((W_Model cI a S)) s.heap.size) = A at hD ⊢
  have hA : ∀ q : Nat, s.heap.size ≤ q → A q := fun q h => by rw [← hAe]; exact Or.inr h
  have hS : va_S A s.heap s.heap [] := va_S.rf
  have hl := lv_entry ([.ref (a 0), .int v1]) (n := 5) (Nat.le_of_ble_eq_true rfl)
  rw [lg_entry_eq]
  generalize (lg_sl ([.ref (a 0), .int v1]) ++ List.replicate (5 - (lg_sl ([.ref (a 0), .int v1])).length) Slot.unset).toArray = ls at hl ⊢
  have hl : lv_has ls 5 [(0, .ref (a 0)), (1, .int v1)] := hl
  have K4 : ∀ (n4 : Nat) (S : S_Model) (x2 : Int32) (H : Heap) (locs : List Loc), F_X5_bares_4 v1 n4 S x2 = some Y → va_P (dC, dI) vwCl ((W_Model cI a S)) H → va_D A ((W_Model cI a S)) → va_S A s.heap H locs → ∀ ls : Array Slot, lv_has ls 5 [(0, .ref (a 0)), (1, .int v1), (2, .int x2)] → W p l e (headSpec wsX5_bares ({ frames := 0, cells := 0, slots := 0, locals := 0 } : Room)).room s m ([.ref (a 0), .int v1] : List Value).toArray below meth c H locs 0 0 (MQ below (va_Qv (fun u : S_Model => Y = u) (fun u : S_Model => jB (dC, dI) [(cI, .int)] A ((W_Model cI a u))) A) ([.ref (a 0), .int v1] : List Value).toArray s 0 0 A) (F0 m 4 ls []) := by
    intro n4
    induction n4 with
    | zero => intro S x2 H locs hF; exact nomatch hF
    | succ n4 ih4 =>
      intro S x2 H locs hF hP hD hS ls hl
      rw [F_X5_bares_4_s] at hF
      have K52 : ∀ (S : S_Model) (x2 : Int32) (t0 : Bool) (H : Heap) (locs : List Loc), F_X5_bares_52 v1 (F_X5_bares_4 v1 n4) S x2 t0 = some Y → va_P (dC, dI) vwCl ((W_Model cI a S)) H → va_D A ((W_Model cI a S)) → va_S A s.heap H locs → ∀ ls : Array Slot, lv_has ls 5 [(0, .ref (a 0)), (1, .int v1), (2, .int x2)] → W p l e (headSpec wsX5_bares ({ frames := 0, cells := 0, slots := 0, locals := 0 } : Room)).room s m ([.ref (a 0), .int v1] : List Value).toArray below meth c H locs 0 0 (MQ below (va_Qv (fun u : S_Model => Y = u) (fun u : S_Model => jB (dC, dI) [(cI, .int)] A ((W_Model cI a u))) A) ([.ref (a 0), .int v1] : List Value).toArray s 0 0 A) (F0 m 52 ls [.int (b2i t0)]) := by
        intro S x2 t0 H locs hF hP hD hS ls hl
        unfold F_X5_bares_52 at hF
        refine lv_istore (lv' := [(4, .int (b2i t0)), (0, .ref (a 0)), (1, .int v1), (2, .int x2)]) hx hb dX5_bares_52 hl (by decide) rfl (fun ls hl => ?_)
        refine lv_aload_n hx hb dX5_bares_54 rfl (lv_at hl 1 rfl) ?_
        refine va_get (D := (dC, dI)) (ci := 5) (v := .ref (a 11)) (C := RX5) (T := TX5) (N := 26) hx hb hts hinX5 hown hK hP 0 rfl rfl 18 (by decide) (hts (Cond.fieldLink RX5 40 "LearnedShapesModel" "tree" "[I") (List.mem_of_getElem? (i := 2) rfl)) (fun _ h9 => h9) rfl dX5_bares_55 ?_
        refine lv_bipush (v := (7 : Int32)) hx hb dX5_bares_58 (by decide) ?_
        refine lv_iload_n hx hb dX5_bares_60 rfl (lv_at hl 3 rfl) ?_
        refine lv_imul hx hb dX5_bares_61 ?_
        refine lv_iload hx hb dX5_bares_62 (lv_at hl 0 rfl) ?_
        refine lv_if_eq (tgt := 71) hx hb dX5_bares_64 (by decide) (fun c1 => ?_) (fun c1 => ?_)
        · have hF := F_pos c1 hF
          refine lv_aload_n hx hb dX5_bares_71 rfl (lv_at hl 1 rfl) ?_
          refine va_get (D := (dC, dI)) (ci := 5) (v := .ref (a 11)) (C := RX5) (T := TX5) (N := 26) hx hb hts hinX5 hown hK hP 0 rfl rfl 18 (by decide) (hts (Cond.fieldLink RX5 40 "LearnedShapesModel" "tree" "[I") (List.mem_of_getElem? (i := 2) rfl)) (fun _ h9 => h9) rfl dX5_bares_72 ?_
          refine lv_bipush (v := (7 : Int32)) hx hb dX5_bares_75 (by decide) ?_
          refine lv_iload_n hx hb dX5_bares_77 rfl (lv_at hl 3 rfl) ?_
          refine lv_imul hx hb dX5_bares_78 ?_
          obtain ⟨g2, hF⟩ := og_some hF
          refine va_iald (f := (g_Model_tree S)) hx hb hK hP 11 0 rfl rfl (inb_in g2) dX5_bares_79 ?_
          obtain ⟨g3, hF⟩ := og_some hF
          refine va_iast (f := (g_Model_tree S)) hx hb hK hP hD hS 11 0 rfl rfl (inb_in g3) dX5_bares_80 (fun H locs hP hD hS => ?_)
          have hP : va_P (dC, dI) vwCl ((W_Model cI a (s_Model_tree S (upd (g_Model_tree S) ((7 : Int32) * x2).toNatClampNeg ((g_Model_tree S) ((7 : Int32) * x2).toNatClampNeg))))) H := hP
          have hD : va_D A ((W_Model cI a (s_Model_tree S (upd (g_Model_tree S) ((7 : Int32) * x2).toNatClampNeg ((g_Model_tree S) ((7 : Int32) * x2).toNatClampNeg))))) := hD
          refine lv_iinc (v := (x2 + (1 : Int32))) (lv' := [(2, .int (x2 + (1 : Int32))), (4, .int (b2i t0)), (0, .ref (a 0)), (1, .int v1)]) hx hb dX5_bares_81 hl (k := 3) rfl rfl (by decide) rfl (fun ls hl => ?_)
          refine lv_goto (tgt := 4) hx hb dX5_bares_84 (by decide) ?_
          exact ih4 _ _ _ _ hF hP hD hS _ (lv_sub hl [2, 3, 0] rfl)
        · have hF := F_neg c1 hF
          refine lv_iconst (v := (-1 : Int32)) hx hb dX5_bares_67 (by decide) ?_
          refine lv_goto (tgt := 80) hx hb dX5_bares_68 (by decide) ?_
          obtain ⟨g4, hF⟩ := og_some hF
          refine va_iast (f := (g_Model_tree S)) hx hb hK hP hD hS 11 0 rfl rfl (inb_in g4) dX5_bares_80 (fun H locs hP hD hS => ?_)
          have hP : va_P (dC, dI) vwCl ((W_Model cI a (s_Model_tree S (upd (g_Model_tree S) ((7 : Int32) * x2).toNatClampNeg (-1 : Int32))))) H := hP
          have hD : va_D A ((W_Model cI a (s_Model_tree S (upd (g_Model_tree S) ((7 : Int32) * x2).toNatClampNeg (-1 : Int32))))) := hD
          refine lv_iinc (v := (x2 + (1 : Int32))) (lv' := [(2, .int (x2 + (1 : Int32))), (4, .int (b2i t0)), (0, .ref (a 0)), (1, .int v1)]) hx hb dX5_bares_81 hl (k := 3) rfl rfl (by decide) rfl (fun ls hl => ?_)
          refine lv_goto (tgt := 4) hx hb dX5_bares_84 (by decide) ?_
          exact ih4 _ _ _ _ hF hP hD hS _ (lv_sub hl [2, 3, 0] rfl)
      refine lv_iload_n hx hb dX5_bares_4 rfl (lv_at hl 2 rfl) ?_
      refine lv_aload_n hx hb dX5_bares_5 rfl (lv_at hl 0 rfl) ?_
      refine va_get (D := (dC, dI)) (ci := 5) (v := .int (g_Model_top S)) (C := RX5) (T := TX5) (N := 26) hx hb hts hinX5 hown hK hP 0 rfl rfl 19 (by decide) (hts (Cond.fieldLink RX5 123 "LearnedShapesModel" "top" "I") (List.mem_of_getElem? (i := 1) rfl)) (fun _ h9 => h9) rfl dX5_bares_6 ?_
      refine lv_icmp_ge (tgt := 87) hx hb dX5_bares_9 (by decide) (fun c5 => ?_) (fun c5 => ?_)
      · have hF := F_pos c5 hF
        have e50 := Option.some.inj hF
        subst e50
        exact W.vret hx hb hr (fun t ht hW => ⟨⟨S, rfl, rfl, by rw [ht]; exact hP, va_K.moved hW.alike hK, hD⟩, hS.F ht⟩) hS.2.2 dX5_bares_87
      · have hF := F_neg c5 hF
        refine lv_aload_n hx hb dX5_bares_12 rfl (lv_at hl 0 rfl) ?_
        refine va_get (D := (dC, dI)) (ci := 5) (v := .ref (a 11)) (C := RX5) (T := TX5) (N := 26) hx hb hts hinX5 hown hK hP 0 rfl rfl 18 (by decide) (hts (Cond.fieldLink RX5 40 "LearnedShapesModel" "tree" "[I") (List.mem_of_getElem? (i := 2) rfl)) (fun _ h9 => h9) rfl dX5_bares_13 ?_
        refine lv_bipush (v := (7 : Int32)) hx hb dX5_bares_16 (by decide) ?_
        refine lv_iload_n hx hb dX5_bares_18 rfl (lv_at hl 2 rfl) ?_
        refine lv_imul hx hb dX5_bares_19 ?_
        refine lv_iconst (v := (1 : Int32)) hx hb dX5_bares_20 (by decide) ?_
        refine lv_iadd hx hb dX5_bares_21 ?_
        obtain ⟨g6, hF⟩ := og_some hF
        refine va_iald (f := (g_Model_tree S)) hx hb hK hP 11 0 rfl rfl (inb_in g6) dX5_bares_22 ?_
        refine lv_istore_n (lv' := [(3, .int ((g_Model_tree S) (((7 : Int32) * x2) + (1 : Int32)).toNatClampNeg)), (0, .ref (a 0)), (1, .int v1), (2, .int x2)]) hx hb dX5_bares_23 rfl hl (by decide) rfl (fun ls hl => ?_)
        refine lv_iload_n hx hb dX5_bares_24 rfl (lv_at hl 0 rfl) ?_
        refine lv_iload_n hx hb dX5_bares_25 rfl (lv_at hl 2 rfl) ?_
        refine lv_icmp_eq (tgt := 47) hx hb dX5_bares_26 (by decide) (fun c7 => ?_) (fun c7 => ?_)
        · have hF := F_pos c7 hF
          refine lv_iconst (v := (1 : Int32)) hx hb dX5_bares_47 (by decide) ?_
          refine lv_goto (tgt := 52) hx hb dX5_bares_48 (by decide) ?_
          exact K52 _ _ _ _ _ hF hP hD hS _ (lv_sub hl [1, 2, 3] rfl)
        · have hF := F_neg c7 hF
          refine lv_iload_n hx hb dX5_bares_29 rfl (lv_at hl 0 rfl) ?_
          refine lv_iload_n hx hb dX5_bares_30 rfl (lv_at hl 2 rfl) ?_
          refine lv_icmp_le (tgt := 51) hx hb dX5_bares_31 (by decide) (fun c8 => ?_) (fun c8 => ?_)
          · have hF := F_pos c8 hF
            refine lv_iconst (v := (0 : Int32)) hx hb dX5_bares_51 (by decide) ?_
            exact K52 _ _ _ _ _ hF hP hD hS _ (lv_sub hl [1, 2, 3] rfl)
          · have hF := F_neg c8 hF
            refine lv_aload_n hx hb dX5_bares_34 rfl (lv_at hl 1 rfl) ?_
            refine va_get (D := (dC, dI)) (ci := 5) (v := .ref (a 11)) (C := RX5) (T := TX5) (N := 26) hx hb hts hinX5 hown hK hP 0 rfl rfl 18 (by decide) (hts (Cond.fieldLink RX5 40 "LearnedShapesModel" "tree" "[I") (List.mem_of_getElem? (i := 2) rfl)) (fun _ h9 => h9) rfl dX5_bares_35 ?_
            refine lv_bipush (v := (7 : Int32)) hx hb dX5_bares_38 (by decide) ?_
            refine lv_iload_n hx hb dX5_bares_40 rfl (lv_at hl 0 rfl) ?_
            refine lv_imul hx hb dX5_bares_41 ?_
            obtain ⟨g9, hF⟩ := og_some hF
            refine va_iald (f := (g_Model_tree S)) hx hb hK hP 11 0 rfl rfl (inb_in g9) dX5_bares_42 ?_
            refine lv_iconst (v := (-1 : Int32)) hx hb dX5_bares_43 (by decide) ?_
            refine lv_icmp_ne (tgt := 51) hx hb dX5_bares_44 (by decide) (fun c10 => ?_) (fun c10 => ?_)
            · have hF := F_neg c10 hF
              refine lv_iconst (v := (0 : Int32)) hx hb dX5_bares_51 (by decide) ?_
              exact K52 _ _ _ _ _ hF hP hD hS _ (lv_sub hl [1, 2, 3] rfl)
            · have hF := F_pos c10 hF
              refine lv_iconst (v := (1 : Int32)) hx hb dX5_bares_47 (by decide) ?_
              refine lv_goto (tgt := 52) hx hb dX5_bares_48 (by decide) ?_
              exact K52 _ _ _ _ _ hF hP hD hS _ (lv_sub hl [1, 2, 3] rfl)
  have KE : ∀ (H : Heap) (locs : List Loc), va_P (dC, dI) vwCl ((W_Model cI a S)) H → va_D A ((W_Model cI a S)) → va_S A s.heap H locs → W p l e (headSpec wsX5_bares ({ frames := 0, cells := 0, slots := 0, locals := 0 } : Room)).room s m ([.ref (a 0), .int v1] : List Value).toArray below meth c H locs 0 0 (MQ below (va_Qv (fun u : S_Model => Y = u) (fun u : S_Model => jB (dC, dI) [(cI, .int)] A ((W_Model cI a u))) A) ([.ref (a 0), .int v1] : List Value).toArray s 0 0 A) (F0 m 0 ls []) := by
    intro H locs hP hD hS
    unfold F_X5_bares at hF
    refine lv_iload_n hx hb dX5_bares_0 rfl (lv_at hl 1 rfl) ?_
    refine lv_iconst (v := (1 : Int32)) hx hb dX5_bares_1 (by decide) ?_
    refine lv_iadd hx hb dX5_bares_2 ?_
    refine lv_istore_n (lv' := [(2, .int (v1 + (1 : Int32))), (0, .ref (a 0)), (1, .int v1)]) hx hb dX5_bares_3 rfl hl (by decide) rfl (fun ls hl => ?_)
    exact K4 _ _ _ _ _ hF hP hD hS _ (lv_sub hl [1, 2, 0] rfl)
  exact KE _ _ hP hD hS
set_option maxHeartbeats 4000000 in
set_option maxRecDepth 100000 in
theorem c_X5_widens (l : Launch) (dC : Nat → ClassId) (dI : Nat → Nat → Nat) (cI : ClassId) (a : Nat → Nat) (sz : Nat) (S : S_Model) (v1 : Int32) (v2 : Int32) (v3 : Int32) (Y : S_Model) (hF : F_X5_widens S v1 v2 v3 = some Y) : Met l yX5_widens wsX5_widens ({ frames := 1, cells := 0, slots := 0, locals := 24 } : Room) (va_Pc [.ref (a 0), .int v1, .int v2, .int v3] (jPre (dC, dI) [(cI, .int)] sz ((W_Model cI a S)))) (va_Qv (fun u : S_Model => Y = u) (fun u : S_Model => jB (dC, dI) [(cI, .int)] (va_A ((W_Model cI a S)) sz) ((W_Model cI a u))) (va_A ((W_Model cI a S)) sz)) 0 0 (va_A ((W_Model cI a S)) sz) := by
  refine Met.ofW (cc := cX5_widens) (maxL := 5) (ret := none) (by decide) rfl ?_
  intro p e s m args below meth c s₁ B hml hv
  obtain ⟨rfl, hsz, hP, hK, hD0, hN⟩ := hv
  have hx := B.exec
  have hb := B.bytes
  have hr := B.returns
  have hts := atoms_spec (ws := wsX5_widens) B.pre
  have hown : s.vm.findClass RX5 = some m.cls := findClass_of_methodNamed B.named
  have hlocks := B.notSynchronized
  have hinX5 : ∀ w ∈ u_ws RX5 TX5 26, w ∈ wsX5_widens := by decide +kernel
  subst hsz
  have hD := hD0.self (sz := s.heap.size)
  generalize hAe : (va_A ((W_Model cI a S)) s.heap.size) = A at hD ⊢
  have hA : ∀ q : Nat, s.heap.size ≤ q → A q := fun q h => by rw [← hAe]; exact Or.inr h
  have hS : va_S A s.heap s.heap [] := va_S.rf
  have hl := lv_entry ([.ref (a 0), .int v1, .int v2, .int v3]) (n := 5) (Nat.le_of_ble_eq_true rfl)
  rw [lg_entry_eq]
  generalize (lg_sl ([.ref (a 0), .int v1, .int v2, .int v3]) ++ List.replicate (5 - (lg_sl ([.ref (a 0), .int v1, .int v2, .int v3])).length) Slot.unset).toArray = ls at hl ⊢
  have hl : lv_has ls 5 [(0, .ref (a 0)), (1, .int v1), (2, .int v2), (3, .int v3)] := hl
  have KE : ∀ (H : Heap) (locs : List Loc), va_P (dC, dI) vwCl ((W_Model cI a S)) H → va_D A ((W_Model cI a S)) → va_S A s.heap H locs → W p l e (headSpec wsX5_widens ({ frames := 1, cells := 0, slots := 0, locals := 24 } : Room)).room s m ([.ref (a 0), .int v1, .int v2, .int v3] : List Value).toArray below meth c H locs 0 0 (MQ below (va_Qv (fun u : S_Model => Y = u) (fun u : S_Model => jB (dC, dI) [(cI, .int)] A ((W_Model cI a u))) A) ([.ref (a 0), .int v1, .int v2, .int v3] : List Value).toArray s 0 0 A) (F0 m 0 ls []) := by
    intro H locs hP hD hS
    unfold F_X5_widens at hF
    refine lv_bipush (v := (7 : Int32)) hx hb dX5_widens_0 (by decide) ?_
    refine lv_iload_n hx hb dX5_widens_2 rfl (lv_at hl 1 rfl) ?_
    refine lv_imul hx hb dX5_widens_3 ?_
    refine lv_istore (lv' := [(4, .int ((7 : Int32) * v1)), (0, .ref (a 0)), (1, .int v1), (2, .int v2), (3, .int v3)]) hx hb dX5_widens_4 hl (by decide) rfl (fun ls hl => ?_)
    refine lv_iload_n hx hb dX5_widens_6 rfl (lv_at hl 3 rfl) ?_
    refine lv_aload_n hx hb dX5_widens_7 rfl (lv_at hl 1 rfl) ?_
    refine va_get (D := (dC, dI)) (ci := 5) (v := .ref (a 11)) (C := RX5) (T := TX5) (N := 26) hx hb hts hinX5 hown hK hP 0 rfl rfl 18 (by decide) (hts (Cond.fieldLink RX5 40 "LearnedShapesModel" "tree" "[I") (List.mem_of_getElem? (i := 1) rfl)) (fun _ h9 => h9) rfl dX5_widens_8 ?_
    refine lv_iload hx hb dX5_widens_11 (lv_at hl 0 rfl) ?_
    obtain ⟨g1, hF⟩ := og_some hF
    refine va_iald (f := (g_Model_tree S)) hx hb hK hP 11 0 rfl rfl (inb_in g1) dX5_widens_13 ?_
    refine lv_icmp_eq (tgt := 52) hx hb dX5_widens_14 (by decide) (fun c2 => ?_) (fun c2 => ?_)
    · have hF := F_pos c2 hF
      have e50 := Option.some.inj hF
      subst e50
      exact W.vret hx hb hr (fun t ht hW => ⟨⟨S, rfl, rfl, by rw [ht]; exact hP, va_K.moved hW.alike hK, hD⟩, hS.F ht⟩) hS.2.2 dX5_widens_52
    · have hF := F_neg c2 hF
      refine lv_aload_n hx hb dX5_widens_17 rfl (lv_at hl 1 rfl) ?_
      refine va_get (D := (dC, dI)) (ci := 5) (v := .ref (a 11)) (C := RX5) (T := TX5) (N := 26) hx hb hts hinX5 hown hK hP 0 rfl rfl 18 (by decide) (hts (Cond.fieldLink RX5 40 "LearnedShapesModel" "tree" "[I") (List.mem_of_getElem? (i := 1) rfl)) (fun _ h9 => h9) rfl dX5_widens_18 ?_
      refine lv_iload hx hb dX5_widens_21 (lv_at hl 0 rfl) ?_
      refine lv_iload_n hx hb dX5_widens_23 rfl (lv_at hl 3 rfl) ?_
      obtain ⟨g3, hF⟩ := og_some hF
      refine va_iast (f := (g_Model_tree S)) hx hb hK hP hD hS 11 0 rfl rfl (inb_in g3) dX5_widens_24 (fun H locs hP hD hS => ?_)
      have hP : va_P (dC, dI) vwCl ((W_Model cI a (s_Model_tree S (upd (g_Model_tree S) ((7 : Int32) * v1).toNatClampNeg v2)))) H := hP
      have hD : va_D A ((W_Model cI a (s_Model_tree S (upd (g_Model_tree S) ((7 : Int32) * v1).toNatClampNeg v2)))) := hD
      refine lv_aload_n hx hb dX5_widens_25 rfl (lv_at hl 1 rfl) ?_
      refine va_get (D := (dC, dI)) (ci := 5) (v := .ref (a 11)) (C := RX5) (T := TX5) (N := 26) hx hb hts hinX5 hown hK hP 0 rfl rfl 18 (by decide) (hts (Cond.fieldLink RX5 40 "LearnedShapesModel" "tree" "[I") (List.mem_of_getElem? (i := 1) rfl)) (fun _ h9 => h9) rfl dX5_widens_26 ?_
      refine lv_iload hx hb dX5_widens_29 (lv_at hl 0 rfl) ?_
      refine lv_bipush (v := (6 : Int32)) hx hb dX5_widens_31 (by decide) ?_
      refine lv_iadd hx hb dX5_widens_33 ?_
      refine lv_iload_n hx hb dX5_widens_34 rfl (lv_at hl 4 rfl) ?_
      obtain ⟨g4, hF⟩ := og_some hF
      refine va_iast (f := (upd (g_Model_tree S) ((7 : Int32) * v1).toNatClampNeg v2)) hx hb hK hP hD hS 11 0 rfl rfl (inb_in g4) dX5_widens_35 (fun H locs hP hD hS => ?_)
      have hP : va_P (dC, dI) vwCl ((W_Model cI a (s_Model_tree S (upd (upd (g_Model_tree S) ((7 : Int32) * v1).toNatClampNeg v2) (((7 : Int32) * v1) + (6 : Int32)).toNatClampNeg v3)))) H := hP
      have hD : va_D A ((W_Model cI a (s_Model_tree S (upd (upd (g_Model_tree S) ((7 : Int32) * v1).toNatClampNeg v2) (((7 : Int32) * v1) + (6 : Int32)).toNatClampNeg v3)))) := hD
      refine lv_iload_n hx hb dX5_widens_36 rfl (lv_at hl 3 rfl) ?_
      refine lv_bipush (v := (7 : Int32)) hx hb dX5_widens_37 (by decide) ?_
      refine lv_icmp_ne (tgt := 52) hx hb dX5_widens_39 (by decide) (fun c5 => ?_) (fun c5 => ?_)
      · have hF := F_neg c5 hF
        have e50 := Option.some.inj hF
        subst e50
        exact W.vret hx hb hr (fun t ht hW => ⟨⟨(s_Model_tree S (upd (upd (g_Model_tree S) ((7 : Int32) * v1).toNatClampNeg v2) (((7 : Int32) * v1) + (6 : Int32)).toNatClampNeg v3)), rfl, rfl, by rw [ht]; exact hP, va_K.moved hW.alike hK, hD⟩, hS.F ht⟩) hS.2.2 dX5_widens_52
      · have hF := F_pos c5 hF
        refine lv_aload_n hx hb dX5_widens_42 rfl (lv_at hl 1 rfl) ?_
        refine lv_iconst (v := (1 : Int32)) hx hb dX5_widens_43 (by decide) ?_
        refine va_put (D := (dC, dI)) (ci := 5) (v := .int (1 : Int32)) (ty := .boolean) (C := RX5) (T := TX5) (N := 26) hx hb hts hinX5 tyX5 tyX5_ok nmX5 hown hK hP hD hS 0 rfl rfl 22 (by decide) (hts (Cond.fieldLink RX5 126 "LearnedShapesModel" "becameAny" "Z") (List.mem_of_getElem? (i := 2) rfl)) (fun _ h9 => h9) rfl (by decide +kernel) (rfl) rfl (Nat.le_of_ble_eq_true rfl) dX5_widens_44 (fun H locs hP hD hS => ?_)
        have hP : va_P (dC, dI) vwCl ((W_Model cI a (s_Model_becameAny (s_Model_tree S (upd (upd (g_Model_tree S) ((7 : Int32) * v1).toNatClampNeg v2) (((7 : Int32) * v1) + (6 : Int32)).toNatClampNeg v3)) (1 : Int32)))) H := hP
        have hD : va_D A ((W_Model cI a (s_Model_becameAny (s_Model_tree S (upd (upd (g_Model_tree S) ((7 : Int32) * v1).toNatClampNeg v2) (((7 : Int32) * v1) + (6 : Int32)).toNatClampNeg v3)) (1 : Int32)))) := hD
        refine lv_aload_n hx hb dX5_widens_47 rfl (lv_at hl 1 rfl) ?_
        refine lv_iload_n hx hb dX5_widens_48 rfl (lv_at hl 2 rfl) ?_
        obtain ⟨u6, h7, hF⟩ := ob1_some hF
        have hPc : va_P (dC, dI) vwCl ((W_Model cI a (s_Model_becameAny (s_Model_tree S (upd (upd (g_Model_tree S) ((7 : Int32) * v1).toNatClampNeg v2) (((7 : Int32) * v1) + (6 : Int32)).toNatClampNeg v3)) (1 : Int32)))) H := hP
        have hDc : va_D A ((W_Model cI a (s_Model_becameAny (s_Model_tree S (upd (upd (g_Model_tree S) ((7 : Int32) * v1).toNatClampNeg v2) (((7 : Int32) * v1) + (6 : Int32)).toNatClampNeg v3)) (1 : Int32)))) := hD
        have hFc := va_free (wc := (W_Model cI a (s_Model_becameAny (s_Model_tree S (upd (upd (g_Model_tree S) ((7 : Int32) * v1).toNatClampNeg v2) (((7 : Int32) * v1) + (6 : Int32)).toNatClampNeg v3)) (1 : Int32)))) hD hS hA [0, 1, 2, 3, 4, 5, 6, 7, 8, 9, 10, 11, 12, 13] rfl
        refine va_callv (va_runV (As := [.int v1]) (rest := []) ⟨hx, hb, hml, hown, hts⟩ (c_X5_bares l dC dI cI a H.size _ _ _ h7) (cwV 1 hts gX5_widens_X5_bares rfl rfl rfl (by decide +kernel) ⟨Nat.le_of_ble_eq_true rfl, Nat.le_of_ble_eq_true rfl⟩) (jPreV hK hPc hDc hN (ci := 5) rfl rfl) rfl rfl hl.1 rfl (lv_room (Nat.le_of_ble_eq_true rfl)) dX5_widens_49 ⟨Nat.le_of_ble_eq_true rfl, Nat.le_of_ble_eq_true rfl⟩) hS (fun q _ h => hFc q h) hFc (fun u' t H locs ht hvm hw hB hz1 hk1 hS => ?_)
        subst hw
        obtain ⟨hP1, -, hD1⟩ := hB
        rw [ht] at hP1
        have hP : va_P (dC, dI) vwCl ((W_Model cI a u6)) H := hP1
        have hD : va_D A ((W_Model cI a u6)) := hD1.weaken (fun _ _ _ h => hFc _ h)
        have e50 := Option.some.inj hF
        subst e50
        exact W.vret hx hb hr (fun t ht hW => ⟨⟨u6, rfl, rfl, by rw [ht]; exact hP, va_K.moved hW.alike hK, hD⟩, hS.F ht⟩) hS.2.2 dX5_widens_52
  exact KE _ _ hP hD hS
set_option maxHeartbeats 4000000 in
set_option maxRecDepth 100000 in
theorem c_X5_nodes (l : Launch) (dC : Nat → ClassId) (dI : Nat → Nat → Nat) (cI : ClassId) (a : Nat → Nat) (sz : Nat) (S : S_Model)  (rr : Int32) (hF : F_X5_nodes S  = some rr) : Met l yX5_nodes wsX5_nodes ({ frames := 0, cells := 0, slots := 0, locals := 0 } : Room) (va_Pc [.ref (a 0)] (jPre (dC, dI) [(cI, .int)] sz ((W_Model cI a S)))) (va_Qi (fun (r' : Int32) (_ : Unit) => rr = r') (fun _ : Unit => jB (dC, dI) [(cI, .int)] (va_A ((W_Model cI a S)) sz) ((W_Model cI a S))) (va_A ((W_Model cI a S)) sz)) 0 0 (va_A ((W_Model cI a S)) sz) := by
  refine Met.ofW (cc := cX5_nodes) (maxL := 3) (ret := (some .int)) (by decide) rfl ?_
  intro p e s m args below meth c s₁ B hml hv
  obtain ⟨rfl, hsz, hP, hK, hD0, hN⟩ := hv
  have hx := B.exec
  have hb := B.bytes
  have hr := B.returns
  have hts := atoms_spec (ws := wsX5_nodes) B.pre
  have hown : s.vm.findClass RX5 = some m.cls := findClass_of_methodNamed B.named
  have hlocks := B.notSynchronized
  have hinX5 : ∀ w ∈ u_ws RX5 TX5 26, w ∈ wsX5_nodes := by decide +kernel
  subst hsz
  have hD := hD0.self (sz := s.heap.size)
  generalize hAe : (va_A ((W_Model cI a S)) s.heap.size) = A at hD ⊢
  have hA : ∀ q : Nat, s.heap.size ≤ q → A q := fun q h => by rw [← hAe]; exact Or.inr h
  have hS : va_S A s.heap s.heap [] := va_S.rf
  have hl := lv_entry ([.ref (a 0)]) (n := 3) (Nat.le_of_ble_eq_true rfl)
  rw [lg_entry_eq]
  generalize (lg_sl ([.ref (a 0)]) ++ List.replicate (3 - (lg_sl ([.ref (a 0)])).length) Slot.unset).toArray = ls at hl ⊢
  have hl : lv_has ls 3 [(0, .ref (a 0))] := hl
  have K4 : ∀ (n4 : Nat) (x1 : Int32) (x2 : Int32) (H : Heap) (locs : List Loc), F_X5_nodes_4 S n4 x1 x2 = some rr → va_P (dC, dI) vwCl ((W_Model cI a S)) H → va_D A ((W_Model cI a S)) → va_S A s.heap H locs → ∀ ls : Array Slot, lv_has ls 3 [(0, .ref (a 0)), (1, .int x1), (2, .int x2)] → W p l e (headSpec wsX5_nodes ({ frames := 0, cells := 0, slots := 0, locals := 0 } : Room)).room s m ([.ref (a 0)] : List Value).toArray below meth c H locs 0 0 (MQ below (va_Qi (fun (r' : Int32) (_ : Unit) => rr = r') (fun _ : Unit => jB (dC, dI) [(cI, .int)] A ((W_Model cI a S))) A) ([.ref (a 0)] : List Value).toArray s 0 0 A) (F0 m 4 ls []) := by
    intro n4
    induction n4 with
    | zero => intro x1 x2 H locs hF; exact nomatch hF
    | succ n4 ih4 =>
      intro x1 x2 H locs hF hP hD hS ls hl
      rw [F_X5_nodes_4_s] at hF
      refine lv_iload_n hx hb dX5_nodes_4 rfl (lv_at hl 2 rfl) ?_
      refine lv_aload_n hx hb dX5_nodes_5 rfl (lv_at hl 0 rfl) ?_
      refine va_get (D := (dC, dI)) (ci := 5) (v := .int (g_Model_top S)) (C := RX5) (T := TX5) (N := 26) hx hb hts hinX5 hown hK hP 0 rfl rfl 19 (by decide) (hts (Cond.fieldLink RX5 123 "LearnedShapesModel" "top" "I") (List.mem_of_getElem? (i := 1) rfl)) (fun _ h9 => h9) rfl dX5_nodes_6 ?_
      refine lv_icmp_ge (tgt := 39) hx hb dX5_nodes_9 (by decide) (fun c1 => ?_) (fun c1 => ?_)
      · have hF := F_pos c1 hF
        refine lv_iload_n hx hb dX5_nodes_39 rfl (lv_at hl 1 rfl) ?_
        have e50 := Option.some.inj hF
        subst e50
        exact W.iret (v := x1) hx hb hr (fun t ht hW => ⟨⟨x1, (), rfl, rfl, by rw [ht]; exact hP, va_K.moved hW.alike hK, hD⟩, hS.F ht⟩) hS.2.2 dX5_nodes_40
      · have hF := F_neg c1 hF
        refine lv_iload_n hx hb dX5_nodes_12 rfl (lv_at hl 1 rfl) ?_
        refine lv_aload_n hx hb dX5_nodes_13 rfl (lv_at hl 0 rfl) ?_
        refine va_get (D := (dC, dI)) (ci := 5) (v := .ref (a 11)) (C := RX5) (T := TX5) (N := 26) hx hb hts hinX5 hown hK hP 0 rfl rfl 18 (by decide) (hts (Cond.fieldLink RX5 40 "LearnedShapesModel" "tree" "[I") (List.mem_of_getElem? (i := 2) rfl)) (fun _ h9 => h9) rfl dX5_nodes_14 ?_
        refine lv_bipush (v := (7 : Int32)) hx hb dX5_nodes_17 (by decide) ?_
        refine lv_iload_n hx hb dX5_nodes_19 rfl (lv_at hl 2 rfl) ?_
        refine lv_imul hx hb dX5_nodes_20 ?_
        obtain ⟨g2, hF⟩ := og_some hF
        refine va_iald (f := (g_Model_tree S)) hx hb hK hP 11 0 rfl rfl (inb_in g2) dX5_nodes_21 ?_
        refine lv_iconst (v := (-1 : Int32)) hx hb dX5_nodes_22 (by decide) ?_
        refine lv_icmp_ne (tgt := 30) hx hb dX5_nodes_23 (by decide) (fun c3 => ?_) (fun c3 => ?_)
        · have hF := F_neg c3 hF
          refine lv_iconst (v := (1 : Int32)) hx hb dX5_nodes_30 (by decide) ?_
          refine lv_iadd hx hb dX5_nodes_31 ?_
          refine lv_istore_n (lv' := [(1, .int (x1 + (1 : Int32))), (0, .ref (a 0)), (2, .int x2)]) hx hb dX5_nodes_32 rfl hl (by decide) rfl (fun ls hl => ?_)
          refine lv_iinc (v := (x2 + (1 : Int32))) (lv' := [(2, .int (x2 + (1 : Int32))), (1, .int (x1 + (1 : Int32))), (0, .ref (a 0))]) hx hb dX5_nodes_33 hl (k := 2) rfl rfl (by decide) rfl (fun ls hl => ?_)
          refine lv_goto (tgt := 4) hx hb dX5_nodes_36 (by decide) ?_
          exact ih4 _ _ _ _ hF hP hD hS _ (lv_sub hl [2, 1, 0] rfl)
        · have hF := F_pos c3 hF
          refine lv_iconst (v := (0 : Int32)) hx hb dX5_nodes_26 (by decide) ?_
          refine lv_goto (tgt := 31) hx hb dX5_nodes_27 (by decide) ?_
          refine lv_iadd hx hb dX5_nodes_31 ?_
          refine lv_istore_n (lv' := [(1, .int (x1 + (0 : Int32))), (0, .ref (a 0)), (2, .int x2)]) hx hb dX5_nodes_32 rfl hl (by decide) rfl (fun ls hl => ?_)
          refine lv_iinc (v := (x2 + (1 : Int32))) (lv' := [(2, .int (x2 + (1 : Int32))), (1, .int (x1 + (0 : Int32))), (0, .ref (a 0))]) hx hb dX5_nodes_33 hl (k := 2) rfl rfl (by decide) rfl (fun ls hl => ?_)
          refine lv_goto (tgt := 4) hx hb dX5_nodes_36 (by decide) ?_
          exact ih4 _ _ _ _ hF hP hD hS _ (lv_sub hl [2, 1, 0] rfl)
  have KE : ∀ (H : Heap) (locs : List Loc), va_P (dC, dI) vwCl ((W_Model cI a S)) H → va_D A ((W_Model cI a S)) → va_S A s.heap H locs → W p l e (headSpec wsX5_nodes ({ frames := 0, cells := 0, slots := 0, locals := 0 } : Room)).room s m ([.ref (a 0)] : List Value).toArray below meth c H locs 0 0 (MQ below (va_Qi (fun (r' : Int32) (_ : Unit) => rr = r') (fun _ : Unit => jB (dC, dI) [(cI, .int)] A ((W_Model cI a S))) A) ([.ref (a 0)] : List Value).toArray s 0 0 A) (F0 m 0 ls []) := by
    intro H locs hP hD hS
    unfold F_X5_nodes at hF
    refine lv_iconst (v := (0 : Int32)) hx hb dX5_nodes_0 (by decide) ?_
    refine lv_istore_n (lv' := [(1, .int (0 : Int32)), (0, .ref (a 0))]) hx hb dX5_nodes_1 rfl hl (by decide) rfl (fun ls hl => ?_)
    refine lv_iconst (v := (0 : Int32)) hx hb dX5_nodes_2 (by decide) ?_
    refine lv_istore_n (lv' := [(2, .int (0 : Int32)), (1, .int (0 : Int32)), (0, .ref (a 0))]) hx hb dX5_nodes_3 rfl hl (by decide) rfl (fun ls hl => ?_)
    exact K4 _ _ _ _ _ hF hP hD hS _ (lv_sub hl [2, 1, 0] rfl)
  exact KE _ _ hP hD hS
set_option maxHeartbeats 4000000 in
set_option maxRecDepth 100000 in
theorem c_X5_nodeFor (l : Launch) (dC : Nat → ClassId) (dI : Nat → Nat → Nat) (cI : ClassId) (a : Nat → Nat) (sz : Nat) (S : S_Model) (v1 : Int32) (v2 : Int32) (rr : Int32) (Y : S_Model) (hF : F_X5_nodeFor S v1 v2 = some (rr, Y)) : Met l yX5_nodeFor wsX5_nodeFor ({ frames := 1, cells := 0, slots := 0, locals := 25 } : Room) (va_Pc [.ref (a 0), .int v1, .int v2] (jPre (dC, dI) [(cI, .int)] sz ((W_Model cI a S)))) (va_Qi (fun (r' : Int32) (u : S_Model) => rr = r' ∧ Y = u) (fun u : S_Model => jB (dC, dI) [(cI, .int)] (va_A ((W_Model cI a S)) sz) ((W_Model cI a u))) (va_A ((W_Model cI a S)) sz)) 0 0 (va_A ((W_Model cI a S)) sz) := by
  refine Met.ofW (cc := cX5_nodeFor) (maxL := 5) (ret := (some .int)) (by decide) rfl ?_
  intro p e s m args below meth c s₁ B hml hv
  obtain ⟨rfl, hsz, hP, hK, hD0, hN⟩ := hv
  have hx := B.exec
  have hb := B.bytes
  have hr := B.returns
  have hts := atoms_spec (ws := wsX5_nodeFor) B.pre
  have hown : s.vm.findClass RX5 = some m.cls := findClass_of_methodNamed B.named
  have hlocks := B.notSynchronized
  have hinX5 : ∀ w ∈ u_ws RX5 TX5 26, w ∈ wsX5_nodeFor := by decide +kernel
  subst hsz
  have hD := hD0.self (sz := s.heap.size)
  generalize hAe : (va_A ((W_Model cI a S)) s.heap.size) = A at hD ⊢
  have hA : ∀ q : Nat, s.heap.size ≤ q → A q := fun q h => by rw [← hAe]; exact Or.inr h
  have hS : va_S A s.heap s.heap [] := va_S.rf
  have hl := lv_entry ([.ref (a 0), .int v1, .int v2]) (n := 5) (Nat.le_of_ble_eq_true rfl)
  rw [lg_entry_eq]
  generalize (lg_sl ([.ref (a 0), .int v1, .int v2]) ++ List.replicate (5 - (lg_sl ([.ref (a 0), .int v1, .int v2])).length) Slot.unset).toArray = ls at hl ⊢
  have hl : lv_has ls 5 [(0, .ref (a 0)), (1, .int v1), (2, .int v2)] := hl
  have K71 : ∀ (S : S_Model) (x3 : Int32) (t0 : Int32) (H : Heap) (locs : List Loc), F_X5_nodeFor_71 v1 v2 S x3 t0 = some (rr, Y) → va_P (dC, dI) vwCl ((W_Model cI a S)) H → va_D A ((W_Model cI a S)) → va_S A s.heap H locs → ∀ ls : Array Slot, lv_has ls 5 [(0, .ref (a 0)), (1, .int v1), (2, .int v2), (3, .int x3)] → W p l e (headSpec wsX5_nodeFor ({ frames := 1, cells := 0, slots := 0, locals := 25 } : Room)).room s m ([.ref (a 0), .int v1, .int v2] : List Value).toArray below meth c H locs 0 0 (MQ below (va_Qi (fun (r' : Int32) (u : S_Model) => rr = r' ∧ Y = u) (fun u : S_Model => jB (dC, dI) [(cI, .int)] A ((W_Model cI a u))) A) ([.ref (a 0), .int v1, .int v2] : List Value).toArray s 0 0 A) (F0 m 71 ls [.int t0]) := by
    intro S x3 t0 H locs hF hP hD hS ls hl
    unfold F_X5_nodeFor_71 at hF
    refine lv_istore (lv' := [(4, .int t0), (0, .ref (a 0)), (1, .int v1), (2, .int v2), (3, .int x3)]) hx hb dX5_nodeFor_71 hl (by decide) rfl (fun ls hl => ?_)
    refine lv_iload hx hb dX5_nodeFor_73 (lv_at hl 0 rfl) ?_
    refine lv_iconst (v := (-1 : Int32)) hx hb dX5_nodeFor_75 (by decide) ?_
    refine lv_icmp_ne (tgt := 100) hx hb dX5_nodeFor_76 (by decide) (fun c1 => ?_) (fun c1 => ?_)
    · have hF := F_neg c1 hF
      refine lv_iload hx hb dX5_nodeFor_100 (lv_at hl 0 rfl) ?_
      have e50 := Option.some.inj hF
      obtain ⟨e60, e51⟩ := Prod.mk.inj e50
      subst e60
      subst e51
      exact W.iret (v := t0) hx hb hr (fun t ht hW => ⟨⟨t0, S, rfl, ⟨rfl, rfl⟩, by rw [ht]; exact hP, va_K.moved hW.alike hK, hD⟩, hS.F ht⟩) hS.2.2 dX5_nodeFor_102
    · have hF := F_pos c1 hF
      refine lv_aload_n hx hb dX5_nodeFor_79 rfl (lv_at hl 1 rfl) ?_
      refine lv_iload_n hx hb dX5_nodeFor_80 rfl (lv_at hl 4 rfl) ?_
      refine lv_aload_n hx hb dX5_nodeFor_81 rfl (lv_at hl 1 rfl) ?_
      refine va_get (D := (dC, dI)) (ci := 5) (v := .ref (a 6)) (C := RX5) (T := TX5) (N := 26) hx hb hts hinX5 hown hK hP 0 rfl rfl 10 (by decide) (hts (Cond.fieldLink RX5 25 "LearnedShapesModel" "letters" "[I") (List.mem_of_getElem? (i := 5) rfl)) (fun _ h9 => h9) rfl dX5_nodeFor_82 ?_
      refine lv_iload_n hx hb dX5_nodeFor_85 rfl (lv_at hl 2 rfl) ?_
      obtain ⟨g2, hF⟩ := og_some hF
      refine va_iald (f := (g_Model_letters S)) hx hb hK hP 6 0 rfl rfl (inb_in g2) dX5_nodeFor_86 ?_
      refine lv_aload_n hx hb dX5_nodeFor_87 rfl (lv_at hl 1 rfl) ?_
      refine va_get (D := (dC, dI)) (ci := 5) (v := .ref (a 4)) (C := RX5) (T := TX5) (N := 26) hx hb hts hinX5 hown hK hP 0 rfl rfl 8 (by decide) (hts (Cond.fieldLink RX5 19 "LearnedShapesModel" "kinds" "[I") (List.mem_of_getElem? (i := 6) rfl)) (fun _ h9 => h9) rfl dX5_nodeFor_88 ?_
      refine lv_iload_n hx hb dX5_nodeFor_91 rfl (lv_at hl 2 rfl) ?_
      obtain ⟨g3, hF⟩ := og_some hF
      refine va_iald (f := (g_Model_kinds S)) hx hb hK hP 4 0 rfl rfl (inb_in g3) dX5_nodeFor_92 ?_
      refine lv_iload_n hx hb dX5_nodeFor_93 rfl (lv_at hl 3 rfl) ?_
      obtain ⟨r4, u5, h6, hF⟩ := ob2_some hF
      have hPc : va_P (dC, dI) vwCl ((W_Model cI a S)) H := hP
      have hDc : va_D A ((W_Model cI a S)) := hD
      have hFc := va_free (wc := (W_Model cI a S)) hD hS hA [0, 1, 2, 3, 4, 5, 6, 7, 8, 9, 10, 11, 12, 13] rfl
      refine va_calli (va_runV (As := [.int x3, .int ((g_Model_letters S) v1.toNatClampNeg), .int ((g_Model_kinds S) v1.toNatClampNeg), .int v2]) (rest := []) ⟨hx, hb, hml, hown, hts⟩ (c_X5_makes l dC dI cI a H.size _ _ _ _ _ _ _ h6) (cwV 4 hts gX5_nodeFor_X5_makes rfl rfl rfl (by decide +kernel) ⟨Nat.le_of_ble_eq_true rfl, Nat.le_of_ble_eq_true rfl⟩) (jPreV hK hPc hDc hN (ci := 5) rfl rfl) rfl rfl hl.1 rfl (lv_room (Nat.le_of_ble_eq_true rfl)) dX5_nodeFor_94 ⟨Nat.le_of_ble_eq_true rfl, Nat.le_of_ble_eq_true rfl⟩) hS (fun q _ h => hFc q h) hFc (fun r' u' t H locs ht hvm hw hB hz1 hk1 hS => ?_)
      obtain ⟨e1, e2⟩ := hw
      subst e1
      subst e2
      obtain ⟨hP1, -, hD1⟩ := hB
      rw [ht] at hP1
      have hP : va_P (dC, dI) vwCl ((W_Model cI a u5)) H := hP1
      have hD : va_D A ((W_Model cI a u5)) := hD1.weaken (fun _ _ _ h => hFc _ h)
      refine lv_goto (tgt := 102) hx hb dX5_nodeFor_97 (by decide) ?_
      have e50 := Option.some.inj hF
      obtain ⟨e60, e51⟩ := Prod.mk.inj e50
      subst e60
      subst e51
      exact W.iret (v := r4) hx hb hr (fun t ht hW => ⟨⟨r4, u5, rfl, ⟨rfl, rfl⟩, by rw [ht]; exact hP, va_K.moved hW.alike hK, hD⟩, hS.F ht⟩) hS.2.2 dX5_nodeFor_102
  have K45 : ∀ (S : S_Model) (x3 : Int32) (H : Heap) (locs : List Loc), F_X5_nodeFor_45 v1 v2 S x3 = some (rr, Y) → va_P (dC, dI) vwCl ((W_Model cI a S)) H → va_D A ((W_Model cI a S)) → va_S A s.heap H locs → ∀ ls : Array Slot, lv_has ls 5 [(0, .ref (a 0)), (1, .int v1), (2, .int v2), (3, .int x3)] → W p l e (headSpec wsX5_nodeFor ({ frames := 1, cells := 0, slots := 0, locals := 25 } : Room)).room s m ([.ref (a 0), .int v1, .int v2] : List Value).toArray below meth c H locs 0 0 (MQ below (va_Qi (fun (r' : Int32) (u : S_Model) => rr = r' ∧ Y = u) (fun u : S_Model => jB (dC, dI) [(cI, .int)] A ((W_Model cI a u))) A) ([.ref (a 0), .int v1, .int v2] : List Value).toArray s 0 0 A) (F0 m 45 ls []) := by
    intro S x3 H locs hF hP hD hS ls hl
    unfold F_X5_nodeFor_45 at hF
    refine lv_iload_n hx hb dX5_nodeFor_45 rfl (lv_at hl 1 rfl) ?_
    refine lv_if_ne (tgt := 60) hx hb dX5_nodeFor_46 (by decide) (fun c7 => ?_) (fun c7 => ?_)
    · have hF := F_neg c7 hF
      refine lv_aload_n hx hb dX5_nodeFor_60 rfl (lv_at hl 0 rfl) ?_
      refine lv_iload_n hx hb dX5_nodeFor_61 rfl (lv_at hl 3 rfl) ?_
      refine lv_aload_n hx hb dX5_nodeFor_62 rfl (lv_at hl 0 rfl) ?_
      refine va_get (D := (dC, dI)) (ci := 5) (v := .ref (a 6)) (C := RX5) (T := TX5) (N := 26) hx hb hts hinX5 hown hK hP 0 rfl rfl 10 (by decide) (hts (Cond.fieldLink RX5 25 "LearnedShapesModel" "letters" "[I") (List.mem_of_getElem? (i := 5) rfl)) (fun _ h9 => h9) rfl dX5_nodeFor_63 ?_
      refine lv_iload_n hx hb dX5_nodeFor_66 rfl (lv_at hl 1 rfl) ?_
      obtain ⟨g8, hF⟩ := og_some hF
      refine va_iald (f := (g_Model_letters S)) hx hb hK hP 6 0 rfl rfl (inb_in g8) dX5_nodeFor_67 ?_
      obtain ⟨r9, h10, hF⟩ := ob1_some hF
      have hPc : va_P (dC, dI) vwCl ((W_Model cI a S)) H := hP
      have hDc : va_D A ((W_Model cI a S)) := hD
      have hFc := va_free (wc := (W_Model cI a S)) hD hS hA [0, 1, 2, 3, 4, 5, 6, 7, 8, 9, 10, 11, 12, 13] rfl
      refine va_calli (va_runV (As := [.int x3, .int ((g_Model_letters S) v1.toNatClampNeg)]) (rest := []) ⟨hx, hb, hml, hown, hts⟩ (c_X5_childAt l dC dI cI a H.size _ _ _ _ h10) (cwV 2 hts gX5_nodeFor_X5_childAt rfl rfl rfl (by decide +kernel) ⟨Nat.le_of_ble_eq_true rfl, Nat.le_of_ble_eq_true rfl⟩) (jPreV hK hPc hDc hN (ci := 5) rfl rfl) rfl rfl hl.1 rfl (lv_room (Nat.le_of_ble_eq_true rfl)) dX5_nodeFor_68 ⟨Nat.le_of_ble_eq_true rfl, Nat.le_of_ble_eq_true rfl⟩) hS (fun q _ h => hFc q h) hFc (fun r' u' t H locs ht hvm hw hB hz1 hk1 hS => ?_)
      subst hw
      obtain ⟨hP1, -, hD1⟩ := hB
      rw [ht] at hP1
      have hP : va_P (dC, dI) vwCl ((W_Model cI a S)) H := hP1
      have hD : va_D A ((W_Model cI a S)) := hD1.weaken (fun _ _ _ h => hFc _ h)
      exact K71 _ _ _ _ _ hF hP hD hS _ (lv_sub hl [0, 1, 2, 3] rfl)
    · have hF := F_pos c7 hF
      refine lv_aload_n hx hb dX5_nodeFor_49 rfl (lv_at hl 0 rfl) ?_
      refine va_get (D := (dC, dI)) (ci := 5) (v := .int (g_Model_top S)) (C := RX5) (T := TX5) (N := 26) hx hb hts hinX5 hown hK hP 0 rfl rfl 19 (by decide) (hts (Cond.fieldLink RX5 123 "LearnedShapesModel" "top" "I") (List.mem_of_getElem? (i := 4) rfl)) (fun _ h9 => h9) rfl dX5_nodeFor_50 ?_
      refine lv_if_le (tgt := 60) hx hb dX5_nodeFor_53 (by decide) (fun c11 => ?_) (fun c11 => ?_)
      · have hF := F_pos c11 hF
        refine lv_aload_n hx hb dX5_nodeFor_60 rfl (lv_at hl 0 rfl) ?_
        refine lv_iload_n hx hb dX5_nodeFor_61 rfl (lv_at hl 3 rfl) ?_
        refine lv_aload_n hx hb dX5_nodeFor_62 rfl (lv_at hl 0 rfl) ?_
        refine va_get (D := (dC, dI)) (ci := 5) (v := .ref (a 6)) (C := RX5) (T := TX5) (N := 26) hx hb hts hinX5 hown hK hP 0 rfl rfl 10 (by decide) (hts (Cond.fieldLink RX5 25 "LearnedShapesModel" "letters" "[I") (List.mem_of_getElem? (i := 5) rfl)) (fun _ h9 => h9) rfl dX5_nodeFor_63 ?_
        refine lv_iload_n hx hb dX5_nodeFor_66 rfl (lv_at hl 1 rfl) ?_
        obtain ⟨g12, hF⟩ := og_some hF
        refine va_iald (f := (g_Model_letters S)) hx hb hK hP 6 0 rfl rfl (inb_in g12) dX5_nodeFor_67 ?_
        obtain ⟨r13, h14, hF⟩ := ob1_some hF
        have hPc : va_P (dC, dI) vwCl ((W_Model cI a S)) H := hP
        have hDc : va_D A ((W_Model cI a S)) := hD
        have hFc := va_free (wc := (W_Model cI a S)) hD hS hA [0, 1, 2, 3, 4, 5, 6, 7, 8, 9, 10, 11, 12, 13] rfl
        refine va_calli (va_runV (As := [.int x3, .int ((g_Model_letters S) v1.toNatClampNeg)]) (rest := []) ⟨hx, hb, hml, hown, hts⟩ (c_X5_childAt l dC dI cI a H.size _ _ _ _ h14) (cwV 2 hts gX5_nodeFor_X5_childAt rfl rfl rfl (by decide +kernel) ⟨Nat.le_of_ble_eq_true rfl, Nat.le_of_ble_eq_true rfl⟩) (jPreV hK hPc hDc hN (ci := 5) rfl rfl) rfl rfl hl.1 rfl (lv_room (Nat.le_of_ble_eq_true rfl)) dX5_nodeFor_68 ⟨Nat.le_of_ble_eq_true rfl, Nat.le_of_ble_eq_true rfl⟩) hS (fun q _ h => hFc q h) hFc (fun r' u' t H locs ht hvm hw hB hz1 hk1 hS => ?_)
        subst hw
        obtain ⟨hP1, -, hD1⟩ := hB
        rw [ht] at hP1
        have hP : va_P (dC, dI) vwCl ((W_Model cI a S)) H := hP1
        have hD : va_D A ((W_Model cI a S)) := hD1.weaken (fun _ _ _ h => hFc _ h)
        exact K71 _ _ _ _ _ hF hP hD hS _ (lv_sub hl [0, 1, 2, 3] rfl)
      · have hF := F_neg c11 hF
        refine lv_iconst (v := (0 : Int32)) hx hb dX5_nodeFor_56 (by decide) ?_
        refine lv_goto (tgt := 71) hx hb dX5_nodeFor_57 (by decide) ?_
        exact K71 _ _ _ _ _ hF hP hD hS _ (lv_sub hl [0, 1, 2, 3] rfl)
  have K19 : ∀ (S : S_Model) (t0 : Int32) (H : Heap) (locs : List Loc), F_X5_nodeFor_19 v1 v2 S t0 = some (rr, Y) → va_P (dC, dI) vwCl ((W_Model cI a S)) H → va_D A ((W_Model cI a S)) → va_S A s.heap H locs → ∀ ls : Array Slot, lv_has ls 5 [(0, .ref (a 0)), (1, .int v1), (2, .int v2)] → W p l e (headSpec wsX5_nodeFor ({ frames := 1, cells := 0, slots := 0, locals := 25 } : Room)).room s m ([.ref (a 0), .int v1, .int v2] : List Value).toArray below meth c H locs 0 0 (MQ below (va_Qi (fun (r' : Int32) (u : S_Model) => rr = r' ∧ Y = u) (fun u : S_Model => jB (dC, dI) [(cI, .int)] A ((W_Model cI a u))) A) ([.ref (a 0), .int v1, .int v2] : List Value).toArray s 0 0 A) (F0 m 19 ls [.int t0]) := by
    intro S t0 H locs hF hP hD hS ls hl
    unfold F_X5_nodeFor_19 at hF
    refine lv_istore_n (lv' := [(3, .int t0), (0, .ref (a 0)), (1, .int v1), (2, .int v2)]) hx hb dX5_nodeFor_19 rfl hl (by decide) rfl (fun ls hl => ?_)
    refine lv_iload_n hx hb dX5_nodeFor_20 rfl (lv_at hl 2 rfl) ?_
    refine lv_if_le (tgt := 45) hx hb dX5_nodeFor_21 (by decide) (fun c15 => ?_) (fun c15 => ?_)
    · have hF := F_pos c15 hF
      exact K45 _ _ _ _ hF hP hD hS _ (lv_sub hl [1, 2, 3, 0] rfl)
    · have hF := F_neg c15 hF
      refine lv_iload_n hx hb dX5_nodeFor_24 rfl (lv_at hl 0 rfl) ?_
      refine lv_iconst (v := (-1 : Int32)) hx hb dX5_nodeFor_25 (by decide) ?_
      refine lv_icmp_eq (tgt := 43) hx hb dX5_nodeFor_26 (by decide) (fun c16 => ?_) (fun c16 => ?_)
      · have hF := F_pos c16 hF
        refine lv_iconst (v := (-1 : Int32)) hx hb dX5_nodeFor_43 (by decide) ?_
        have e50 := Option.some.inj hF
        obtain ⟨e60, e51⟩ := Prod.mk.inj e50
        subst e60
        subst e51
        exact W.iret (v := (-1 : Int32)) hx hb hr (fun t ht hW => ⟨⟨(-1 : Int32), S, rfl, ⟨rfl, rfl⟩, by rw [ht]; exact hP, va_K.moved hW.alike hK, hD⟩, hS.F ht⟩) hS.2.2 dX5_nodeFor_44
      · have hF := F_neg c16 hF
        refine lv_aload_n hx hb dX5_nodeFor_29 rfl (lv_at hl 1 rfl) ?_
        refine va_get (D := (dC, dI)) (ci := 5) (v := .ref (a 11)) (C := RX5) (T := TX5) (N := 26) hx hb hts hinX5 hown hK hP 0 rfl rfl 18 (by decide) (hts (Cond.fieldLink RX5 40 "LearnedShapesModel" "tree" "[I") (List.mem_of_getElem? (i := 3) rfl)) (fun _ h9 => h9) rfl dX5_nodeFor_30 ?_
        refine lv_bipush (v := (7 : Int32)) hx hb dX5_nodeFor_33 (by decide) ?_
        refine lv_iload_n hx hb dX5_nodeFor_35 rfl (lv_at hl 0 rfl) ?_
        refine lv_imul hx hb dX5_nodeFor_36 ?_
        obtain ⟨g17, hF⟩ := og_some hF
        refine va_iald (f := (g_Model_tree S)) hx hb hK hP 11 0 rfl rfl (inb_in g17) dX5_nodeFor_37 ?_
        refine lv_bipush (v := (7 : Int32)) hx hb dX5_nodeFor_38 (by decide) ?_
        refine lv_icmp_ne (tgt := 45) hx hb dX5_nodeFor_40 (by decide) (fun c18 => ?_) (fun c18 => ?_)
        · have hF := F_neg c18 hF
          exact K45 _ _ _ _ hF hP hD hS _ (lv_sub hl [1, 2, 3, 0] rfl)
        · have hF := F_pos c18 hF
          refine lv_iconst (v := (-1 : Int32)) hx hb dX5_nodeFor_43 (by decide) ?_
          have e50 := Option.some.inj hF
          obtain ⟨e60, e51⟩ := Prod.mk.inj e50
          subst e60
          subst e51
          exact W.iret (v := (-1 : Int32)) hx hb hr (fun t ht hW => ⟨⟨(-1 : Int32), S, rfl, ⟨rfl, rfl⟩, by rw [ht]; exact hP, va_K.moved hW.alike hK, hD⟩, hS.F ht⟩) hS.2.2 dX5_nodeFor_44
  have KE : ∀ (H : Heap) (locs : List Loc), va_P (dC, dI) vwCl ((W_Model cI a S)) H → va_D A ((W_Model cI a S)) → va_S A s.heap H locs → W p l e (headSpec wsX5_nodeFor ({ frames := 1, cells := 0, slots := 0, locals := 25 } : Room)).room s m ([.ref (a 0), .int v1, .int v2] : List Value).toArray below meth c H locs 0 0 (MQ below (va_Qi (fun (r' : Int32) (u : S_Model) => rr = r' ∧ Y = u) (fun u : S_Model => jB (dC, dI) [(cI, .int)] A ((W_Model cI a u))) A) ([.ref (a 0), .int v1, .int v2] : List Value).toArray s 0 0 A) (F0 m 0 ls []) := by
    intro H locs hP hD hS
    unfold F_X5_nodeFor at hF
    refine lv_iload_n hx hb dX5_nodeFor_0 rfl (lv_at hl 1 rfl) ?_
    refine lv_if_ne (tgt := 8) hx hb dX5_nodeFor_1 (by decide) (fun c19 => ?_) (fun c19 => ?_)
    · have hF := F_neg c19 hF
      refine lv_aload_n hx hb dX5_nodeFor_8 rfl (lv_at hl 0 rfl) ?_
      refine va_get (D := (dC, dI)) (ci := 5) (v := .ref (a 12)) (C := RX5) (T := TX5) (N := 26) hx hb hts hinX5 hown hK hP 0 rfl rfl 20 (by decide) (hts (Cond.fieldLink RX5 43 "LearnedShapesModel" "place" "[I") (List.mem_of_getElem? (i := 1) rfl)) (fun _ h9 => h9) rfl dX5_nodeFor_9 ?_
      refine lv_aload_n hx hb dX5_nodeFor_12 rfl (lv_at hl 0 rfl) ?_
      refine va_get (D := (dC, dI)) (ci := 5) (v := .ref (a 5)) (C := RX5) (T := TX5) (N := 26) hx hb hts hinX5 hown hK hP 0 rfl rfl 9 (by decide) (hts (Cond.fieldLink RX5 22 "LearnedShapesModel" "above" "[I") (List.mem_of_getElem? (i := 2) rfl)) (fun _ h9 => h9) rfl dX5_nodeFor_13 ?_
      refine lv_iload_n hx hb dX5_nodeFor_16 rfl (lv_at hl 1 rfl) ?_
      obtain ⟨g20, hF⟩ := og_some hF
      refine va_iald (f := (g_Model_above S)) hx hb hK hP 5 0 rfl rfl (inb_in g20) dX5_nodeFor_17 ?_
      obtain ⟨g21, hF⟩ := og_some hF
      refine va_iald (f := (g_Model_place S)) hx hb hK hP 12 0 rfl rfl (inb_in g21) dX5_nodeFor_18 ?_
      exact K19 _ _ _ _ hF hP hD hS _ (lv_sub hl [0, 1, 2] rfl)
    · have hF := F_pos c19 hF
      refine lv_iconst (v := (-1 : Int32)) hx hb dX5_nodeFor_4 (by decide) ?_
      refine lv_goto (tgt := 19) hx hb dX5_nodeFor_5 (by decide) ?_
      exact K19 _ _ _ _ hF hP hD hS _ (lv_sub hl [0, 1, 2] rfl)
  exact KE _ _ hP hD hS
set_option maxHeartbeats 4000000 in
set_option maxRecDepth 100000 in
theorem c_X5_shows (l : Launch) (dC : Nat → ClassId) (dI : Nat → Nat → Nat) (cI : ClassId) (a : Nat → Nat) (sz : Nat) (S : S_Model) (v1 : Int32) (Y : S_Model) (hF : F_X5_shows S v1 = some Y) : Met l yX5_shows wsX5_shows ({ frames := 2, cells := 0, slots := 0, locals := 49 } : Room) (va_Pc [.ref (a 0), .int v1] (jPre (dC, dI) [(cI, .int)] sz ((W_Model cI a S)))) (va_Qv (fun u : S_Model => Y = u) (fun u : S_Model => jB (dC, dI) [(cI, .int)] (va_A ((W_Model cI a S)) sz) ((W_Model cI a u))) (va_A ((W_Model cI a S)) sz)) 0 0 (va_A ((W_Model cI a S)) sz) := by
  refine Met.ofW (cc := cX5_shows) (maxL := 6) (ret := none) (by decide) rfl ?_
  intro p e s m args below meth c s₁ B hml hv
  obtain ⟨rfl, hsz, hP, hK, hD0, hN⟩ := hv
  have hx := B.exec
  have hb := B.bytes
  have hr := B.returns
  have hts := atoms_spec (ws := wsX5_shows) B.pre
  have hown : s.vm.findClass RX5 = some m.cls := findClass_of_methodNamed B.named
  have hlocks := B.notSynchronized
  have hinX5 : ∀ w ∈ u_ws RX5 TX5 26, w ∈ wsX5_shows := by decide +kernel
  subst hsz
  have hD := hD0.self (sz := s.heap.size)
  generalize hAe : (va_A ((W_Model cI a S)) s.heap.size) = A at hD ⊢
  have hA : ∀ q : Nat, s.heap.size ≤ q → A q := fun q h => by rw [← hAe]; exact Or.inr h
  have hS : va_S A s.heap s.heap [] := va_S.rf
  have hl := lv_entry ([.ref (a 0), .int v1]) (n := 6) (Nat.le_of_ble_eq_true rfl)
  rw [lg_entry_eq]
  generalize (lg_sl ([.ref (a 0), .int v1]) ++ List.replicate (6 - (lg_sl ([.ref (a 0), .int v1])).length) Slot.unset).toArray = ls at hl ⊢
  have hl : lv_has ls 6 [(0, .ref (a 0)), (1, .int v1)] := hl
  have K18 : ∀ (n18 : Nat) (S : S_Model) (x2 : Int32) (x3 : Int32) (H : Heap) (locs : List Loc), F_X5_shows_18 n18 S x2 x3 = some Y → va_P (dC, dI) vwCl ((W_Model cI a S)) H → va_D A ((W_Model cI a S)) → va_S A s.heap H locs → ∀ ls : Array Slot, lv_has ls 6 [(0, .ref (a 0)), (2, .int x2), (3, .int x3)] → W p l e (headSpec wsX5_shows ({ frames := 2, cells := 0, slots := 0, locals := 49 } : Room)).room s m ([.ref (a 0), .int v1] : List Value).toArray below meth c H locs 0 0 (MQ below (va_Qv (fun u : S_Model => Y = u) (fun u : S_Model => jB (dC, dI) [(cI, .int)] A ((W_Model cI a u))) A) ([.ref (a 0), .int v1] : List Value).toArray s 0 0 A) (F0 m 18 ls []) := by
    intro n18
    induction n18 with
    | zero => intro S x2 x3 H locs hF; exact nomatch hF
    | succ n18 ih18 =>
      intro S x2 x3 H locs hF hP hD hS ls hl
      rw [F_X5_shows_18_s] at hF
      have K126 : ∀ (S : S_Model) (x2 : Int32) (x3 : Int32) (x4 : Int32) (x5 : Int32) (t1 : Int32) (t2 : Int32) (H : Heap) (locs : List Loc), F_X5_shows_126 (F_X5_shows_18 n18) S x2 x3 x4 x5 t1 t2 = some Y → va_P (dC, dI) vwCl ((W_Model cI a S)) H → va_D A ((W_Model cI a S)) → va_S A s.heap H locs → ∀ ls : Array Slot, lv_has ls 6 [(0, .ref (a 0)), (2, .int x2), (3, .int x3), (4, .int x4), (5, .int x5)] → W p l e (headSpec wsX5_shows ({ frames := 2, cells := 0, slots := 0, locals := 49 } : Room)).room s m ([.ref (a 0), .int v1] : List Value).toArray below meth c H locs 0 0 (MQ below (va_Qv (fun u : S_Model => Y = u) (fun u : S_Model => jB (dC, dI) [(cI, .int)] A ((W_Model cI a u))) A) ([.ref (a 0), .int v1] : List Value).toArray s 0 0 A) (F0 m 126 ls [.int t2, .int t1, .ref (a 11)]) := by
        intro S x2 x3 x4 x5 t1 t2 H locs hF hP hD hS ls hl
        unfold F_X5_shows_126 at hF
        obtain ⟨g1, hF⟩ := og_some hF
        refine va_iast (f := (g_Model_tree S)) hx hb hK hP hD hS 11 0 rfl rfl (inb_in g1) dX5_shows_126 (fun H locs hP hD hS => ?_)
        have hP : va_P (dC, dI) vwCl ((W_Model cI a (s_Model_tree S (upd (g_Model_tree S) t1.toNatClampNeg t2)))) H := hP
        have hD : va_D A ((W_Model cI a (s_Model_tree S (upd (g_Model_tree S) t1.toNatClampNeg t2)))) := hD
        refine lv_aload_n hx hb dX5_shows_127 rfl (lv_at hl 0 rfl) ?_
        refine lv_iload hx hb dX5_shows_128 (lv_at hl 3 rfl) ?_
        refine lv_aload_n hx hb dX5_shows_130 rfl (lv_at hl 0 rfl) ?_
        refine va_get (D := (dC, dI)) (ci := 5) (v := .ref (a 11)) (C := RX5) (T := TX5) (N := 26) hx hb hts hinX5 hown hK hP 0 rfl rfl 18 (by decide) (hts (Cond.fieldLink RX5 40 "LearnedShapesModel" "tree" "[I") (List.mem_of_getElem? (i := 4) rfl)) (fun _ h9 => h9) rfl dX5_shows_131 ?_
        refine lv_iload hx hb dX5_shows_134 (lv_at hl 4 rfl) ?_
        obtain ⟨g2, hF⟩ := og_some hF
        refine va_iald (f := (upd (g_Model_tree S) t1.toNatClampNeg t2)) hx hb hK hP 11 0 rfl rfl (inb_in g2) dX5_shows_136 ?_
        refine lv_aload_n hx hb dX5_shows_137 rfl (lv_at hl 0 rfl) ?_
        refine va_get (D := (dC, dI)) (ci := 5) (v := .ref (a 4)) (C := RX5) (T := TX5) (N := 26) hx hb hts hinX5 hown hK hP 0 rfl rfl 8 (by decide) (hts (Cond.fieldLink RX5 19 "LearnedShapesModel" "kinds" "[I") (List.mem_of_getElem? (i := 5) rfl)) (fun _ h9 => h9) rfl dX5_shows_138 ?_
        refine lv_iload_n hx hb dX5_shows_141 rfl (lv_at hl 2 rfl) ?_
        obtain ⟨g3, hF⟩ := og_some hF
        refine va_iald (f := (g_Model_kinds S)) hx hb hK hP 4 0 rfl rfl (inb_in g3) dX5_shows_142 ?_
        obtain ⟨r4, h5, hF⟩ := ob1_some hF
        have hPc := hP.sub (ws' := ([] : va_W)) [] rfl
        have hDc := hD.sub (ws' := ([] : va_W)) [] (by decide) rfl
        have hFc := va_free (wc := ([] : va_W)) hD hS hA [] rfl
        refine va_calli (va_runS (As := [.int ((upd (g_Model_tree S) t1.toNatClampNeg t2) x5.toNatClampNeg), .int ((g_Model_kinds S) x3.toNatClampNeg)]) (rest := [.int x4, .ref (a 0)]) ⟨hx, hb, hml, hown, hts⟩ (c_X5_joined l dC dI cI  H.size _ _ _ h5) (va_cwS 2 hts gX5_shows_X5_joined rfl rfl rfl (by decide +kernel) ⟨Nat.le_of_ble_eq_true rfl, Nat.le_of_ble_eq_true rfl⟩) (jPreS hK hPc hDc hN) rfl rfl hl.1 rfl (lv_room (Nat.le_of_ble_eq_true rfl)) dX5_shows_143 ⟨Nat.le_of_ble_eq_true rfl, Nat.le_of_ble_eq_true rfl⟩) hS (fun q _ h => hFc q h) hFc (fun r' u' t H locs ht hvm hw hB hz1 hk1 hS => ?_)
        subst hw
        obtain ⟨hP1, -, hD1⟩ := hB
        rw [ht] at hP1
        obtain ⟨hP, hD⟩ := jJoin (wc := ([] : va_W)) (w1 := ([] : va_W)) (ws' := (W_Model cI a (s_Model_tree S (upd (g_Model_tree S) t1.toNatClampNeg t2)))) hP hD [] [0, 1, 2, 3, 4, 5, 6, 7, 8, 9, 10, 11, 12, 13] [0, 1, 2, 3, 4, 5, 6, 7, 8, 9, 10, 11, 12, 13] rfl rfl (by decide) (by decide) hk1 hFc hP1 hD1 (by decide) rfl
        refine lv_iload_n hx hb dX5_shows_146 rfl (lv_at hl 1 rfl) ?_
        obtain ⟨u6, h7, hF⟩ := ob1_some hF
        have hPc : va_P (dC, dI) vwCl ((W_Model cI a (s_Model_tree S (upd (g_Model_tree S) t1.toNatClampNeg t2)))) H := hP
        have hDc : va_D A ((W_Model cI a (s_Model_tree S (upd (g_Model_tree S) t1.toNatClampNeg t2)))) := hD
        have hFc := va_free (wc := (W_Model cI a (s_Model_tree S (upd (g_Model_tree S) t1.toNatClampNeg t2)))) hD hS hA [0, 1, 2, 3, 4, 5, 6, 7, 8, 9, 10, 11, 12, 13] rfl
        refine va_callv (va_runV (As := [.int x4, .int r4, .int x2]) (rest := []) ⟨hx, hb, hml, hown, hts⟩ (c_X5_widens l dC dI cI a H.size _ _ _ _ _ h7) (cwV 3 hts gX5_shows_X5_widens rfl rfl rfl (by decide +kernel) ⟨Nat.le_of_ble_eq_true rfl, Nat.le_of_ble_eq_true rfl⟩) (jPreV hK hPc hDc hN (ci := 5) rfl rfl) rfl rfl hl.1 rfl (lv_room (Nat.le_of_ble_eq_true rfl)) dX5_shows_147 ⟨Nat.le_of_ble_eq_true rfl, Nat.le_of_ble_eq_true rfl⟩) hS (fun q _ h => hFc q h) hFc (fun u' t H locs ht hvm hw hB hz1 hk1 hS => ?_)
        subst hw
        obtain ⟨hP1, -, hD1⟩ := hB
        rw [ht] at hP1
        have hP : va_P (dC, dI) vwCl ((W_Model cI a u6)) H := hP1
        have hD : va_D A ((W_Model cI a u6)) := hD1.weaken (fun _ _ _ h => hFc _ h)
        refine lv_iinc (v := (x3 + (1 : Int32))) (lv' := [(3, .int (x3 + (1 : Int32))), (0, .ref (a 0)), (2, .int x2), (4, .int x4), (5, .int x5)]) hx hb dX5_shows_150 hl (k := 2) rfl rfl (by decide) rfl (fun ls hl => ?_)
        refine lv_goto (tgt := 18) hx hb dX5_shows_153 (by decide) ?_
        exact ih18 _ _ _ _ _ hF hP hD hS _ (lv_sub hl [1, 2, 0] rfl)
      have K94 : ∀ (S : S_Model) (x2 : Int32) (x3 : Int32) (x4 : Int32) (x5 : Int32) (t1 : Int32) (t2 : Int32) (t3 : Bool) (H : Heap) (locs : List Loc), F_X5_shows_94 (F_X5_shows_18 n18) S x2 x3 x4 x5 t1 t2 t3 = some Y → va_P (dC, dI) vwCl ((W_Model cI a S)) H → va_D A ((W_Model cI a S)) → va_S A s.heap H locs → ∀ ls : Array Slot, lv_has ls 6 [(0, .ref (a 0)), (2, .int x2), (3, .int x3), (4, .int x4), (5, .int x5)] → W p l e (headSpec wsX5_shows ({ frames := 2, cells := 0, slots := 0, locals := 49 } : Room)).room s m ([.ref (a 0), .int v1] : List Value).toArray below meth c H locs 0 0 (MQ below (va_Qv (fun u : S_Model => Y = u) (fun u : S_Model => jB (dC, dI) [(cI, .int)] A ((W_Model cI a u))) A) ([.ref (a 0), .int v1] : List Value).toArray s 0 0 A) (F0 m 94 ls [.int (b2i t3), .int t2, .int t1, .ref (a 11)]) := by
        intro S x2 x3 x4 x5 t1 t2 t3 H locs hF hP hD hS ls hl
        unfold F_X5_shows_94 at hF
        refine lv_iadd hx hb dX5_shows_94 ?_
        obtain ⟨g8, hF⟩ := og_some hF
        refine va_iast (f := (g_Model_tree S)) hx hb hK hP hD hS 11 0 rfl rfl (inb_in g8) dX5_shows_95 (fun H locs hP hD hS => ?_)
        have hP : va_P (dC, dI) vwCl ((W_Model cI a (s_Model_tree S (upd (g_Model_tree S) t1.toNatClampNeg (t2 + (b2i t3)))))) H := hP
        have hD : va_D A ((W_Model cI a (s_Model_tree S (upd (g_Model_tree S) t1.toNatClampNeg (t2 + (b2i t3)))))) := hD
        refine lv_aload_n hx hb dX5_shows_96 rfl (lv_at hl 0 rfl) ?_
        refine va_get (D := (dC, dI)) (ci := 5) (v := .ref (a 11)) (C := RX5) (T := TX5) (N := 26) hx hb hts hinX5 hown hK hP 0 rfl rfl 18 (by decide) (hts (Cond.fieldLink RX5 40 "LearnedShapesModel" "tree" "[I") (List.mem_of_getElem? (i := 4) rfl)) (fun _ h9 => h9) rfl dX5_shows_97 ?_
        refine lv_iload hx hb dX5_shows_100 (lv_at hl 4 rfl) ?_
        refine lv_iconst (v := (4 : Int32)) hx hb dX5_shows_102 (by decide) ?_
        refine lv_iadd hx hb dX5_shows_103 ?_
        refine lv_aload_n hx hb dX5_shows_104 rfl (lv_at hl 0 rfl) ?_
        refine va_get (D := (dC, dI)) (ci := 5) (v := .ref (a 4)) (C := RX5) (T := TX5) (N := 26) hx hb hts hinX5 hown hK hP 0 rfl rfl 8 (by decide) (hts (Cond.fieldLink RX5 19 "LearnedShapesModel" "kinds" "[I") (List.mem_of_getElem? (i := 5) rfl)) (fun _ h9 => h9) rfl dX5_shows_105 ?_
        refine lv_iload_n hx hb dX5_shows_108 rfl (lv_at hl 2 rfl) ?_
        obtain ⟨g9, hF⟩ := og_some hF
        refine va_iald (f := (g_Model_kinds S)) hx hb hK hP 4 0 rfl rfl (inb_in g9) dX5_shows_109 ?_
        refine lv_if_ne (tgt := 117) hx hb dX5_shows_110 (by decide) (fun c10 => ?_) (fun c10 => ?_)
        · have hF := F_neg c10 hF
          refine lv_aload_n hx hb dX5_shows_117 rfl (lv_at hl 0 rfl) ?_
          refine va_get (D := (dC, dI)) (ci := 5) (v := .ref (a 11)) (C := RX5) (T := TX5) (N := 26) hx hb hts hinX5 hown hK hP 0 rfl rfl 18 (by decide) (hts (Cond.fieldLink RX5 40 "LearnedShapesModel" "tree" "[I") (List.mem_of_getElem? (i := 4) rfl)) (fun _ h9 => h9) rfl dX5_shows_118 ?_
          refine lv_iload hx hb dX5_shows_121 (lv_at hl 4 rfl) ?_
          refine lv_iconst (v := (4 : Int32)) hx hb dX5_shows_123 (by decide) ?_
          refine lv_iadd hx hb dX5_shows_124 ?_
          obtain ⟨g11, hF⟩ := og_some hF
          refine va_iald (f := (upd (g_Model_tree S) t1.toNatClampNeg (t2 + (b2i t3)))) hx hb hK hP 11 0 rfl rfl (inb_in g11) dX5_shows_125 ?_
          exact K126 _ _ _ _ _ _ _ _ _ hF hP hD hS _ (lv_sub hl [0, 1, 2, 3, 4] rfl)
        · have hF := F_pos c10 hF
          refine lv_iconst (v := (1 : Int32)) hx hb dX5_shows_113 (by decide) ?_
          refine lv_goto (tgt := 126) hx hb dX5_shows_114 (by decide) ?_
          exact K126 _ _ _ _ _ _ _ _ _ hF hP hD hS _ (lv_sub hl [0, 1, 2, 3, 4] rfl)
      refine lv_iload_n hx hb dX5_shows_18 rfl (lv_at hl 2 rfl) ?_
      refine lv_aload_n hx hb dX5_shows_19 rfl (lv_at hl 0 rfl) ?_
      refine va_get (D := (dC, dI)) (ci := 5) (v := .int (g_Model_valued S)) (C := RX5) (T := TX5) (N := 26) hx hb hts hinX5 hown hK hP 0 rfl rfl 14 (by decide) (hts (Cond.fieldLink RX5 82 "LearnedShapesModel" "valued" "I") (List.mem_of_getElem? (i := 2) rfl)) (fun _ h9 => h9) rfl dX5_shows_20 ?_
      refine lv_icmp_ge (tgt := 156) hx hb dX5_shows_23 (by decide) (fun c12 => ?_) (fun c12 => ?_)
      · have hF := F_pos c12 hF
        have e50 := Option.some.inj hF
        subst e50
        exact W.vret hx hb hr (fun t ht hW => ⟨⟨S, rfl, rfl, by rw [ht]; exact hP, va_K.moved hW.alike hK, hD⟩, hS.F ht⟩) hS.2.2 dX5_shows_156
      · have hF := F_neg c12 hF
        refine lv_aload_n hx hb dX5_shows_26 rfl (lv_at hl 0 rfl) ?_
        refine lv_iload_n hx hb dX5_shows_27 rfl (lv_at hl 2 rfl) ?_
        refine lv_iload_n hx hb dX5_shows_28 rfl (lv_at hl 1 rfl) ?_
        obtain ⟨r13, u14, h15, hF⟩ := ob2_some hF
        have hPc : va_P (dC, dI) vwCl ((W_Model cI a S)) H := hP
        have hDc : va_D A ((W_Model cI a S)) := hD
        have hFc := va_free (wc := (W_Model cI a S)) hD hS hA [0, 1, 2, 3, 4, 5, 6, 7, 8, 9, 10, 11, 12, 13] rfl
        refine va_calli (va_runV (As := [.int x3, .int x2]) (rest := []) ⟨hx, hb, hml, hown, hts⟩ (c_X5_nodeFor l dC dI cI a H.size _ _ _ _ _ h15) (cwV 2 hts gX5_shows_X5_nodeFor rfl rfl rfl (by decide +kernel) ⟨Nat.le_of_ble_eq_true rfl, Nat.le_of_ble_eq_true rfl⟩) (jPreV hK hPc hDc hN (ci := 5) rfl rfl) rfl rfl hl.1 rfl (lv_room (Nat.le_of_ble_eq_true rfl)) dX5_shows_29 ⟨Nat.le_of_ble_eq_true rfl, Nat.le_of_ble_eq_true rfl⟩) hS (fun q _ h => hFc q h) hFc (fun r' u' t H locs ht hvm hw hB hz1 hk1 hS => ?_)
        obtain ⟨e1, e2⟩ := hw
        subst e1
        subst e2
        obtain ⟨hP1, -, hD1⟩ := hB
        rw [ht] at hP1
        have hP : va_P (dC, dI) vwCl ((W_Model cI a u14)) H := hP1
        have hD : va_D A ((W_Model cI a u14)) := hD1.weaken (fun _ _ _ h => hFc _ h)
        refine lv_istore (lv' := [(4, .int r13), (0, .ref (a 0)), (2, .int x2), (3, .int x3)]) hx hb dX5_shows_32 hl (by decide) rfl (fun ls hl => ?_)
        refine lv_aload_n hx hb dX5_shows_34 rfl (lv_at hl 1 rfl) ?_
        refine va_get (D := (dC, dI)) (ci := 5) (v := .ref (a 12)) (C := RX5) (T := TX5) (N := 26) hx hb hts hinX5 hown hK hP 0 rfl rfl 20 (by decide) (hts (Cond.fieldLink RX5 43 "LearnedShapesModel" "place" "[I") (List.mem_of_getElem? (i := 3) rfl)) (fun _ h9 => h9) rfl dX5_shows_35 ?_
        refine lv_iload_n hx hb dX5_shows_38 rfl (lv_at hl 3 rfl) ?_
        refine lv_iload hx hb dX5_shows_39 (lv_at hl 0 rfl) ?_
        obtain ⟨g16, hF⟩ := og_some hF
        refine va_iast (f := (g_Model_place u14)) hx hb hK hP hD hS 12 0 rfl rfl (inb_in g16) dX5_shows_41 (fun H locs hP hD hS => ?_)
        have hP : va_P (dC, dI) vwCl ((W_Model cI a (s_Model_place u14 (upd (g_Model_place u14) x3.toNatClampNeg r13)))) H := hP
        have hD : va_D A ((W_Model cI a (s_Model_place u14 (upd (g_Model_place u14) x3.toNatClampNeg r13)))) := hD
        refine lv_iload hx hb dX5_shows_42 (lv_at hl 0 rfl) ?_
        refine lv_iconst (v := (-1 : Int32)) hx hb dX5_shows_44 (by decide) ?_
        refine lv_icmp_eq (tgt := 150) hx hb dX5_shows_45 (by decide) (fun c17 => ?_) (fun c17 => ?_)
        · have hF := F_pos c17 hF
          refine lv_iinc (v := (x3 + (1 : Int32))) (lv' := [(3, .int (x3 + (1 : Int32))), (4, .int r13), (0, .ref (a 0)), (2, .int x2)]) hx hb dX5_shows_150 hl (k := 3) rfl rfl (by decide) rfl (fun ls hl => ?_)
          refine lv_goto (tgt := 18) hx hb dX5_shows_153 (by decide) ?_
          exact ih18 _ _ _ _ _ hF hP hD hS _ (lv_sub hl [2, 3, 0] rfl)
        · have hF := F_neg c17 hF
          refine lv_bipush (v := (7 : Int32)) hx hb dX5_shows_48 (by decide) ?_
          refine lv_iload hx hb dX5_shows_50 (lv_at hl 0 rfl) ?_
          refine lv_imul hx hb dX5_shows_52 ?_
          refine lv_istore (lv' := [(5, .int ((7 : Int32) * r13)), (4, .int r13), (0, .ref (a 0)), (2, .int x2), (3, .int x3)]) hx hb dX5_shows_53 hl (by decide) rfl (fun ls hl => ?_)
          refine lv_aload_n hx hb dX5_shows_55 rfl (lv_at hl 2 rfl) ?_
          refine va_get (D := (dC, dI)) (ci := 5) (v := .ref (a 11)) (C := RX5) (T := TX5) (N := 26) hx hb hts hinX5 hown hK hP 0 rfl rfl 18 (by decide) (hts (Cond.fieldLink RX5 40 "LearnedShapesModel" "tree" "[I") (List.mem_of_getElem? (i := 4) rfl)) (fun _ h9 => h9) rfl dX5_shows_56 ?_
          refine lv_iload hx hb dX5_shows_59 (lv_at hl 0 rfl) ?_
          refine lv_iconst (v := (3 : Int32)) hx hb dX5_shows_61 (by decide) ?_
          refine lv_iadd hx hb dX5_shows_62 ?_
          refine lv_dup2_11 hx hb dX5_shows_63 rfl rfl ?_
          obtain ⟨g18, hF⟩ := og_some hF
          refine va_iald (f := (g_Model_tree u14)) hx hb hK hP 11 0 rfl rfl (inb_in g18) dX5_shows_64 ?_
          refine lv_iconst (v := (1 : Int32)) hx hb dX5_shows_65 (by decide) ?_
          refine lv_iadd hx hb dX5_shows_66 ?_
          obtain ⟨g19, hF⟩ := og_some hF
          refine va_iast (f := (g_Model_tree u14)) hx hb hK hP hD hS 11 0 rfl rfl (inb_in g19) dX5_shows_67 (fun H locs hP hD hS => ?_)
          have hP : va_P (dC, dI) vwCl ((W_Model cI a (s_Model_place (s_Model_tree u14 (upd (g_Model_tree u14) (((7 : Int32) * r13) + (3 : Int32)).toNatClampNeg (((g_Model_tree u14) (((7 : Int32) * r13) + (3 : Int32)).toNatClampNeg) + (1 : Int32)))) (upd (g_Model_place u14) x3.toNatClampNeg r13)))) H := hP
          have hD : va_D A ((W_Model cI a (s_Model_place (s_Model_tree u14 (upd (g_Model_tree u14) (((7 : Int32) * r13) + (3 : Int32)).toNatClampNeg (((g_Model_tree u14) (((7 : Int32) * r13) + (3 : Int32)).toNatClampNeg) + (1 : Int32)))) (upd (g_Model_place u14) x3.toNatClampNeg r13)))) := hD
          refine lv_aload_n hx hb dX5_shows_68 rfl (lv_at hl 2 rfl) ?_
          refine va_get (D := (dC, dI)) (ci := 5) (v := .ref (a 11)) (C := RX5) (T := TX5) (N := 26) hx hb hts hinX5 hown hK hP 0 rfl rfl 18 (by decide) (hts (Cond.fieldLink RX5 40 "LearnedShapesModel" "tree" "[I") (List.mem_of_getElem? (i := 4) rfl)) (fun _ h9 => h9) rfl dX5_shows_69 ?_
          refine lv_iload hx hb dX5_shows_72 (lv_at hl 0 rfl) ?_
          refine lv_iconst (v := (5 : Int32)) hx hb dX5_shows_74 (by decide) ?_
          refine lv_iadd hx hb dX5_shows_75 ?_
          refine lv_dup2_11 hx hb dX5_shows_76 rfl rfl ?_
          obtain ⟨g20, hF⟩ := og_some hF
          refine va_iald (f := (upd (g_Model_tree u14) (((7 : Int32) * r13) + (3 : Int32)).toNatClampNeg (((g_Model_tree u14) (((7 : Int32) * r13) + (3 : Int32)).toNatClampNeg) + (1 : Int32)))) hx hb hK hP 11 0 rfl rfl (inb_in g20) dX5_shows_77 ?_
          refine lv_aload_n hx hb dX5_shows_78 rfl (lv_at hl 2 rfl) ?_
          refine va_get (D := (dC, dI)) (ci := 5) (v := .ref (a 4)) (C := RX5) (T := TX5) (N := 26) hx hb hts hinX5 hown hK hP 0 rfl rfl 8 (by decide) (hts (Cond.fieldLink RX5 19 "LearnedShapesModel" "kinds" "[I") (List.mem_of_getElem? (i := 5) rfl)) (fun _ h9 => h9) rfl dX5_shows_79 ?_
          refine lv_iload_n hx hb dX5_shows_82 rfl (lv_at hl 4 rfl) ?_
          obtain ⟨g21, hF⟩ := og_some hF
          refine va_iald (f := (g_Model_kinds u14)) hx hb hK hP 4 0 rfl rfl (inb_in g21) dX5_shows_83 ?_
          refine lv_bipush (v := (6 : Int32)) hx hb dX5_shows_84 (by decide) ?_
          refine lv_icmp_ne (tgt := 93) hx hb dX5_shows_86 (by decide) (fun c22 => ?_) (fun c22 => ?_)
          · have hF := F_neg c22 hF
            refine lv_iconst (v := (0 : Int32)) hx hb dX5_shows_93 (by decide) ?_
            exact K94 _ _ _ _ _ _ _ _ _ _ hF hP hD hS _ (lv_sub hl [2, 3, 4, 1, 0] rfl)
          · have hF := F_pos c22 hF
            refine lv_iconst (v := (1 : Int32)) hx hb dX5_shows_89 (by decide) ?_
            refine lv_goto (tgt := 94) hx hb dX5_shows_90 (by decide) ?_
            exact K94 _ _ _ _ _ _ _ _ _ _ hF hP hD hS _ (lv_sub hl [2, 3, 4, 1, 0] rfl)
  have KE : ∀ (H : Heap) (locs : List Loc), va_P (dC, dI) vwCl ((W_Model cI a S)) H → va_D A ((W_Model cI a S)) → va_S A s.heap H locs → W p l e (headSpec wsX5_shows ({ frames := 2, cells := 0, slots := 0, locals := 49 } : Room)).room s m ([.ref (a 0), .int v1] : List Value).toArray below meth c H locs 0 0 (MQ below (va_Qv (fun u : S_Model => Y = u) (fun u : S_Model => jB (dC, dI) [(cI, .int)] A ((W_Model cI a u))) A) ([.ref (a 0), .int v1] : List Value).toArray s 0 0 A) (F0 m 0 ls []) := by
    intro H locs hP hD hS
    unfold F_X5_shows at hF
    refine lv_aload_n hx hb dX5_shows_0 rfl (lv_at hl 0 rfl) ?_
    refine lv_iload_n hx hb dX5_shows_1 rfl (lv_at hl 1 rfl) ?_
    obtain ⟨u23, h24, hF⟩ := ob1_some hF
    have hPc : va_P (dC, dI) vwCl ((W_Model cI a S)) H := hP
    have hDc : va_D A ((W_Model cI a S)) := hD
    have hFc := va_free (wc := (W_Model cI a S)) hD hS hA [0, 1, 2, 3, 4, 5, 6, 7, 8, 9, 10, 11, 12, 13] rfl
    refine va_callv (va_runV (As := [.int v1]) (rest := []) ⟨hx, hb, hml, hown, hts⟩ (c_X5_lays l dC dI cI a H.size _ _ _ h24) (cwV 1 hts gX5_shows_X5_lays rfl rfl rfl (by decide +kernel) ⟨Nat.le_of_ble_eq_true rfl, Nat.le_of_ble_eq_true rfl⟩) (jPreV hK hPc hDc hN (ci := 5) rfl rfl) rfl rfl hl.1 rfl (lv_room (Nat.le_of_ble_eq_true rfl)) dX5_shows_2 ⟨Nat.le_of_ble_eq_true rfl, Nat.le_of_ble_eq_true rfl⟩) hS (fun q _ h => hFc q h) hFc (fun u' t H locs ht hvm hw hB hz1 hk1 hS => ?_)
    subst hw
    obtain ⟨hP1, -, hD1⟩ := hB
    rw [ht] at hP1
    have hP : va_P (dC, dI) vwCl ((W_Model cI a u23)) H := hP1
    have hD : va_D A ((W_Model cI a u23)) := hD1.weaken (fun _ _ _ h => hFc _ h)
    refine lv_aload_n hx hb dX5_shows_5 rfl (lv_at hl 0 rfl) ?_
    refine va_get (D := (dC, dI)) (ci := 5) (v := .ref (a 1)) (C := RX5) (T := TX5) (N := 26) hx hb hts hinX5 hown hK hP 0 rfl rfl 0 (by decide) (hts (Cond.fieldLink RX5 7 "LearnedShapesModel" "now" "[I") (List.mem_of_getElem? (i := 1) rfl)) (fun _ h9 => h9) rfl dX5_shows_6 ?_
    refine lv_iconst (v := (1 : Int32)) hx hb dX5_shows_9 (by decide) ?_
    refine lv_iload_n hx hb dX5_shows_10 rfl (lv_at hl 1 rfl) ?_
    refine lv_iadd hx hb dX5_shows_11 ?_
    obtain ⟨g25, hF⟩ := og_some hF
    refine va_iald (f := (g_Model_now u23)) hx hb hK hP 1 0 rfl rfl (inb_in g25) dX5_shows_12 ?_
    refine lv_iconst (v := (1 : Int32)) hx hb dX5_shows_13 (by decide) ?_
    refine lv_iadd hx hb dX5_shows_14 ?_
    refine lv_istore_n (lv' := [(2, .int (((g_Model_now u23) ((1 : Int32) + v1).toNatClampNeg) + (1 : Int32))), (0, .ref (a 0)), (1, .int v1)]) hx hb dX5_shows_15 rfl hl (by decide) rfl (fun ls hl => ?_)
    refine lv_iconst (v := (0 : Int32)) hx hb dX5_shows_16 (by decide) ?_
    refine lv_istore_n (lv' := [(3, .int (0 : Int32)), (2, .int (((g_Model_now u23) ((1 : Int32) + v1).toNatClampNeg) + (1 : Int32))), (0, .ref (a 0)), (1, .int v1)]) hx hb dX5_shows_17 rfl hl (by decide) rfl (fun ls hl => ?_)
    exact K18 _ _ _ _ _ _ hF hP hD hS _ (lv_sub hl [2, 1, 0] rfl)
  exact KE _ _ hP hD hS
set_option maxHeartbeats 4000000 in
set_option maxRecDepth 100000 in
theorem c_X5_isRefused (l : Launch) (dC : Nat → ClassId) (dI : Nat → Nat → Nat) (cI : ClassId) (a : Nat → Nat) (sz : Nat) (S : S_Model)  (rr : Bool) (hF : F_X5_isRefused S  = some rr) : Met l yX5_isRefused wsX5_isRefused ({ frames := 1, cells := 0, slots := 0, locals := 22 } : Room) (va_Pc [.ref (a 0)] (jPre (dC, dI) [(cI, .int)] sz ((W_Model cI a S)))) (va_Qi (fun (r' : Int32) (_ : Unit) => b2i rr = r') (fun _ : Unit => jB (dC, dI) [(cI, .int)] (va_A ((W_Model cI a S)) sz) ((W_Model cI a S))) (va_A ((W_Model cI a S)) sz)) 0 0 (va_A ((W_Model cI a S)) sz) := by
  refine Met.ofW (cc := cX5_isRefused) (maxL := 1) (ret := (some .boolean)) (by decide) rfl ?_
  intro p e s m args below meth c s₁ B hml hv
  obtain ⟨rfl, hsz, hP, hK, hD0, hN⟩ := hv
  have hx := B.exec
  have hb := B.bytes
  have hr := B.returns
  have hts := atoms_spec (ws := wsX5_isRefused) B.pre
  have hown : s.vm.findClass RX5 = some m.cls := findClass_of_methodNamed B.named
  have hlocks := B.notSynchronized
  have hinX5 : ∀ w ∈ u_ws RX5 TX5 26, w ∈ wsX5_isRefused := by decide +kernel
  subst hsz
  have hD := hD0.self (sz := s.heap.size)
  generalize hAe : (va_A ((W_Model cI a S)) s.heap.size) = A at hD ⊢
  have hA : ∀ q : Nat, s.heap.size ≤ q → A q := fun q h => by rw [← hAe]; exact Or.inr h
  have hS : va_S A s.heap s.heap [] := va_S.rf
  have hl := lv_entry ([.ref (a 0)]) (n := 1) (Nat.le_of_ble_eq_true rfl)
  rw [lg_entry_eq]
  generalize (lg_sl ([.ref (a 0)]) ++ List.replicate (1 - (lg_sl ([.ref (a 0)])).length) Slot.unset).toArray = ls at hl ⊢
  have hl : lv_has ls 1 [(0, .ref (a 0))] := hl
  have KE : ∀ (H : Heap) (locs : List Loc), va_P (dC, dI) vwCl ((W_Model cI a S)) H → va_D A ((W_Model cI a S)) → va_S A s.heap H locs → W p l e (headSpec wsX5_isRefused ({ frames := 1, cells := 0, slots := 0, locals := 22 } : Room)).room s m ([.ref (a 0)] : List Value).toArray below meth c H locs 0 0 (MQ below (va_Qi (fun (r' : Int32) (_ : Unit) => b2i rr = r') (fun _ : Unit => jB (dC, dI) [(cI, .int)] A ((W_Model cI a S))) A) ([.ref (a 0)] : List Value).toArray s 0 0 A) (F0 m 0 ls []) := by
    intro H locs hP hD hS
    unfold F_X5_isRefused at hF
    refine lv_aload_n hx hb dX5_isRefused_0 rfl (lv_at hl 0 rfl) ?_
    obtain ⟨r1, h2, hF⟩ := ob1_some hF
    have hPc : va_P (dC, dI) vwCl ((W_Model cI a S)) H := hP
    have hDc : va_D A ((W_Model cI a S)) := hD
    have hFc := va_free (wc := (W_Model cI a S)) hD hS hA [0, 1, 2, 3, 4, 5, 6, 7, 8, 9, 10, 11, 12, 13] rfl
    refine va_calli (va_runV (As := []) (rest := []) ⟨hx, hb, hml, hown, hts⟩ (c_X5_nodes l dC dI cI a H.size _ _ h2) (cwV 0 hts gX5_isRefused_X5_nodes rfl rfl rfl (by decide +kernel) ⟨Nat.le_of_ble_eq_true rfl, Nat.le_of_ble_eq_true rfl⟩) (jPreV hK hPc hDc hN (ci := 5) rfl rfl) rfl rfl hl.1 rfl (lv_room (Nat.le_of_ble_eq_true rfl)) dX5_isRefused_1 ⟨Nat.le_of_ble_eq_true rfl, Nat.le_of_ble_eq_true rfl⟩) hS (fun q _ h => hFc q h) hFc (fun r' u' t H locs ht hvm hw hB hz1 hk1 hS => ?_)
    subst hw
    obtain ⟨hP1, -, hD1⟩ := hB
    rw [ht] at hP1
    have hP : va_P (dC, dI) vwCl ((W_Model cI a S)) H := hP1
    have hD : va_D A ((W_Model cI a S)) := hD1.weaken (fun _ _ _ h => hFc _ h)
    refine lv_bipush (v := (30 : Int32)) hx hb dX5_isRefused_4 (by decide) ?_
    refine lv_icmp_gt (tgt := 26) hx hb dX5_isRefused_6 (by decide) (fun c3 => ?_) (fun c3 => ?_)
    · have hF := F_pos c3 hF
      refine lv_iconst (v := (1 : Int32)) hx hb dX5_isRefused_26 (by decide) ?_
      refine lv_goto (tgt := 31) hx hb dX5_isRefused_27 (by decide) ?_
      have e50 := Option.some.inj hF
      subst e50
      exact W.zret (v := (1 : Int32)) hx hb hr (rfl) (fun t ht hW => ⟨⟨(1 : Int32), (), rfl, rfl, by rw [ht]; exact hP, va_K.moved hW.alike hK, hD⟩, hS.F ht⟩) hS.2.2 dX5_isRefused_31
    · have hF := F_neg c3 hF
      refine lv_aload_n hx hb dX5_isRefused_9 rfl (lv_at hl 0 rfl) ?_
      refine va_get (D := (dC, dI)) (ci := 5) (v := .ref (a 1)) (C := RX5) (T := TX5) (N := 26) hx hb hts hinX5 hown hK hP 0 rfl rfl 0 (by decide) (hts (Cond.fieldLink RX5 7 "LearnedShapesModel" "now" "[I") (List.mem_of_getElem? (i := 1) rfl)) (fun _ h9 => h9) rfl dX5_isRefused_10 ?_
      refine lv_iconst (v := (0 : Int32)) hx hb dX5_isRefused_13 (by decide) ?_
      obtain ⟨g4, hF⟩ := og_some hF
      refine va_iald (f := (g_Model_now S)) hx hb hK hP 1 0 rfl rfl (inb_in g4) dX5_isRefused_14 ?_
      refine lv_iconst (v := (1 : Int32)) hx hb dX5_isRefused_15 (by decide) ?_
      refine lv_icmp_ne (tgt := 30) hx hb dX5_isRefused_16 (by decide) (fun c5 => ?_) (fun c5 => ?_)
      · have hF := F_neg c5 hF
        refine lv_iconst (v := (0 : Int32)) hx hb dX5_isRefused_30 (by decide) ?_
        have e50 := Option.some.inj hF
        subst e50
        exact W.zret (v := (0 : Int32)) hx hb hr (rfl) (fun t ht hW => ⟨⟨(0 : Int32), (), rfl, rfl, by rw [ht]; exact hP, va_K.moved hW.alike hK, hD⟩, hS.F ht⟩) hS.2.2 dX5_isRefused_31
      · have hF := F_pos c5 hF
        refine lv_aload_n hx hb dX5_isRefused_19 rfl (lv_at hl 0 rfl) ?_
        refine va_get (D := (dC, dI)) (ci := 5) (v := .int (g_Model_becameAny S)) (C := RX5) (T := TX5) (N := 26) hx hb hts hinX5 hown hK hP 0 rfl rfl 22 (by decide) (hts (Cond.fieldLink RX5 126 "LearnedShapesModel" "becameAny" "Z") (List.mem_of_getElem? (i := 2) rfl)) (fun _ h9 => h9) rfl dX5_isRefused_20 ?_
        refine lv_if_eq (tgt := 30) hx hb dX5_isRefused_23 (by decide) (fun c6 => ?_) (fun c6 => ?_)
        · have hF := F_pos c6 hF
          refine lv_iconst (v := (0 : Int32)) hx hb dX5_isRefused_30 (by decide) ?_
          have e50 := Option.some.inj hF
          subst e50
          exact W.zret (v := (0 : Int32)) hx hb hr (rfl) (fun t ht hW => ⟨⟨(0 : Int32), (), rfl, rfl, by rw [ht]; exact hP, va_K.moved hW.alike hK, hD⟩, hS.F ht⟩) hS.2.2 dX5_isRefused_31
        · have hF := F_neg c6 hF
          refine lv_iconst (v := (1 : Int32)) hx hb dX5_isRefused_26 (by decide) ?_
          refine lv_goto (tgt := 31) hx hb dX5_isRefused_27 (by decide) ?_
          have e50 := Option.some.inj hF
          subst e50
          exact W.zret (v := (1 : Int32)) hx hb hr (rfl) (fun t ht hW => ⟨⟨(1 : Int32), (), rfl, rfl, by rw [ht]; exact hP, va_K.moved hW.alike hK, hD⟩, hS.F ht⟩) hS.2.2 dX5_isRefused_31
  exact KE _ _ hP hD hS
set_option maxHeartbeats 4000000 in
set_option maxRecDepth 100000 in
theorem c_X5_nextChild (l : Launch) (dC : Nat → ClassId) (dI : Nat → Nat → Nat) (cI : ClassId) (a : Nat → Nat) (sz : Nat) (S : S_Model) (v1 : Int32) (v2 : Int32) (rr : Int32) (hF : F_X5_nextChild S v1 v2 = some rr) : Met l yX5_nextChild wsX5_nextChild ({ frames := 1, cells := 0, slots := 0, locals := 23 } : Room) (va_Pc [.ref (a 0), .int v1, .int v2] (jPre (dC, dI) [(cI, .int)] sz ((W_Model cI a S)))) (va_Qi (fun (r' : Int32) (_ : Unit) => rr = r') (fun _ : Unit => jB (dC, dI) [(cI, .int)] (va_A ((W_Model cI a S)) sz) ((W_Model cI a S))) (va_A ((W_Model cI a S)) sz)) 0 0 (va_A ((W_Model cI a S)) sz) := by
  refine Met.ofW (cc := cX5_nextChild) (maxL := 5) (ret := (some .int)) (by decide) rfl ?_
  intro p e s m args below meth c s₁ B hml hv
  obtain ⟨rfl, hsz, hP, hK, hD0, hN⟩ := hv
  have hx := B.exec
  have hb := B.bytes
  have hr := B.returns
  have hts := atoms_spec (ws := wsX5_nextChild) B.pre
  have hown : s.vm.findClass RX5 = some m.cls := findClass_of_methodNamed B.named
  have hlocks := B.notSynchronized
  subst hsz
  have hD := hD0.self (sz := s.heap.size)
  generalize hAe : (va_A ((W_Model cI a S)) s.heap.size) = A at hD ⊢
  have hA : ∀ q : Nat, s.heap.size ≤ q → A q := fun q h => by rw [← hAe]; exact Or.inr h
  have hS : va_S A s.heap s.heap [] := va_S.rf
  have hl := lv_entry ([.ref (a 0), .int v1, .int v2]) (n := 5) (Nat.le_of_ble_eq_true rfl)
  rw [lg_entry_eq]
  generalize (lg_sl ([.ref (a 0), .int v1, .int v2]) ++ List.replicate (5 - (lg_sl ([.ref (a 0), .int v1, .int v2])).length) Slot.unset).toArray = ls at hl ⊢
  have hl : lv_has ls 5 [(0, .ref (a 0)), (1, .int v1), (2, .int v2)] := hl
  have K4 : ∀ (n4 : Nat) (x3 : Int32) (H : Heap) (locs : List Loc), F_X5_nextChild_4 v1 S n4 x3 = some rr → va_P (dC, dI) vwCl ((W_Model cI a S)) H → va_D A ((W_Model cI a S)) → va_S A s.heap H locs → ∀ ls : Array Slot, lv_has ls 5 [(0, .ref (a 0)), (1, .int v1), (3, .int x3)] → W p l e (headSpec wsX5_nextChild ({ frames := 1, cells := 0, slots := 0, locals := 23 } : Room)).room s m ([.ref (a 0), .int v1, .int v2] : List Value).toArray below meth c H locs 0 0 (MQ below (va_Qi (fun (r' : Int32) (_ : Unit) => rr = r') (fun _ : Unit => jB (dC, dI) [(cI, .int)] A ((W_Model cI a S))) A) ([.ref (a 0), .int v1, .int v2] : List Value).toArray s 0 0 A) (F0 m 4 ls []) := by
    intro n4
    induction n4 with
    | zero => intro x3 H locs hF; exact nomatch hF
    | succ n4 ih4 =>
      intro x3 H locs hF hP hD hS ls hl
      rw [F_X5_nextChild_4_s] at hF
      refine lv_iload_n hx hb dX5_nextChild_4 rfl (lv_at hl 2 rfl) ?_
      refine lv_bipush (v := (8 : Int32)) hx hb dX5_nextChild_5 (by decide) ?_
      refine lv_icmp_gt (tgt := 33) hx hb dX5_nextChild_7 (by decide) (fun c1 => ?_) (fun c1 => ?_)
      · have hF := F_pos c1 hF
        refine lv_iconst (v := (-1 : Int32)) hx hb dX5_nextChild_33 (by decide) ?_
        have e50 := Option.some.inj hF
        subst e50
        exact W.iret (v := (-1 : Int32)) hx hb hr (fun t ht hW => ⟨⟨(-1 : Int32), (), rfl, rfl, by rw [ht]; exact hP, va_K.moved hW.alike hK, hD⟩, hS.F ht⟩) hS.2.2 dX5_nextChild_34
      · have hF := F_neg c1 hF
        refine lv_aload_n hx hb dX5_nextChild_10 rfl (lv_at hl 0 rfl) ?_
        refine lv_iload_n hx hb dX5_nextChild_11 rfl (lv_at hl 1 rfl) ?_
        refine lv_iload_n hx hb dX5_nextChild_12 rfl (lv_at hl 2 rfl) ?_
        obtain ⟨r2, h3, hF⟩ := ob1_some hF
        have hPc : va_P (dC, dI) vwCl ((W_Model cI a S)) H := hP
        have hDc : va_D A ((W_Model cI a S)) := hD
        have hFc := va_free (wc := (W_Model cI a S)) hD hS hA [0, 1, 2, 3, 4, 5, 6, 7, 8, 9, 10, 11, 12, 13] rfl
        refine va_calli (va_runV (As := [.int v1, .int x3]) (rest := []) ⟨hx, hb, hml, hown, hts⟩ (c_X5_childAt l dC dI cI a H.size _ _ _ _ h3) (cwV 2 hts gX5_nextChild_X5_childAt rfl rfl rfl (by decide +kernel) ⟨Nat.le_of_ble_eq_true rfl, Nat.le_of_ble_eq_true rfl⟩) (jPreV hK hPc hDc hN (ci := 5) rfl rfl) rfl rfl hl.1 rfl (lv_room (Nat.le_of_ble_eq_true rfl)) dX5_nextChild_13 ⟨Nat.le_of_ble_eq_true rfl, Nat.le_of_ble_eq_true rfl⟩) hS (fun q _ h => hFc q h) hFc (fun r' u' t H locs ht hvm hw hB hz1 hk1 hS => ?_)
        subst hw
        obtain ⟨hP1, -, hD1⟩ := hB
        rw [ht] at hP1
        have hP : va_P (dC, dI) vwCl ((W_Model cI a S)) H := hP1
        have hD : va_D A ((W_Model cI a S)) := hD1.weaken (fun _ _ _ h => hFc _ h)
        refine lv_istore (lv' := [(4, .int r2), (0, .ref (a 0)), (1, .int v1), (3, .int x3)]) hx hb dX5_nextChild_16 hl (by decide) rfl (fun ls hl => ?_)
        refine lv_iload hx hb dX5_nextChild_18 (lv_at hl 0 rfl) ?_
        refine lv_iconst (v := (-1 : Int32)) hx hb dX5_nextChild_20 (by decide) ?_
        refine lv_icmp_eq (tgt := 27) hx hb dX5_nextChild_21 (by decide) (fun c4 => ?_) (fun c4 => ?_)
        · have hF := F_pos c4 hF
          refine lv_iinc (v := (x3 + (1 : Int32))) (lv' := [(3, .int (x3 + (1 : Int32))), (4, .int r2), (0, .ref (a 0)), (1, .int v1)]) hx hb dX5_nextChild_27 hl (k := 3) rfl rfl (by decide) rfl (fun ls hl => ?_)
          refine lv_goto (tgt := 4) hx hb dX5_nextChild_30 (by decide) ?_
          exact ih4 _ _ _ hF hP hD hS _ (lv_sub hl [2, 3, 0] rfl)
        · have hF := F_neg c4 hF
          refine lv_iload hx hb dX5_nextChild_24 (lv_at hl 0 rfl) ?_
          have e50 := Option.some.inj hF
          subst e50
          exact W.iret (v := r2) hx hb hr (fun t ht hW => ⟨⟨r2, (), rfl, rfl, by rw [ht]; exact hP, va_K.moved hW.alike hK, hD⟩, hS.F ht⟩) hS.2.2 dX5_nextChild_26
  have KE : ∀ (H : Heap) (locs : List Loc), va_P (dC, dI) vwCl ((W_Model cI a S)) H → va_D A ((W_Model cI a S)) → va_S A s.heap H locs → W p l e (headSpec wsX5_nextChild ({ frames := 1, cells := 0, slots := 0, locals := 23 } : Room)).room s m ([.ref (a 0), .int v1, .int v2] : List Value).toArray below meth c H locs 0 0 (MQ below (va_Qi (fun (r' : Int32) (_ : Unit) => rr = r') (fun _ : Unit => jB (dC, dI) [(cI, .int)] A ((W_Model cI a S))) A) ([.ref (a 0), .int v1, .int v2] : List Value).toArray s 0 0 A) (F0 m 0 ls []) := by
    intro H locs hP hD hS
    unfold F_X5_nextChild at hF
    refine lv_iload_n hx hb dX5_nextChild_0 rfl (lv_at hl 2 rfl) ?_
    refine lv_iconst (v := (1 : Int32)) hx hb dX5_nextChild_1 (by decide) ?_
    refine lv_iadd hx hb dX5_nextChild_2 ?_
    refine lv_istore_n (lv' := [(3, .int (v2 + (1 : Int32))), (0, .ref (a 0)), (1, .int v1), (2, .int v2)]) hx hb dX5_nextChild_3 rfl hl (by decide) rfl (fun ls hl => ?_)
    exact K4 _ _ _ _ hF hP hD hS _ (lv_sub hl [1, 2, 0] rfl)
  exact KE _ _ hP hD hS
set_option maxHeartbeats 4000000 in
set_option maxRecDepth 100000 in
theorem c_X5_nextNode (l : Launch) (dC : Nat → ClassId) (dI : Nat → Nat → Nat) (cI : ClassId) (a : Nat → Nat) (sz : Nat) (S : S_Model) (v1 : Int32) (rr : Int32) (hF : F_X5_nextNode S v1 = some rr) : Met l yX5_nextNode wsX5_nextNode ({ frames := 2, cells := 0, slots := 0, locals := 47 } : Room) (va_Pc [.ref (a 0), .int v1] (jPre (dC, dI) [(cI, .int)] sz ((W_Model cI a S)))) (va_Qi (fun (r' : Int32) (_ : Unit) => rr = r') (fun _ : Unit => jB (dC, dI) [(cI, .int)] (va_A ((W_Model cI a S)) sz) ((W_Model cI a S))) (va_A ((W_Model cI a S)) sz)) 0 0 (va_A ((W_Model cI a S)) sz) := by
  refine Met.ofW (cc := cX5_nextNode) (maxL := 4) (ret := (some .int)) (by decide) rfl ?_
  intro p e s m args below meth c s₁ B hml hv
  obtain ⟨rfl, hsz, hP, hK, hD0, hN⟩ := hv
  have hx := B.exec
  have hb := B.bytes
  have hr := B.returns
  have hts := atoms_spec (ws := wsX5_nextNode) B.pre
  have hown : s.vm.findClass RX5 = some m.cls := findClass_of_methodNamed B.named
  have hlocks := B.notSynchronized
  have hinX5 : ∀ w ∈ u_ws RX5 TX5 26, w ∈ wsX5_nextNode := by decide +kernel
  subst hsz
  have hD := hD0.self (sz := s.heap.size)
  generalize hAe : (va_A ((W_Model cI a S)) s.heap.size) = A at hD ⊢
  have hA : ∀ q : Nat, s.heap.size ≤ q → A q := fun q h => by rw [← hAe]; exact Or.inr h
  have hS : va_S A s.heap s.heap [] := va_S.rf
  have hl := lv_entry ([.ref (a 0), .int v1]) (n := 4) (Nat.le_of_ble_eq_true rfl)
  rw [lg_entry_eq]
  generalize (lg_sl ([.ref (a 0), .int v1]) ++ List.replicate (4 - (lg_sl ([.ref (a 0), .int v1])).length) Slot.unset).toArray = ls at hl ⊢
  have hl : lv_has ls 4 [(0, .ref (a 0)), (1, .int v1)] := hl
  have K9 : ∀ (n9 : Nat) (x2 : Int32) (x3 : Int32) (H : Heap) (locs : List Loc), F_X5_nextNode_9 S n9 x2 x3 = some rr → va_P (dC, dI) vwCl ((W_Model cI a S)) H → va_D A ((W_Model cI a S)) → va_S A s.heap H locs → ∀ ls : Array Slot, lv_has ls 4 [(0, .ref (a 0)), (2, .int x2), (3, .int x3)] → W p l e (headSpec wsX5_nextNode ({ frames := 2, cells := 0, slots := 0, locals := 47 } : Room)).room s m ([.ref (a 0), .int v1] : List Value).toArray below meth c H locs 0 0 (MQ below (va_Qi (fun (r' : Int32) (_ : Unit) => rr = r') (fun _ : Unit => jB (dC, dI) [(cI, .int)] A ((W_Model cI a S))) A) ([.ref (a 0), .int v1] : List Value).toArray s 0 0 A) (F0 m 9 ls []) := by
    intro n9
    induction n9 with
    | zero => intro x2 x3 H locs hF; exact nomatch hF
    | succ n9 ih9 =>
      intro x2 x3 H locs hF hP hD hS ls hl
      rw [F_X5_nextNode_9_s] at hF
      refine lv_iload_n hx hb dX5_nextNode_9 rfl (lv_at hl 1 rfl) ?_
      refine lv_iconst (v := (-1 : Int32)) hx hb dX5_nextNode_10 (by decide) ?_
      refine lv_icmp_ne (tgt := 60) hx hb dX5_nextNode_11 (by decide) (fun c1 => ?_) (fun c1 => ?_)
      · have hF := F_neg c1 hF
        refine lv_iload_n hx hb dX5_nextNode_60 rfl (lv_at hl 1 rfl) ?_
        have e50 := Option.some.inj hF
        subst e50
        exact W.iret (v := x2) hx hb hr (fun t ht hW => ⟨⟨x2, (), rfl, rfl, by rw [ht]; exact hP, va_K.moved hW.alike hK, hD⟩, hS.F ht⟩) hS.2.2 dX5_nextNode_61
      · have hF := F_pos c1 hF
        refine lv_iload_n hx hb dX5_nextNode_14 rfl (lv_at hl 2 rfl) ?_
        refine lv_if_le (tgt := 60) hx hb dX5_nextNode_15 (by decide) (fun c2 => ?_) (fun c2 => ?_)
        · have hF := F_pos c2 hF
          refine lv_iload_n hx hb dX5_nextNode_60 rfl (lv_at hl 1 rfl) ?_
          have e50 := Option.some.inj hF
          subst e50
          exact W.iret (v := x2) hx hb hr (fun t ht hW => ⟨⟨x2, (), rfl, rfl, by rw [ht]; exact hP, va_K.moved hW.alike hK, hD⟩, hS.F ht⟩) hS.2.2 dX5_nextNode_61
        · have hF := F_neg c2 hF
          refine lv_aload_n hx hb dX5_nextNode_18 rfl (lv_at hl 0 rfl) ?_
          refine lv_aload_n hx hb dX5_nextNode_19 rfl (lv_at hl 0 rfl) ?_
          refine va_get (D := (dC, dI)) (ci := 5) (v := .ref (a 11)) (C := RX5) (T := TX5) (N := 26) hx hb hts hinX5 hown hK hP 0 rfl rfl 18 (by decide) (hts (Cond.fieldLink RX5 40 "LearnedShapesModel" "tree" "[I") (List.mem_of_getElem? (i := 1) rfl)) (fun _ h9 => h9) rfl dX5_nextNode_20 ?_
          refine lv_bipush (v := (7 : Int32)) hx hb dX5_nextNode_23 (by decide) ?_
          refine lv_iload_n hx hb dX5_nextNode_25 rfl (lv_at hl 2 rfl) ?_
          refine lv_imul hx hb dX5_nextNode_26 ?_
          refine lv_iconst (v := (1 : Int32)) hx hb dX5_nextNode_27 (by decide) ?_
          refine lv_iadd hx hb dX5_nextNode_28 ?_
          obtain ⟨g3, hF⟩ := og_some hF
          refine va_iald (f := (g_Model_tree S)) hx hb hK hP 11 0 rfl rfl (inb_in g3) dX5_nextNode_29 ?_
          refine lv_aload_n hx hb dX5_nextNode_30 rfl (lv_at hl 0 rfl) ?_
          refine va_get (D := (dC, dI)) (ci := 5) (v := .ref (a 11)) (C := RX5) (T := TX5) (N := 26) hx hb hts hinX5 hown hK hP 0 rfl rfl 18 (by decide) (hts (Cond.fieldLink RX5 40 "LearnedShapesModel" "tree" "[I") (List.mem_of_getElem? (i := 1) rfl)) (fun _ h9 => h9) rfl dX5_nextNode_31 ?_
          refine lv_bipush (v := (7 : Int32)) hx hb dX5_nextNode_34 (by decide) ?_
          refine lv_iload_n hx hb dX5_nextNode_36 rfl (lv_at hl 2 rfl) ?_
          refine lv_imul hx hb dX5_nextNode_37 ?_
          refine lv_iconst (v := (2 : Int32)) hx hb dX5_nextNode_38 (by decide) ?_
          refine lv_iadd hx hb dX5_nextNode_39 ?_
          obtain ⟨g4, hF⟩ := og_some hF
          refine va_iald (f := (g_Model_tree S)) hx hb hK hP 11 0 rfl rfl (inb_in g4) dX5_nextNode_40 ?_
          obtain ⟨r5, h6, hF⟩ := ob1_some hF
          have hPc : va_P (dC, dI) vwCl ((W_Model cI a S)) H := hP
          have hDc : va_D A ((W_Model cI a S)) := hD
          have hFc := va_free (wc := (W_Model cI a S)) hD hS hA [0, 1, 2, 3, 4, 5, 6, 7, 8, 9, 10, 11, 12, 13] rfl
          refine va_calli (va_runV (As := [.int ((g_Model_tree S) (((7 : Int32) * x3) + (1 : Int32)).toNatClampNeg), .int ((g_Model_tree S) (((7 : Int32) * x3) + (2 : Int32)).toNatClampNeg)]) (rest := []) ⟨hx, hb, hml, hown, hts⟩ (c_X5_nextChild l dC dI cI a H.size _ _ _ _ h6) (cwV 2 hts gX5_nextNode_X5_nextChild rfl rfl rfl (by decide +kernel) ⟨Nat.le_of_ble_eq_true rfl, Nat.le_of_ble_eq_true rfl⟩) (jPreV hK hPc hDc hN (ci := 5) rfl rfl) rfl rfl hl.1 rfl (lv_room (Nat.le_of_ble_eq_true rfl)) dX5_nextNode_41 ⟨Nat.le_of_ble_eq_true rfl, Nat.le_of_ble_eq_true rfl⟩) hS (fun q _ h => hFc q h) hFc (fun r' u' t H locs ht hvm hw hB hz1 hk1 hS => ?_)
          subst hw
          obtain ⟨hP1, -, hD1⟩ := hB
          rw [ht] at hP1
          have hP : va_P (dC, dI) vwCl ((W_Model cI a S)) H := hP1
          have hD : va_D A ((W_Model cI a S)) := hD1.weaken (fun _ _ _ h => hFc _ h)
          refine lv_istore_n (lv' := [(2, .int r5), (0, .ref (a 0)), (3, .int x3)]) hx hb dX5_nextNode_44 rfl hl (by decide) rfl (fun ls hl => ?_)
          refine lv_aload_n hx hb dX5_nextNode_45 rfl (lv_at hl 1 rfl) ?_
          refine va_get (D := (dC, dI)) (ci := 5) (v := .ref (a 11)) (C := RX5) (T := TX5) (N := 26) hx hb hts hinX5 hown hK hP 0 rfl rfl 18 (by decide) (hts (Cond.fieldLink RX5 40 "LearnedShapesModel" "tree" "[I") (List.mem_of_getElem? (i := 1) rfl)) (fun _ h9 => h9) rfl dX5_nextNode_46 ?_
          refine lv_bipush (v := (7 : Int32)) hx hb dX5_nextNode_49 (by decide) ?_
          refine lv_iload_n hx hb dX5_nextNode_51 rfl (lv_at hl 2 rfl) ?_
          refine lv_imul hx hb dX5_nextNode_52 ?_
          refine lv_iconst (v := (1 : Int32)) hx hb dX5_nextNode_53 (by decide) ?_
          refine lv_iadd hx hb dX5_nextNode_54 ?_
          obtain ⟨g7, hF⟩ := og_some hF
          refine va_iald (f := (g_Model_tree S)) hx hb hK hP 11 0 rfl rfl (inb_in g7) dX5_nextNode_55 ?_
          refine lv_istore_n (lv' := [(3, .int ((g_Model_tree S) (((7 : Int32) * x3) + (1 : Int32)).toNatClampNeg)), (2, .int r5), (0, .ref (a 0))]) hx hb dX5_nextNode_56 rfl hl (by decide) rfl (fun ls hl => ?_)
          refine lv_goto (tgt := 9) hx hb dX5_nextNode_57 (by decide) ?_
          exact ih9 _ _ _ _ hF hP hD hS _ (lv_sub hl [2, 1, 0] rfl)
  have KE : ∀ (H : Heap) (locs : List Loc), va_P (dC, dI) vwCl ((W_Model cI a S)) H → va_D A ((W_Model cI a S)) → va_S A s.heap H locs → W p l e (headSpec wsX5_nextNode ({ frames := 2, cells := 0, slots := 0, locals := 47 } : Room)).room s m ([.ref (a 0), .int v1] : List Value).toArray below meth c H locs 0 0 (MQ below (va_Qi (fun (r' : Int32) (_ : Unit) => rr = r') (fun _ : Unit => jB (dC, dI) [(cI, .int)] A ((W_Model cI a S))) A) ([.ref (a 0), .int v1] : List Value).toArray s 0 0 A) (F0 m 0 ls []) := by
    intro H locs hP hD hS
    unfold F_X5_nextNode at hF
    refine lv_aload_n hx hb dX5_nextNode_0 rfl (lv_at hl 0 rfl) ?_
    refine lv_iload_n hx hb dX5_nextNode_1 rfl (lv_at hl 1 rfl) ?_
    refine lv_iconst (v := (-1 : Int32)) hx hb dX5_nextNode_2 (by decide) ?_
    obtain ⟨r8, h9, hF⟩ := ob1_some hF
    have hPc : va_P (dC, dI) vwCl ((W_Model cI a S)) H := hP
    have hDc : va_D A ((W_Model cI a S)) := hD
    have hFc := va_free (wc := (W_Model cI a S)) hD hS hA [0, 1, 2, 3, 4, 5, 6, 7, 8, 9, 10, 11, 12, 13] rfl
    refine va_calli (va_runV (As := [.int v1, .int (-1 : Int32)]) (rest := []) ⟨hx, hb, hml, hown, hts⟩ (c_X5_nextChild l dC dI cI a H.size _ _ _ _ h9) (cwV 2 hts gX5_nextNode_X5_nextChild rfl rfl rfl (by decide +kernel) ⟨Nat.le_of_ble_eq_true rfl, Nat.le_of_ble_eq_true rfl⟩) (jPreV hK hPc hDc hN (ci := 5) rfl rfl) rfl rfl hl.1 rfl (lv_room (Nat.le_of_ble_eq_true rfl)) dX5_nextNode_3 ⟨Nat.le_of_ble_eq_true rfl, Nat.le_of_ble_eq_true rfl⟩) hS (fun q _ h => hFc q h) hFc (fun r' u' t H locs ht hvm hw hB hz1 hk1 hS => ?_)
    subst hw
    obtain ⟨hP1, -, hD1⟩ := hB
    rw [ht] at hP1
    have hP : va_P (dC, dI) vwCl ((W_Model cI a S)) H := hP1
    have hD : va_D A ((W_Model cI a S)) := hD1.weaken (fun _ _ _ h => hFc _ h)
    refine lv_istore_n (lv' := [(2, .int r8), (0, .ref (a 0)), (1, .int v1)]) hx hb dX5_nextNode_6 rfl hl (by decide) rfl (fun ls hl => ?_)
    refine lv_iload_n hx hb dX5_nextNode_7 rfl (lv_at hl 2 rfl) ?_
    refine lv_istore_n (lv' := [(3, .int v1), (2, .int r8), (0, .ref (a 0)), (1, .int v1)]) hx hb dX5_nextNode_8 rfl hl (by decide) rfl (fun ls hl => ?_)
    exact K9 _ _ _ _ _ hF hP hD hS _ (lv_sub hl [2, 1, 0] rfl)
  exact KE _ _ hP hD hS
set_option maxHeartbeats 4000000 in
set_option maxRecDepth 100000 in
theorem c_X5_becomes (l : Launch) (dC : Nat → ClassId) (dI : Nat → Nat → Nat) (cI : ClassId) (a : Nat → Nat) (sz : Nat) (S : S_Model) (v1 : Int32) (Y : S_Model) (hF : F_X5_becomes S v1 = some Y) : Met l yX5_becomes wsX5_becomes ({ frames := 3, cells := 0, slots := 0, locals := 70 } : Room) (va_Pc [.ref (a 0), .int v1] (jPre (dC, dI) [(cI, .int)] sz ((W_Model cI a S)))) (va_Qv (fun u : S_Model => Y = u) (fun u : S_Model => jB (dC, dI) [(cI, .int)] (va_A ((W_Model cI a S)) sz) ((W_Model cI a u))) (va_A ((W_Model cI a S)) sz)) 0 0 (va_A ((W_Model cI a S)) sz) := by
  refine Met.ofW (cc := cX5_becomes) (maxL := 6) (ret := none) (by decide) rfl ?_
  intro p e s m args below meth c s₁ B hml hv
  obtain ⟨rfl, hsz, hP, hK, hD0, hN⟩ := hv
  have hx := B.exec
  have hb := B.bytes
  have hr := B.returns
  have hts := atoms_spec (ws := wsX5_becomes) B.pre
  have hown : s.vm.findClass RX5 = some m.cls := findClass_of_methodNamed B.named
  have hlocks := B.notSynchronized
  have hinX5 : ∀ w ∈ u_ws RX5 TX5 26, w ∈ wsX5_becomes := by decide +kernel
  subst hsz
  have hD := hD0.self (sz := s.heap.size)
  generalize hAe : (va_A ((W_Model cI a S)) s.heap.size) = A at hD ⊢
  have hA : ∀ q : Nat, s.heap.size ≤ q → A q := fun q h => by rw [← hAe]; exact Or.inr h
  have hS : va_S A s.heap s.heap [] := va_S.rf
  have hl := lv_entry ([.ref (a 0), .int v1]) (n := 6) (Nat.le_of_ble_eq_true rfl)
  rw [lg_entry_eq]
  generalize (lg_sl ([.ref (a 0), .int v1]) ++ List.replicate (6 - (lg_sl ([.ref (a 0), .int v1])).length) Slot.unset).toArray = ls at hl ⊢
  have hl : lv_has ls 6 [(0, .ref (a 0)), (1, .int v1)] := hl
  have K15 : ∀ (n15 : Nat) (S : S_Model) (x2 : Int32) (x3 : Int32) (H : Heap) (locs : List Loc), F_X5_becomes_15 v1 n15 S x2 x3 = some Y → va_P (dC, dI) vwCl ((W_Model cI a S)) H → va_D A ((W_Model cI a S)) → va_S A s.heap H locs → ∀ ls : Array Slot, lv_has ls 6 [(0, .ref (a 0)), (1, .int v1), (2, .int x2), (3, .int x3)] → W p l e (headSpec wsX5_becomes ({ frames := 3, cells := 0, slots := 0, locals := 70 } : Room)).room s m ([.ref (a 0), .int v1] : List Value).toArray below meth c H locs 0 0 (MQ below (va_Qv (fun u : S_Model => Y = u) (fun u : S_Model => jB (dC, dI) [(cI, .int)] A ((W_Model cI a u))) A) ([.ref (a 0), .int v1] : List Value).toArray s 0 0 A) (F0 m 15 ls []) := by
    intro n15
    induction n15 with
    | zero => intro S x2 x3 H locs hF; exact nomatch hF
    | succ n15 ih15 =>
      intro S x2 x3 H locs hF hP hD hS ls hl
      rw [F_X5_becomes_15_s] at hF
      have K44 : ∀ (n44 : Nat) (S : S_Model) (x2 : Int32) (x3 : Int32) (x4 : Int32) (x5 : Int32) (H : Heap) (locs : List Loc), F_X5_becomes_44 v1 (F_X5_becomes_15 v1 n15) n44 S x2 x3 x4 x5 = some Y → va_P (dC, dI) vwCl ((W_Model cI a S)) H → va_D A ((W_Model cI a S)) → va_S A s.heap H locs → ∀ ls : Array Slot, lv_has ls 6 [(0, .ref (a 0)), (1, .int v1), (2, .int x2), (3, .int x3), (4, .int x4), (5, .int x5)] → W p l e (headSpec wsX5_becomes ({ frames := 3, cells := 0, slots := 0, locals := 70 } : Room)).room s m ([.ref (a 0), .int v1] : List Value).toArray below meth c H locs 0 0 (MQ below (va_Qv (fun u : S_Model => Y = u) (fun u : S_Model => jB (dC, dI) [(cI, .int)] A ((W_Model cI a u))) A) ([.ref (a 0), .int v1] : List Value).toArray s 0 0 A) (F0 m 44 ls []) := by
        intro n44
        induction n44 with
        | zero => intro S x2 x3 x4 x5 H locs hF; exact nomatch hF
        | succ n44 ih44 =>
          intro S x2 x3 x4 x5 H locs hF hP hD hS ls hl
          rw [F_X5_becomes_44_s] at hF
          refine lv_iload hx hb dX5_becomes_44 (lv_at hl 5 rfl) ?_
          refine lv_bipush (v := (7 : Int32)) hx hb dX5_becomes_46 (by decide) ?_
          refine lv_icmp_ge (tgt := 79) hx hb dX5_becomes_48 (by decide) (fun c1 => ?_) (fun c1 => ?_)
          · have hF := F_pos c1 hF
            refine lv_aload_n hx hb dX5_becomes_79 rfl (lv_at hl 0 rfl) ?_
            refine va_get (D := (dC, dI)) (ci := 5) (v := .ref (a 1)) (C := RX5) (T := TX5) (N := 26) hx hb hts hinX5 hown hK hP 0 rfl rfl 0 (by decide) (hts (Cond.fieldLink RX5 7 "LearnedShapesModel" "now" "[I") (List.mem_of_getElem? (i := 3) rfl)) (fun _ h9 => h9) rfl dX5_becomes_80 ?_
            refine lv_iload hx hb dX5_becomes_83 (lv_at hl 4 rfl) ?_
            refine lv_iconst (v := (1 : Int32)) hx hb dX5_becomes_85 (by decide) ?_
            refine lv_iadd hx hb dX5_becomes_86 ?_
            refine lv_iload_n hx hb dX5_becomes_87 rfl (lv_at hl 3 rfl) ?_
            refine lv_if_ne (tgt := 95) hx hb dX5_becomes_88 (by decide) (fun c2 => ?_) (fun c2 => ?_)
            · have hF := F_neg c2 hF
              refine lv_aload_n hx hb dX5_becomes_95 rfl (lv_at hl 0 rfl) ?_
              refine va_get (D := (dC, dI)) (ci := 5) (v := .ref (a 13)) (C := RX5) (T := TX5) (N := 26) hx hb hts hinX5 hown hK hP 0 rfl rfl 21 (by decide) (hts (Cond.fieldLink RX5 46 "LearnedShapesModel" "order" "[I") (List.mem_of_getElem? (i := 2) rfl)) (fun _ h9 => h9) rfl dX5_becomes_96 ?_
              refine lv_aload_n hx hb dX5_becomes_99 rfl (lv_at hl 0 rfl) ?_
              refine va_get (D := (dC, dI)) (ci := 5) (v := .ref (a 11)) (C := RX5) (T := TX5) (N := 26) hx hb hts hinX5 hown hK hP 0 rfl rfl 18 (by decide) (hts (Cond.fieldLink RX5 40 "LearnedShapesModel" "tree" "[I") (List.mem_of_getElem? (i := 4) rfl)) (fun _ h9 => h9) rfl dX5_becomes_100 ?_
              refine lv_bipush (v := (7 : Int32)) hx hb dX5_becomes_103 (by decide) ?_
              refine lv_iload_n hx hb dX5_becomes_105 rfl (lv_at hl 3 rfl) ?_
              refine lv_imul hx hb dX5_becomes_106 ?_
              refine lv_iconst (v := (1 : Int32)) hx hb dX5_becomes_107 (by decide) ?_
              refine lv_iadd hx hb dX5_becomes_108 ?_
              obtain ⟨g3, hF⟩ := og_some hF
              refine va_iald (f := (g_Model_tree S)) hx hb hK hP 11 0 rfl rfl (inb_in g3) dX5_becomes_109 ?_
              obtain ⟨g4, hF⟩ := og_some hF
              refine va_iald (f := (g_Model_order S)) hx hb hK hP 13 0 rfl rfl (inb_in g4) dX5_becomes_110 ?_
              obtain ⟨g5, hF⟩ := og_some hF
              refine va_iast (f := (g_Model_now S)) hx hb hK hP hD hS 1 0 rfl rfl (inb_in g5) dX5_becomes_111 (fun H locs hP hD hS => ?_)
              have hP : va_P (dC, dI) vwCl ((W_Model cI a (s_Model_now S (upd (g_Model_now S) (x4 + (1 : Int32)).toNatClampNeg ((g_Model_order S) ((g_Model_tree S) (((7 : Int32) * x3) + (1 : Int32)).toNatClampNeg).toNatClampNeg))))) H := hP
              have hD : va_D A ((W_Model cI a (s_Model_now S (upd (g_Model_now S) (x4 + (1 : Int32)).toNatClampNeg ((g_Model_order S) ((g_Model_tree S) (((7 : Int32) * x3) + (1 : Int32)).toNatClampNeg).toNatClampNeg))))) := hD
              refine lv_iinc (v := (x2 + (1 : Int32))) (lv' := [(2, .int (x2 + (1 : Int32))), (0, .ref (a 0)), (1, .int v1), (3, .int x3), (4, .int x4), (5, .int x5)]) hx hb dX5_becomes_112 hl (k := 2) rfl rfl (by decide) rfl (fun ls hl => ?_)
              refine lv_aload_n hx hb dX5_becomes_115 rfl (lv_at hl 1 rfl) ?_
              refine lv_iload_n hx hb dX5_becomes_116 rfl (lv_at hl 3 rfl) ?_
              obtain ⟨r6, h7, hF⟩ := ob1_some hF
              have hPc : va_P (dC, dI) vwCl ((W_Model cI a (s_Model_now S (upd (g_Model_now S) (x4 + (1 : Int32)).toNatClampNeg ((g_Model_order S) ((g_Model_tree S) (((7 : Int32) * x3) + (1 : Int32)).toNatClampNeg).toNatClampNeg))))) H := hP
              have hDc : va_D A ((W_Model cI a (s_Model_now S (upd (g_Model_now S) (x4 + (1 : Int32)).toNatClampNeg ((g_Model_order S) ((g_Model_tree S) (((7 : Int32) * x3) + (1 : Int32)).toNatClampNeg).toNatClampNeg))))) := hD
              have hFc := va_free (wc := (W_Model cI a (s_Model_now S (upd (g_Model_now S) (x4 + (1 : Int32)).toNatClampNeg ((g_Model_order S) ((g_Model_tree S) (((7 : Int32) * x3) + (1 : Int32)).toNatClampNeg).toNatClampNeg))))) hD hS hA [0, 1, 2, 3, 4, 5, 6, 7, 8, 9, 10, 11, 12, 13] rfl
              refine va_calli (va_runV (As := [.int x3]) (rest := []) ⟨hx, hb, hml, hown, hts⟩ (c_X5_nextNode l dC dI cI a H.size _ _ _ h7) (cwV 1 hts gX5_becomes_X5_nextNode rfl rfl rfl (by decide +kernel) ⟨Nat.le_of_ble_eq_true rfl, Nat.le_of_ble_eq_true rfl⟩) (jPreV hK hPc hDc hN (ci := 5) rfl rfl) rfl rfl hl.1 rfl (lv_room (Nat.le_of_ble_eq_true rfl)) dX5_becomes_117 ⟨Nat.le_of_ble_eq_true rfl, Nat.le_of_ble_eq_true rfl⟩) hS (fun q _ h => hFc q h) hFc (fun r' u' t H locs ht hvm hw hB hz1 hk1 hS => ?_)
              subst hw
              obtain ⟨hP1, -, hD1⟩ := hB
              rw [ht] at hP1
              have hP : va_P (dC, dI) vwCl ((W_Model cI a (s_Model_now S (upd (g_Model_now S) (x4 + (1 : Int32)).toNatClampNeg ((g_Model_order S) ((g_Model_tree S) (((7 : Int32) * x3) + (1 : Int32)).toNatClampNeg).toNatClampNeg))))) H := hP1
              have hD : va_D A ((W_Model cI a (s_Model_now S (upd (g_Model_now S) (x4 + (1 : Int32)).toNatClampNeg ((g_Model_order S) ((g_Model_tree S) (((7 : Int32) * x3) + (1 : Int32)).toNatClampNeg).toNatClampNeg))))) := hD1.weaken (fun _ _ _ h => hFc _ h)
              refine lv_istore_n (lv' := [(3, .int r6), (2, .int (x2 + (1 : Int32))), (0, .ref (a 0)), (1, .int v1), (4, .int x4), (5, .int x5)]) hx hb dX5_becomes_120 rfl hl (by decide) rfl (fun ls hl => ?_)
              refine lv_goto (tgt := 15) hx hb dX5_becomes_121 (by decide) ?_
              exact ih15 _ _ _ _ _ hF hP hD hS _ (lv_sub hl [2, 3, 1, 0] rfl)
            · have hF := F_pos c2 hF
              refine lv_iconst (v := (-1 : Int32)) hx hb dX5_becomes_91 (by decide) ?_
              refine lv_goto (tgt := 111) hx hb dX5_becomes_92 (by decide) ?_
              obtain ⟨g8, hF⟩ := og_some hF
              refine va_iast (f := (g_Model_now S)) hx hb hK hP hD hS 1 0 rfl rfl (inb_in g8) dX5_becomes_111 (fun H locs hP hD hS => ?_)
              have hP : va_P (dC, dI) vwCl ((W_Model cI a (s_Model_now S (upd (g_Model_now S) (x4 + (1 : Int32)).toNatClampNeg (-1 : Int32))))) H := hP
              have hD : va_D A ((W_Model cI a (s_Model_now S (upd (g_Model_now S) (x4 + (1 : Int32)).toNatClampNeg (-1 : Int32))))) := hD
              refine lv_iinc (v := (x2 + (1 : Int32))) (lv' := [(2, .int (x2 + (1 : Int32))), (0, .ref (a 0)), (1, .int v1), (3, .int x3), (4, .int x4), (5, .int x5)]) hx hb dX5_becomes_112 hl (k := 2) rfl rfl (by decide) rfl (fun ls hl => ?_)
              refine lv_aload_n hx hb dX5_becomes_115 rfl (lv_at hl 1 rfl) ?_
              refine lv_iload_n hx hb dX5_becomes_116 rfl (lv_at hl 3 rfl) ?_
              obtain ⟨r9, h10, hF⟩ := ob1_some hF
              have hPc : va_P (dC, dI) vwCl ((W_Model cI a (s_Model_now S (upd (g_Model_now S) (x4 + (1 : Int32)).toNatClampNeg (-1 : Int32))))) H := hP
              have hDc : va_D A ((W_Model cI a (s_Model_now S (upd (g_Model_now S) (x4 + (1 : Int32)).toNatClampNeg (-1 : Int32))))) := hD
              have hFc := va_free (wc := (W_Model cI a (s_Model_now S (upd (g_Model_now S) (x4 + (1 : Int32)).toNatClampNeg (-1 : Int32))))) hD hS hA [0, 1, 2, 3, 4, 5, 6, 7, 8, 9, 10, 11, 12, 13] rfl
              refine va_calli (va_runV (As := [.int x3]) (rest := []) ⟨hx, hb, hml, hown, hts⟩ (c_X5_nextNode l dC dI cI a H.size _ _ _ h10) (cwV 1 hts gX5_becomes_X5_nextNode rfl rfl rfl (by decide +kernel) ⟨Nat.le_of_ble_eq_true rfl, Nat.le_of_ble_eq_true rfl⟩) (jPreV hK hPc hDc hN (ci := 5) rfl rfl) rfl rfl hl.1 rfl (lv_room (Nat.le_of_ble_eq_true rfl)) dX5_becomes_117 ⟨Nat.le_of_ble_eq_true rfl, Nat.le_of_ble_eq_true rfl⟩) hS (fun q _ h => hFc q h) hFc (fun r' u' t H locs ht hvm hw hB hz1 hk1 hS => ?_)
              subst hw
              obtain ⟨hP1, -, hD1⟩ := hB
              rw [ht] at hP1
              have hP : va_P (dC, dI) vwCl ((W_Model cI a (s_Model_now S (upd (g_Model_now S) (x4 + (1 : Int32)).toNatClampNeg (-1 : Int32))))) H := hP1
              have hD : va_D A ((W_Model cI a (s_Model_now S (upd (g_Model_now S) (x4 + (1 : Int32)).toNatClampNeg (-1 : Int32))))) := hD1.weaken (fun _ _ _ h => hFc _ h)
              refine lv_istore_n (lv' := [(3, .int r9), (2, .int (x2 + (1 : Int32))), (0, .ref (a 0)), (1, .int v1), (4, .int x4), (5, .int x5)]) hx hb dX5_becomes_120 rfl hl (by decide) rfl (fun ls hl => ?_)
              refine lv_goto (tgt := 15) hx hb dX5_becomes_121 (by decide) ?_
              exact ih15 _ _ _ _ _ hF hP hD hS _ (lv_sub hl [2, 3, 1, 0] rfl)
          · have hF := F_neg c1 hF
            refine lv_aload_n hx hb dX5_becomes_51 rfl (lv_at hl 0 rfl) ?_
            refine va_get (D := (dC, dI)) (ci := 5) (v := .ref (a 1)) (C := RX5) (T := TX5) (N := 26) hx hb hts hinX5 hown hK hP 0 rfl rfl 0 (by decide) (hts (Cond.fieldLink RX5 7 "LearnedShapesModel" "now" "[I") (List.mem_of_getElem? (i := 3) rfl)) (fun _ h9 => h9) rfl dX5_becomes_52 ?_
            refine lv_iload hx hb dX5_becomes_55 (lv_at hl 4 rfl) ?_
            refine lv_iload hx hb dX5_becomes_57 (lv_at hl 5 rfl) ?_
            refine lv_iadd hx hb dX5_becomes_59 ?_
            refine lv_aload_n hx hb dX5_becomes_60 rfl (lv_at hl 0 rfl) ?_
            refine va_get (D := (dC, dI)) (ci := 5) (v := .ref (a 11)) (C := RX5) (T := TX5) (N := 26) hx hb hts hinX5 hown hK hP 0 rfl rfl 18 (by decide) (hts (Cond.fieldLink RX5 40 "LearnedShapesModel" "tree" "[I") (List.mem_of_getElem? (i := 4) rfl)) (fun _ h9 => h9) rfl dX5_becomes_61 ?_
            refine lv_bipush (v := (7 : Int32)) hx hb dX5_becomes_64 (by decide) ?_
            refine lv_iload_n hx hb dX5_becomes_66 rfl (lv_at hl 3 rfl) ?_
            refine lv_imul hx hb dX5_becomes_67 ?_
            refine lv_iload hx hb dX5_becomes_68 (lv_at hl 5 rfl) ?_
            refine lv_iadd hx hb dX5_becomes_70 ?_
            obtain ⟨g11, hF⟩ := og_some hF
            refine va_iald (f := (g_Model_tree S)) hx hb hK hP 11 0 rfl rfl (inb_in g11) dX5_becomes_71 ?_
            obtain ⟨g12, hF⟩ := og_some hF
            refine va_iast (f := (g_Model_now S)) hx hb hK hP hD hS 1 0 rfl rfl (inb_in g12) dX5_becomes_72 (fun H locs hP hD hS => ?_)
            have hP : va_P (dC, dI) vwCl ((W_Model cI a (s_Model_now S (upd (g_Model_now S) (x4 + x5).toNatClampNeg ((g_Model_tree S) (((7 : Int32) * x3) + x5).toNatClampNeg))))) H := hP
            have hD : va_D A ((W_Model cI a (s_Model_now S (upd (g_Model_now S) (x4 + x5).toNatClampNeg ((g_Model_tree S) (((7 : Int32) * x3) + x5).toNatClampNeg))))) := hD
            refine lv_iinc (v := (x5 + (1 : Int32))) (lv' := [(5, .int (x5 + (1 : Int32))), (0, .ref (a 0)), (1, .int v1), (2, .int x2), (3, .int x3), (4, .int x4)]) hx hb dX5_becomes_73 hl (k := 5) rfl rfl (by decide) rfl (fun ls hl => ?_)
            refine lv_goto (tgt := 44) hx hb dX5_becomes_76 (by decide) ?_
            exact ih44 _ _ _ _ _ _ _ hF hP hD hS _ (lv_sub hl [1, 2, 3, 4, 5, 0] rfl)
      refine lv_iload_n hx hb dX5_becomes_15 rfl (lv_at hl 3 rfl) ?_
      refine lv_iconst (v := (-1 : Int32)) hx hb dX5_becomes_16 (by decide) ?_
      refine lv_icmp_eq (tgt := 124) hx hb dX5_becomes_17 (by decide) (fun c13 => ?_) (fun c13 => ?_)
      · have hF := F_pos c13 hF
        refine lv_aload_n hx hb dX5_becomes_124 rfl (lv_at hl 0 rfl) ?_
        refine va_get (D := (dC, dI)) (ci := 5) (v := .ref (a 1)) (C := RX5) (T := TX5) (N := 26) hx hb hts hinX5 hown hK hP 0 rfl rfl 0 (by decide) (hts (Cond.fieldLink RX5 7 "LearnedShapesModel" "now" "[I") (List.mem_of_getElem? (i := 3) rfl)) (fun _ h9 => h9) rfl dX5_becomes_125 ?_
        refine lv_iconst (v := (3 : Int32)) hx hb dX5_becomes_128 (by decide) ?_
        refine lv_iload_n hx hb dX5_becomes_129 rfl (lv_at hl 1 rfl) ?_
        refine lv_iadd hx hb dX5_becomes_130 ?_
        refine lv_iload_n hx hb dX5_becomes_131 rfl (lv_at hl 2 rfl) ?_
        obtain ⟨g14, hF⟩ := og_some hF
        refine va_iast (f := (g_Model_now S)) hx hb hK hP hD hS 1 0 rfl rfl (inb_in g14) dX5_becomes_132 (fun H locs hP hD hS => ?_)
        have hP : va_P (dC, dI) vwCl ((W_Model cI a (s_Model_now S (upd (g_Model_now S) ((3 : Int32) + v1).toNatClampNeg x2)))) H := hP
        have hD : va_D A ((W_Model cI a (s_Model_now S (upd (g_Model_now S) ((3 : Int32) + v1).toNatClampNeg x2)))) := hD
        have e50 := Option.some.inj hF
        subst e50
        exact W.vret hx hb hr (fun t ht hW => ⟨⟨(s_Model_now S (upd (g_Model_now S) ((3 : Int32) + v1).toNatClampNeg x2)), rfl, rfl, by rw [ht]; exact hP, va_K.moved hW.alike hK, hD⟩, hS.F ht⟩) hS.2.2 dX5_becomes_133
      · have hF := F_neg c13 hF
        refine lv_aload_n hx hb dX5_becomes_20 rfl (lv_at hl 0 rfl) ?_
        refine va_get (D := (dC, dI)) (ci := 5) (v := .ref (a 13)) (C := RX5) (T := TX5) (N := 26) hx hb hts hinX5 hown hK hP 0 rfl rfl 21 (by decide) (hts (Cond.fieldLink RX5 46 "LearnedShapesModel" "order" "[I") (List.mem_of_getElem? (i := 2) rfl)) (fun _ h9 => h9) rfl dX5_becomes_21 ?_
        refine lv_iload_n hx hb dX5_becomes_24 rfl (lv_at hl 3 rfl) ?_
        refine lv_iload_n hx hb dX5_becomes_25 rfl (lv_at hl 2 rfl) ?_
        obtain ⟨g15, hF⟩ := og_some hF
        refine va_iast (f := (g_Model_order S)) hx hb hK hP hD hS 13 0 rfl rfl (inb_in g15) dX5_becomes_26 (fun H locs hP hD hS => ?_)
        have hP : va_P (dC, dI) vwCl ((W_Model cI a (s_Model_order S (upd (g_Model_order S) x3.toNatClampNeg x2)))) H := hP
        have hD : va_D A ((W_Model cI a (s_Model_order S (upd (g_Model_order S) x3.toNatClampNeg x2)))) := hD
        refine lv_iconst (v := (5 : Int32)) hx hb dX5_becomes_27 (by decide) ?_
        refine lv_sipush (v := (210 : Int32)) hx hb dX5_becomes_28 (by decide) ?_
        refine lv_iload_n hx hb dX5_becomes_31 rfl (lv_at hl 1 rfl) ?_
        refine lv_imul hx hb dX5_becomes_32 ?_
        refine lv_iadd hx hb dX5_becomes_33 ?_
        refine lv_bipush (v := (7 : Int32)) hx hb dX5_becomes_34 (by decide) ?_
        refine lv_iload_n hx hb dX5_becomes_36 rfl (lv_at hl 2 rfl) ?_
        refine lv_imul hx hb dX5_becomes_37 ?_
        refine lv_iadd hx hb dX5_becomes_38 ?_
        refine lv_istore (lv' := [(4, .int (((5 : Int32) + ((210 : Int32) * v1)) + ((7 : Int32) * x2))), (0, .ref (a 0)), (1, .int v1), (2, .int x2), (3, .int x3)]) hx hb dX5_becomes_39 hl (by decide) rfl (fun ls hl => ?_)
        refine lv_iconst (v := (0 : Int32)) hx hb dX5_becomes_41 (by decide) ?_
        refine lv_istore (lv' := [(5, .int (0 : Int32)), (4, .int (((5 : Int32) + ((210 : Int32) * v1)) + ((7 : Int32) * x2))), (0, .ref (a 0)), (1, .int v1), (2, .int x2), (3, .int x3)]) hx hb dX5_becomes_42 hl (by decide) rfl (fun ls hl => ?_)
        exact K44 _ _ _ _ _ _ _ _ hF hP hD hS _ (lv_sub hl [2, 3, 4, 5, 1, 0] rfl)
  have KE : ∀ (H : Heap) (locs : List Loc), va_P (dC, dI) vwCl ((W_Model cI a S)) H → va_D A ((W_Model cI a S)) → va_S A s.heap H locs → W p l e (headSpec wsX5_becomes ({ frames := 3, cells := 0, slots := 0, locals := 70 } : Room)).room s m ([.ref (a 0), .int v1] : List Value).toArray below meth c H locs 0 0 (MQ below (va_Qv (fun u : S_Model => Y = u) (fun u : S_Model => jB (dC, dI) [(cI, .int)] A ((W_Model cI a u))) A) ([.ref (a 0), .int v1] : List Value).toArray s 0 0 A) (F0 m 0 ls []) := by
    intro H locs hP hD hS
    unfold F_X5_becomes at hF
    refine lv_iconst (v := (0 : Int32)) hx hb dX5_becomes_0 (by decide) ?_
    refine lv_istore_n (lv' := [(2, .int (0 : Int32)), (0, .ref (a 0)), (1, .int v1)]) hx hb dX5_becomes_1 rfl hl (by decide) rfl (fun ls hl => ?_)
    refine lv_aload_n hx hb dX5_becomes_2 rfl (lv_at hl 1 rfl) ?_
    refine va_get (D := (dC, dI)) (ci := 5) (v := .int (g_Model_top S)) (C := RX5) (T := TX5) (N := 26) hx hb hts hinX5 hown hK hP 0 rfl rfl 19 (by decide) (hts (Cond.fieldLink RX5 123 "LearnedShapesModel" "top" "I") (List.mem_of_getElem? (i := 1) rfl)) (fun _ h9 => h9) rfl dX5_becomes_3 ?_
    refine lv_if_le (tgt := 13) hx hb dX5_becomes_6 (by decide) (fun c16 => ?_) (fun c16 => ?_)
    · have hF := F_pos c16 hF
      refine lv_iconst (v := (-1 : Int32)) hx hb dX5_becomes_13 (by decide) ?_
      refine lv_istore_n (lv' := [(3, .int (-1 : Int32)), (2, .int (0 : Int32)), (0, .ref (a 0)), (1, .int v1)]) hx hb dX5_becomes_14 rfl hl (by decide) rfl (fun ls hl => ?_)
      exact K15 _ _ _ _ _ _ hF hP hD hS _ (lv_sub hl [2, 3, 1, 0] rfl)
    · have hF := F_neg c16 hF
      refine lv_iconst (v := (0 : Int32)) hx hb dX5_becomes_9 (by decide) ?_
      refine lv_goto (tgt := 14) hx hb dX5_becomes_10 (by decide) ?_
      refine lv_istore_n (lv' := [(3, .int (0 : Int32)), (2, .int (0 : Int32)), (0, .ref (a 0)), (1, .int v1)]) hx hb dX5_becomes_14 rfl hl (by decide) rfl (fun ls hl => ?_)
      exact K15 _ _ _ _ _ _ hF hP hD hS _ (lv_sub hl [2, 3, 1, 0] rfl)
  exact KE _ _ hP hD hS
set_option maxHeartbeats 4000000 in
set_option maxRecDepth 100000 in
theorem c_X5_learn (l : Launch) (dC : Nat → ClassId) (dI : Nat → Nat → Nat) (cI : ClassId) (a : Nat → Nat) (sz : Nat) (S : S_Model) (v1 : Int32) (rr : Int32) (Y : S_Model) (hF : F_X5_learn S v1 = some (rr, Y)) : Met l yX5_learn wsX5_learn ({ frames := 7, cells := 0, slots := 0, locals := 155 } : Room) (va_Pc [.ref (a 0), .int v1] (jPre (dC, dI) [(cI, .int)] sz ((W_Model cI a S)))) (va_Qi (fun (r' : Int32) (u : S_Model) => rr = r' ∧ Y = u) (fun u : S_Model => jB (dC, dI) [(cI, .int)] (va_A ((W_Model cI a S)) sz) ((W_Model cI a u))) (va_A ((W_Model cI a S)) sz)) 0 0 (va_A ((W_Model cI a S)) sz) := by
  refine Met.ofW (cc := cX5_learn) (maxL := 2) (ret := (some .int)) (by decide) rfl ?_
  intro p e s m args below meth c s₁ B hml hv
  obtain ⟨rfl, hsz, hP, hK, hD0, hN⟩ := hv
  have hx := B.exec
  have hb := B.bytes
  have hr := B.returns
  have hts := atoms_spec (ws := wsX5_learn) B.pre
  have hown : s.vm.findClass RX5 = some m.cls := findClass_of_methodNamed B.named
  have hlocks := B.notSynchronized
  have hinX5 : ∀ w ∈ u_ws RX5 TX5 26, w ∈ wsX5_learn := by decide +kernel
  subst hsz
  have hD := hD0.self (sz := s.heap.size)
  generalize hAe : (va_A ((W_Model cI a S)) s.heap.size) = A at hD ⊢
  have hA : ∀ q : Nat, s.heap.size ≤ q → A q := fun q h => by rw [← hAe]; exact Or.inr h
  have hS : va_S A s.heap s.heap [] := va_S.rf
  have hl := lv_entry ([.ref (a 0), .int v1]) (n := 2) (Nat.le_of_ble_eq_true rfl)
  rw [lg_entry_eq]
  generalize (lg_sl ([.ref (a 0), .int v1]) ++ List.replicate (2 - (lg_sl ([.ref (a 0), .int v1])).length) Slot.unset).toArray = ls at hl ⊢
  have hl : lv_has ls 2 [(0, .ref (a 0)), (1, .int v1)] := hl
  have KE : ∀ (H : Heap) (locs : List Loc), va_P (dC, dI) vwCl ((W_Model cI a S)) H → va_D A ((W_Model cI a S)) → va_S A s.heap H locs → W p l e (headSpec wsX5_learn ({ frames := 7, cells := 0, slots := 0, locals := 155 } : Room)).room s m ([.ref (a 0), .int v1] : List Value).toArray below meth c H locs 0 0 (MQ below (va_Qi (fun (r' : Int32) (u : S_Model) => rr = r' ∧ Y = u) (fun u : S_Model => jB (dC, dI) [(cI, .int)] A ((W_Model cI a u))) A) ([.ref (a 0), .int v1] : List Value).toArray s 0 0 A) (F0 m 0 ls []) := by
    intro H locs hP hD hS
    unfold F_X5_learn at hF
    refine lv_aload_n hx hb dX5_learn_0 rfl (lv_at hl 0 rfl) ?_
    refine lv_iconst (v := (0 : Int32)) hx hb dX5_learn_1 (by decide) ?_
    refine va_put (D := (dC, dI)) (ci := 5) (v := .int (0 : Int32)) (ty := .int) (C := RX5) (T := TX5) (N := 26) hx hb hts hinX5 tyX5 tyX5_ok nmX5 hown hK hP hD hS 0 rfl rfl 5 (by decide) (hts (Cond.fieldLink RX5 49 "LearnedShapesModel" "thrown" "I") (List.mem_of_getElem? (i := 1) rfl)) (fun _ h9 => h9) rfl (by decide +kernel) (rfl) rfl (Nat.le_of_ble_eq_true rfl) dX5_learn_2 (fun H locs hP hD hS => ?_)
    have hP : va_P (dC, dI) vwCl ((W_Model cI a (s_Model_thrown S (0 : Int32)))) H := hP
    have hD : va_D A ((W_Model cI a (s_Model_thrown S (0 : Int32)))) := hD
    refine lv_iload_n hx hb dX5_learn_5 rfl (lv_at hl 1 rfl) ?_
    obtain ⟨r1, h2, hF⟩ := ob1_some hF
    have hPc := hP.sub (ws' := ([] : va_W)) [] rfl
    have hDc := hD.sub (ws' := ([] : va_W)) [] (by decide) rfl
    have hFc := va_free (wc := ([] : va_W)) hD hS hA [] rfl
    refine va_calli (va_runS (As := [.int v1]) (rest := []) ⟨hx, hb, hml, hown, hts⟩ (c_X5_isShape l dC dI cI  H.size _ _ h2) (va_cwS 1 hts gX5_learn_X5_isShape rfl rfl rfl (by decide +kernel) ⟨Nat.le_of_ble_eq_true rfl, Nat.le_of_ble_eq_true rfl⟩) (jPreS hK hPc hDc hN) rfl rfl hl.1 rfl (lv_room (Nat.le_of_ble_eq_true rfl)) dX5_learn_6 ⟨Nat.le_of_ble_eq_true rfl, Nat.le_of_ble_eq_true rfl⟩) hS (fun q _ h => hFc q h) hFc (fun r' u' t H locs ht hvm hw hB hz1 hk1 hS => ?_)
    subst hw
    obtain ⟨hP1, -, hD1⟩ := hB
    rw [ht] at hP1
    obtain ⟨hP, hD⟩ := jJoin (wc := ([] : va_W)) (w1 := ([] : va_W)) (ws' := (W_Model cI a (s_Model_thrown S (0 : Int32)))) hP hD [] [0, 1, 2, 3, 4, 5, 6, 7, 8, 9, 10, 11, 12, 13] [0, 1, 2, 3, 4, 5, 6, 7, 8, 9, 10, 11, 12, 13] rfl rfl (by decide) (by decide) hk1 hFc hP1 hD1 (by decide) rfl
    refine lv_if_ne (tgt := 18) hx hb dX5_learn_9 (by decide) (fun c3 => ?_) (fun c3 => ?_)
    · have hF := F_neg c3 hF
      refine lv_aload_n hx hb dX5_learn_18 rfl (lv_at hl 0 rfl) ?_
      obtain ⟨r4, u5, h6, hF⟩ := ob2_some hF
      have hPc : va_P (dC, dI) vwCl ((W_Model cI a (s_Model_thrown S (0 : Int32)))) H := hP
      have hDc : va_D A ((W_Model cI a (s_Model_thrown S (0 : Int32)))) := hD
      have hFc := va_free (wc := (W_Model cI a (s_Model_thrown S (0 : Int32)))) hD hS hA [0, 1, 2, 3, 4, 5, 6, 7, 8, 9, 10, 11, 12, 13] rfl
      refine va_calli (va_runV (As := []) (rest := []) ⟨hx, hb, hml, hown, hts⟩ (c_X5_isText l dC dI cI a H.size _ _ _ h6) (cwV 0 hts gX5_learn_X5_isText rfl rfl rfl (by decide +kernel) ⟨Nat.le_of_ble_eq_true rfl, Nat.le_of_ble_eq_true rfl⟩) (jPreV hK hPc hDc hN (ci := 5) rfl rfl) rfl rfl hl.1 rfl (lv_room (Nat.le_of_ble_eq_true rfl)) dX5_learn_19 ⟨Nat.le_of_ble_eq_true rfl, Nat.le_of_ble_eq_true rfl⟩) hS (fun q _ h => hFc q h) hFc (fun r' u' t H locs ht hvm hw hB hz1 hk1 hS => ?_)
      obtain ⟨e1, e2⟩ := hw
      subst e1
      subst e2
      obtain ⟨hP1, -, hD1⟩ := hB
      rw [ht] at hP1
      have hP : va_P (dC, dI) vwCl ((W_Model cI a u5)) H := hP1
      have hD : va_D A ((W_Model cI a u5)) := hD1.weaken (fun _ _ _ h => hFc _ h)
      refine lv_if_ne (tgt := 31) hx hb dX5_learn_22 (by decide) (fun c7 => ?_) (fun c7 => ?_)
      · have hF := F_neg c7 hF
        refine lv_aload_n hx hb dX5_learn_31 rfl (lv_at hl 0 rfl) ?_
        refine lv_iload_n hx hb dX5_learn_32 rfl (lv_at hl 1 rfl) ?_
        obtain ⟨u8, h9, hF⟩ := ob1_some hF
        have hPc : va_P (dC, dI) vwCl ((W_Model cI a u5)) H := hP
        have hDc : va_D A ((W_Model cI a u5)) := hD
        have hFc := va_free (wc := (W_Model cI a u5)) hD hS hA [0, 1, 2, 3, 4, 5, 6, 7, 8, 9, 10, 11, 12, 13] rfl
        refine va_callv (va_runV (As := [.int v1]) (rest := []) ⟨hx, hb, hml, hown, hts⟩ (c_X5_shows l dC dI cI a H.size _ _ _ h9) (cwV 1 hts gX5_learn_X5_shows rfl rfl rfl (by decide +kernel) ⟨Nat.le_of_ble_eq_true rfl, Nat.le_of_ble_eq_true rfl⟩) (jPreV hK hPc hDc hN (ci := 5) rfl rfl) rfl rfl hl.1 rfl (lv_room (Nat.le_of_ble_eq_true rfl)) dX5_learn_33 ⟨Nat.le_of_ble_eq_true rfl, Nat.le_of_ble_eq_true rfl⟩) hS (fun q _ h => hFc q h) hFc (fun u' t H locs ht hvm hw hB hz1 hk1 hS => ?_)
        subst hw
        obtain ⟨hP1, -, hD1⟩ := hB
        rw [ht] at hP1
        have hP : va_P (dC, dI) vwCl ((W_Model cI a u8)) H := hP1
        have hD : va_D A ((W_Model cI a u8)) := hD1.weaken (fun _ _ _ h => hFc _ h)
        refine lv_aload_n hx hb dX5_learn_36 rfl (lv_at hl 0 rfl) ?_
        obtain ⟨r10, h11, hF⟩ := ob1_some hF
        have hPc : va_P (dC, dI) vwCl ((W_Model cI a u8)) H := hP
        have hDc : va_D A ((W_Model cI a u8)) := hD
        have hFc := va_free (wc := (W_Model cI a u8)) hD hS hA [0, 1, 2, 3, 4, 5, 6, 7, 8, 9, 10, 11, 12, 13] rfl
        refine va_calli (va_runV (As := []) (rest := []) ⟨hx, hb, hml, hown, hts⟩ (c_X5_isRefused l dC dI cI a H.size _ _ h11) (cwV 0 hts gX5_learn_X5_isRefused rfl rfl rfl (by decide +kernel) ⟨Nat.le_of_ble_eq_true rfl, Nat.le_of_ble_eq_true rfl⟩) (jPreV hK hPc hDc hN (ci := 5) rfl rfl) rfl rfl hl.1 rfl (lv_room (Nat.le_of_ble_eq_true rfl)) dX5_learn_37 ⟨Nat.le_of_ble_eq_true rfl, Nat.le_of_ble_eq_true rfl⟩) hS (fun q _ h => hFc q h) hFc (fun r' u' t H locs ht hvm hw hB hz1 hk1 hS => ?_)
        subst hw
        obtain ⟨hP1, -, hD1⟩ := hB
        rw [ht] at hP1
        have hP : va_P (dC, dI) vwCl ((W_Model cI a u8)) H := hP1
        have hD : va_D A ((W_Model cI a u8)) := hD1.weaken (fun _ _ _ h => hFc _ h)
        refine lv_if_eq (tgt := 49) hx hb dX5_learn_40 (by decide) (fun c12 => ?_) (fun c12 => ?_)
        · have hF := F_pos c12 hF
          refine lv_aload_n hx hb dX5_learn_49 rfl (lv_at hl 0 rfl) ?_
          obtain ⟨u13, h14, hF⟩ := ob1_some hF
          have hPc : va_P (dC, dI) vwCl ((W_Model cI a u8)) H := hP
          have hDc : va_D A ((W_Model cI a u8)) := hD
          have hFc := va_free (wc := (W_Model cI a u8)) hD hS hA [0, 1, 2, 3, 4, 5, 6, 7, 8, 9, 10, 11, 12, 13] rfl
          refine va_callv (va_runV (As := []) (rest := []) ⟨hx, hb, hml, hown, hts⟩ (c_X5_saves l dC dI cI a H.size _ _ h14) (cwV 0 hts gX5_learn_X5_saves rfl rfl rfl (by decide +kernel) ⟨Nat.le_of_ble_eq_true rfl, Nat.le_of_ble_eq_true rfl⟩) (jPreV hK hPc hDc hN (ci := 5) rfl rfl) rfl rfl hl.1 rfl (lv_room (Nat.le_of_ble_eq_true rfl)) dX5_learn_50 ⟨Nat.le_of_ble_eq_true rfl, Nat.le_of_ble_eq_true rfl⟩) hS (fun q _ h => hFc q h) hFc (fun u' t H locs ht hvm hw hB hz1 hk1 hS => ?_)
          subst hw
          obtain ⟨hP1, -, hD1⟩ := hB
          rw [ht] at hP1
          have hP : va_P (dC, dI) vwCl ((W_Model cI a u13)) H := hP1
          have hD : va_D A ((W_Model cI a u13)) := hD1.weaken (fun _ _ _ h => hFc _ h)
          refine lv_aload_n hx hb dX5_learn_53 rfl (lv_at hl 0 rfl) ?_
          refine lv_iload_n hx hb dX5_learn_54 rfl (lv_at hl 1 rfl) ?_
          obtain ⟨u15, h16, hF⟩ := ob1_some hF
          have hPc : va_P (dC, dI) vwCl ((W_Model cI a u13)) H := hP
          have hDc : va_D A ((W_Model cI a u13)) := hD
          have hFc := va_free (wc := (W_Model cI a u13)) hD hS hA [0, 1, 2, 3, 4, 5, 6, 7, 8, 9, 10, 11, 12, 13] rfl
          refine va_callv (va_runV (As := [.int v1]) (rest := []) ⟨hx, hb, hml, hown, hts⟩ (c_X5_becomes l dC dI cI a H.size _ _ _ h16) (cwV 1 hts gX5_learn_X5_becomes rfl rfl rfl (by decide +kernel) ⟨Nat.le_of_ble_eq_true rfl, Nat.le_of_ble_eq_true rfl⟩) (jPreV hK hPc hDc hN (ci := 5) rfl rfl) rfl rfl hl.1 rfl (lv_room (Nat.le_of_ble_eq_true rfl)) dX5_learn_55 ⟨Nat.le_of_ble_eq_true rfl, Nat.le_of_ble_eq_true rfl⟩) hS (fun q _ h => hFc q h) hFc (fun u' t H locs ht hvm hw hB hz1 hk1 hS => ?_)
          subst hw
          obtain ⟨hP1, -, hD1⟩ := hB
          rw [ht] at hP1
          have hP : va_P (dC, dI) vwCl ((W_Model cI a u15)) H := hP1
          have hD : va_D A ((W_Model cI a u15)) := hD1.weaken (fun _ _ _ h => hFc _ h)
          refine lv_aload_n hx hb dX5_learn_58 rfl (lv_at hl 0 rfl) ?_
          refine va_get (D := (dC, dI)) (ci := 5) (v := .ref (a 1)) (C := RX5) (T := TX5) (N := 26) hx hb hts hinX5 hown hK hP 0 rfl rfl 0 (by decide) (hts (Cond.fieldLink RX5 7 "LearnedShapesModel" "now" "[I") (List.mem_of_getElem? (i := 2) rfl)) (fun _ h9 => h9) rfl dX5_learn_59 ?_
          refine lv_iconst (v := (1 : Int32)) hx hb dX5_learn_62 (by decide) ?_
          refine lv_iload_n hx hb dX5_learn_63 rfl (lv_at hl 1 rfl) ?_
          refine lv_iadd hx hb dX5_learn_64 ?_
          refine lv_dup2_11 hx hb dX5_learn_65 rfl rfl ?_
          obtain ⟨g17, hF⟩ := og_some hF
          refine va_iald (f := (g_Model_now u15)) hx hb hK hP 1 0 rfl rfl (inb_in g17) dX5_learn_66 ?_
          refine lv_iconst (v := (1 : Int32)) hx hb dX5_learn_67 (by decide) ?_
          refine lv_iadd hx hb dX5_learn_68 ?_
          obtain ⟨g18, hF⟩ := og_some hF
          refine va_iast (f := (g_Model_now u15)) hx hb hK hP hD hS 1 0 rfl rfl (inb_in g18) dX5_learn_69 (fun H locs hP hD hS => ?_)
          have hP : va_P (dC, dI) vwCl ((W_Model cI a (s_Model_now u15 (upd (g_Model_now u15) ((1 : Int32) + v1).toNatClampNeg (((g_Model_now u15) ((1 : Int32) + v1).toNatClampNeg) + (1 : Int32)))))) H := hP
          have hD : va_D A ((W_Model cI a (s_Model_now u15 (upd (g_Model_now u15) ((1 : Int32) + v1).toNatClampNeg (((g_Model_now u15) ((1 : Int32) + v1).toNatClampNeg) + (1 : Int32)))))) := hD
          refine lv_aload_n hx hb dX5_learn_70 rfl (lv_at hl 0 rfl) ?_
          refine lv_iconst (v := (0 : Int32)) hx hb dX5_learn_71 (by decide) ?_
          refine va_put (D := (dC, dI)) (ci := 5) (v := .int (0 : Int32)) (ty := .int) (C := RX5) (T := TX5) (N := 26) hx hb hts hinX5 tyX5 tyX5_ok nmX5 hown hK hP hD hS 0 rfl rfl 4 (by decide) (hts (Cond.fieldLink RX5 71 "LearnedShapesModel" "typed" "I") (List.mem_of_getElem? (i := 3) rfl)) (fun _ h9 => h9) rfl (by decide +kernel) (rfl) rfl (Nat.le_of_ble_eq_true rfl) dX5_learn_72 (fun H locs hP hD hS => ?_)
          have hP : va_P (dC, dI) vwCl ((W_Model cI a (s_Model_typed (s_Model_now u15 (upd (g_Model_now u15) ((1 : Int32) + v1).toNatClampNeg (((g_Model_now u15) ((1 : Int32) + v1).toNatClampNeg) + (1 : Int32)))) (0 : Int32)))) H := hP
          have hD : va_D A ((W_Model cI a (s_Model_typed (s_Model_now u15 (upd (g_Model_now u15) ((1 : Int32) + v1).toNatClampNeg (((g_Model_now u15) ((1 : Int32) + v1).toNatClampNeg) + (1 : Int32)))) (0 : Int32)))) := hD
          refine lv_aload_n hx hb dX5_learn_75 rfl (lv_at hl 0 rfl) ?_
          refine va_get (D := (dC, dI)) (ci := 5) (v := .ref (a 1)) (C := RX5) (T := TX5) (N := 26) hx hb hts hinX5 hown hK hP 0 rfl rfl 0 (by decide) (hts (Cond.fieldLink RX5 7 "LearnedShapesModel" "now" "[I") (List.mem_of_getElem? (i := 2) rfl)) (fun _ h9 => h9) rfl dX5_learn_76 ?_
          refine lv_iconst (v := (3 : Int32)) hx hb dX5_learn_79 (by decide) ?_
          refine lv_iload_n hx hb dX5_learn_80 rfl (lv_at hl 1 rfl) ?_
          refine lv_iadd hx hb dX5_learn_81 ?_
          obtain ⟨g19, hF⟩ := og_some hF
          refine va_iald (f := (upd (g_Model_now u15) ((1 : Int32) + v1).toNatClampNeg (((g_Model_now u15) ((1 : Int32) + v1).toNatClampNeg) + (1 : Int32)))) hx hb hK hP 1 0 rfl rfl (inb_in g19) dX5_learn_82 ?_
          have e50 := Option.some.inj hF
          obtain ⟨e60, e51⟩ := Prod.mk.inj e50
          subst e60
          subst e51
          exact W.iret (v := ((upd (g_Model_now u15) ((1 : Int32) + v1).toNatClampNeg (((g_Model_now u15) ((1 : Int32) + v1).toNatClampNeg) + (1 : Int32))) ((3 : Int32) + v1).toNatClampNeg)) hx hb hr (fun t ht hW => ⟨⟨((upd (g_Model_now u15) ((1 : Int32) + v1).toNatClampNeg (((g_Model_now u15) ((1 : Int32) + v1).toNatClampNeg) + (1 : Int32))) ((3 : Int32) + v1).toNatClampNeg), (s_Model_typed (s_Model_now u15 (upd (g_Model_now u15) ((1 : Int32) + v1).toNatClampNeg (((g_Model_now u15) ((1 : Int32) + v1).toNatClampNeg) + (1 : Int32)))) (0 : Int32)), rfl, ⟨rfl, rfl⟩, by rw [ht]; exact hP, va_K.moved hW.alike hK, hD⟩, hS.F ht⟩) hS.2.2 dX5_learn_83
        · have hF := F_neg c12 hF
          refine lv_aload_n hx hb dX5_learn_43 rfl (lv_at hl 0 rfl) ?_
          refine lv_iconst (v := (3 : Int32)) hx hb dX5_learn_44 (by decide) ?_
          obtain ⟨r20, u21, h22, hF⟩ := ob2_some hF
          have hPc : va_P (dC, dI) vwCl ((W_Model cI a u8)) H := hP
          have hDc : va_D A ((W_Model cI a u8)) := hD
          have hFc := va_free (wc := (W_Model cI a u8)) hD hS hA [0, 1, 2, 3, 4, 5, 6, 7, 8, 9, 10, 11, 12, 13] rfl
          refine va_calli (va_runV (As := [.int (3 : Int32)]) (rest := []) ⟨hx, hb, hml, hown, hts⟩ (c_X5_fails l dC dI cI a H.size _ _ _ _ h22) (cwV 1 hts gX5_learn_X5_fails rfl rfl rfl (by decide +kernel) ⟨Nat.le_of_ble_eq_true rfl, Nat.le_of_ble_eq_true rfl⟩) (jPreV hK hPc hDc hN (ci := 5) rfl rfl) rfl rfl hl.1 rfl (lv_room (Nat.le_of_ble_eq_true rfl)) dX5_learn_45 ⟨Nat.le_of_ble_eq_true rfl, Nat.le_of_ble_eq_true rfl⟩) hS (fun q _ h => hFc q h) hFc (fun r' u' t H locs ht hvm hw hB hz1 hk1 hS => ?_)
          obtain ⟨e1, e2⟩ := hw
          subst e1
          subst e2
          obtain ⟨hP1, -, hD1⟩ := hB
          rw [ht] at hP1
          have hP : va_P (dC, dI) vwCl ((W_Model cI a u21)) H := hP1
          have hD : va_D A ((W_Model cI a u21)) := hD1.weaken (fun _ _ _ h => hFc _ h)
          have e50 := Option.some.inj hF
          obtain ⟨e60, e51⟩ := Prod.mk.inj e50
          subst e60
          subst e51
          exact W.iret (v := r20) hx hb hr (fun t ht hW => ⟨⟨r20, u21, rfl, ⟨rfl, rfl⟩, by rw [ht]; exact hP, va_K.moved hW.alike hK, hD⟩, hS.F ht⟩) hS.2.2 dX5_learn_48
      · have hF := F_pos c7 hF
        refine lv_aload_n hx hb dX5_learn_25 rfl (lv_at hl 0 rfl) ?_
        refine lv_iconst (v := (2 : Int32)) hx hb dX5_learn_26 (by decide) ?_
        obtain ⟨r23, u24, h25, hF⟩ := ob2_some hF
        have hPc : va_P (dC, dI) vwCl ((W_Model cI a u5)) H := hP
        have hDc : va_D A ((W_Model cI a u5)) := hD
        have hFc := va_free (wc := (W_Model cI a u5)) hD hS hA [0, 1, 2, 3, 4, 5, 6, 7, 8, 9, 10, 11, 12, 13] rfl
        refine va_calli (va_runV (As := [.int (2 : Int32)]) (rest := []) ⟨hx, hb, hml, hown, hts⟩ (c_X5_fails l dC dI cI a H.size _ _ _ _ h25) (cwV 1 hts gX5_learn_X5_fails rfl rfl rfl (by decide +kernel) ⟨Nat.le_of_ble_eq_true rfl, Nat.le_of_ble_eq_true rfl⟩) (jPreV hK hPc hDc hN (ci := 5) rfl rfl) rfl rfl hl.1 rfl (lv_room (Nat.le_of_ble_eq_true rfl)) dX5_learn_27 ⟨Nat.le_of_ble_eq_true rfl, Nat.le_of_ble_eq_true rfl⟩) hS (fun q _ h => hFc q h) hFc (fun r' u' t H locs ht hvm hw hB hz1 hk1 hS => ?_)
        obtain ⟨e1, e2⟩ := hw
        subst e1
        subst e2
        obtain ⟨hP1, -, hD1⟩ := hB
        rw [ht] at hP1
        have hP : va_P (dC, dI) vwCl ((W_Model cI a u24)) H := hP1
        have hD : va_D A ((W_Model cI a u24)) := hD1.weaken (fun _ _ _ h => hFc _ h)
        have e50 := Option.some.inj hF
        obtain ⟨e60, e51⟩ := Prod.mk.inj e50
        subst e60
        subst e51
        exact W.iret (v := r23) hx hb hr (fun t ht hW => ⟨⟨r23, u24, rfl, ⟨rfl, rfl⟩, by rw [ht]; exact hP, va_K.moved hW.alike hK, hD⟩, hS.F ht⟩) hS.2.2 dX5_learn_30
    · have hF := F_pos c3 hF
      refine lv_aload_n hx hb dX5_learn_12 rfl (lv_at hl 0 rfl) ?_
      refine lv_iconst (v := (1 : Int32)) hx hb dX5_learn_13 (by decide) ?_
      obtain ⟨r26, u27, h28, hF⟩ := ob2_some hF
      have hPc : va_P (dC, dI) vwCl ((W_Model cI a (s_Model_thrown S (0 : Int32)))) H := hP
      have hDc : va_D A ((W_Model cI a (s_Model_thrown S (0 : Int32)))) := hD
      have hFc := va_free (wc := (W_Model cI a (s_Model_thrown S (0 : Int32)))) hD hS hA [0, 1, 2, 3, 4, 5, 6, 7, 8, 9, 10, 11, 12, 13] rfl
      refine va_calli (va_runV (As := [.int (1 : Int32)]) (rest := []) ⟨hx, hb, hml, hown, hts⟩ (c_X5_fails l dC dI cI a H.size _ _ _ _ h28) (cwV 1 hts gX5_learn_X5_fails rfl rfl rfl (by decide +kernel) ⟨Nat.le_of_ble_eq_true rfl, Nat.le_of_ble_eq_true rfl⟩) (jPreV hK hPc hDc hN (ci := 5) rfl rfl) rfl rfl hl.1 rfl (lv_room (Nat.le_of_ble_eq_true rfl)) dX5_learn_14 ⟨Nat.le_of_ble_eq_true rfl, Nat.le_of_ble_eq_true rfl⟩) hS (fun q _ h => hFc q h) hFc (fun r' u' t H locs ht hvm hw hB hz1 hk1 hS => ?_)
      obtain ⟨e1, e2⟩ := hw
      subst e1
      subst e2
      obtain ⟨hP1, -, hD1⟩ := hB
      rw [ht] at hP1
      have hP : va_P (dC, dI) vwCl ((W_Model cI a u27)) H := hP1
      have hD : va_D A ((W_Model cI a u27)) := hD1.weaken (fun _ _ _ h => hFc _ h)
      have e50 := Option.some.inj hF
      obtain ⟨e60, e51⟩ := Prod.mk.inj e50
      subst e60
      subst e51
      exact W.iret (v := r26) hx hb hr (fun t ht hW => ⟨⟨r26, u27, rfl, ⟨rfl, rfl⟩, by rw [ht]; exact hP, va_K.moved hW.alike hK, hD⟩, hS.F ht⟩) hS.2.2 dX5_learn_17
  exact KE _ _ hP hD hS
set_option maxHeartbeats 4000000 in
set_option maxRecDepth 100000 in
theorem c_X5_joins (l : Launch) (dC : Nat → ClassId) (dI : Nat → Nat → Nat) (cI : ClassId) (a : Nat → Nat) (sz : Nat) (S : S_Model) (v1 : Int32) (Y : S_Model) (hF : F_X5_joins S v1 = some Y) : Met l yX5_joins wsX5_joins ({ frames := 2, cells := 0, slots := 0, locals := 48 } : Room) (va_Pc [.ref (a 0), .int v1] (jPre (dC, dI) [(cI, .int)] sz ((W_Model cI a S)))) (va_Qv (fun u : S_Model => Y = u) (fun u : S_Model => jB (dC, dI) [(cI, .int)] (va_A ((W_Model cI a S)) sz) ((W_Model cI a u))) (va_A ((W_Model cI a S)) sz)) 0 0 (va_A ((W_Model cI a S)) sz) := by
  refine Met.ofW (cc := cX5_joins) (maxL := 9) (ret := none) (by decide) rfl ?_
  intro p e s m args below meth c s₁ B hml hv
  obtain ⟨rfl, hsz, hP, hK, hD0, hN⟩ := hv
  have hx := B.exec
  have hb := B.bytes
  have hr := B.returns
  have hts := atoms_spec (ws := wsX5_joins) B.pre
  have hown : s.vm.findClass RX5 = some m.cls := findClass_of_methodNamed B.named
  have hlocks := B.notSynchronized
  have hinX5 : ∀ w ∈ u_ws RX5 TX5 26, w ∈ wsX5_joins := by decide +kernel
  subst hsz
  have hD := hD0.self (sz := s.heap.size)
  generalize hAe : (va_A ((W_Model cI a S)) s.heap.size) = A at hD ⊢
  have hA : ∀ q : Nat, s.heap.size ≤ q → A q := fun q h => by rw [← hAe]; exact Or.inr h
  have hS : va_S A s.heap s.heap [] := va_S.rf
  have hl := lv_entry ([.ref (a 0), .int v1]) (n := 9) (Nat.le_of_ble_eq_true rfl)
  rw [lg_entry_eq]
  generalize (lg_sl ([.ref (a 0), .int v1]) ++ List.replicate (9 - (lg_sl ([.ref (a 0), .int v1])).length) Slot.unset).toArray = ls at hl ⊢
  have hl : lv_has ls 9 [(0, .ref (a 0)), (1, .int v1)] := hl
  have K11 : ∀ (n11 : Nat) (S : S_Model) (x2 : Int32) (x3 : Int32) (H : Heap) (locs : List Loc), F_X5_joins_11 v1 n11 S x2 x3 = some Y → va_P (dC, dI) vwCl ((W_Model cI a S)) H → va_D A ((W_Model cI a S)) → va_S A s.heap H locs → ∀ ls : Array Slot, lv_has ls 9 [(0, .ref (a 0)), (1, .int v1), (2, .int x2), (3, .int x3)] → W p l e (headSpec wsX5_joins ({ frames := 2, cells := 0, slots := 0, locals := 48 } : Room)).room s m ([.ref (a 0), .int v1] : List Value).toArray below meth c H locs 0 0 (MQ below (va_Qv (fun u : S_Model => Y = u) (fun u : S_Model => jB (dC, dI) [(cI, .int)] A ((W_Model cI a u))) A) ([.ref (a 0), .int v1] : List Value).toArray s 0 0 A) (F0 m 11 ls []) := by
    intro n11
    induction n11 with
    | zero => intro S x2 x3 H locs hF; exact nomatch hF
    | succ n11 ih11 =>
      intro S x2 x3 H locs hF hP hD hS ls hl
      rw [F_X5_joins_11_s] at hF
      have K170 : ∀ (S : S_Model) (x2 : Int32) (x3 : Int32) (x5 : Int32) (x7 : Int32) (H : Heap) (locs : List Loc), F_X5_joins_170 v1 (F_X5_joins_11 v1 n11) S x2 x3 x5 x7 = some Y → va_P (dC, dI) vwCl ((W_Model cI a S)) H → va_D A ((W_Model cI a S)) → va_S A s.heap H locs → ∀ ls : Array Slot, lv_has ls 9 [(0, .ref (a 0)), (1, .int v1), (2, .int x2), (3, .int x3), (5, .int x5), (7, .int x7)] → W p l e (headSpec wsX5_joins ({ frames := 2, cells := 0, slots := 0, locals := 48 } : Room)).room s m ([.ref (a 0), .int v1] : List Value).toArray below meth c H locs 0 0 (MQ below (va_Qv (fun u : S_Model => Y = u) (fun u : S_Model => jB (dC, dI) [(cI, .int)] A ((W_Model cI a u))) A) ([.ref (a 0), .int v1] : List Value).toArray s 0 0 A) (F0 m 170 ls []) := by
        intro S x2 x3 x5 x7 H locs hF hP hD hS ls hl
        unfold F_X5_joins_170 at hF
        refine lv_aload_n hx hb dX5_joins_170 rfl (lv_at hl 0 rfl) ?_
        refine va_get (D := (dC, dI)) (ci := 5) (v := .ref (a 12)) (C := RX5) (T := TX5) (N := 26) hx hb hts hinX5 hown hK hP 0 rfl rfl 20 (by decide) (hts (Cond.fieldLink RX5 43 "LearnedShapesModel" "place" "[I") (List.mem_of_getElem? (i := 2) rfl)) (fun _ h9 => h9) rfl dX5_joins_171 ?_
        refine lv_iload_n hx hb dX5_joins_174 rfl (lv_at hl 3 rfl) ?_
        refine lv_iload hx hb dX5_joins_175 (lv_at hl 5 rfl) ?_
        obtain ⟨g1, hF⟩ := og_some hF
        refine va_iast (f := (g_Model_place S)) hx hb hK hP hD hS 12 0 rfl rfl (inb_in g1) dX5_joins_177 (fun H locs hP hD hS => ?_)
        have hP : va_P (dC, dI) vwCl ((W_Model cI a (s_Model_place S (upd (g_Model_place S) x3.toNatClampNeg x7)))) H := hP
        have hD : va_D A ((W_Model cI a (s_Model_place S (upd (g_Model_place S) x3.toNatClampNeg x7)))) := hD
        refine lv_iload hx hb dX5_joins_178 (lv_at hl 5 rfl) ?_
        refine lv_iconst (v := (-1 : Int32)) hx hb dX5_joins_180 (by decide) ?_
        refine lv_icmp_eq (tgt := 273) hx hb dX5_joins_181 (by decide) (fun c2 => ?_) (fun c2 => ?_)
        · have hF := F_pos c2 hF
          refine lv_iinc (v := (x3 + (1 : Int32))) (lv' := [(3, .int (x3 + (1 : Int32))), (0, .ref (a 0)), (1, .int v1), (2, .int x2), (5, .int x5), (7, .int x7)]) hx hb dX5_joins_273 hl (k := 3) rfl rfl (by decide) rfl (fun ls hl => ?_)
          refine lv_goto (tgt := 11) hx hb dX5_joins_276 (by decide) ?_
          exact ih11 _ _ _ _ _ hF hP hD hS _ (lv_sub hl [1, 2, 3, 0] rfl)
        · have hF := F_neg c2 hF
          refine lv_bipush (v := (7 : Int32)) hx hb dX5_joins_184 (by decide) ?_
          refine lv_iload hx hb dX5_joins_186 (lv_at hl 5 rfl) ?_
          refine lv_imul hx hb dX5_joins_188 ?_
          refine lv_istore (lv' := [(8, .int ((7 : Int32) * x7)), (0, .ref (a 0)), (1, .int v1), (2, .int x2), (3, .int x3), (5, .int x5), (7, .int x7)]) hx hb dX5_joins_189 hl (by decide) rfl (fun ls hl => ?_)
          refine lv_aload_n hx hb dX5_joins_191 rfl (lv_at hl 1 rfl) ?_
          refine va_get (D := (dC, dI)) (ci := 5) (v := .ref (a 11)) (C := RX5) (T := TX5) (N := 26) hx hb hts hinX5 hown hK hP 0 rfl rfl 18 (by decide) (hts (Cond.fieldLink RX5 40 "LearnedShapesModel" "tree" "[I") (List.mem_of_getElem? (i := 3) rfl)) (fun _ h9 => h9) rfl dX5_joins_192 ?_
          refine lv_iload hx hb dX5_joins_195 (lv_at hl 0 rfl) ?_
          refine lv_iconst (v := (3 : Int32)) hx hb dX5_joins_197 (by decide) ?_
          refine lv_iadd hx hb dX5_joins_198 ?_
          refine lv_dup2_11 hx hb dX5_joins_199 rfl rfl ?_
          obtain ⟨g3, hF⟩ := og_some hF
          refine va_iald (f := (g_Model_tree S)) hx hb hK hP 11 0 rfl rfl (inb_in g3) dX5_joins_200 ?_
          refine lv_aload_n hx hb dX5_joins_201 rfl (lv_at hl 1 rfl) ?_
          refine lv_iload_n hx hb dX5_joins_202 rfl (lv_at hl 3 rfl) ?_
          refine lv_iload_n hx hb dX5_joins_203 rfl (lv_at hl 4 rfl) ?_
          refine lv_iconst (v := (3 : Int32)) hx hb dX5_joins_204 (by decide) ?_
          obtain ⟨r4, h5, hF⟩ := ob1_some hF
          have hPc : va_P (dC, dI) vwCl ((W_Model cI a (s_Model_place S (upd (g_Model_place S) x3.toNatClampNeg x7)))) H := hP
          have hDc : va_D A ((W_Model cI a (s_Model_place S (upd (g_Model_place S) x3.toNatClampNeg x7)))) := hD
          have hFc := va_free (wc := (W_Model cI a (s_Model_place S (upd (g_Model_place S) x3.toNatClampNeg x7)))) hD hS hA [0, 1, 2, 3, 4, 5, 6, 7, 8, 9, 10, 11, 12, 13] rfl
          refine va_calli (va_runV (As := [.int x2, .int x3, .int (3 : Int32)]) (rest := [.int ((g_Model_tree S) (((7 : Int32) * x7) + (3 : Int32)).toNatClampNeg), .int (((7 : Int32) * x7) + (3 : Int32)), .ref (a 11)]) ⟨hx, hb, hml, hown, hts⟩ (c_X5_of l dC dI cI a H.size _ _ _ _ _ h5) (cwV 3 hts gX5_joins_X5_of rfl rfl rfl (by decide +kernel) ⟨Nat.le_of_ble_eq_true rfl, Nat.le_of_ble_eq_true rfl⟩) (jPreV hK hPc hDc hN (ci := 5) rfl rfl) rfl rfl hl.1 rfl (lv_room (Nat.le_of_ble_eq_true rfl)) dX5_joins_205 ⟨Nat.le_of_ble_eq_true rfl, Nat.le_of_ble_eq_true rfl⟩) hS (fun q _ h => hFc q h) hFc (fun r' u' t H locs ht hvm hw hB hz1 hk1 hS => ?_)
          subst hw
          obtain ⟨hP1, -, hD1⟩ := hB
          rw [ht] at hP1
          have hP : va_P (dC, dI) vwCl ((W_Model cI a (s_Model_place S (upd (g_Model_place S) x3.toNatClampNeg x7)))) H := hP1
          have hD : va_D A ((W_Model cI a (s_Model_place S (upd (g_Model_place S) x3.toNatClampNeg x7)))) := hD1.weaken (fun _ _ _ h => hFc _ h)
          refine lv_iadd hx hb dX5_joins_208 ?_
          obtain ⟨g6, hF⟩ := og_some hF
          refine va_iast (f := (g_Model_tree S)) hx hb hK hP hD hS 11 0 rfl rfl (inb_in g6) dX5_joins_209 (fun H locs hP hD hS => ?_)
          have hP : va_P (dC, dI) vwCl ((W_Model cI a (s_Model_place (s_Model_tree S (upd (g_Model_tree S) (((7 : Int32) * x7) + (3 : Int32)).toNatClampNeg (((g_Model_tree S) (((7 : Int32) * x7) + (3 : Int32)).toNatClampNeg) + r4))) (upd (g_Model_place S) x3.toNatClampNeg x7)))) H := hP
          have hD : va_D A ((W_Model cI a (s_Model_place (s_Model_tree S (upd (g_Model_tree S) (((7 : Int32) * x7) + (3 : Int32)).toNatClampNeg (((g_Model_tree S) (((7 : Int32) * x7) + (3 : Int32)).toNatClampNeg) + r4))) (upd (g_Model_place S) x3.toNatClampNeg x7)))) := hD
          refine lv_aload_n hx hb dX5_joins_210 rfl (lv_at hl 1 rfl) ?_
          refine va_get (D := (dC, dI)) (ci := 5) (v := .ref (a 11)) (C := RX5) (T := TX5) (N := 26) hx hb hts hinX5 hown hK hP 0 rfl rfl 18 (by decide) (hts (Cond.fieldLink RX5 40 "LearnedShapesModel" "tree" "[I") (List.mem_of_getElem? (i := 3) rfl)) (fun _ h9 => h9) rfl dX5_joins_211 ?_
          refine lv_iload hx hb dX5_joins_214 (lv_at hl 0 rfl) ?_
          refine lv_iconst (v := (5 : Int32)) hx hb dX5_joins_216 (by decide) ?_
          refine lv_iadd hx hb dX5_joins_217 ?_
          refine lv_dup2_11 hx hb dX5_joins_218 rfl rfl ?_
          obtain ⟨g7, hF⟩ := og_some hF
          refine va_iald (f := (upd (g_Model_tree S) (((7 : Int32) * x7) + (3 : Int32)).toNatClampNeg (((g_Model_tree S) (((7 : Int32) * x7) + (3 : Int32)).toNatClampNeg) + r4))) hx hb hK hP 11 0 rfl rfl (inb_in g7) dX5_joins_219 ?_
          refine lv_aload_n hx hb dX5_joins_220 rfl (lv_at hl 1 rfl) ?_
          refine lv_iload_n hx hb dX5_joins_221 rfl (lv_at hl 3 rfl) ?_
          refine lv_iload_n hx hb dX5_joins_222 rfl (lv_at hl 4 rfl) ?_
          refine lv_iconst (v := (5 : Int32)) hx hb dX5_joins_223 (by decide) ?_
          obtain ⟨r8, h9, hF⟩ := ob1_some hF
          have hPc : va_P (dC, dI) vwCl ((W_Model cI a (s_Model_place (s_Model_tree S (upd (g_Model_tree S) (((7 : Int32) * x7) + (3 : Int32)).toNatClampNeg (((g_Model_tree S) (((7 : Int32) * x7) + (3 : Int32)).toNatClampNeg) + r4))) (upd (g_Model_place S) x3.toNatClampNeg x7)))) H := hP
          have hDc : va_D A ((W_Model cI a (s_Model_place (s_Model_tree S (upd (g_Model_tree S) (((7 : Int32) * x7) + (3 : Int32)).toNatClampNeg (((g_Model_tree S) (((7 : Int32) * x7) + (3 : Int32)).toNatClampNeg) + r4))) (upd (g_Model_place S) x3.toNatClampNeg x7)))) := hD
          have hFc := va_free (wc := (W_Model cI a (s_Model_place (s_Model_tree S (upd (g_Model_tree S) (((7 : Int32) * x7) + (3 : Int32)).toNatClampNeg (((g_Model_tree S) (((7 : Int32) * x7) + (3 : Int32)).toNatClampNeg) + r4))) (upd (g_Model_place S) x3.toNatClampNeg x7)))) hD hS hA [0, 1, 2, 3, 4, 5, 6, 7, 8, 9, 10, 11, 12, 13] rfl
          refine va_calli (va_runV (As := [.int x2, .int x3, .int (5 : Int32)]) (rest := [.int ((upd (g_Model_tree S) (((7 : Int32) * x7) + (3 : Int32)).toNatClampNeg (((g_Model_tree S) (((7 : Int32) * x7) + (3 : Int32)).toNatClampNeg) + r4)) (((7 : Int32) * x7) + (5 : Int32)).toNatClampNeg), .int (((7 : Int32) * x7) + (5 : Int32)), .ref (a 11)]) ⟨hx, hb, hml, hown, hts⟩ (c_X5_of l dC dI cI a H.size _ _ _ _ _ h9) (cwV 3 hts gX5_joins_X5_of rfl rfl rfl (by decide +kernel) ⟨Nat.le_of_ble_eq_true rfl, Nat.le_of_ble_eq_true rfl⟩) (jPreV hK hPc hDc hN (ci := 5) rfl rfl) rfl rfl hl.1 rfl (lv_room (Nat.le_of_ble_eq_true rfl)) dX5_joins_224 ⟨Nat.le_of_ble_eq_true rfl, Nat.le_of_ble_eq_true rfl⟩) hS (fun q _ h => hFc q h) hFc (fun r' u' t H locs ht hvm hw hB hz1 hk1 hS => ?_)
          subst hw
          obtain ⟨hP1, -, hD1⟩ := hB
          rw [ht] at hP1
          have hP : va_P (dC, dI) vwCl ((W_Model cI a (s_Model_place (s_Model_tree S (upd (g_Model_tree S) (((7 : Int32) * x7) + (3 : Int32)).toNatClampNeg (((g_Model_tree S) (((7 : Int32) * x7) + (3 : Int32)).toNatClampNeg) + r4))) (upd (g_Model_place S) x3.toNatClampNeg x7)))) H := hP1
          have hD : va_D A ((W_Model cI a (s_Model_place (s_Model_tree S (upd (g_Model_tree S) (((7 : Int32) * x7) + (3 : Int32)).toNatClampNeg (((g_Model_tree S) (((7 : Int32) * x7) + (3 : Int32)).toNatClampNeg) + r4))) (upd (g_Model_place S) x3.toNatClampNeg x7)))) := hD1.weaken (fun _ _ _ h => hFc _ h)
          refine lv_iadd hx hb dX5_joins_227 ?_
          obtain ⟨g10, hF⟩ := og_some hF
          refine va_iast (f := (upd (g_Model_tree S) (((7 : Int32) * x7) + (3 : Int32)).toNatClampNeg (((g_Model_tree S) (((7 : Int32) * x7) + (3 : Int32)).toNatClampNeg) + r4))) hx hb hK hP hD hS 11 0 rfl rfl (inb_in g10) dX5_joins_228 (fun H locs hP hD hS => ?_)
          have hP : va_P (dC, dI) vwCl ((W_Model cI a (s_Model_place (s_Model_tree S (upd (upd (g_Model_tree S) (((7 : Int32) * x7) + (3 : Int32)).toNatClampNeg (((g_Model_tree S) (((7 : Int32) * x7) + (3 : Int32)).toNatClampNeg) + r4)) (((7 : Int32) * x7) + (5 : Int32)).toNatClampNeg (((upd (g_Model_tree S) (((7 : Int32) * x7) + (3 : Int32)).toNatClampNeg (((g_Model_tree S) (((7 : Int32) * x7) + (3 : Int32)).toNatClampNeg) + r4)) (((7 : Int32) * x7) + (5 : Int32)).toNatClampNeg) + r8))) (upd (g_Model_place S) x3.toNatClampNeg x7)))) H := hP
          have hD : va_D A ((W_Model cI a (s_Model_place (s_Model_tree S (upd (upd (g_Model_tree S) (((7 : Int32) * x7) + (3 : Int32)).toNatClampNeg (((g_Model_tree S) (((7 : Int32) * x7) + (3 : Int32)).toNatClampNeg) + r4)) (((7 : Int32) * x7) + (5 : Int32)).toNatClampNeg (((upd (g_Model_tree S) (((7 : Int32) * x7) + (3 : Int32)).toNatClampNeg (((g_Model_tree S) (((7 : Int32) * x7) + (3 : Int32)).toNatClampNeg) + r4)) (((7 : Int32) * x7) + (5 : Int32)).toNatClampNeg) + r8))) (upd (g_Model_place S) x3.toNatClampNeg x7)))) := hD
          refine lv_aload_n hx hb dX5_joins_229 rfl (lv_at hl 1 rfl) ?_
          refine va_get (D := (dC, dI)) (ci := 5) (v := .ref (a 11)) (C := RX5) (T := TX5) (N := 26) hx hb hts hinX5 hown hK hP 0 rfl rfl 18 (by decide) (hts (Cond.fieldLink RX5 40 "LearnedShapesModel" "tree" "[I") (List.mem_of_getElem? (i := 3) rfl)) (fun _ h9 => h9) rfl dX5_joins_230 ?_
          refine lv_iload hx hb dX5_joins_233 (lv_at hl 0 rfl) ?_
          refine lv_iconst (v := (4 : Int32)) hx hb dX5_joins_235 (by decide) ?_
          refine lv_iadd hx hb dX5_joins_236 ?_
          refine lv_dup2_11 hx hb dX5_joins_237 rfl rfl ?_
          obtain ⟨g11, hF⟩ := og_some hF
          refine va_iald (f := (upd (upd (g_Model_tree S) (((7 : Int32) * x7) + (3 : Int32)).toNatClampNeg (((g_Model_tree S) (((7 : Int32) * x7) + (3 : Int32)).toNatClampNeg) + r4)) (((7 : Int32) * x7) + (5 : Int32)).toNatClampNeg (((upd (g_Model_tree S) (((7 : Int32) * x7) + (3 : Int32)).toNatClampNeg (((g_Model_tree S) (((7 : Int32) * x7) + (3 : Int32)).toNatClampNeg) + r4)) (((7 : Int32) * x7) + (5 : Int32)).toNatClampNeg) + r8))) hx hb hK hP 11 0 rfl rfl (inb_in g11) dX5_joins_238 ?_
          refine lv_aload_n hx hb dX5_joins_239 rfl (lv_at hl 1 rfl) ?_
          refine lv_iload_n hx hb dX5_joins_240 rfl (lv_at hl 3 rfl) ?_
          refine lv_iload_n hx hb dX5_joins_241 rfl (lv_at hl 4 rfl) ?_
          refine lv_iconst (v := (4 : Int32)) hx hb dX5_joins_242 (by decide) ?_
          obtain ⟨r12, h13, hF⟩ := ob1_some hF
          have hPc : va_P (dC, dI) vwCl ((W_Model cI a (s_Model_place (s_Model_tree S (upd (upd (g_Model_tree S) (((7 : Int32) * x7) + (3 : Int32)).toNatClampNeg (((g_Model_tree S) (((7 : Int32) * x7) + (3 : Int32)).toNatClampNeg) + r4)) (((7 : Int32) * x7) + (5 : Int32)).toNatClampNeg (((upd (g_Model_tree S) (((7 : Int32) * x7) + (3 : Int32)).toNatClampNeg (((g_Model_tree S) (((7 : Int32) * x7) + (3 : Int32)).toNatClampNeg) + r4)) (((7 : Int32) * x7) + (5 : Int32)).toNatClampNeg) + r8))) (upd (g_Model_place S) x3.toNatClampNeg x7)))) H := hP
          have hDc : va_D A ((W_Model cI a (s_Model_place (s_Model_tree S (upd (upd (g_Model_tree S) (((7 : Int32) * x7) + (3 : Int32)).toNatClampNeg (((g_Model_tree S) (((7 : Int32) * x7) + (3 : Int32)).toNatClampNeg) + r4)) (((7 : Int32) * x7) + (5 : Int32)).toNatClampNeg (((upd (g_Model_tree S) (((7 : Int32) * x7) + (3 : Int32)).toNatClampNeg (((g_Model_tree S) (((7 : Int32) * x7) + (3 : Int32)).toNatClampNeg) + r4)) (((7 : Int32) * x7) + (5 : Int32)).toNatClampNeg) + r8))) (upd (g_Model_place S) x3.toNatClampNeg x7)))) := hD
          have hFc := va_free (wc := (W_Model cI a (s_Model_place (s_Model_tree S (upd (upd (g_Model_tree S) (((7 : Int32) * x7) + (3 : Int32)).toNatClampNeg (((g_Model_tree S) (((7 : Int32) * x7) + (3 : Int32)).toNatClampNeg) + r4)) (((7 : Int32) * x7) + (5 : Int32)).toNatClampNeg (((upd (g_Model_tree S) (((7 : Int32) * x7) + (3 : Int32)).toNatClampNeg (((g_Model_tree S) (((7 : Int32) * x7) + (3 : Int32)).toNatClampNeg) + r4)) (((7 : Int32) * x7) + (5 : Int32)).toNatClampNeg) + r8))) (upd (g_Model_place S) x3.toNatClampNeg x7)))) hD hS hA [0, 1, 2, 3, 4, 5, 6, 7, 8, 9, 10, 11, 12, 13] rfl
          refine va_calli (va_runV (As := [.int x2, .int x3, .int (4 : Int32)]) (rest := [.int ((upd (upd (g_Model_tree S) (((7 : Int32) * x7) + (3 : Int32)).toNatClampNeg (((g_Model_tree S) (((7 : Int32) * x7) + (3 : Int32)).toNatClampNeg) + r4)) (((7 : Int32) * x7) + (5 : Int32)).toNatClampNeg (((upd (g_Model_tree S) (((7 : Int32) * x7) + (3 : Int32)).toNatClampNeg (((g_Model_tree S) (((7 : Int32) * x7) + (3 : Int32)).toNatClampNeg) + r4)) (((7 : Int32) * x7) + (5 : Int32)).toNatClampNeg) + r8)) (((7 : Int32) * x7) + (4 : Int32)).toNatClampNeg), .int (((7 : Int32) * x7) + (4 : Int32)), .ref (a 11)]) ⟨hx, hb, hml, hown, hts⟩ (c_X5_of l dC dI cI a H.size _ _ _ _ _ h13) (cwV 3 hts gX5_joins_X5_of rfl rfl rfl (by decide +kernel) ⟨Nat.le_of_ble_eq_true rfl, Nat.le_of_ble_eq_true rfl⟩) (jPreV hK hPc hDc hN (ci := 5) rfl rfl) rfl rfl hl.1 rfl (lv_room (Nat.le_of_ble_eq_true rfl)) dX5_joins_243 ⟨Nat.le_of_ble_eq_true rfl, Nat.le_of_ble_eq_true rfl⟩) hS (fun q _ h => hFc q h) hFc (fun r' u' t H locs ht hvm hw hB hz1 hk1 hS => ?_)
          subst hw
          obtain ⟨hP1, -, hD1⟩ := hB
          rw [ht] at hP1
          have hP : va_P (dC, dI) vwCl ((W_Model cI a (s_Model_place (s_Model_tree S (upd (upd (g_Model_tree S) (((7 : Int32) * x7) + (3 : Int32)).toNatClampNeg (((g_Model_tree S) (((7 : Int32) * x7) + (3 : Int32)).toNatClampNeg) + r4)) (((7 : Int32) * x7) + (5 : Int32)).toNatClampNeg (((upd (g_Model_tree S) (((7 : Int32) * x7) + (3 : Int32)).toNatClampNeg (((g_Model_tree S) (((7 : Int32) * x7) + (3 : Int32)).toNatClampNeg) + r4)) (((7 : Int32) * x7) + (5 : Int32)).toNatClampNeg) + r8))) (upd (g_Model_place S) x3.toNatClampNeg x7)))) H := hP1
          have hD : va_D A ((W_Model cI a (s_Model_place (s_Model_tree S (upd (upd (g_Model_tree S) (((7 : Int32) * x7) + (3 : Int32)).toNatClampNeg (((g_Model_tree S) (((7 : Int32) * x7) + (3 : Int32)).toNatClampNeg) + r4)) (((7 : Int32) * x7) + (5 : Int32)).toNatClampNeg (((upd (g_Model_tree S) (((7 : Int32) * x7) + (3 : Int32)).toNatClampNeg (((g_Model_tree S) (((7 : Int32) * x7) + (3 : Int32)).toNatClampNeg) + r4)) (((7 : Int32) * x7) + (5 : Int32)).toNatClampNeg) + r8))) (upd (g_Model_place S) x3.toNatClampNeg x7)))) := hD1.weaken (fun _ _ _ h => hFc _ h)
          refine lv_ior hx hb dX5_joins_246 ?_
          obtain ⟨g14, hF⟩ := og_some hF
          refine va_iast (f := (upd (upd (g_Model_tree S) (((7 : Int32) * x7) + (3 : Int32)).toNatClampNeg (((g_Model_tree S) (((7 : Int32) * x7) + (3 : Int32)).toNatClampNeg) + r4)) (((7 : Int32) * x7) + (5 : Int32)).toNatClampNeg (((upd (g_Model_tree S) (((7 : Int32) * x7) + (3 : Int32)).toNatClampNeg (((g_Model_tree S) (((7 : Int32) * x7) + (3 : Int32)).toNatClampNeg) + r4)) (((7 : Int32) * x7) + (5 : Int32)).toNatClampNeg) + r8))) hx hb hK hP hD hS 11 0 rfl rfl (inb_in g14) dX5_joins_247 (fun H locs hP hD hS => ?_)
          have hP : va_P (dC, dI) vwCl ((W_Model cI a (s_Model_place (s_Model_tree S (upd (upd (upd (g_Model_tree S) (((7 : Int32) * x7) + (3 : Int32)).toNatClampNeg (((g_Model_tree S) (((7 : Int32) * x7) + (3 : Int32)).toNatClampNeg) + r4)) (((7 : Int32) * x7) + (5 : Int32)).toNatClampNeg (((upd (g_Model_tree S) (((7 : Int32) * x7) + (3 : Int32)).toNatClampNeg (((g_Model_tree S) (((7 : Int32) * x7) + (3 : Int32)).toNatClampNeg) + r4)) (((7 : Int32) * x7) + (5 : Int32)).toNatClampNeg) + r8)) (((7 : Int32) * x7) + (4 : Int32)).toNatClampNeg (((upd (upd (g_Model_tree S) (((7 : Int32) * x7) + (3 : Int32)).toNatClampNeg (((g_Model_tree S) (((7 : Int32) * x7) + (3 : Int32)).toNatClampNeg) + r4)) (((7 : Int32) * x7) + (5 : Int32)).toNatClampNeg (((upd (g_Model_tree S) (((7 : Int32) * x7) + (3 : Int32)).toNatClampNeg (((g_Model_tree S) (((7 : Int32) * x7) + (3 : Int32)).toNatClampNeg) + r4)) (((7 : Int32) * x7) + (5 : Int32)).toNatClampNeg) + r8)) (((7 : Int32) * x7) + (4 : Int32)).toNatClampNeg) ||| r12))) (upd (g_Model_place S) x3.toNatClampNeg x7)))) H := hP
          have hD : va_D A ((W_Model cI a (s_Model_place (s_Model_tree S (upd (upd (upd (g_Model_tree S) (((7 : Int32) * x7) + (3 : Int32)).toNatClampNeg (((g_Model_tree S) (((7 : Int32) * x7) + (3 : Int32)).toNatClampNeg) + r4)) (((7 : Int32) * x7) + (5 : Int32)).toNatClampNeg (((upd (g_Model_tree S) (((7 : Int32) * x7) + (3 : Int32)).toNatClampNeg (((g_Model_tree S) (((7 : Int32) * x7) + (3 : Int32)).toNatClampNeg) + r4)) (((7 : Int32) * x7) + (5 : Int32)).toNatClampNeg) + r8)) (((7 : Int32) * x7) + (4 : Int32)).toNatClampNeg (((upd (upd (g_Model_tree S) (((7 : Int32) * x7) + (3 : Int32)).toNatClampNeg (((g_Model_tree S) (((7 : Int32) * x7) + (3 : Int32)).toNatClampNeg) + r4)) (((7 : Int32) * x7) + (5 : Int32)).toNatClampNeg (((upd (g_Model_tree S) (((7 : Int32) * x7) + (3 : Int32)).toNatClampNeg (((g_Model_tree S) (((7 : Int32) * x7) + (3 : Int32)).toNatClampNeg) + r4)) (((7 : Int32) * x7) + (5 : Int32)).toNatClampNeg) + r8)) (((7 : Int32) * x7) + (4 : Int32)).toNatClampNeg) ||| r12))) (upd (g_Model_place S) x3.toNatClampNeg x7)))) := hD
          refine lv_aload_n hx hb dX5_joins_248 rfl (lv_at hl 1 rfl) ?_
          refine lv_iload hx hb dX5_joins_249 (lv_at hl 6 rfl) ?_
          refine lv_aload_n hx hb dX5_joins_251 rfl (lv_at hl 1 rfl) ?_
          refine va_get (D := (dC, dI)) (ci := 5) (v := .ref (a 11)) (C := RX5) (T := TX5) (N := 26) hx hb hts hinX5 hown hK hP 0 rfl rfl 18 (by decide) (hts (Cond.fieldLink RX5 40 "LearnedShapesModel" "tree" "[I") (List.mem_of_getElem? (i := 3) rfl)) (fun _ h9 => h9) rfl dX5_joins_252 ?_
          refine lv_iload hx hb dX5_joins_255 (lv_at hl 0 rfl) ?_
          obtain ⟨g15, hF⟩ := og_some hF
          refine va_iald (f := (upd (upd (upd (g_Model_tree S) (((7 : Int32) * x7) + (3 : Int32)).toNatClampNeg (((g_Model_tree S) (((7 : Int32) * x7) + (3 : Int32)).toNatClampNeg) + r4)) (((7 : Int32) * x7) + (5 : Int32)).toNatClampNeg (((upd (g_Model_tree S) (((7 : Int32) * x7) + (3 : Int32)).toNatClampNeg (((g_Model_tree S) (((7 : Int32) * x7) + (3 : Int32)).toNatClampNeg) + r4)) (((7 : Int32) * x7) + (5 : Int32)).toNatClampNeg) + r8)) (((7 : Int32) * x7) + (4 : Int32)).toNatClampNeg (((upd (upd (g_Model_tree S) (((7 : Int32) * x7) + (3 : Int32)).toNatClampNeg (((g_Model_tree S) (((7 : Int32) * x7) + (3 : Int32)).toNatClampNeg) + r4)) (((7 : Int32) * x7) + (5 : Int32)).toNatClampNeg (((upd (g_Model_tree S) (((7 : Int32) * x7) + (3 : Int32)).toNatClampNeg (((g_Model_tree S) (((7 : Int32) * x7) + (3 : Int32)).toNatClampNeg) + r4)) (((7 : Int32) * x7) + (5 : Int32)).toNatClampNeg) + r8)) (((7 : Int32) * x7) + (4 : Int32)).toNatClampNeg) ||| r12))) hx hb hK hP 11 0 rfl rfl (inb_in g15) dX5_joins_257 ?_
          refine lv_aload_n hx hb dX5_joins_258 rfl (lv_at hl 1 rfl) ?_
          refine lv_iload_n hx hb dX5_joins_259 rfl (lv_at hl 3 rfl) ?_
          refine lv_iload_n hx hb dX5_joins_260 rfl (lv_at hl 4 rfl) ?_
          refine lv_iconst (v := (0 : Int32)) hx hb dX5_joins_261 (by decide) ?_
          obtain ⟨r16, h17, hF⟩ := ob1_some hF
          have hPc : va_P (dC, dI) vwCl ((W_Model cI a (s_Model_place (s_Model_tree S (upd (upd (upd (g_Model_tree S) (((7 : Int32) * x7) + (3 : Int32)).toNatClampNeg (((g_Model_tree S) (((7 : Int32) * x7) + (3 : Int32)).toNatClampNeg) + r4)) (((7 : Int32) * x7) + (5 : Int32)).toNatClampNeg (((upd (g_Model_tree S) (((7 : Int32) * x7) + (3 : Int32)).toNatClampNeg (((g_Model_tree S) (((7 : Int32) * x7) + (3 : Int32)).toNatClampNeg) + r4)) (((7 : Int32) * x7) + (5 : Int32)).toNatClampNeg) + r8)) (((7 : Int32) * x7) + (4 : Int32)).toNatClampNeg (((upd (upd (g_Model_tree S) (((7 : Int32) * x7) + (3 : Int32)).toNatClampNeg (((g_Model_tree S) (((7 : Int32) * x7) + (3 : Int32)).toNatClampNeg) + r4)) (((7 : Int32) * x7) + (5 : Int32)).toNatClampNeg (((upd (g_Model_tree S) (((7 : Int32) * x7) + (3 : Int32)).toNatClampNeg (((g_Model_tree S) (((7 : Int32) * x7) + (3 : Int32)).toNatClampNeg) + r4)) (((7 : Int32) * x7) + (5 : Int32)).toNatClampNeg) + r8)) (((7 : Int32) * x7) + (4 : Int32)).toNatClampNeg) ||| r12))) (upd (g_Model_place S) x3.toNatClampNeg x7)))) H := hP
          have hDc : va_D A ((W_Model cI a (s_Model_place (s_Model_tree S (upd (upd (upd (g_Model_tree S) (((7 : Int32) * x7) + (3 : Int32)).toNatClampNeg (((g_Model_tree S) (((7 : Int32) * x7) + (3 : Int32)).toNatClampNeg) + r4)) (((7 : Int32) * x7) + (5 : Int32)).toNatClampNeg (((upd (g_Model_tree S) (((7 : Int32) * x7) + (3 : Int32)).toNatClampNeg (((g_Model_tree S) (((7 : Int32) * x7) + (3 : Int32)).toNatClampNeg) + r4)) (((7 : Int32) * x7) + (5 : Int32)).toNatClampNeg) + r8)) (((7 : Int32) * x7) + (4 : Int32)).toNatClampNeg (((upd (upd (g_Model_tree S) (((7 : Int32) * x7) + (3 : Int32)).toNatClampNeg (((g_Model_tree S) (((7 : Int32) * x7) + (3 : Int32)).toNatClampNeg) + r4)) (((7 : Int32) * x7) + (5 : Int32)).toNatClampNeg (((upd (g_Model_tree S) (((7 : Int32) * x7) + (3 : Int32)).toNatClampNeg (((g_Model_tree S) (((7 : Int32) * x7) + (3 : Int32)).toNatClampNeg) + r4)) (((7 : Int32) * x7) + (5 : Int32)).toNatClampNeg) + r8)) (((7 : Int32) * x7) + (4 : Int32)).toNatClampNeg) ||| r12))) (upd (g_Model_place S) x3.toNatClampNeg x7)))) := hD
          have hFc := va_free (wc := (W_Model cI a (s_Model_place (s_Model_tree S (upd (upd (upd (g_Model_tree S) (((7 : Int32) * x7) + (3 : Int32)).toNatClampNeg (((g_Model_tree S) (((7 : Int32) * x7) + (3 : Int32)).toNatClampNeg) + r4)) (((7 : Int32) * x7) + (5 : Int32)).toNatClampNeg (((upd (g_Model_tree S) (((7 : Int32) * x7) + (3 : Int32)).toNatClampNeg (((g_Model_tree S) (((7 : Int32) * x7) + (3 : Int32)).toNatClampNeg) + r4)) (((7 : Int32) * x7) + (5 : Int32)).toNatClampNeg) + r8)) (((7 : Int32) * x7) + (4 : Int32)).toNatClampNeg (((upd (upd (g_Model_tree S) (((7 : Int32) * x7) + (3 : Int32)).toNatClampNeg (((g_Model_tree S) (((7 : Int32) * x7) + (3 : Int32)).toNatClampNeg) + r4)) (((7 : Int32) * x7) + (5 : Int32)).toNatClampNeg (((upd (g_Model_tree S) (((7 : Int32) * x7) + (3 : Int32)).toNatClampNeg (((g_Model_tree S) (((7 : Int32) * x7) + (3 : Int32)).toNatClampNeg) + r4)) (((7 : Int32) * x7) + (5 : Int32)).toNatClampNeg) + r8)) (((7 : Int32) * x7) + (4 : Int32)).toNatClampNeg) ||| r12))) (upd (g_Model_place S) x3.toNatClampNeg x7)))) hD hS hA [0, 1, 2, 3, 4, 5, 6, 7, 8, 9, 10, 11, 12, 13] rfl
          refine va_calli (va_runV (As := [.int x2, .int x3, .int (0 : Int32)]) (rest := [.int ((upd (upd (upd (g_Model_tree S) (((7 : Int32) * x7) + (3 : Int32)).toNatClampNeg (((g_Model_tree S) (((7 : Int32) * x7) + (3 : Int32)).toNatClampNeg) + r4)) (((7 : Int32) * x7) + (5 : Int32)).toNatClampNeg (((upd (g_Model_tree S) (((7 : Int32) * x7) + (3 : Int32)).toNatClampNeg (((g_Model_tree S) (((7 : Int32) * x7) + (3 : Int32)).toNatClampNeg) + r4)) (((7 : Int32) * x7) + (5 : Int32)).toNatClampNeg) + r8)) (((7 : Int32) * x7) + (4 : Int32)).toNatClampNeg (((upd (upd (g_Model_tree S) (((7 : Int32) * x7) + (3 : Int32)).toNatClampNeg (((g_Model_tree S) (((7 : Int32) * x7) + (3 : Int32)).toNatClampNeg) + r4)) (((7 : Int32) * x7) + (5 : Int32)).toNatClampNeg (((upd (g_Model_tree S) (((7 : Int32) * x7) + (3 : Int32)).toNatClampNeg (((g_Model_tree S) (((7 : Int32) * x7) + (3 : Int32)).toNatClampNeg) + r4)) (((7 : Int32) * x7) + (5 : Int32)).toNatClampNeg) + r8)) (((7 : Int32) * x7) + (4 : Int32)).toNatClampNeg) ||| r12)) ((7 : Int32) * x7).toNatClampNeg), .int x7, .ref (a 0)]) ⟨hx, hb, hml, hown, hts⟩ (c_X5_of l dC dI cI a H.size _ _ _ _ _ h17) (cwV 3 hts gX5_joins_X5_of rfl rfl rfl (by decide +kernel) ⟨Nat.le_of_ble_eq_true rfl, Nat.le_of_ble_eq_true rfl⟩) (jPreV hK hPc hDc hN (ci := 5) rfl rfl) rfl rfl hl.1 rfl (lv_room (Nat.le_of_ble_eq_true rfl)) dX5_joins_262 ⟨Nat.le_of_ble_eq_true rfl, Nat.le_of_ble_eq_true rfl⟩) hS (fun q _ h => hFc q h) hFc (fun r' u' t H locs ht hvm hw hB hz1 hk1 hS => ?_)
          subst hw
          obtain ⟨hP1, -, hD1⟩ := hB
          rw [ht] at hP1
          have hP : va_P (dC, dI) vwCl ((W_Model cI a (s_Model_place (s_Model_tree S (upd (upd (upd (g_Model_tree S) (((7 : Int32) * x7) + (3 : Int32)).toNatClampNeg (((g_Model_tree S) (((7 : Int32) * x7) + (3 : Int32)).toNatClampNeg) + r4)) (((7 : Int32) * x7) + (5 : Int32)).toNatClampNeg (((upd (g_Model_tree S) (((7 : Int32) * x7) + (3 : Int32)).toNatClampNeg (((g_Model_tree S) (((7 : Int32) * x7) + (3 : Int32)).toNatClampNeg) + r4)) (((7 : Int32) * x7) + (5 : Int32)).toNatClampNeg) + r8)) (((7 : Int32) * x7) + (4 : Int32)).toNatClampNeg (((upd (upd (g_Model_tree S) (((7 : Int32) * x7) + (3 : Int32)).toNatClampNeg (((g_Model_tree S) (((7 : Int32) * x7) + (3 : Int32)).toNatClampNeg) + r4)) (((7 : Int32) * x7) + (5 : Int32)).toNatClampNeg (((upd (g_Model_tree S) (((7 : Int32) * x7) + (3 : Int32)).toNatClampNeg (((g_Model_tree S) (((7 : Int32) * x7) + (3 : Int32)).toNatClampNeg) + r4)) (((7 : Int32) * x7) + (5 : Int32)).toNatClampNeg) + r8)) (((7 : Int32) * x7) + (4 : Int32)).toNatClampNeg) ||| r12))) (upd (g_Model_place S) x3.toNatClampNeg x7)))) H := hP1
          have hD : va_D A ((W_Model cI a (s_Model_place (s_Model_tree S (upd (upd (upd (g_Model_tree S) (((7 : Int32) * x7) + (3 : Int32)).toNatClampNeg (((g_Model_tree S) (((7 : Int32) * x7) + (3 : Int32)).toNatClampNeg) + r4)) (((7 : Int32) * x7) + (5 : Int32)).toNatClampNeg (((upd (g_Model_tree S) (((7 : Int32) * x7) + (3 : Int32)).toNatClampNeg (((g_Model_tree S) (((7 : Int32) * x7) + (3 : Int32)).toNatClampNeg) + r4)) (((7 : Int32) * x7) + (5 : Int32)).toNatClampNeg) + r8)) (((7 : Int32) * x7) + (4 : Int32)).toNatClampNeg (((upd (upd (g_Model_tree S) (((7 : Int32) * x7) + (3 : Int32)).toNatClampNeg (((g_Model_tree S) (((7 : Int32) * x7) + (3 : Int32)).toNatClampNeg) + r4)) (((7 : Int32) * x7) + (5 : Int32)).toNatClampNeg (((upd (g_Model_tree S) (((7 : Int32) * x7) + (3 : Int32)).toNatClampNeg (((g_Model_tree S) (((7 : Int32) * x7) + (3 : Int32)).toNatClampNeg) + r4)) (((7 : Int32) * x7) + (5 : Int32)).toNatClampNeg) + r8)) (((7 : Int32) * x7) + (4 : Int32)).toNatClampNeg) ||| r12))) (upd (g_Model_place S) x3.toNatClampNeg x7)))) := hD1.weaken (fun _ _ _ h => hFc _ h)
          obtain ⟨r18, h19, hF⟩ := ob1_some hF
          have hPc := hP.sub (ws' := ([] : va_W)) [] rfl
          have hDc := hD.sub (ws' := ([] : va_W)) [] (by decide) rfl
          have hFc := va_free (wc := ([] : va_W)) hD hS hA [] rfl
          refine va_calli (va_runS (As := [.int ((upd (upd (upd (g_Model_tree S) (((7 : Int32) * x7) + (3 : Int32)).toNatClampNeg (((g_Model_tree S) (((7 : Int32) * x7) + (3 : Int32)).toNatClampNeg) + r4)) (((7 : Int32) * x7) + (5 : Int32)).toNatClampNeg (((upd (g_Model_tree S) (((7 : Int32) * x7) + (3 : Int32)).toNatClampNeg (((g_Model_tree S) (((7 : Int32) * x7) + (3 : Int32)).toNatClampNeg) + r4)) (((7 : Int32) * x7) + (5 : Int32)).toNatClampNeg) + r8)) (((7 : Int32) * x7) + (4 : Int32)).toNatClampNeg (((upd (upd (g_Model_tree S) (((7 : Int32) * x7) + (3 : Int32)).toNatClampNeg (((g_Model_tree S) (((7 : Int32) * x7) + (3 : Int32)).toNatClampNeg) + r4)) (((7 : Int32) * x7) + (5 : Int32)).toNatClampNeg (((upd (g_Model_tree S) (((7 : Int32) * x7) + (3 : Int32)).toNatClampNeg (((g_Model_tree S) (((7 : Int32) * x7) + (3 : Int32)).toNatClampNeg) + r4)) (((7 : Int32) * x7) + (5 : Int32)).toNatClampNeg) + r8)) (((7 : Int32) * x7) + (4 : Int32)).toNatClampNeg) ||| r12)) ((7 : Int32) * x7).toNatClampNeg), .int r16]) (rest := [.int x7, .ref (a 0)]) ⟨hx, hb, hml, hown, hts⟩ (c_X5_joined l dC dI cI  H.size _ _ _ h19) (va_cwS 2 hts gX5_joins_X5_joined rfl rfl rfl (by decide +kernel) ⟨Nat.le_of_ble_eq_true rfl, Nat.le_of_ble_eq_true rfl⟩) (jPreS hK hPc hDc hN) rfl rfl hl.1 rfl (lv_room (Nat.le_of_ble_eq_true rfl)) dX5_joins_265 ⟨Nat.le_of_ble_eq_true rfl, Nat.le_of_ble_eq_true rfl⟩) hS (fun q _ h => hFc q h) hFc (fun r' u' t H locs ht hvm hw hB hz1 hk1 hS => ?_)
          subst hw
          obtain ⟨hP1, -, hD1⟩ := hB
          rw [ht] at hP1
          obtain ⟨hP, hD⟩ := jJoin (wc := ([] : va_W)) (w1 := ([] : va_W)) (ws' := (W_Model cI a (s_Model_place (s_Model_tree S (upd (upd (upd (g_Model_tree S) (((7 : Int32) * x7) + (3 : Int32)).toNatClampNeg (((g_Model_tree S) (((7 : Int32) * x7) + (3 : Int32)).toNatClampNeg) + r4)) (((7 : Int32) * x7) + (5 : Int32)).toNatClampNeg (((upd (g_Model_tree S) (((7 : Int32) * x7) + (3 : Int32)).toNatClampNeg (((g_Model_tree S) (((7 : Int32) * x7) + (3 : Int32)).toNatClampNeg) + r4)) (((7 : Int32) * x7) + (5 : Int32)).toNatClampNeg) + r8)) (((7 : Int32) * x7) + (4 : Int32)).toNatClampNeg (((upd (upd (g_Model_tree S) (((7 : Int32) * x7) + (3 : Int32)).toNatClampNeg (((g_Model_tree S) (((7 : Int32) * x7) + (3 : Int32)).toNatClampNeg) + r4)) (((7 : Int32) * x7) + (5 : Int32)).toNatClampNeg (((upd (g_Model_tree S) (((7 : Int32) * x7) + (3 : Int32)).toNatClampNeg (((g_Model_tree S) (((7 : Int32) * x7) + (3 : Int32)).toNatClampNeg) + r4)) (((7 : Int32) * x7) + (5 : Int32)).toNatClampNeg) + r8)) (((7 : Int32) * x7) + (4 : Int32)).toNatClampNeg) ||| r12))) (upd (g_Model_place S) x3.toNatClampNeg x7)))) hP hD [] [0, 1, 2, 3, 4, 5, 6, 7, 8, 9, 10, 11, 12, 13] [0, 1, 2, 3, 4, 5, 6, 7, 8, 9, 10, 11, 12, 13] rfl rfl (by decide) (by decide) hk1 hFc hP1 hD1 (by decide) rfl
          refine lv_iload hx hb dX5_joins_268 (lv_at hl 5 rfl) ?_
          obtain ⟨u20, h21, hF⟩ := ob1_some hF
          have hPc : va_P (dC, dI) vwCl ((W_Model cI a (s_Model_place (s_Model_tree S (upd (upd (upd (g_Model_tree S) (((7 : Int32) * x7) + (3 : Int32)).toNatClampNeg (((g_Model_tree S) (((7 : Int32) * x7) + (3 : Int32)).toNatClampNeg) + r4)) (((7 : Int32) * x7) + (5 : Int32)).toNatClampNeg (((upd (g_Model_tree S) (((7 : Int32) * x7) + (3 : Int32)).toNatClampNeg (((g_Model_tree S) (((7 : Int32) * x7) + (3 : Int32)).toNatClampNeg) + r4)) (((7 : Int32) * x7) + (5 : Int32)).toNatClampNeg) + r8)) (((7 : Int32) * x7) + (4 : Int32)).toNatClampNeg (((upd (upd (g_Model_tree S) (((7 : Int32) * x7) + (3 : Int32)).toNatClampNeg (((g_Model_tree S) (((7 : Int32) * x7) + (3 : Int32)).toNatClampNeg) + r4)) (((7 : Int32) * x7) + (5 : Int32)).toNatClampNeg (((upd (g_Model_tree S) (((7 : Int32) * x7) + (3 : Int32)).toNatClampNeg (((g_Model_tree S) (((7 : Int32) * x7) + (3 : Int32)).toNatClampNeg) + r4)) (((7 : Int32) * x7) + (5 : Int32)).toNatClampNeg) + r8)) (((7 : Int32) * x7) + (4 : Int32)).toNatClampNeg) ||| r12))) (upd (g_Model_place S) x3.toNatClampNeg x7)))) H := hP
          have hDc : va_D A ((W_Model cI a (s_Model_place (s_Model_tree S (upd (upd (upd (g_Model_tree S) (((7 : Int32) * x7) + (3 : Int32)).toNatClampNeg (((g_Model_tree S) (((7 : Int32) * x7) + (3 : Int32)).toNatClampNeg) + r4)) (((7 : Int32) * x7) + (5 : Int32)).toNatClampNeg (((upd (g_Model_tree S) (((7 : Int32) * x7) + (3 : Int32)).toNatClampNeg (((g_Model_tree S) (((7 : Int32) * x7) + (3 : Int32)).toNatClampNeg) + r4)) (((7 : Int32) * x7) + (5 : Int32)).toNatClampNeg) + r8)) (((7 : Int32) * x7) + (4 : Int32)).toNatClampNeg (((upd (upd (g_Model_tree S) (((7 : Int32) * x7) + (3 : Int32)).toNatClampNeg (((g_Model_tree S) (((7 : Int32) * x7) + (3 : Int32)).toNatClampNeg) + r4)) (((7 : Int32) * x7) + (5 : Int32)).toNatClampNeg (((upd (g_Model_tree S) (((7 : Int32) * x7) + (3 : Int32)).toNatClampNeg (((g_Model_tree S) (((7 : Int32) * x7) + (3 : Int32)).toNatClampNeg) + r4)) (((7 : Int32) * x7) + (5 : Int32)).toNatClampNeg) + r8)) (((7 : Int32) * x7) + (4 : Int32)).toNatClampNeg) ||| r12))) (upd (g_Model_place S) x3.toNatClampNeg x7)))) := hD
          have hFc := va_free (wc := (W_Model cI a (s_Model_place (s_Model_tree S (upd (upd (upd (g_Model_tree S) (((7 : Int32) * x7) + (3 : Int32)).toNatClampNeg (((g_Model_tree S) (((7 : Int32) * x7) + (3 : Int32)).toNatClampNeg) + r4)) (((7 : Int32) * x7) + (5 : Int32)).toNatClampNeg (((upd (g_Model_tree S) (((7 : Int32) * x7) + (3 : Int32)).toNatClampNeg (((g_Model_tree S) (((7 : Int32) * x7) + (3 : Int32)).toNatClampNeg) + r4)) (((7 : Int32) * x7) + (5 : Int32)).toNatClampNeg) + r8)) (((7 : Int32) * x7) + (4 : Int32)).toNatClampNeg (((upd (upd (g_Model_tree S) (((7 : Int32) * x7) + (3 : Int32)).toNatClampNeg (((g_Model_tree S) (((7 : Int32) * x7) + (3 : Int32)).toNatClampNeg) + r4)) (((7 : Int32) * x7) + (5 : Int32)).toNatClampNeg (((upd (g_Model_tree S) (((7 : Int32) * x7) + (3 : Int32)).toNatClampNeg (((g_Model_tree S) (((7 : Int32) * x7) + (3 : Int32)).toNatClampNeg) + r4)) (((7 : Int32) * x7) + (5 : Int32)).toNatClampNeg) + r8)) (((7 : Int32) * x7) + (4 : Int32)).toNatClampNeg) ||| r12))) (upd (g_Model_place S) x3.toNatClampNeg x7)))) hD hS hA [0, 1, 2, 3, 4, 5, 6, 7, 8, 9, 10, 11, 12, 13] rfl
          refine va_callv (va_runV (As := [.int x7, .int r18, .int x5]) (rest := []) ⟨hx, hb, hml, hown, hts⟩ (c_X5_widens l dC dI cI a H.size _ _ _ _ _ h21) (cwV 3 hts gX5_joins_X5_widens rfl rfl rfl (by decide +kernel) ⟨Nat.le_of_ble_eq_true rfl, Nat.le_of_ble_eq_true rfl⟩) (jPreV hK hPc hDc hN (ci := 5) rfl rfl) rfl rfl hl.1 rfl (lv_room (Nat.le_of_ble_eq_true rfl)) dX5_joins_270 ⟨Nat.le_of_ble_eq_true rfl, Nat.le_of_ble_eq_true rfl⟩) hS (fun q _ h => hFc q h) hFc (fun u' t H locs ht hvm hw hB hz1 hk1 hS => ?_)
          subst hw
          obtain ⟨hP1, -, hD1⟩ := hB
          rw [ht] at hP1
          have hP : va_P (dC, dI) vwCl ((W_Model cI a u20)) H := hP1
          have hD : va_D A ((W_Model cI a u20)) := hD1.weaken (fun _ _ _ h => hFc _ h)
          refine lv_iinc (v := (x3 + (1 : Int32))) (lv' := [(3, .int (x3 + (1 : Int32))), (8, .int ((7 : Int32) * x7)), (0, .ref (a 0)), (1, .int v1), (2, .int x2), (5, .int x5), (7, .int x7)]) hx hb dX5_joins_273 hl (k := 4) rfl rfl (by decide) rfl (fun ls hl => ?_)
          refine lv_goto (tgt := 11) hx hb dX5_joins_276 (by decide) ?_
          exact ih11 _ _ _ _ _ hF hP hD hS _ (lv_sub hl [2, 3, 4, 0] rfl)
      have K133 : ∀ (S : S_Model) (x2 : Int32) (x3 : Int32) (x4 : Int32) (x5 : Int32) (x6 : Bool) (t0 : Int32) (H : Heap) (locs : List Loc), F_X5_joins_133 v1 (F_X5_joins_11 v1 n11) S x2 x3 x4 x5 x6 t0 = some Y → va_P (dC, dI) vwCl ((W_Model cI a S)) H → va_D A ((W_Model cI a S)) → va_S A s.heap H locs → ∀ ls : Array Slot, lv_has ls 9 [(0, .ref (a 0)), (1, .int v1), (2, .int x2), (3, .int x3), (4, .int x4), (5, .int x5), (6, .int (b2i x6))] → W p l e (headSpec wsX5_joins ({ frames := 2, cells := 0, slots := 0, locals := 48 } : Room)).room s m ([.ref (a 0), .int v1] : List Value).toArray below meth c H locs 0 0 (MQ below (va_Qv (fun u : S_Model => Y = u) (fun u : S_Model => jB (dC, dI) [(cI, .int)] A ((W_Model cI a u))) A) ([.ref (a 0), .int v1] : List Value).toArray s 0 0 A) (F0 m 133 ls [.int t0]) := by
        intro S x2 x3 x4 x5 x6 t0 H locs hF hP hD hS ls hl
        unfold F_X5_joins_133 at hF
        refine lv_istore (lv' := [(7, .int t0), (0, .ref (a 0)), (1, .int v1), (2, .int x2), (3, .int x3), (4, .int x4), (5, .int x5), (6, .int (b2i x6))]) hx hb dX5_joins_133 hl (by decide) rfl (fun ls hl => ?_)
        refine lv_iload hx hb dX5_joins_135 (lv_at hl 7 rfl) ?_
        refine lv_if_ne (tgt := 170) hx hb dX5_joins_137 (by decide) (fun c22 => ?_) (fun c22 => ?_)
        · have hF := F_neg c22 hF
          exact K170 _ _ _ _ _ _ _ hF hP hD hS _ (lv_sub hl [1, 2, 3, 4, 6, 0] rfl)
        · have hF := F_pos c22 hF
          refine lv_iload hx hb dX5_joins_140 (lv_at hl 0 rfl) ?_
          refine lv_iconst (v := (-1 : Int32)) hx hb dX5_joins_142 (by decide) ?_
          refine lv_icmp_ne (tgt := 170) hx hb dX5_joins_143 (by decide) (fun c23 => ?_) (fun c23 => ?_)
          · have hF := F_neg c23 hF
            exact K170 _ _ _ _ _ _ _ hF hP hD hS _ (lv_sub hl [1, 2, 3, 4, 6, 0] rfl)
          · have hF := F_pos c23 hF
            refine lv_aload_n hx hb dX5_joins_146 rfl (lv_at hl 1 rfl) ?_
            refine lv_iload hx hb dX5_joins_147 (lv_at hl 5 rfl) ?_
            refine lv_aload_n hx hb dX5_joins_149 rfl (lv_at hl 1 rfl) ?_
            refine lv_iload_n hx hb dX5_joins_150 rfl (lv_at hl 3 rfl) ?_
            refine lv_iload_n hx hb dX5_joins_151 rfl (lv_at hl 4 rfl) ?_
            refine lv_iconst (v := (2 : Int32)) hx hb dX5_joins_152 (by decide) ?_
            obtain ⟨r24, h25, hF⟩ := ob1_some hF
            have hPc : va_P (dC, dI) vwCl ((W_Model cI a S)) H := hP
            have hDc : va_D A ((W_Model cI a S)) := hD
            have hFc := va_free (wc := (W_Model cI a S)) hD hS hA [0, 1, 2, 3, 4, 5, 6, 7, 8, 9, 10, 11, 12, 13] rfl
            refine va_calli (va_runV (As := [.int x2, .int x3, .int (2 : Int32)]) (rest := [.int x4, .ref (a 0)]) ⟨hx, hb, hml, hown, hts⟩ (c_X5_of l dC dI cI a H.size _ _ _ _ _ h25) (cwV 3 hts gX5_joins_X5_of rfl rfl rfl (by decide +kernel) ⟨Nat.le_of_ble_eq_true rfl, Nat.le_of_ble_eq_true rfl⟩) (jPreV hK hPc hDc hN (ci := 5) rfl rfl) rfl rfl hl.1 rfl (lv_room (Nat.le_of_ble_eq_true rfl)) dX5_joins_153 ⟨Nat.le_of_ble_eq_true rfl, Nat.le_of_ble_eq_true rfl⟩) hS (fun q _ h => hFc q h) hFc (fun r' u' t H locs ht hvm hw hB hz1 hk1 hS => ?_)
            subst hw
            obtain ⟨hP1, -, hD1⟩ := hB
            rw [ht] at hP1
            have hP : va_P (dC, dI) vwCl ((W_Model cI a S)) H := hP1
            have hD : va_D A ((W_Model cI a S)) := hD1.weaken (fun _ _ _ h => hFc _ h)
            refine lv_aload_n hx hb dX5_joins_156 rfl (lv_at hl 1 rfl) ?_
            refine lv_iload_n hx hb dX5_joins_157 rfl (lv_at hl 3 rfl) ?_
            refine lv_iload_n hx hb dX5_joins_158 rfl (lv_at hl 4 rfl) ?_
            refine lv_iconst (v := (0 : Int32)) hx hb dX5_joins_159 (by decide) ?_
            obtain ⟨r26, h27, hF⟩ := ob1_some hF
            have hPc : va_P (dC, dI) vwCl ((W_Model cI a S)) H := hP
            have hDc : va_D A ((W_Model cI a S)) := hD
            have hFc := va_free (wc := (W_Model cI a S)) hD hS hA [0, 1, 2, 3, 4, 5, 6, 7, 8, 9, 10, 11, 12, 13] rfl
            refine va_calli (va_runV (As := [.int x2, .int x3, .int (0 : Int32)]) (rest := [.int r24, .int x4, .ref (a 0)]) ⟨hx, hb, hml, hown, hts⟩ (c_X5_of l dC dI cI a H.size _ _ _ _ _ h27) (cwV 3 hts gX5_joins_X5_of rfl rfl rfl (by decide +kernel) ⟨Nat.le_of_ble_eq_true rfl, Nat.le_of_ble_eq_true rfl⟩) (jPreV hK hPc hDc hN (ci := 5) rfl rfl) rfl rfl hl.1 rfl (lv_room (Nat.le_of_ble_eq_true rfl)) dX5_joins_160 ⟨Nat.le_of_ble_eq_true rfl, Nat.le_of_ble_eq_true rfl⟩) hS (fun q _ h => hFc q h) hFc (fun r' u' t H locs ht hvm hw hB hz1 hk1 hS => ?_)
            subst hw
            obtain ⟨hP1, -, hD1⟩ := hB
            rw [ht] at hP1
            have hP : va_P (dC, dI) vwCl ((W_Model cI a S)) H := hP1
            have hD : va_D A ((W_Model cI a S)) := hD1.weaken (fun _ _ _ h => hFc _ h)
            refine lv_iload hx hb dX5_joins_163 (lv_at hl 6 rfl) ?_
            obtain ⟨r28, u29, h30, hF⟩ := ob2_some hF
            have hPc : va_P (dC, dI) vwCl ((W_Model cI a S)) H := hP
            have hDc : va_D A ((W_Model cI a S)) := hD
            have hFc := va_free (wc := (W_Model cI a S)) hD hS hA [0, 1, 2, 3, 4, 5, 6, 7, 8, 9, 10, 11, 12, 13] rfl
            refine va_calli (va_runV (As := [.int x4, .int r24, .int r26, .int x5]) (rest := []) ⟨hx, hb, hml, hown, hts⟩ (c_X5_makes l dC dI cI a H.size _ _ _ _ _ _ _ h30) (cwV 4 hts gX5_joins_X5_makes rfl rfl rfl (by decide +kernel) ⟨Nat.le_of_ble_eq_true rfl, Nat.le_of_ble_eq_true rfl⟩) (jPreV hK hPc hDc hN (ci := 5) rfl rfl) rfl rfl hl.1 rfl (lv_room (Nat.le_of_ble_eq_true rfl)) dX5_joins_165 ⟨Nat.le_of_ble_eq_true rfl, Nat.le_of_ble_eq_true rfl⟩) hS (fun q _ h => hFc q h) hFc (fun r' u' t H locs ht hvm hw hB hz1 hk1 hS => ?_)
            obtain ⟨e1, e2⟩ := hw
            subst e1
            subst e2
            obtain ⟨hP1, -, hD1⟩ := hB
            rw [ht] at hP1
            have hP : va_P (dC, dI) vwCl ((W_Model cI a u29)) H := hP1
            have hD : va_D A ((W_Model cI a u29)) := hD1.weaken (fun _ _ _ h => hFc _ h)
            refine lv_istore (lv' := [(7, .int r28), (0, .ref (a 0)), (1, .int v1), (2, .int x2), (3, .int x3), (4, .int x4), (5, .int x5), (6, .int (b2i x6))]) hx hb dX5_joins_168 hl (by decide) rfl (fun ls hl => ?_)
            exact K170 _ _ _ _ _ _ _ hF hP hD hS _ (lv_sub hl [1, 2, 3, 4, 6, 0] rfl)
      have K94 : ∀ (S : S_Model) (x2 : Int32) (x3 : Int32) (x4 : Int32) (x5 : Int32) (t0 : Bool) (H : Heap) (locs : List Loc), F_X5_joins_94 v1 (F_X5_joins_11 v1 n11) S x2 x3 x4 x5 t0 = some Y → va_P (dC, dI) vwCl ((W_Model cI a S)) H → va_D A ((W_Model cI a S)) → va_S A s.heap H locs → ∀ ls : Array Slot, lv_has ls 9 [(0, .ref (a 0)), (1, .int v1), (2, .int x2), (3, .int x3), (4, .int x4), (5, .int x5)] → W p l e (headSpec wsX5_joins ({ frames := 2, cells := 0, slots := 0, locals := 48 } : Room)).room s m ([.ref (a 0), .int v1] : List Value).toArray below meth c H locs 0 0 (MQ below (va_Qv (fun u : S_Model => Y = u) (fun u : S_Model => jB (dC, dI) [(cI, .int)] A ((W_Model cI a u))) A) ([.ref (a 0), .int v1] : List Value).toArray s 0 0 A) (F0 m 94 ls [.int (b2i t0)]) := by
        intro S x2 x3 x4 x5 t0 H locs hF hP hD hS ls hl
        unfold F_X5_joins_94 at hF
        refine lv_istore (lv' := [(6, .int (b2i t0)), (0, .ref (a 0)), (1, .int v1), (2, .int x2), (3, .int x3), (4, .int x4), (5, .int x5)]) hx hb dX5_joins_94 hl (by decide) rfl (fun ls hl => ?_)
        refine lv_iload hx hb dX5_joins_96 (lv_at hl 0 rfl) ?_
        refine lv_if_eq (tgt := 105) hx hb dX5_joins_98 (by decide) (fun c31 => ?_) (fun c31 => ?_)
        · have hF := F_pos c31 hF
          refine lv_iload_n hx hb dX5_joins_105 rfl (lv_at hl 4 rfl) ?_
          refine lv_if_ne (tgt := 120) hx hb dX5_joins_106 (by decide) (fun c32 => ?_) (fun c32 => ?_)
          · have hF := F_neg c32 hF
            refine lv_aload_n hx hb dX5_joins_120 rfl (lv_at hl 1 rfl) ?_
            refine lv_iload hx hb dX5_joins_121 (lv_at hl 5 rfl) ?_
            refine lv_aload_n hx hb dX5_joins_123 rfl (lv_at hl 1 rfl) ?_
            refine lv_iload_n hx hb dX5_joins_124 rfl (lv_at hl 3 rfl) ?_
            refine lv_iload_n hx hb dX5_joins_125 rfl (lv_at hl 4 rfl) ?_
            refine lv_iconst (v := (2 : Int32)) hx hb dX5_joins_126 (by decide) ?_
            obtain ⟨r33, h34, hF⟩ := ob1_some hF
            have hPc : va_P (dC, dI) vwCl ((W_Model cI a S)) H := hP
            have hDc : va_D A ((W_Model cI a S)) := hD
            have hFc := va_free (wc := (W_Model cI a S)) hD hS hA [0, 1, 2, 3, 4, 5, 6, 7, 8, 9, 10, 11, 12, 13] rfl
            refine va_calli (va_runV (As := [.int x2, .int x3, .int (2 : Int32)]) (rest := [.int x4, .ref (a 0)]) ⟨hx, hb, hml, hown, hts⟩ (c_X5_of l dC dI cI a H.size _ _ _ _ _ h34) (cwV 3 hts gX5_joins_X5_of rfl rfl rfl (by decide +kernel) ⟨Nat.le_of_ble_eq_true rfl, Nat.le_of_ble_eq_true rfl⟩) (jPreV hK hPc hDc hN (ci := 5) rfl rfl) rfl rfl hl.1 rfl (lv_room (Nat.le_of_ble_eq_true rfl)) dX5_joins_127 ⟨Nat.le_of_ble_eq_true rfl, Nat.le_of_ble_eq_true rfl⟩) hS (fun q _ h => hFc q h) hFc (fun r' u' t H locs ht hvm hw hB hz1 hk1 hS => ?_)
            subst hw
            obtain ⟨hP1, -, hD1⟩ := hB
            rw [ht] at hP1
            have hP : va_P (dC, dI) vwCl ((W_Model cI a S)) H := hP1
            have hD : va_D A ((W_Model cI a S)) := hD1.weaken (fun _ _ _ h => hFc _ h)
            obtain ⟨r35, h36, hF⟩ := ob1_some hF
            have hPc : va_P (dC, dI) vwCl ((W_Model cI a S)) H := hP
            have hDc : va_D A ((W_Model cI a S)) := hD
            have hFc := va_free (wc := (W_Model cI a S)) hD hS hA [0, 1, 2, 3, 4, 5, 6, 7, 8, 9, 10, 11, 12, 13] rfl
            refine va_calli (va_runV (As := [.int x4, .int r33]) (rest := []) ⟨hx, hb, hml, hown, hts⟩ (c_X5_childAt l dC dI cI a H.size _ _ _ _ h36) (cwV 2 hts gX5_joins_X5_childAt rfl rfl rfl (by decide +kernel) ⟨Nat.le_of_ble_eq_true rfl, Nat.le_of_ble_eq_true rfl⟩) (jPreV hK hPc hDc hN (ci := 5) rfl rfl) rfl rfl hl.1 rfl (lv_room (Nat.le_of_ble_eq_true rfl)) dX5_joins_130 ⟨Nat.le_of_ble_eq_true rfl, Nat.le_of_ble_eq_true rfl⟩) hS (fun q _ h => hFc q h) hFc (fun r' u' t H locs ht hvm hw hB hz1 hk1 hS => ?_)
            subst hw
            obtain ⟨hP1, -, hD1⟩ := hB
            rw [ht] at hP1
            have hP : va_P (dC, dI) vwCl ((W_Model cI a S)) H := hP1
            have hD : va_D A ((W_Model cI a S)) := hD1.weaken (fun _ _ _ h => hFc _ h)
            exact K133 _ _ _ _ _ _ _ _ _ hF hP hD hS _ (lv_sub hl [1, 2, 3, 4, 5, 6, 0] rfl)
          · have hF := F_pos c32 hF
            refine lv_aload_n hx hb dX5_joins_109 rfl (lv_at hl 1 rfl) ?_
            refine va_get (D := (dC, dI)) (ci := 5) (v := .int (g_Model_top S)) (C := RX5) (T := TX5) (N := 26) hx hb hts hinX5 hown hK hP 0 rfl rfl 19 (by decide) (hts (Cond.fieldLink RX5 123 "LearnedShapesModel" "top" "I") (List.mem_of_getElem? (i := 4) rfl)) (fun _ h9 => h9) rfl dX5_joins_110 ?_
            refine lv_if_le (tgt := 120) hx hb dX5_joins_113 (by decide) (fun c37 => ?_) (fun c37 => ?_)
            · have hF := F_pos c37 hF
              refine lv_aload_n hx hb dX5_joins_120 rfl (lv_at hl 1 rfl) ?_
              refine lv_iload hx hb dX5_joins_121 (lv_at hl 5 rfl) ?_
              refine lv_aload_n hx hb dX5_joins_123 rfl (lv_at hl 1 rfl) ?_
              refine lv_iload_n hx hb dX5_joins_124 rfl (lv_at hl 3 rfl) ?_
              refine lv_iload_n hx hb dX5_joins_125 rfl (lv_at hl 4 rfl) ?_
              refine lv_iconst (v := (2 : Int32)) hx hb dX5_joins_126 (by decide) ?_
              obtain ⟨r38, h39, hF⟩ := ob1_some hF
              have hPc : va_P (dC, dI) vwCl ((W_Model cI a S)) H := hP
              have hDc : va_D A ((W_Model cI a S)) := hD
              have hFc := va_free (wc := (W_Model cI a S)) hD hS hA [0, 1, 2, 3, 4, 5, 6, 7, 8, 9, 10, 11, 12, 13] rfl
              refine va_calli (va_runV (As := [.int x2, .int x3, .int (2 : Int32)]) (rest := [.int x4, .ref (a 0)]) ⟨hx, hb, hml, hown, hts⟩ (c_X5_of l dC dI cI a H.size _ _ _ _ _ h39) (cwV 3 hts gX5_joins_X5_of rfl rfl rfl (by decide +kernel) ⟨Nat.le_of_ble_eq_true rfl, Nat.le_of_ble_eq_true rfl⟩) (jPreV hK hPc hDc hN (ci := 5) rfl rfl) rfl rfl hl.1 rfl (lv_room (Nat.le_of_ble_eq_true rfl)) dX5_joins_127 ⟨Nat.le_of_ble_eq_true rfl, Nat.le_of_ble_eq_true rfl⟩) hS (fun q _ h => hFc q h) hFc (fun r' u' t H locs ht hvm hw hB hz1 hk1 hS => ?_)
              subst hw
              obtain ⟨hP1, -, hD1⟩ := hB
              rw [ht] at hP1
              have hP : va_P (dC, dI) vwCl ((W_Model cI a S)) H := hP1
              have hD : va_D A ((W_Model cI a S)) := hD1.weaken (fun _ _ _ h => hFc _ h)
              obtain ⟨r40, h41, hF⟩ := ob1_some hF
              have hPc : va_P (dC, dI) vwCl ((W_Model cI a S)) H := hP
              have hDc : va_D A ((W_Model cI a S)) := hD
              have hFc := va_free (wc := (W_Model cI a S)) hD hS hA [0, 1, 2, 3, 4, 5, 6, 7, 8, 9, 10, 11, 12, 13] rfl
              refine va_calli (va_runV (As := [.int x4, .int r38]) (rest := []) ⟨hx, hb, hml, hown, hts⟩ (c_X5_childAt l dC dI cI a H.size _ _ _ _ h41) (cwV 2 hts gX5_joins_X5_childAt rfl rfl rfl (by decide +kernel) ⟨Nat.le_of_ble_eq_true rfl, Nat.le_of_ble_eq_true rfl⟩) (jPreV hK hPc hDc hN (ci := 5) rfl rfl) rfl rfl hl.1 rfl (lv_room (Nat.le_of_ble_eq_true rfl)) dX5_joins_130 ⟨Nat.le_of_ble_eq_true rfl, Nat.le_of_ble_eq_true rfl⟩) hS (fun q _ h => hFc q h) hFc (fun r' u' t H locs ht hvm hw hB hz1 hk1 hS => ?_)
              subst hw
              obtain ⟨hP1, -, hD1⟩ := hB
              rw [ht] at hP1
              have hP : va_P (dC, dI) vwCl ((W_Model cI a S)) H := hP1
              have hD : va_D A ((W_Model cI a S)) := hD1.weaken (fun _ _ _ h => hFc _ h)
              exact K133 _ _ _ _ _ _ _ _ _ hF hP hD hS _ (lv_sub hl [1, 2, 3, 4, 5, 6, 0] rfl)
            · have hF := F_neg c37 hF
              refine lv_iconst (v := (0 : Int32)) hx hb dX5_joins_116 (by decide) ?_
              refine lv_goto (tgt := 133) hx hb dX5_joins_117 (by decide) ?_
              exact K133 _ _ _ _ _ _ _ _ _ hF hP hD hS _ (lv_sub hl [1, 2, 3, 4, 5, 6, 0] rfl)
        · have hF := F_neg c31 hF
          refine lv_iconst (v := (-1 : Int32)) hx hb dX5_joins_101 (by decide) ?_
          refine lv_goto (tgt := 133) hx hb dX5_joins_102 (by decide) ?_
          exact K133 _ _ _ _ _ _ _ _ _ hF hP hD hS _ (lv_sub hl [1, 2, 3, 4, 5, 6, 0] rfl)
      have K43 : ∀ (S : S_Model) (x2 : Int32) (x3 : Int32) (t0 : Int32) (H : Heap) (locs : List Loc), F_X5_joins_43 v1 (F_X5_joins_11 v1 n11) S x2 x3 t0 = some Y → va_P (dC, dI) vwCl ((W_Model cI a S)) H → va_D A ((W_Model cI a S)) → va_S A s.heap H locs → ∀ ls : Array Slot, lv_has ls 9 [(0, .ref (a 0)), (1, .int v1), (2, .int x2), (3, .int x3)] → W p l e (headSpec wsX5_joins ({ frames := 2, cells := 0, slots := 0, locals := 48 } : Room)).room s m ([.ref (a 0), .int v1] : List Value).toArray below meth c H locs 0 0 (MQ below (va_Qv (fun u : S_Model => Y = u) (fun u : S_Model => jB (dC, dI) [(cI, .int)] A ((W_Model cI a u))) A) ([.ref (a 0), .int v1] : List Value).toArray s 0 0 A) (F0 m 43 ls [.int t0]) := by
        intro S x2 x3 t0 H locs hF hP hD hS ls hl
        unfold F_X5_joins_43 at hF
        refine lv_istore (lv' := [(4, .int t0), (0, .ref (a 0)), (1, .int v1), (2, .int x2), (3, .int x3)]) hx hb dX5_joins_43 hl (by decide) rfl (fun ls hl => ?_)
        refine lv_aload_n hx hb dX5_joins_45 rfl (lv_at hl 1 rfl) ?_
        refine va_get (D := (dC, dI)) (ci := 5) (v := .ref (a 1)) (C := RX5) (T := TX5) (N := 26) hx hb hts hinX5 hown hK hP 0 rfl rfl 0 (by decide) (hts (Cond.fieldLink RX5 7 "LearnedShapesModel" "now" "[I") (List.mem_of_getElem? (i := 1) rfl)) (fun _ h9 => h9) rfl dX5_joins_46 ?_
        refine lv_iconst (v := (1 : Int32)) hx hb dX5_joins_49 (by decide) ?_
        refine lv_iload_n hx hb dX5_joins_50 rfl (lv_at hl 2 rfl) ?_
        refine lv_iadd hx hb dX5_joins_51 ?_
        obtain ⟨g42, hF⟩ := og_some hF
        refine va_iald (f := (g_Model_now S)) hx hb hK hP 1 0 rfl rfl (inb_in g42) dX5_joins_52 ?_
        refine lv_aload_n hx hb dX5_joins_53 rfl (lv_at hl 1 rfl) ?_
        refine lv_iload_n hx hb dX5_joins_54 rfl (lv_at hl 3 rfl) ?_
        refine lv_iload_n hx hb dX5_joins_55 rfl (lv_at hl 4 rfl) ?_
        refine lv_bipush (v := (6 : Int32)) hx hb dX5_joins_56 (by decide) ?_
        obtain ⟨r43, h44, hF⟩ := ob1_some hF
        have hPc : va_P (dC, dI) vwCl ((W_Model cI a S)) H := hP
        have hDc : va_D A ((W_Model cI a S)) := hD
        have hFc := va_free (wc := (W_Model cI a S)) hD hS hA [0, 1, 2, 3, 4, 5, 6, 7, 8, 9, 10, 11, 12, 13] rfl
        refine va_calli (va_runV (As := [.int x2, .int x3, .int (6 : Int32)]) (rest := [.int ((g_Model_now S) ((1 : Int32) + v1).toNatClampNeg)]) ⟨hx, hb, hml, hown, hts⟩ (c_X5_of l dC dI cI a H.size _ _ _ _ _ h44) (cwV 3 hts gX5_joins_X5_of rfl rfl rfl (by decide +kernel) ⟨Nat.le_of_ble_eq_true rfl, Nat.le_of_ble_eq_true rfl⟩) (jPreV hK hPc hDc hN (ci := 5) rfl rfl) rfl rfl hl.1 rfl (lv_room (Nat.le_of_ble_eq_true rfl)) dX5_joins_58 ⟨Nat.le_of_ble_eq_true rfl, Nat.le_of_ble_eq_true rfl⟩) hS (fun q _ h => hFc q h) hFc (fun r' u' t H locs ht hvm hw hB hz1 hk1 hS => ?_)
        subst hw
        obtain ⟨hP1, -, hD1⟩ := hB
        rw [ht] at hP1
        have hP : va_P (dC, dI) vwCl ((W_Model cI a S)) H := hP1
        have hD : va_D A ((W_Model cI a S)) := hD1.weaken (fun _ _ _ h => hFc _ h)
        refine lv_iadd hx hb dX5_joins_61 ?_
        refine lv_istore (lv' := [(5, .int (((g_Model_now S) ((1 : Int32) + v1).toNatClampNeg) + r43)), (4, .int t0), (0, .ref (a 0)), (1, .int v1), (2, .int x2), (3, .int x3)]) hx hb dX5_joins_62 hl (by decide) rfl (fun ls hl => ?_)
        refine lv_iload_n hx hb dX5_joins_64 rfl (lv_at hl 5 rfl) ?_
        refine lv_if_le (tgt := 93) hx hb dX5_joins_65 (by decide) (fun c45 => ?_) (fun c45 => ?_)
        · have hF := F_pos c45 hF
          refine lv_iconst (v := (0 : Int32)) hx hb dX5_joins_93 (by decide) ?_
          exact K94 _ _ _ _ _ _ _ _ hF hP hD hS _ (lv_sub hl [2, 3, 4, 5, 1, 0] rfl)
        · have hF := F_neg c45 hF
          refine lv_iload hx hb dX5_joins_68 (lv_at hl 1 rfl) ?_
          refine lv_iconst (v := (-1 : Int32)) hx hb dX5_joins_70 (by decide) ?_
          refine lv_icmp_eq (tgt := 89) hx hb dX5_joins_71 (by decide) (fun c46 => ?_) (fun c46 => ?_)
          · have hF := F_pos c46 hF
            refine lv_iconst (v := (1 : Int32)) hx hb dX5_joins_89 (by decide) ?_
            refine lv_goto (tgt := 94) hx hb dX5_joins_90 (by decide) ?_
            exact K94 _ _ _ _ _ _ _ _ hF hP hD hS _ (lv_sub hl [2, 3, 4, 5, 1, 0] rfl)
          · have hF := F_neg c46 hF
            refine lv_aload_n hx hb dX5_joins_74 rfl (lv_at hl 2 rfl) ?_
            refine va_get (D := (dC, dI)) (ci := 5) (v := .ref (a 11)) (C := RX5) (T := TX5) (N := 26) hx hb hts hinX5 hown hK hP 0 rfl rfl 18 (by decide) (hts (Cond.fieldLink RX5 40 "LearnedShapesModel" "tree" "[I") (List.mem_of_getElem? (i := 3) rfl)) (fun _ h9 => h9) rfl dX5_joins_75 ?_
            refine lv_bipush (v := (7 : Int32)) hx hb dX5_joins_78 (by decide) ?_
            refine lv_iload hx hb dX5_joins_80 (lv_at hl 1 rfl) ?_
            refine lv_imul hx hb dX5_joins_82 ?_
            obtain ⟨g47, hF⟩ := og_some hF
            refine va_iald (f := (g_Model_tree S)) hx hb hK hP 11 0 rfl rfl (inb_in g47) dX5_joins_83 ?_
            refine lv_bipush (v := (7 : Int32)) hx hb dX5_joins_84 (by decide) ?_
            refine lv_icmp_ne (tgt := 93) hx hb dX5_joins_86 (by decide) (fun c48 => ?_) (fun c48 => ?_)
            · have hF := F_neg c48 hF
              refine lv_iconst (v := (0 : Int32)) hx hb dX5_joins_93 (by decide) ?_
              exact K94 _ _ _ _ _ _ _ _ hF hP hD hS _ (lv_sub hl [2, 3, 4, 5, 1, 0] rfl)
            · have hF := F_pos c48 hF
              refine lv_iconst (v := (1 : Int32)) hx hb dX5_joins_89 (by decide) ?_
              refine lv_goto (tgt := 94) hx hb dX5_joins_90 (by decide) ?_
              exact K94 _ _ _ _ _ _ _ _ hF hP hD hS _ (lv_sub hl [2, 3, 4, 5, 1, 0] rfl)
      refine lv_iload_n hx hb dX5_joins_11 rfl (lv_at hl 3 rfl) ?_
      refine lv_aload_n hx hb dX5_joins_12 rfl (lv_at hl 0 rfl) ?_
      refine va_get (D := (dC, dI)) (ci := 5) (v := .ref (a 1)) (C := RX5) (T := TX5) (N := 26) hx hb hts hinX5 hown hK hP 0 rfl rfl 0 (by decide) (hts (Cond.fieldLink RX5 7 "LearnedShapesModel" "now" "[I") (List.mem_of_getElem? (i := 1) rfl)) (fun _ h9 => h9) rfl dX5_joins_13 ?_
      refine lv_iconst (v := (3 : Int32)) hx hb dX5_joins_16 (by decide) ?_
      refine lv_iload_n hx hb dX5_joins_17 rfl (lv_at hl 2 rfl) ?_
      refine lv_iadd hx hb dX5_joins_18 ?_
      obtain ⟨g49, hF⟩ := og_some hF
      refine va_iald (f := (g_Model_now S)) hx hb hK hP 1 0 rfl rfl (inb_in g49) dX5_joins_19 ?_
      refine lv_icmp_ge (tgt := 279) hx hb dX5_joins_20 (by decide) (fun c50 => ?_) (fun c50 => ?_)
      · have hF := F_pos c50 hF
        have e50 := Option.some.inj hF
        subst e50
        exact W.vret hx hb hr (fun t ht hW => ⟨⟨S, rfl, rfl, by rw [ht]; exact hP, va_K.moved hW.alike hK, hD⟩, hS.F ht⟩) hS.2.2 dX5_joins_279
      · have hF := F_neg c50 hF
        refine lv_iload_n hx hb dX5_joins_23 rfl (lv_at hl 3 rfl) ?_
        refine lv_if_ne (tgt := 31) hx hb dX5_joins_24 (by decide) (fun c51 => ?_) (fun c51 => ?_)
        · have hF := F_neg c51 hF
          refine lv_aload_n hx hb dX5_joins_31 rfl (lv_at hl 0 rfl) ?_
          refine va_get (D := (dC, dI)) (ci := 5) (v := .ref (a 12)) (C := RX5) (T := TX5) (N := 26) hx hb hts hinX5 hown hK hP 0 rfl rfl 20 (by decide) (hts (Cond.fieldLink RX5 43 "LearnedShapesModel" "place" "[I") (List.mem_of_getElem? (i := 2) rfl)) (fun _ h9 => h9) rfl dX5_joins_32 ?_
          refine lv_aload_n hx hb dX5_joins_35 rfl (lv_at hl 0 rfl) ?_
          refine lv_iload_n hx hb dX5_joins_36 rfl (lv_at hl 2 rfl) ?_
          refine lv_iload_n hx hb dX5_joins_37 rfl (lv_at hl 3 rfl) ?_
          refine lv_iconst (v := (1 : Int32)) hx hb dX5_joins_38 (by decide) ?_
          obtain ⟨r52, h53, hF⟩ := ob1_some hF
          have hPc : va_P (dC, dI) vwCl ((W_Model cI a S)) H := hP
          have hDc : va_D A ((W_Model cI a S)) := hD
          have hFc := va_free (wc := (W_Model cI a S)) hD hS hA [0, 1, 2, 3, 4, 5, 6, 7, 8, 9, 10, 11, 12, 13] rfl
          refine va_calli (va_runV (As := [.int x2, .int x3, .int (1 : Int32)]) (rest := [.ref (a 12)]) ⟨hx, hb, hml, hown, hts⟩ (c_X5_of l dC dI cI a H.size _ _ _ _ _ h53) (cwV 3 hts gX5_joins_X5_of rfl rfl rfl (by decide +kernel) ⟨Nat.le_of_ble_eq_true rfl, Nat.le_of_ble_eq_true rfl⟩) (jPreV hK hPc hDc hN (ci := 5) rfl rfl) rfl rfl hl.1 rfl (lv_room (Nat.le_of_ble_eq_true rfl)) dX5_joins_39 ⟨Nat.le_of_ble_eq_true rfl, Nat.le_of_ble_eq_true rfl⟩) hS (fun q _ h => hFc q h) hFc (fun r' u' t H locs ht hvm hw hB hz1 hk1 hS => ?_)
          subst hw
          obtain ⟨hP1, -, hD1⟩ := hB
          rw [ht] at hP1
          have hP : va_P (dC, dI) vwCl ((W_Model cI a S)) H := hP1
          have hD : va_D A ((W_Model cI a S)) := hD1.weaken (fun _ _ _ h => hFc _ h)
          obtain ⟨g54, hF⟩ := og_some hF
          refine va_iald (f := (g_Model_place S)) hx hb hK hP 12 0 rfl rfl (inb_in g54) dX5_joins_42 ?_
          exact K43 _ _ _ _ _ _ hF hP hD hS _ (lv_sub hl [0, 1, 2, 3] rfl)
        · have hF := F_pos c51 hF
          refine lv_iconst (v := (-1 : Int32)) hx hb dX5_joins_27 (by decide) ?_
          refine lv_goto (tgt := 43) hx hb dX5_joins_28 (by decide) ?_
          exact K43 _ _ _ _ _ _ hF hP hD hS _ (lv_sub hl [0, 1, 2, 3] rfl)
  have KE : ∀ (H : Heap) (locs : List Loc), va_P (dC, dI) vwCl ((W_Model cI a S)) H → va_D A ((W_Model cI a S)) → va_S A s.heap H locs → W p l e (headSpec wsX5_joins ({ frames := 2, cells := 0, slots := 0, locals := 48 } : Room)).room s m ([.ref (a 0), .int v1] : List Value).toArray below meth c H locs 0 0 (MQ below (va_Qv (fun u : S_Model => Y = u) (fun u : S_Model => jB (dC, dI) [(cI, .int)] A ((W_Model cI a u))) A) ([.ref (a 0), .int v1] : List Value).toArray s 0 0 A) (F0 m 0 ls []) := by
    intro H locs hP hD hS
    unfold F_X5_joins at hF
    refine lv_aload_n hx hb dX5_joins_0 rfl (lv_at hl 0 rfl) ?_
    refine lv_iload_n hx hb dX5_joins_1 rfl (lv_at hl 1 rfl) ?_
    obtain ⟨u55, h56, hF⟩ := ob1_some hF
    have hPc : va_P (dC, dI) vwCl ((W_Model cI a S)) H := hP
    have hDc : va_D A ((W_Model cI a S)) := hD
    have hFc := va_free (wc := (W_Model cI a S)) hD hS hA [0, 1, 2, 3, 4, 5, 6, 7, 8, 9, 10, 11, 12, 13] rfl
    refine va_callv (va_runV (As := [.int v1]) (rest := []) ⟨hx, hb, hml, hown, hts⟩ (c_X5_lays l dC dI cI a H.size _ _ _ h56) (cwV 1 hts gX5_joins_X5_lays rfl rfl rfl (by decide +kernel) ⟨Nat.le_of_ble_eq_true rfl, Nat.le_of_ble_eq_true rfl⟩) (jPreV hK hPc hDc hN (ci := 5) rfl rfl) rfl rfl hl.1 rfl (lv_room (Nat.le_of_ble_eq_true rfl)) dX5_joins_2 ⟨Nat.le_of_ble_eq_true rfl, Nat.le_of_ble_eq_true rfl⟩) hS (fun q _ h => hFc q h) hFc (fun u' t H locs ht hvm hw hB hz1 hk1 hS => ?_)
    subst hw
    obtain ⟨hP1, -, hD1⟩ := hB
    rw [ht] at hP1
    have hP : va_P (dC, dI) vwCl ((W_Model cI a u55)) H := hP1
    have hD : va_D A ((W_Model cI a u55)) := hD1.weaken (fun _ _ _ h => hFc _ h)
    refine lv_iconst (v := (1 : Int32)) hx hb dX5_joins_5 (by decide) ?_
    refine lv_iload_n hx hb dX5_joins_6 rfl (lv_at hl 1 rfl) ?_
    refine lv_isub hx hb dX5_joins_7 ?_
    refine lv_istore_n (lv' := [(2, .int ((1 : Int32) - v1)), (0, .ref (a 0)), (1, .int v1)]) hx hb dX5_joins_8 rfl hl (by decide) rfl (fun ls hl => ?_)
    refine lv_iconst (v := (0 : Int32)) hx hb dX5_joins_9 (by decide) ?_
    refine lv_istore_n (lv' := [(3, .int (0 : Int32)), (2, .int ((1 : Int32) - v1)), (0, .ref (a 0)), (1, .int v1)]) hx hb dX5_joins_10 rfl hl (by decide) rfl (fun ls hl => ?_)
    exact K11 _ _ _ _ _ _ hF hP hD hS _ (lv_sub hl [2, 3, 1, 0] rfl)
  exact KE _ _ hP hD hS
set_option maxHeartbeats 4000000 in
set_option maxRecDepth 100000 in
theorem c_X5_join (l : Launch) (dC : Nat → ClassId) (dI : Nat → Nat → Nat) (cI : ClassId) (a : Nat → Nat) (sz : Nat) (S : S_Model) (v1 : Int32) (rr : Int32) (Y : S_Model) (hF : F_X5_join S v1 = some (rr, Y)) : Met l yX5_join wsX5_join ({ frames := 4, cells := 0, slots := 0, locals := 95 } : Room) (va_Pc [.ref (a 0), .int v1] (jPre (dC, dI) [(cI, .int)] sz ((W_Model cI a S)))) (va_Qi (fun (r' : Int32) (u : S_Model) => rr = r' ∧ Y = u) (fun u : S_Model => jB (dC, dI) [(cI, .int)] (va_A ((W_Model cI a S)) sz) ((W_Model cI a u))) (va_A ((W_Model cI a S)) sz)) 0 0 (va_A ((W_Model cI a S)) sz) := by
  refine Met.ofW (cc := cX5_join) (maxL := 2) (ret := (some .int)) (by decide) rfl ?_
  intro p e s m args below meth c s₁ B hml hv
  obtain ⟨rfl, hsz, hP, hK, hD0, hN⟩ := hv
  have hx := B.exec
  have hb := B.bytes
  have hr := B.returns
  have hts := atoms_spec (ws := wsX5_join) B.pre
  have hown : s.vm.findClass RX5 = some m.cls := findClass_of_methodNamed B.named
  have hlocks := B.notSynchronized
  have hinX5 : ∀ w ∈ u_ws RX5 TX5 26, w ∈ wsX5_join := by decide +kernel
  subst hsz
  have hD := hD0.self (sz := s.heap.size)
  generalize hAe : (va_A ((W_Model cI a S)) s.heap.size) = A at hD ⊢
  have hA : ∀ q : Nat, s.heap.size ≤ q → A q := fun q h => by rw [← hAe]; exact Or.inr h
  have hS : va_S A s.heap s.heap [] := va_S.rf
  have hl := lv_entry ([.ref (a 0), .int v1]) (n := 2) (Nat.le_of_ble_eq_true rfl)
  rw [lg_entry_eq]
  generalize (lg_sl ([.ref (a 0), .int v1]) ++ List.replicate (2 - (lg_sl ([.ref (a 0), .int v1])).length) Slot.unset).toArray = ls at hl ⊢
  have hl : lv_has ls 2 [(0, .ref (a 0)), (1, .int v1)] := hl
  have KE : ∀ (H : Heap) (locs : List Loc), va_P (dC, dI) vwCl ((W_Model cI a S)) H → va_D A ((W_Model cI a S)) → va_S A s.heap H locs → W p l e (headSpec wsX5_join ({ frames := 4, cells := 0, slots := 0, locals := 95 } : Room)).room s m ([.ref (a 0), .int v1] : List Value).toArray below meth c H locs 0 0 (MQ below (va_Qi (fun (r' : Int32) (u : S_Model) => rr = r' ∧ Y = u) (fun u : S_Model => jB (dC, dI) [(cI, .int)] A ((W_Model cI a u))) A) ([.ref (a 0), .int v1] : List Value).toArray s 0 0 A) (F0 m 0 ls []) := by
    intro H locs hP hD hS
    unfold F_X5_join at hF
    refine lv_aload_n hx hb dX5_join_0 rfl (lv_at hl 0 rfl) ?_
    refine lv_iconst (v := (0 : Int32)) hx hb dX5_join_1 (by decide) ?_
    refine va_put (D := (dC, dI)) (ci := 5) (v := .int (0 : Int32)) (ty := .int) (C := RX5) (T := TX5) (N := 26) hx hb hts hinX5 tyX5 tyX5_ok nmX5 hown hK hP hD hS 0 rfl rfl 5 (by decide) (hts (Cond.fieldLink RX5 49 "LearnedShapesModel" "thrown" "I") (List.mem_of_getElem? (i := 1) rfl)) (fun _ h9 => h9) rfl (by decide +kernel) (rfl) rfl (Nat.le_of_ble_eq_true rfl) dX5_join_2 (fun H locs hP hD hS => ?_)
    have hP : va_P (dC, dI) vwCl ((W_Model cI a (s_Model_thrown S (0 : Int32)))) H := hP
    have hD : va_D A ((W_Model cI a (s_Model_thrown S (0 : Int32)))) := hD
    refine lv_iload_n hx hb dX5_join_5 rfl (lv_at hl 1 rfl) ?_
    obtain ⟨r1, h2, hF⟩ := ob1_some hF
    have hPc := hP.sub (ws' := ([] : va_W)) [] rfl
    have hDc := hD.sub (ws' := ([] : va_W)) [] (by decide) rfl
    have hFc := va_free (wc := ([] : va_W)) hD hS hA [] rfl
    refine va_calli (va_runS (As := [.int v1]) (rest := []) ⟨hx, hb, hml, hown, hts⟩ (c_X5_isShape l dC dI cI  H.size _ _ h2) (va_cwS 1 hts gX5_join_X5_isShape rfl rfl rfl (by decide +kernel) ⟨Nat.le_of_ble_eq_true rfl, Nat.le_of_ble_eq_true rfl⟩) (jPreS hK hPc hDc hN) rfl rfl hl.1 rfl (lv_room (Nat.le_of_ble_eq_true rfl)) dX5_join_6 ⟨Nat.le_of_ble_eq_true rfl, Nat.le_of_ble_eq_true rfl⟩) hS (fun q _ h => hFc q h) hFc (fun r' u' t H locs ht hvm hw hB hz1 hk1 hS => ?_)
    subst hw
    obtain ⟨hP1, -, hD1⟩ := hB
    rw [ht] at hP1
    obtain ⟨hP, hD⟩ := jJoin (wc := ([] : va_W)) (w1 := ([] : va_W)) (ws' := (W_Model cI a (s_Model_thrown S (0 : Int32)))) hP hD [] [0, 1, 2, 3, 4, 5, 6, 7, 8, 9, 10, 11, 12, 13] [0, 1, 2, 3, 4, 5, 6, 7, 8, 9, 10, 11, 12, 13] rfl rfl (by decide) (by decide) hk1 hFc hP1 hD1 (by decide) rfl
    refine lv_if_ne (tgt := 18) hx hb dX5_join_9 (by decide) (fun c3 => ?_) (fun c3 => ?_)
    · have hF := F_neg c3 hF
      refine lv_aload_n hx hb dX5_join_18 rfl (lv_at hl 0 rfl) ?_
      refine lv_iload_n hx hb dX5_join_19 rfl (lv_at hl 1 rfl) ?_
      obtain ⟨u4, h5, hF⟩ := ob1_some hF
      have hPc : va_P (dC, dI) vwCl ((W_Model cI a (s_Model_thrown S (0 : Int32)))) H := hP
      have hDc : va_D A ((W_Model cI a (s_Model_thrown S (0 : Int32)))) := hD
      have hFc := va_free (wc := (W_Model cI a (s_Model_thrown S (0 : Int32)))) hD hS hA [0, 1, 2, 3, 4, 5, 6, 7, 8, 9, 10, 11, 12, 13] rfl
      refine va_callv (va_runV (As := [.int v1]) (rest := []) ⟨hx, hb, hml, hown, hts⟩ (c_X5_joins l dC dI cI a H.size _ _ _ h5) (cwV 1 hts gX5_join_X5_joins rfl rfl rfl (by decide +kernel) ⟨Nat.le_of_ble_eq_true rfl, Nat.le_of_ble_eq_true rfl⟩) (jPreV hK hPc hDc hN (ci := 5) rfl rfl) rfl rfl hl.1 rfl (lv_room (Nat.le_of_ble_eq_true rfl)) dX5_join_20 ⟨Nat.le_of_ble_eq_true rfl, Nat.le_of_ble_eq_true rfl⟩) hS (fun q _ h => hFc q h) hFc (fun u' t H locs ht hvm hw hB hz1 hk1 hS => ?_)
      subst hw
      obtain ⟨hP1, -, hD1⟩ := hB
      rw [ht] at hP1
      have hP : va_P (dC, dI) vwCl ((W_Model cI a u4)) H := hP1
      have hD : va_D A ((W_Model cI a u4)) := hD1.weaken (fun _ _ _ h => hFc _ h)
      refine lv_aload_n hx hb dX5_join_23 rfl (lv_at hl 0 rfl) ?_
      obtain ⟨r6, h7, hF⟩ := ob1_some hF
      have hPc : va_P (dC, dI) vwCl ((W_Model cI a u4)) H := hP
      have hDc : va_D A ((W_Model cI a u4)) := hD
      have hFc := va_free (wc := (W_Model cI a u4)) hD hS hA [0, 1, 2, 3, 4, 5, 6, 7, 8, 9, 10, 11, 12, 13] rfl
      refine va_calli (va_runV (As := []) (rest := []) ⟨hx, hb, hml, hown, hts⟩ (c_X5_nodes l dC dI cI a H.size _ _ h7) (cwV 0 hts gX5_join_X5_nodes rfl rfl rfl (by decide +kernel) ⟨Nat.le_of_ble_eq_true rfl, Nat.le_of_ble_eq_true rfl⟩) (jPreV hK hPc hDc hN (ci := 5) rfl rfl) rfl rfl hl.1 rfl (lv_room (Nat.le_of_ble_eq_true rfl)) dX5_join_24 ⟨Nat.le_of_ble_eq_true rfl, Nat.le_of_ble_eq_true rfl⟩) hS (fun q _ h => hFc q h) hFc (fun r' u' t H locs ht hvm hw hB hz1 hk1 hS => ?_)
      subst hw
      obtain ⟨hP1, -, hD1⟩ := hB
      rw [ht] at hP1
      have hP : va_P (dC, dI) vwCl ((W_Model cI a u4)) H := hP1
      have hD : va_D A ((W_Model cI a u4)) := hD1.weaken (fun _ _ _ h => hFc _ h)
      refine lv_bipush (v := (30 : Int32)) hx hb dX5_join_27 (by decide) ?_
      refine lv_icmp_le (tgt := 38) hx hb dX5_join_29 (by decide) (fun c8 => ?_) (fun c8 => ?_)
      · have hF := F_pos c8 hF
        refine lv_aload_n hx hb dX5_join_38 rfl (lv_at hl 0 rfl) ?_
        obtain ⟨u9, h10, hF⟩ := ob1_some hF
        have hPc : va_P (dC, dI) vwCl ((W_Model cI a u4)) H := hP
        have hDc : va_D A ((W_Model cI a u4)) := hD
        have hFc := va_free (wc := (W_Model cI a u4)) hD hS hA [0, 1, 2, 3, 4, 5, 6, 7, 8, 9, 10, 11, 12, 13] rfl
        refine va_callv (va_runV (As := []) (rest := []) ⟨hx, hb, hml, hown, hts⟩ (c_X5_saves l dC dI cI a H.size _ _ h10) (cwV 0 hts gX5_join_X5_saves rfl rfl rfl (by decide +kernel) ⟨Nat.le_of_ble_eq_true rfl, Nat.le_of_ble_eq_true rfl⟩) (jPreV hK hPc hDc hN (ci := 5) rfl rfl) rfl rfl hl.1 rfl (lv_room (Nat.le_of_ble_eq_true rfl)) dX5_join_39 ⟨Nat.le_of_ble_eq_true rfl, Nat.le_of_ble_eq_true rfl⟩) hS (fun q _ h => hFc q h) hFc (fun u' t H locs ht hvm hw hB hz1 hk1 hS => ?_)
        subst hw
        obtain ⟨hP1, -, hD1⟩ := hB
        rw [ht] at hP1
        have hP : va_P (dC, dI) vwCl ((W_Model cI a u9)) H := hP1
        have hD : va_D A ((W_Model cI a u9)) := hD1.weaken (fun _ _ _ h => hFc _ h)
        refine lv_aload_n hx hb dX5_join_42 rfl (lv_at hl 0 rfl) ?_
        refine lv_iload_n hx hb dX5_join_43 rfl (lv_at hl 1 rfl) ?_
        obtain ⟨u11, h12, hF⟩ := ob1_some hF
        have hPc : va_P (dC, dI) vwCl ((W_Model cI a u9)) H := hP
        have hDc : va_D A ((W_Model cI a u9)) := hD
        have hFc := va_free (wc := (W_Model cI a u9)) hD hS hA [0, 1, 2, 3, 4, 5, 6, 7, 8, 9, 10, 11, 12, 13] rfl
        refine va_callv (va_runV (As := [.int v1]) (rest := []) ⟨hx, hb, hml, hown, hts⟩ (c_X5_becomes l dC dI cI a H.size _ _ _ h12) (cwV 1 hts gX5_join_X5_becomes rfl rfl rfl (by decide +kernel) ⟨Nat.le_of_ble_eq_true rfl, Nat.le_of_ble_eq_true rfl⟩) (jPreV hK hPc hDc hN (ci := 5) rfl rfl) rfl rfl hl.1 rfl (lv_room (Nat.le_of_ble_eq_true rfl)) dX5_join_44 ⟨Nat.le_of_ble_eq_true rfl, Nat.le_of_ble_eq_true rfl⟩) hS (fun q _ h => hFc q h) hFc (fun u' t H locs ht hvm hw hB hz1 hk1 hS => ?_)
        subst hw
        obtain ⟨hP1, -, hD1⟩ := hB
        rw [ht] at hP1
        have hP : va_P (dC, dI) vwCl ((W_Model cI a u11)) H := hP1
        have hD : va_D A ((W_Model cI a u11)) := hD1.weaken (fun _ _ _ h => hFc _ h)
        refine lv_aload_n hx hb dX5_join_47 rfl (lv_at hl 0 rfl) ?_
        refine va_get (D := (dC, dI)) (ci := 5) (v := .ref (a 1)) (C := RX5) (T := TX5) (N := 26) hx hb hts hinX5 hown hK hP 0 rfl rfl 0 (by decide) (hts (Cond.fieldLink RX5 7 "LearnedShapesModel" "now" "[I") (List.mem_of_getElem? (i := 2) rfl)) (fun _ h9 => h9) rfl dX5_join_48 ?_
        refine lv_iconst (v := (1 : Int32)) hx hb dX5_join_51 (by decide) ?_
        refine lv_iload_n hx hb dX5_join_52 rfl (lv_at hl 1 rfl) ?_
        refine lv_iadd hx hb dX5_join_53 ?_
        refine lv_dup2_11 hx hb dX5_join_54 rfl rfl ?_
        obtain ⟨g13, hF⟩ := og_some hF
        refine va_iald (f := (g_Model_now u11)) hx hb hK hP 1 0 rfl rfl (inb_in g13) dX5_join_55 ?_
        refine lv_aload_n hx hb dX5_join_56 rfl (lv_at hl 0 rfl) ?_
        refine va_get (D := (dC, dI)) (ci := 5) (v := .ref (a 1)) (C := RX5) (T := TX5) (N := 26) hx hb hts hinX5 hown hK hP 0 rfl rfl 0 (by decide) (hts (Cond.fieldLink RX5 7 "LearnedShapesModel" "now" "[I") (List.mem_of_getElem? (i := 2) rfl)) (fun _ h9 => h9) rfl dX5_join_57 ?_
        refine lv_iconst (v := (2 : Int32)) hx hb dX5_join_60 (by decide) ?_
        refine lv_iload_n hx hb dX5_join_61 rfl (lv_at hl 1 rfl) ?_
        refine lv_isub hx hb dX5_join_62 ?_
        obtain ⟨g14, hF⟩ := og_some hF
        refine va_iald (f := (g_Model_now u11)) hx hb hK hP 1 0 rfl rfl (inb_in g14) dX5_join_63 ?_
        refine lv_iadd hx hb dX5_join_64 ?_
        obtain ⟨g15, hF⟩ := og_some hF
        refine va_iast (f := (g_Model_now u11)) hx hb hK hP hD hS 1 0 rfl rfl (inb_in g15) dX5_join_65 (fun H locs hP hD hS => ?_)
        have hP : va_P (dC, dI) vwCl ((W_Model cI a (s_Model_now u11 (upd (g_Model_now u11) ((1 : Int32) + v1).toNatClampNeg (((g_Model_now u11) ((1 : Int32) + v1).toNatClampNeg) + ((g_Model_now u11) ((2 : Int32) - v1).toNatClampNeg)))))) H := hP
        have hD : va_D A ((W_Model cI a (s_Model_now u11 (upd (g_Model_now u11) ((1 : Int32) + v1).toNatClampNeg (((g_Model_now u11) ((1 : Int32) + v1).toNatClampNeg) + ((g_Model_now u11) ((2 : Int32) - v1).toNatClampNeg)))))) := hD
        refine lv_aload_n hx hb dX5_join_66 rfl (lv_at hl 0 rfl) ?_
        refine va_get (D := (dC, dI)) (ci := 5) (v := .ref (a 1)) (C := RX5) (T := TX5) (N := 26) hx hb hts hinX5 hown hK hP 0 rfl rfl 0 (by decide) (hts (Cond.fieldLink RX5 7 "LearnedShapesModel" "now" "[I") (List.mem_of_getElem? (i := 2) rfl)) (fun _ h9 => h9) rfl dX5_join_67 ?_
        refine lv_iconst (v := (3 : Int32)) hx hb dX5_join_70 (by decide) ?_
        refine lv_iload_n hx hb dX5_join_71 rfl (lv_at hl 1 rfl) ?_
        refine lv_iadd hx hb dX5_join_72 ?_
        obtain ⟨g16, hF⟩ := og_some hF
        refine va_iald (f := (upd (g_Model_now u11) ((1 : Int32) + v1).toNatClampNeg (((g_Model_now u11) ((1 : Int32) + v1).toNatClampNeg) + ((g_Model_now u11) ((2 : Int32) - v1).toNatClampNeg)))) hx hb hK hP 1 0 rfl rfl (inb_in g16) dX5_join_73 ?_
        have e50 := Option.some.inj hF
        obtain ⟨e60, e51⟩ := Prod.mk.inj e50
        subst e60
        subst e51
        exact W.iret (v := ((upd (g_Model_now u11) ((1 : Int32) + v1).toNatClampNeg (((g_Model_now u11) ((1 : Int32) + v1).toNatClampNeg) + ((g_Model_now u11) ((2 : Int32) - v1).toNatClampNeg))) ((3 : Int32) + v1).toNatClampNeg)) hx hb hr (fun t ht hW => ⟨⟨((upd (g_Model_now u11) ((1 : Int32) + v1).toNatClampNeg (((g_Model_now u11) ((1 : Int32) + v1).toNatClampNeg) + ((g_Model_now u11) ((2 : Int32) - v1).toNatClampNeg))) ((3 : Int32) + v1).toNatClampNeg), (s_Model_now u11 (upd (g_Model_now u11) ((1 : Int32) + v1).toNatClampNeg (((g_Model_now u11) ((1 : Int32) + v1).toNatClampNeg) + ((g_Model_now u11) ((2 : Int32) - v1).toNatClampNeg)))), rfl, ⟨rfl, rfl⟩, by rw [ht]; exact hP, va_K.moved hW.alike hK, hD⟩, hS.F ht⟩) hS.2.2 dX5_join_74
      · have hF := F_neg c8 hF
        refine lv_aload_n hx hb dX5_join_32 rfl (lv_at hl 0 rfl) ?_
        refine lv_iconst (v := (2 : Int32)) hx hb dX5_join_33 (by decide) ?_
        obtain ⟨r17, u18, h19, hF⟩ := ob2_some hF
        have hPc : va_P (dC, dI) vwCl ((W_Model cI a u4)) H := hP
        have hDc : va_D A ((W_Model cI a u4)) := hD
        have hFc := va_free (wc := (W_Model cI a u4)) hD hS hA [0, 1, 2, 3, 4, 5, 6, 7, 8, 9, 10, 11, 12, 13] rfl
        refine va_calli (va_runV (As := [.int (2 : Int32)]) (rest := []) ⟨hx, hb, hml, hown, hts⟩ (c_X5_fails l dC dI cI a H.size _ _ _ _ h19) (cwV 1 hts gX5_join_X5_fails rfl rfl rfl (by decide +kernel) ⟨Nat.le_of_ble_eq_true rfl, Nat.le_of_ble_eq_true rfl⟩) (jPreV hK hPc hDc hN (ci := 5) rfl rfl) rfl rfl hl.1 rfl (lv_room (Nat.le_of_ble_eq_true rfl)) dX5_join_34 ⟨Nat.le_of_ble_eq_true rfl, Nat.le_of_ble_eq_true rfl⟩) hS (fun q _ h => hFc q h) hFc (fun r' u' t H locs ht hvm hw hB hz1 hk1 hS => ?_)
        obtain ⟨e1, e2⟩ := hw
        subst e1
        subst e2
        obtain ⟨hP1, -, hD1⟩ := hB
        rw [ht] at hP1
        have hP : va_P (dC, dI) vwCl ((W_Model cI a u18)) H := hP1
        have hD : va_D A ((W_Model cI a u18)) := hD1.weaken (fun _ _ _ h => hFc _ h)
        have e50 := Option.some.inj hF
        obtain ⟨e60, e51⟩ := Prod.mk.inj e50
        subst e60
        subst e51
        exact W.iret (v := r17) hx hb hr (fun t ht hW => ⟨⟨r17, u18, rfl, ⟨rfl, rfl⟩, by rw [ht]; exact hP, va_K.moved hW.alike hK, hD⟩, hS.F ht⟩) hS.2.2 dX5_join_37
    · have hF := F_pos c3 hF
      refine lv_aload_n hx hb dX5_join_12 rfl (lv_at hl 0 rfl) ?_
      refine lv_iconst (v := (1 : Int32)) hx hb dX5_join_13 (by decide) ?_
      obtain ⟨r20, u21, h22, hF⟩ := ob2_some hF
      have hPc : va_P (dC, dI) vwCl ((W_Model cI a (s_Model_thrown S (0 : Int32)))) H := hP
      have hDc : va_D A ((W_Model cI a (s_Model_thrown S (0 : Int32)))) := hD
      have hFc := va_free (wc := (W_Model cI a (s_Model_thrown S (0 : Int32)))) hD hS hA [0, 1, 2, 3, 4, 5, 6, 7, 8, 9, 10, 11, 12, 13] rfl
      refine va_calli (va_runV (As := [.int (1 : Int32)]) (rest := []) ⟨hx, hb, hml, hown, hts⟩ (c_X5_fails l dC dI cI a H.size _ _ _ _ h22) (cwV 1 hts gX5_join_X5_fails rfl rfl rfl (by decide +kernel) ⟨Nat.le_of_ble_eq_true rfl, Nat.le_of_ble_eq_true rfl⟩) (jPreV hK hPc hDc hN (ci := 5) rfl rfl) rfl rfl hl.1 rfl (lv_room (Nat.le_of_ble_eq_true rfl)) dX5_join_14 ⟨Nat.le_of_ble_eq_true rfl, Nat.le_of_ble_eq_true rfl⟩) hS (fun q _ h => hFc q h) hFc (fun r' u' t H locs ht hvm hw hB hz1 hk1 hS => ?_)
      obtain ⟨e1, e2⟩ := hw
      subst e1
      subst e2
      obtain ⟨hP1, -, hD1⟩ := hB
      rw [ht] at hP1
      have hP : va_P (dC, dI) vwCl ((W_Model cI a u21)) H := hP1
      have hD : va_D A ((W_Model cI a u21)) := hD1.weaken (fun _ _ _ h => hFc _ h)
      have e50 := Option.some.inj hF
      obtain ⟨e60, e51⟩ := Prod.mk.inj e50
      subst e60
      subst e51
      exact W.iret (v := r20) hx hb hr (fun t ht hW => ⟨⟨r20, u21, rfl, ⟨rfl, rfl⟩, by rw [ht]; exact hP, va_K.moved hW.alike hK, hD⟩, hS.F ht⟩) hS.2.2 dX5_join_17
  exact KE _ _ hP hD hS
set_option maxHeartbeats 4000000 in
set_option maxRecDepth 100000 in
theorem c_X5_forget (l : Launch) (dC : Nat → ClassId) (dI : Nat → Nat → Nat) (cI : ClassId) (a : Nat → Nat) (sz : Nat) (S : S_Model) (v1 : Int32) (rr : Int32) (Y : S_Model) (hF : F_X5_forget S v1 = some (rr, Y)) : Met l yX5_forget wsX5_forget ({ frames := 2, cells := 0, slots := 0, locals := 42 } : Room) (va_Pc [.ref (a 0), .int v1] (jPre (dC, dI) [(cI, .int)] sz ((W_Model cI a S)))) (va_Qi (fun (r' : Int32) (u : S_Model) => rr = r' ∧ Y = u) (fun u : S_Model => jB (dC, dI) [(cI, .int)] (va_A ((W_Model cI a S)) sz) ((W_Model cI a u))) (va_A ((W_Model cI a S)) sz)) 0 0 (va_A ((W_Model cI a S)) sz) := by
  refine Met.ofW (cc := cX5_forget) (maxL := 3) (ret := (some .int)) (by decide) rfl ?_
  intro p e s m args below meth c s₁ B hml hv
  obtain ⟨rfl, hsz, hP, hK, hD0, hN⟩ := hv
  have hx := B.exec
  have hb := B.bytes
  have hr := B.returns
  have hts := atoms_spec (ws := wsX5_forget) B.pre
  have hown : s.vm.findClass RX5 = some m.cls := findClass_of_methodNamed B.named
  have hlocks := B.notSynchronized
  have hinX5 : ∀ w ∈ u_ws RX5 TX5 26, w ∈ wsX5_forget := by decide +kernel
  subst hsz
  have hD := hD0.self (sz := s.heap.size)
  generalize hAe : (va_A ((W_Model cI a S)) s.heap.size) = A at hD ⊢
  have hA : ∀ q : Nat, s.heap.size ≤ q → A q := fun q h => by rw [← hAe]; exact Or.inr h
  have hS : va_S A s.heap s.heap [] := va_S.rf
  have hl := lv_entry ([.ref (a 0), .int v1]) (n := 3) (Nat.le_of_ble_eq_true rfl)
  rw [lg_entry_eq]
  generalize (lg_sl ([.ref (a 0), .int v1]) ++ List.replicate (3 - (lg_sl ([.ref (a 0), .int v1])).length) Slot.unset).toArray = ls at hl ⊢
  have hl : lv_has ls 3 [(0, .ref (a 0)), (1, .int v1)] := hl
  have KE : ∀ (H : Heap) (locs : List Loc), va_P (dC, dI) vwCl ((W_Model cI a S)) H → va_D A ((W_Model cI a S)) → va_S A s.heap H locs → W p l e (headSpec wsX5_forget ({ frames := 2, cells := 0, slots := 0, locals := 42 } : Room)).room s m ([.ref (a 0), .int v1] : List Value).toArray below meth c H locs 0 0 (MQ below (va_Qi (fun (r' : Int32) (u : S_Model) => rr = r' ∧ Y = u) (fun u : S_Model => jB (dC, dI) [(cI, .int)] A ((W_Model cI a u))) A) ([.ref (a 0), .int v1] : List Value).toArray s 0 0 A) (F0 m 0 ls []) := by
    intro H locs hP hD hS
    unfold F_X5_forget at hF
    refine lv_aload_n hx hb dX5_forget_0 rfl (lv_at hl 0 rfl) ?_
    refine lv_iconst (v := (0 : Int32)) hx hb dX5_forget_1 (by decide) ?_
    refine va_put (D := (dC, dI)) (ci := 5) (v := .int (0 : Int32)) (ty := .int) (C := RX5) (T := TX5) (N := 26) hx hb hts hinX5 tyX5 tyX5_ok nmX5 hown hK hP hD hS 0 rfl rfl 5 (by decide) (hts (Cond.fieldLink RX5 49 "LearnedShapesModel" "thrown" "I") (List.mem_of_getElem? (i := 1) rfl)) (fun _ h9 => h9) rfl (by decide +kernel) (rfl) rfl (Nat.le_of_ble_eq_true rfl) dX5_forget_2 (fun H locs hP hD hS => ?_)
    have hP : va_P (dC, dI) vwCl ((W_Model cI a (s_Model_thrown S (0 : Int32)))) H := hP
    have hD : va_D A ((W_Model cI a (s_Model_thrown S (0 : Int32)))) := hD
    refine lv_iload_n hx hb dX5_forget_5 rfl (lv_at hl 1 rfl) ?_
    obtain ⟨r1, h2, hF⟩ := ob1_some hF
    have hPc := hP.sub (ws' := ([] : va_W)) [] rfl
    have hDc := hD.sub (ws' := ([] : va_W)) [] (by decide) rfl
    have hFc := va_free (wc := ([] : va_W)) hD hS hA [] rfl
    refine va_calli (va_runS (As := [.int v1]) (rest := []) ⟨hx, hb, hml, hown, hts⟩ (c_X5_isShape l dC dI cI  H.size _ _ h2) (va_cwS 1 hts gX5_forget_X5_isShape rfl rfl rfl (by decide +kernel) ⟨Nat.le_of_ble_eq_true rfl, Nat.le_of_ble_eq_true rfl⟩) (jPreS hK hPc hDc hN) rfl rfl hl.1 rfl (lv_room (Nat.le_of_ble_eq_true rfl)) dX5_forget_6 ⟨Nat.le_of_ble_eq_true rfl, Nat.le_of_ble_eq_true rfl⟩) hS (fun q _ h => hFc q h) hFc (fun r' u' t H locs ht hvm hw hB hz1 hk1 hS => ?_)
    subst hw
    obtain ⟨hP1, -, hD1⟩ := hB
    rw [ht] at hP1
    obtain ⟨hP, hD⟩ := jJoin (wc := ([] : va_W)) (w1 := ([] : va_W)) (ws' := (W_Model cI a (s_Model_thrown S (0 : Int32)))) hP hD [] [0, 1, 2, 3, 4, 5, 6, 7, 8, 9, 10, 11, 12, 13] [0, 1, 2, 3, 4, 5, 6, 7, 8, 9, 10, 11, 12, 13] rfl rfl (by decide) (by decide) hk1 hFc hP1 hD1 (by decide) rfl
    refine lv_if_ne (tgt := 18) hx hb dX5_forget_9 (by decide) (fun c3 => ?_) (fun c3 => ?_)
    · have hF := F_neg c3 hF
      refine lv_aload_n hx hb dX5_forget_18 rfl (lv_at hl 0 rfl) ?_
      obtain ⟨u4, h5, hF⟩ := ob1_some hF
      have hPc : va_P (dC, dI) vwCl ((W_Model cI a (s_Model_thrown S (0 : Int32)))) H := hP
      have hDc : va_D A ((W_Model cI a (s_Model_thrown S (0 : Int32)))) := hD
      have hFc := va_free (wc := (W_Model cI a (s_Model_thrown S (0 : Int32)))) hD hS hA [0, 1, 2, 3, 4, 5, 6, 7, 8, 9, 10, 11, 12, 13] rfl
      refine va_callv (va_runV (As := []) (rest := []) ⟨hx, hb, hml, hown, hts⟩ (c_X5_saves l dC dI cI a H.size _ _ h5) (cwV 0 hts gX5_forget_X5_saves rfl rfl rfl (by decide +kernel) ⟨Nat.le_of_ble_eq_true rfl, Nat.le_of_ble_eq_true rfl⟩) (jPreV hK hPc hDc hN (ci := 5) rfl rfl) rfl rfl hl.1 rfl (lv_room (Nat.le_of_ble_eq_true rfl)) dX5_forget_19 ⟨Nat.le_of_ble_eq_true rfl, Nat.le_of_ble_eq_true rfl⟩) hS (fun q _ h => hFc q h) hFc (fun u' t H locs ht hvm hw hB hz1 hk1 hS => ?_)
      subst hw
      obtain ⟨hP1, -, hD1⟩ := hB
      rw [ht] at hP1
      have hP : va_P (dC, dI) vwCl ((W_Model cI a u4)) H := hP1
      have hD : va_D A ((W_Model cI a u4)) := hD1.weaken (fun _ _ _ h => hFc _ h)
      refine lv_aload_n hx hb dX5_forget_22 rfl (lv_at hl 0 rfl) ?_
      refine va_get (D := (dC, dI)) (ci := 5) (v := .ref (a 1)) (C := RX5) (T := TX5) (N := 26) hx hb hts hinX5 hown hK hP 0 rfl rfl 0 (by decide) (hts (Cond.fieldLink RX5 7 "LearnedShapesModel" "now" "[I") (List.mem_of_getElem? (i := 2) rfl)) (fun _ h9 => h9) rfl dX5_forget_23 ?_
      refine lv_iconst (v := (3 : Int32)) hx hb dX5_forget_26 (by decide) ?_
      refine lv_iload_n hx hb dX5_forget_27 rfl (lv_at hl 1 rfl) ?_
      refine lv_iadd hx hb dX5_forget_28 ?_
      obtain ⟨g6, hF⟩ := og_some hF
      refine va_iald (f := (g_Model_now u4)) hx hb hK hP 1 0 rfl rfl (inb_in g6) dX5_forget_29 ?_
      refine lv_istore_n (lv' := [(2, .int ((g_Model_now u4) ((3 : Int32) + v1).toNatClampNeg)), (0, .ref (a 0)), (1, .int v1)]) hx hb dX5_forget_30 rfl hl (by decide) rfl (fun ls hl => ?_)
      refine lv_aload_n hx hb dX5_forget_31 rfl (lv_at hl 1 rfl) ?_
      refine va_get (D := (dC, dI)) (ci := 5) (v := .ref (a 1)) (C := RX5) (T := TX5) (N := 26) hx hb hts hinX5 hown hK hP 0 rfl rfl 0 (by decide) (hts (Cond.fieldLink RX5 7 "LearnedShapesModel" "now" "[I") (List.mem_of_getElem? (i := 2) rfl)) (fun _ h9 => h9) rfl dX5_forget_32 ?_
      refine lv_iconst (v := (3 : Int32)) hx hb dX5_forget_35 (by decide) ?_
      refine lv_iload_n hx hb dX5_forget_36 rfl (lv_at hl 2 rfl) ?_
      refine lv_iadd hx hb dX5_forget_37 ?_
      refine lv_iconst (v := (0 : Int32)) hx hb dX5_forget_38 (by decide) ?_
      obtain ⟨g7, hF⟩ := og_some hF
      refine va_iast (f := (g_Model_now u4)) hx hb hK hP hD hS 1 0 rfl rfl (inb_in g7) dX5_forget_39 (fun H locs hP hD hS => ?_)
      have hP : va_P (dC, dI) vwCl ((W_Model cI a (s_Model_now u4 (upd (g_Model_now u4) ((3 : Int32) + v1).toNatClampNeg (0 : Int32))))) H := hP
      have hD : va_D A ((W_Model cI a (s_Model_now u4 (upd (g_Model_now u4) ((3 : Int32) + v1).toNatClampNeg (0 : Int32))))) := hD
      refine lv_aload_n hx hb dX5_forget_40 rfl (lv_at hl 1 rfl) ?_
      refine va_get (D := (dC, dI)) (ci := 5) (v := .ref (a 1)) (C := RX5) (T := TX5) (N := 26) hx hb hts hinX5 hown hK hP 0 rfl rfl 0 (by decide) (hts (Cond.fieldLink RX5 7 "LearnedShapesModel" "now" "[I") (List.mem_of_getElem? (i := 2) rfl)) (fun _ h9 => h9) rfl dX5_forget_41 ?_
      refine lv_iconst (v := (1 : Int32)) hx hb dX5_forget_44 (by decide) ?_
      refine lv_iload_n hx hb dX5_forget_45 rfl (lv_at hl 2 rfl) ?_
      refine lv_iadd hx hb dX5_forget_46 ?_
      refine lv_iconst (v := (0 : Int32)) hx hb dX5_forget_47 (by decide) ?_
      obtain ⟨g8, hF⟩ := og_some hF
      refine va_iast (f := (upd (g_Model_now u4) ((3 : Int32) + v1).toNatClampNeg (0 : Int32))) hx hb hK hP hD hS 1 0 rfl rfl (inb_in g8) dX5_forget_48 (fun H locs hP hD hS => ?_)
      have hP : va_P (dC, dI) vwCl ((W_Model cI a (s_Model_now u4 (upd (upd (g_Model_now u4) ((3 : Int32) + v1).toNatClampNeg (0 : Int32)) ((1 : Int32) + v1).toNatClampNeg (0 : Int32))))) H := hP
      have hD : va_D A ((W_Model cI a (s_Model_now u4 (upd (upd (g_Model_now u4) ((3 : Int32) + v1).toNatClampNeg (0 : Int32)) ((1 : Int32) + v1).toNatClampNeg (0 : Int32))))) := hD
      refine lv_iload_n hx hb dX5_forget_49 rfl (lv_at hl 0 rfl) ?_
      have e50 := Option.some.inj hF
      obtain ⟨e60, e51⟩ := Prod.mk.inj e50
      subst e60
      subst e51
      exact W.iret (v := ((g_Model_now u4) ((3 : Int32) + v1).toNatClampNeg)) hx hb hr (fun t ht hW => ⟨⟨((g_Model_now u4) ((3 : Int32) + v1).toNatClampNeg), (s_Model_now u4 (upd (upd (g_Model_now u4) ((3 : Int32) + v1).toNatClampNeg (0 : Int32)) ((1 : Int32) + v1).toNatClampNeg (0 : Int32))), rfl, ⟨rfl, rfl⟩, by rw [ht]; exact hP, va_K.moved hW.alike hK, hD⟩, hS.F ht⟩) hS.2.2 dX5_forget_50
    · have hF := F_pos c3 hF
      refine lv_aload_n hx hb dX5_forget_12 rfl (lv_at hl 0 rfl) ?_
      refine lv_iconst (v := (1 : Int32)) hx hb dX5_forget_13 (by decide) ?_
      obtain ⟨r9, u10, h11, hF⟩ := ob2_some hF
      have hPc : va_P (dC, dI) vwCl ((W_Model cI a (s_Model_thrown S (0 : Int32)))) H := hP
      have hDc : va_D A ((W_Model cI a (s_Model_thrown S (0 : Int32)))) := hD
      have hFc := va_free (wc := (W_Model cI a (s_Model_thrown S (0 : Int32)))) hD hS hA [0, 1, 2, 3, 4, 5, 6, 7, 8, 9, 10, 11, 12, 13] rfl
      refine va_calli (va_runV (As := [.int (1 : Int32)]) (rest := []) ⟨hx, hb, hml, hown, hts⟩ (c_X5_fails l dC dI cI a H.size _ _ _ _ h11) (cwV 1 hts gX5_forget_X5_fails rfl rfl rfl (by decide +kernel) ⟨Nat.le_of_ble_eq_true rfl, Nat.le_of_ble_eq_true rfl⟩) (jPreV hK hPc hDc hN (ci := 5) rfl rfl) rfl rfl hl.1 rfl (lv_room (Nat.le_of_ble_eq_true rfl)) dX5_forget_14 ⟨Nat.le_of_ble_eq_true rfl, Nat.le_of_ble_eq_true rfl⟩) hS (fun q _ h => hFc q h) hFc (fun r' u' t H locs ht hvm hw hB hz1 hk1 hS => ?_)
      obtain ⟨e1, e2⟩ := hw
      subst e1
      subst e2
      obtain ⟨hP1, -, hD1⟩ := hB
      rw [ht] at hP1
      have hP : va_P (dC, dI) vwCl ((W_Model cI a u10)) H := hP1
      have hD : va_D A ((W_Model cI a u10)) := hD1.weaken (fun _ _ _ h => hFc _ h)
      have e50 := Option.some.inj hF
      obtain ⟨e60, e51⟩ := Prod.mk.inj e50
      subst e60
      subst e51
      exact W.iret (v := r9) hx hb hr (fun t ht hW => ⟨⟨r9, u10, rfl, ⟨rfl, rfl⟩, by rw [ht]; exact hP, va_K.moved hW.alike hK, hD⟩, hS.F ht⟩) hS.2.2 dX5_forget_17
  exact KE _ _ hP hD hS
set_option maxHeartbeats 4000000 in
set_option maxRecDepth 100000 in
theorem c_X5_exchanges (l : Launch) (dC : Nat → ClassId) (dI : Nat → Nat → Nat) (cI : ClassId) (a : Nat → Nat) (sz : Nat) (S : S_Model) (v1 : Int32) (v2 : Int32) (Y : S_Model) (hF : F_X5_exchanges S v1 v2 = some Y) : Met l yX5_exchanges wsX5_exchanges ({ frames := 0, cells := 0, slots := 0, locals := 0 } : Room) (va_Pc [.ref (a 0), .int v1, .int v2] (jPre (dC, dI) [(cI, .int)] sz ((W_Model cI a S)))) (va_Qv (fun u : S_Model => Y = u) (fun u : S_Model => jB (dC, dI) [(cI, .int)] (va_A ((W_Model cI a S)) sz) ((W_Model cI a u))) (va_A ((W_Model cI a S)) sz)) 0 0 (va_A ((W_Model cI a S)) sz) := by
  refine Met.ofW (cc := cX5_exchanges) (maxL := 4) (ret := none) (by decide) rfl ?_
  intro p e s m args below meth c s₁ B hml hv
  obtain ⟨rfl, hsz, hP, hK, hD0, hN⟩ := hv
  have hx := B.exec
  have hb := B.bytes
  have hr := B.returns
  have hts := atoms_spec (ws := wsX5_exchanges) B.pre
  have hown : s.vm.findClass RX5 = some m.cls := findClass_of_methodNamed B.named
  have hlocks := B.notSynchronized
  have hinX5 : ∀ w ∈ u_ws RX5 TX5 26, w ∈ wsX5_exchanges := by decide +kernel
  subst hsz
  have hD := hD0.self (sz := s.heap.size)
  generalize hAe : (va_A ((W_Model cI a S)) s.heap.size) = A at hD ⊢
  have hA : ∀ q : Nat, s.heap.size ≤ q → A q := fun q h => by rw [← hAe]; exact Or.inr h
  have hS : va_S A s.heap s.heap [] := va_S.rf
  have hl := lv_entry ([.ref (a 0), .int v1, .int v2]) (n := 4) (Nat.le_of_ble_eq_true rfl)
  rw [lg_entry_eq]
  generalize (lg_sl ([.ref (a 0), .int v1, .int v2]) ++ List.replicate (4 - (lg_sl ([.ref (a 0), .int v1, .int v2])).length) Slot.unset).toArray = ls at hl ⊢
  have hl : lv_has ls 4 [(0, .ref (a 0)), (1, .int v1), (2, .int v2)] := hl
  have KE : ∀ (H : Heap) (locs : List Loc), va_P (dC, dI) vwCl ((W_Model cI a S)) H → va_D A ((W_Model cI a S)) → va_S A s.heap H locs → W p l e (headSpec wsX5_exchanges ({ frames := 0, cells := 0, slots := 0, locals := 0 } : Room)).room s m ([.ref (a 0), .int v1, .int v2] : List Value).toArray below meth c H locs 0 0 (MQ below (va_Qv (fun u : S_Model => Y = u) (fun u : S_Model => jB (dC, dI) [(cI, .int)] A ((W_Model cI a u))) A) ([.ref (a 0), .int v1, .int v2] : List Value).toArray s 0 0 A) (F0 m 0 ls []) := by
    intro H locs hP hD hS
    unfold F_X5_exchanges at hF
    refine lv_aload_n hx hb dX5_exchanges_0 rfl (lv_at hl 0 rfl) ?_
    refine va_get (D := (dC, dI)) (ci := 5) (v := .ref (a 1)) (C := RX5) (T := TX5) (N := 26) hx hb hts hinX5 hown hK hP 0 rfl rfl 0 (by decide) (hts (Cond.fieldLink RX5 7 "LearnedShapesModel" "now" "[I") (List.mem_of_getElem? (i := 1) rfl)) (fun _ h9 => h9) rfl dX5_exchanges_1 ?_
    refine lv_iload_n hx hb dX5_exchanges_4 rfl (lv_at hl 1 rfl) ?_
    obtain ⟨g1, hF⟩ := og_some hF
    refine va_iald (f := (g_Model_now S)) hx hb hK hP 1 0 rfl rfl (inb_in g1) dX5_exchanges_5 ?_
    refine lv_istore_n (lv' := [(3, .int ((g_Model_now S) v1.toNatClampNeg)), (0, .ref (a 0)), (1, .int v1), (2, .int v2)]) hx hb dX5_exchanges_6 rfl hl (by decide) rfl (fun ls hl => ?_)
    refine lv_aload_n hx hb dX5_exchanges_7 rfl (lv_at hl 1 rfl) ?_
    refine va_get (D := (dC, dI)) (ci := 5) (v := .ref (a 1)) (C := RX5) (T := TX5) (N := 26) hx hb hts hinX5 hown hK hP 0 rfl rfl 0 (by decide) (hts (Cond.fieldLink RX5 7 "LearnedShapesModel" "now" "[I") (List.mem_of_getElem? (i := 1) rfl)) (fun _ h9 => h9) rfl dX5_exchanges_8 ?_
    refine lv_iload_n hx hb dX5_exchanges_11 rfl (lv_at hl 2 rfl) ?_
    refine lv_aload_n hx hb dX5_exchanges_12 rfl (lv_at hl 1 rfl) ?_
    refine va_get (D := (dC, dI)) (ci := 5) (v := .ref (a 1)) (C := RX5) (T := TX5) (N := 26) hx hb hts hinX5 hown hK hP 0 rfl rfl 0 (by decide) (hts (Cond.fieldLink RX5 7 "LearnedShapesModel" "now" "[I") (List.mem_of_getElem? (i := 1) rfl)) (fun _ h9 => h9) rfl dX5_exchanges_13 ?_
    refine lv_iload_n hx hb dX5_exchanges_16 rfl (lv_at hl 3 rfl) ?_
    obtain ⟨g2, hF⟩ := og_some hF
    refine va_iald (f := (g_Model_now S)) hx hb hK hP 1 0 rfl rfl (inb_in g2) dX5_exchanges_17 ?_
    obtain ⟨g3, hF⟩ := og_some hF
    refine va_iast (f := (g_Model_now S)) hx hb hK hP hD hS 1 0 rfl rfl (inb_in g3) dX5_exchanges_18 (fun H locs hP hD hS => ?_)
    have hP : va_P (dC, dI) vwCl ((W_Model cI a (s_Model_now S (upd (g_Model_now S) v1.toNatClampNeg ((g_Model_now S) v2.toNatClampNeg))))) H := hP
    have hD : va_D A ((W_Model cI a (s_Model_now S (upd (g_Model_now S) v1.toNatClampNeg ((g_Model_now S) v2.toNatClampNeg))))) := hD
    refine lv_aload_n hx hb dX5_exchanges_19 rfl (lv_at hl 1 rfl) ?_
    refine va_get (D := (dC, dI)) (ci := 5) (v := .ref (a 1)) (C := RX5) (T := TX5) (N := 26) hx hb hts hinX5 hown hK hP 0 rfl rfl 0 (by decide) (hts (Cond.fieldLink RX5 7 "LearnedShapesModel" "now" "[I") (List.mem_of_getElem? (i := 1) rfl)) (fun _ h9 => h9) rfl dX5_exchanges_20 ?_
    refine lv_iload_n hx hb dX5_exchanges_23 rfl (lv_at hl 3 rfl) ?_
    refine lv_iload_n hx hb dX5_exchanges_24 rfl (lv_at hl 0 rfl) ?_
    obtain ⟨g4, hF⟩ := og_some hF
    refine va_iast (f := (upd (g_Model_now S) v1.toNatClampNeg ((g_Model_now S) v2.toNatClampNeg))) hx hb hK hP hD hS 1 0 rfl rfl (inb_in g4) dX5_exchanges_25 (fun H locs hP hD hS => ?_)
    have hP : va_P (dC, dI) vwCl ((W_Model cI a (s_Model_now S (upd (upd (g_Model_now S) v1.toNatClampNeg ((g_Model_now S) v2.toNatClampNeg)) v2.toNatClampNeg ((g_Model_now S) v1.toNatClampNeg))))) H := hP
    have hD : va_D A ((W_Model cI a (s_Model_now S (upd (upd (g_Model_now S) v1.toNatClampNeg ((g_Model_now S) v2.toNatClampNeg)) v2.toNatClampNeg ((g_Model_now S) v1.toNatClampNeg))))) := hD
    have e50 := Option.some.inj hF
    subst e50
    exact W.vret hx hb hr (fun t ht hW => ⟨⟨(s_Model_now S (upd (upd (g_Model_now S) v1.toNatClampNeg ((g_Model_now S) v2.toNatClampNeg)) v2.toNatClampNeg ((g_Model_now S) v1.toNatClampNeg))), rfl, rfl, by rw [ht]; exact hP, va_K.moved hW.alike hK, hD⟩, hS.F ht⟩) hS.2.2 dX5_exchanges_26
  exact KE _ _ hP hD hS
set_option maxHeartbeats 4000000 in
set_option maxRecDepth 100000 in
theorem c_X5_swap (l : Launch) (dC : Nat → ClassId) (dI : Nat → Nat → Nat) (cI : ClassId) (a : Nat → Nat) (sz : Nat) (S : S_Model)  (rr : Int32) (Y : S_Model) (hF : F_X5_swap S  = some (rr, Y)) : Met l yX5_swap wsX5_swap ({ frames := 1, cells := 0, slots := 0, locals := 23 } : Room) (va_Pc [.ref (a 0)] (jPre (dC, dI) [(cI, .int)] sz ((W_Model cI a S)))) (va_Qi (fun (r' : Int32) (u : S_Model) => rr = r' ∧ Y = u) (fun u : S_Model => jB (dC, dI) [(cI, .int)] (va_A ((W_Model cI a S)) sz) ((W_Model cI a u))) (va_A ((W_Model cI a S)) sz)) 0 0 (va_A ((W_Model cI a S)) sz) := by
  refine Met.ofW (cc := cX5_swap) (maxL := 2) (ret := (some .int)) (by decide) rfl ?_
  intro p e s m args below meth c s₁ B hml hv
  obtain ⟨rfl, hsz, hP, hK, hD0, hN⟩ := hv
  have hx := B.exec
  have hb := B.bytes
  have hr := B.returns
  have hts := atoms_spec (ws := wsX5_swap) B.pre
  have hown : s.vm.findClass RX5 = some m.cls := findClass_of_methodNamed B.named
  have hlocks := B.notSynchronized
  have hinX5 : ∀ w ∈ u_ws RX5 TX5 26, w ∈ wsX5_swap := by decide +kernel
  subst hsz
  have hD := hD0.self (sz := s.heap.size)
  generalize hAe : (va_A ((W_Model cI a S)) s.heap.size) = A at hD ⊢
  have hA : ∀ q : Nat, s.heap.size ≤ q → A q := fun q h => by rw [← hAe]; exact Or.inr h
  have hS : va_S A s.heap s.heap [] := va_S.rf
  have hl := lv_entry ([.ref (a 0)]) (n := 2) (Nat.le_of_ble_eq_true rfl)
  rw [lg_entry_eq]
  generalize (lg_sl ([.ref (a 0)]) ++ List.replicate (2 - (lg_sl ([.ref (a 0)])).length) Slot.unset).toArray = ls at hl ⊢
  have hl : lv_has ls 2 [(0, .ref (a 0))] := hl
  have K23 : ∀ (n23 : Nat) (S : S_Model) (x1 : Int32) (H : Heap) (locs : List Loc), F_X5_swap_23 n23 S x1 = some (rr, Y) → va_P (dC, dI) vwCl ((W_Model cI a S)) H → va_D A ((W_Model cI a S)) → va_S A s.heap H locs → ∀ ls : Array Slot, lv_has ls 2 [(0, .ref (a 0)), (1, .int x1)] → W p l e (headSpec wsX5_swap ({ frames := 1, cells := 0, slots := 0, locals := 23 } : Room)).room s m ([.ref (a 0)] : List Value).toArray below meth c H locs 0 0 (MQ below (va_Qi (fun (r' : Int32) (u : S_Model) => rr = r' ∧ Y = u) (fun u : S_Model => jB (dC, dI) [(cI, .int)] A ((W_Model cI a u))) A) ([.ref (a 0)] : List Value).toArray s 0 0 A) (F0 m 23 ls []) := by
    intro n23
    induction n23 with
    | zero => intro S x1 H locs hF; exact nomatch hF
    | succ n23 ih23 =>
      intro S x1 H locs hF hP hD hS ls hl
      rw [F_X5_swap_23_s] at hF
      refine lv_iload_n hx hb dX5_swap_23 rfl (lv_at hl 1 rfl) ?_
      refine lv_sipush (v := (210 : Int32)) hx hb dX5_swap_24 (by decide) ?_
      refine lv_icmp_ge (tgt := 48) hx hb dX5_swap_27 (by decide) (fun c1 => ?_) (fun c1 => ?_)
      · have hF := F_pos c1 hF
        refine lv_aload_n hx hb dX5_swap_48 rfl (lv_at hl 0 rfl) ?_
        refine va_get (D := (dC, dI)) (ci := 5) (v := .ref (a 1)) (C := RX5) (T := TX5) (N := 26) hx hb hts hinX5 hown hK hP 0 rfl rfl 0 (by decide) (hts (Cond.fieldLink RX5 7 "LearnedShapesModel" "now" "[I") (List.mem_of_getElem? (i := 2) rfl)) (fun _ h9 => h9) rfl dX5_swap_49 ?_
        refine lv_iconst (v := (3 : Int32)) hx hb dX5_swap_52 (by decide) ?_
        obtain ⟨g2, hF⟩ := og_some hF
        refine va_iald (f := (g_Model_now S)) hx hb hK hP 1 0 rfl rfl (inb_in g2) dX5_swap_53 ?_
        have e50 := Option.some.inj hF
        obtain ⟨e60, e51⟩ := Prod.mk.inj e50
        subst e60
        subst e51
        exact W.iret (v := ((g_Model_now S) (3 : Int32).toNatClampNeg)) hx hb hr (fun t ht hW => ⟨⟨((g_Model_now S) (3 : Int32).toNatClampNeg), S, rfl, ⟨rfl, rfl⟩, by rw [ht]; exact hP, va_K.moved hW.alike hK, hD⟩, hS.F ht⟩) hS.2.2 dX5_swap_54
      · have hF := F_neg c1 hF
        refine lv_aload_n hx hb dX5_swap_30 rfl (lv_at hl 0 rfl) ?_
        refine lv_iconst (v := (5 : Int32)) hx hb dX5_swap_31 (by decide) ?_
        refine lv_iload_n hx hb dX5_swap_32 rfl (lv_at hl 1 rfl) ?_
        refine lv_iadd hx hb dX5_swap_33 ?_
        refine lv_sipush (v := (215 : Int32)) hx hb dX5_swap_34 (by decide) ?_
        refine lv_iload_n hx hb dX5_swap_37 rfl (lv_at hl 1 rfl) ?_
        refine lv_iadd hx hb dX5_swap_38 ?_
        obtain ⟨u3, h4, hF⟩ := ob1_some hF
        have hPc : va_P (dC, dI) vwCl ((W_Model cI a S)) H := hP
        have hDc : va_D A ((W_Model cI a S)) := hD
        have hFc := va_free (wc := (W_Model cI a S)) hD hS hA [0, 1, 2, 3, 4, 5, 6, 7, 8, 9, 10, 11, 12, 13] rfl
        refine va_callv (va_runV (As := [.int ((5 : Int32) + x1), .int ((215 : Int32) + x1)]) (rest := []) ⟨hx, hb, hml, hown, hts⟩ (c_X5_exchanges l dC dI cI a H.size _ _ _ _ h4) (cwV 2 hts gX5_swap_X5_exchanges rfl rfl rfl (by decide +kernel) ⟨Nat.le_of_ble_eq_true rfl, Nat.le_of_ble_eq_true rfl⟩) (jPreV hK hPc hDc hN (ci := 5) rfl rfl) rfl rfl hl.1 rfl (lv_room (Nat.le_of_ble_eq_true rfl)) dX5_swap_39 ⟨Nat.le_of_ble_eq_true rfl, Nat.le_of_ble_eq_true rfl⟩) hS (fun q _ h => hFc q h) hFc (fun u' t H locs ht hvm hw hB hz1 hk1 hS => ?_)
        subst hw
        obtain ⟨hP1, -, hD1⟩ := hB
        rw [ht] at hP1
        have hP : va_P (dC, dI) vwCl ((W_Model cI a u3)) H := hP1
        have hD : va_D A ((W_Model cI a u3)) := hD1.weaken (fun _ _ _ h => hFc _ h)
        refine lv_iinc (v := (x1 + (1 : Int32))) (lv' := [(1, .int (x1 + (1 : Int32))), (0, .ref (a 0))]) hx hb dX5_swap_42 hl (k := 1) rfl rfl (by decide) rfl (fun ls hl => ?_)
        refine lv_goto (tgt := 23) hx hb dX5_swap_45 (by decide) ?_
        exact ih23 _ _ _ _ hF hP hD hS _ (lv_sub hl [1, 0] rfl)
  have KE : ∀ (H : Heap) (locs : List Loc), va_P (dC, dI) vwCl ((W_Model cI a S)) H → va_D A ((W_Model cI a S)) → va_S A s.heap H locs → W p l e (headSpec wsX5_swap ({ frames := 1, cells := 0, slots := 0, locals := 23 } : Room)).room s m ([.ref (a 0)] : List Value).toArray below meth c H locs 0 0 (MQ below (va_Qi (fun (r' : Int32) (u : S_Model) => rr = r' ∧ Y = u) (fun u : S_Model => jB (dC, dI) [(cI, .int)] A ((W_Model cI a u))) A) ([.ref (a 0)] : List Value).toArray s 0 0 A) (F0 m 0 ls []) := by
    intro H locs hP hD hS
    unfold F_X5_swap at hF
    refine lv_aload_n hx hb dX5_swap_0 rfl (lv_at hl 0 rfl) ?_
    refine lv_iconst (v := (0 : Int32)) hx hb dX5_swap_1 (by decide) ?_
    refine va_put (D := (dC, dI)) (ci := 5) (v := .int (0 : Int32)) (ty := .int) (C := RX5) (T := TX5) (N := 26) hx hb hts hinX5 tyX5 tyX5_ok nmX5 hown hK hP hD hS 0 rfl rfl 5 (by decide) (hts (Cond.fieldLink RX5 49 "LearnedShapesModel" "thrown" "I") (List.mem_of_getElem? (i := 1) rfl)) (fun _ h9 => h9) rfl (by decide +kernel) (rfl) rfl (Nat.le_of_ble_eq_true rfl) dX5_swap_2 (fun H locs hP hD hS => ?_)
    have hP : va_P (dC, dI) vwCl ((W_Model cI a (s_Model_thrown S (0 : Int32)))) H := hP
    have hD : va_D A ((W_Model cI a (s_Model_thrown S (0 : Int32)))) := hD
    refine lv_aload_n hx hb dX5_swap_5 rfl (lv_at hl 0 rfl) ?_
    obtain ⟨u5, h6, hF⟩ := ob1_some hF
    have hPc : va_P (dC, dI) vwCl ((W_Model cI a (s_Model_thrown S (0 : Int32)))) H := hP
    have hDc : va_D A ((W_Model cI a (s_Model_thrown S (0 : Int32)))) := hD
    have hFc := va_free (wc := (W_Model cI a (s_Model_thrown S (0 : Int32)))) hD hS hA [0, 1, 2, 3, 4, 5, 6, 7, 8, 9, 10, 11, 12, 13] rfl
    refine va_callv (va_runV (As := []) (rest := []) ⟨hx, hb, hml, hown, hts⟩ (c_X5_saves l dC dI cI a H.size _ _ h6) (cwV 0 hts gX5_swap_X5_saves rfl rfl rfl (by decide +kernel) ⟨Nat.le_of_ble_eq_true rfl, Nat.le_of_ble_eq_true rfl⟩) (jPreV hK hPc hDc hN (ci := 5) rfl rfl) rfl rfl hl.1 rfl (lv_room (Nat.le_of_ble_eq_true rfl)) dX5_swap_6 ⟨Nat.le_of_ble_eq_true rfl, Nat.le_of_ble_eq_true rfl⟩) hS (fun q _ h => hFc q h) hFc (fun u' t H locs ht hvm hw hB hz1 hk1 hS => ?_)
    subst hw
    obtain ⟨hP1, -, hD1⟩ := hB
    rw [ht] at hP1
    have hP : va_P (dC, dI) vwCl ((W_Model cI a u5)) H := hP1
    have hD : va_D A ((W_Model cI a u5)) := hD1.weaken (fun _ _ _ h => hFc _ h)
    refine lv_aload_n hx hb dX5_swap_9 rfl (lv_at hl 0 rfl) ?_
    refine lv_iconst (v := (1 : Int32)) hx hb dX5_swap_10 (by decide) ?_
    refine lv_iconst (v := (2 : Int32)) hx hb dX5_swap_11 (by decide) ?_
    obtain ⟨u7, h8, hF⟩ := ob1_some hF
    have hPc : va_P (dC, dI) vwCl ((W_Model cI a u5)) H := hP
    have hDc : va_D A ((W_Model cI a u5)) := hD
    have hFc := va_free (wc := (W_Model cI a u5)) hD hS hA [0, 1, 2, 3, 4, 5, 6, 7, 8, 9, 10, 11, 12, 13] rfl
    refine va_callv (va_runV (As := [.int (1 : Int32), .int (2 : Int32)]) (rest := []) ⟨hx, hb, hml, hown, hts⟩ (c_X5_exchanges l dC dI cI a H.size _ _ _ _ h8) (cwV 2 hts gX5_swap_X5_exchanges rfl rfl rfl (by decide +kernel) ⟨Nat.le_of_ble_eq_true rfl, Nat.le_of_ble_eq_true rfl⟩) (jPreV hK hPc hDc hN (ci := 5) rfl rfl) rfl rfl hl.1 rfl (lv_room (Nat.le_of_ble_eq_true rfl)) dX5_swap_12 ⟨Nat.le_of_ble_eq_true rfl, Nat.le_of_ble_eq_true rfl⟩) hS (fun q _ h => hFc q h) hFc (fun u' t H locs ht hvm hw hB hz1 hk1 hS => ?_)
    subst hw
    obtain ⟨hP1, -, hD1⟩ := hB
    rw [ht] at hP1
    have hP : va_P (dC, dI) vwCl ((W_Model cI a u7)) H := hP1
    have hD : va_D A ((W_Model cI a u7)) := hD1.weaken (fun _ _ _ h => hFc _ h)
    refine lv_aload_n hx hb dX5_swap_15 rfl (lv_at hl 0 rfl) ?_
    refine lv_iconst (v := (3 : Int32)) hx hb dX5_swap_16 (by decide) ?_
    refine lv_iconst (v := (4 : Int32)) hx hb dX5_swap_17 (by decide) ?_
    obtain ⟨u9, h10, hF⟩ := ob1_some hF
    have hPc : va_P (dC, dI) vwCl ((W_Model cI a u7)) H := hP
    have hDc : va_D A ((W_Model cI a u7)) := hD
    have hFc := va_free (wc := (W_Model cI a u7)) hD hS hA [0, 1, 2, 3, 4, 5, 6, 7, 8, 9, 10, 11, 12, 13] rfl
    refine va_callv (va_runV (As := [.int (3 : Int32), .int (4 : Int32)]) (rest := []) ⟨hx, hb, hml, hown, hts⟩ (c_X5_exchanges l dC dI cI a H.size _ _ _ _ h10) (cwV 2 hts gX5_swap_X5_exchanges rfl rfl rfl (by decide +kernel) ⟨Nat.le_of_ble_eq_true rfl, Nat.le_of_ble_eq_true rfl⟩) (jPreV hK hPc hDc hN (ci := 5) rfl rfl) rfl rfl hl.1 rfl (lv_room (Nat.le_of_ble_eq_true rfl)) dX5_swap_18 ⟨Nat.le_of_ble_eq_true rfl, Nat.le_of_ble_eq_true rfl⟩) hS (fun q _ h => hFc q h) hFc (fun u' t H locs ht hvm hw hB hz1 hk1 hS => ?_)
    subst hw
    obtain ⟨hP1, -, hD1⟩ := hB
    rw [ht] at hP1
    have hP : va_P (dC, dI) vwCl ((W_Model cI a u9)) H := hP1
    have hD : va_D A ((W_Model cI a u9)) := hD1.weaken (fun _ _ _ h => hFc _ h)
    refine lv_iconst (v := (0 : Int32)) hx hb dX5_swap_21 (by decide) ?_
    refine lv_istore_n (lv' := [(1, .int (0 : Int32)), (0, .ref (a 0))]) hx hb dX5_swap_22 rfl hl (by decide) rfl (fun ls hl => ?_)
    exact K23 _ _ _ _ _ hF hP hD hS _ (lv_sub hl [1, 0] rfl)
  exact KE _ _ hP hD hS
set_option maxHeartbeats 4000000 in
set_option maxRecDepth 100000 in
theorem c_X5_set (l : Launch) (dC : Nat → ClassId) (dI : Nat → Nat → Nat) (cI : ClassId) (a : Nat → Nat) (sz : Nat) (S : S_Model) (v1 : Int32) (rr : Int32) (Y : S_Model) (hF : F_X5_set S v1 = some (rr, Y)) : Met l yX5_set wsX5_set ({ frames := 1, cells := 0, slots := 0, locals := 22 } : Room) (va_Pc [.ref (a 0), .int v1] (jPre (dC, dI) [(cI, .int)] sz ((W_Model cI a S)))) (va_Qi (fun (r' : Int32) (u : S_Model) => rr = r' ∧ Y = u) (fun u : S_Model => jB (dC, dI) [(cI, .int)] (va_A ((W_Model cI a S)) sz) ((W_Model cI a u))) (va_A ((W_Model cI a S)) sz)) 0 0 (va_A ((W_Model cI a S)) sz) := by
  refine Met.ofW (cc := cX5_set) (maxL := 3) (ret := (some .int)) (by decide) rfl ?_
  intro p e s m args below meth c s₁ B hml hv
  obtain ⟨rfl, hsz, hP, hK, hD0, hN⟩ := hv
  have hx := B.exec
  have hb := B.bytes
  have hr := B.returns
  have hts := atoms_spec (ws := wsX5_set) B.pre
  have hown : s.vm.findClass RX5 = some m.cls := findClass_of_methodNamed B.named
  have hlocks := B.notSynchronized
  have hinX5 : ∀ w ∈ u_ws RX5 TX5 26, w ∈ wsX5_set := by decide +kernel
  subst hsz
  have hD := hD0.self (sz := s.heap.size)
  generalize hAe : (va_A ((W_Model cI a S)) s.heap.size) = A at hD ⊢
  have hA : ∀ q : Nat, s.heap.size ≤ q → A q := fun q h => by rw [← hAe]; exact Or.inr h
  have hS : va_S A s.heap s.heap [] := va_S.rf
  have hl := lv_entry ([.ref (a 0), .int v1]) (n := 3) (Nat.le_of_ble_eq_true rfl)
  rw [lg_entry_eq]
  generalize (lg_sl ([.ref (a 0), .int v1]) ++ List.replicate (3 - (lg_sl ([.ref (a 0), .int v1])).length) Slot.unset).toArray = ls at hl ⊢
  have hl : lv_has ls 3 [(0, .ref (a 0)), (1, .int v1)] := hl
  have KE : ∀ (H : Heap) (locs : List Loc), va_P (dC, dI) vwCl ((W_Model cI a S)) H → va_D A ((W_Model cI a S)) → va_S A s.heap H locs → W p l e (headSpec wsX5_set ({ frames := 1, cells := 0, slots := 0, locals := 22 } : Room)).room s m ([.ref (a 0), .int v1] : List Value).toArray below meth c H locs 0 0 (MQ below (va_Qi (fun (r' : Int32) (u : S_Model) => rr = r' ∧ Y = u) (fun u : S_Model => jB (dC, dI) [(cI, .int)] A ((W_Model cI a u))) A) ([.ref (a 0), .int v1] : List Value).toArray s 0 0 A) (F0 m 0 ls []) := by
    intro H locs hP hD hS
    unfold F_X5_set at hF
    refine lv_aload_n hx hb dX5_set_0 rfl (lv_at hl 0 rfl) ?_
    refine lv_iconst (v := (0 : Int32)) hx hb dX5_set_1 (by decide) ?_
    refine va_put (D := (dC, dI)) (ci := 5) (v := .int (0 : Int32)) (ty := .int) (C := RX5) (T := TX5) (N := 26) hx hb hts hinX5 tyX5 tyX5_ok nmX5 hown hK hP hD hS 0 rfl rfl 5 (by decide) (hts (Cond.fieldLink RX5 49 "LearnedShapesModel" "thrown" "I") (List.mem_of_getElem? (i := 1) rfl)) (fun _ h9 => h9) rfl (by decide +kernel) (rfl) rfl (Nat.le_of_ble_eq_true rfl) dX5_set_2 (fun H locs hP hD hS => ?_)
    have hP : va_P (dC, dI) vwCl ((W_Model cI a (s_Model_thrown S (0 : Int32)))) H := hP
    have hD : va_D A ((W_Model cI a (s_Model_thrown S (0 : Int32)))) := hD
    refine lv_iload_n hx hb dX5_set_5 rfl (lv_at hl 1 rfl) ?_
    refine lv_iconst (v := (0 : Int32)) hx hb dX5_set_6 (by decide) ?_
    refine lv_iconst (v := (1 : Int32)) hx hb dX5_set_7 (by decide) ?_
    obtain ⟨r1, h2, hF⟩ := ob1_some hF
    have hPc := hP.sub (ws' := ([] : va_W)) [] rfl
    have hDc := hD.sub (ws' := ([] : va_W)) [] (by decide) rfl
    have hFc := va_free (wc := ([] : va_W)) hD hS hA [] rfl
    refine va_calli (va_runS (As := [.int v1, .int (0 : Int32), .int (1 : Int32)]) (rest := []) ⟨hx, hb, hml, hown, hts⟩ (c_X5_in l dC dI cI  H.size _ _ _ _ h2) (va_cwS 3 hts gX5_set_X5_in rfl rfl rfl (by decide +kernel) ⟨Nat.le_of_ble_eq_true rfl, Nat.le_of_ble_eq_true rfl⟩) (jPreS hK hPc hDc hN) rfl rfl hl.1 rfl (lv_room (Nat.le_of_ble_eq_true rfl)) dX5_set_8 ⟨Nat.le_of_ble_eq_true rfl, Nat.le_of_ble_eq_true rfl⟩) hS (fun q _ h => hFc q h) hFc (fun r' u' t H locs ht hvm hw hB hz1 hk1 hS => ?_)
    subst hw
    obtain ⟨hP1, -, hD1⟩ := hB
    rw [ht] at hP1
    obtain ⟨hP, hD⟩ := jJoin (wc := ([] : va_W)) (w1 := ([] : va_W)) (ws' := (W_Model cI a (s_Model_thrown S (0 : Int32)))) hP hD [] [0, 1, 2, 3, 4, 5, 6, 7, 8, 9, 10, 11, 12, 13] [0, 1, 2, 3, 4, 5, 6, 7, 8, 9, 10, 11, 12, 13] rfl rfl (by decide) (by decide) hk1 hFc hP1 hD1 (by decide) rfl
    refine lv_if_ne (tgt := 20) hx hb dX5_set_11 (by decide) (fun c3 => ?_) (fun c3 => ?_)
    · have hF := F_neg c3 hF
      refine lv_aload_n hx hb dX5_set_20 rfl (lv_at hl 0 rfl) ?_
      obtain ⟨u4, h5, hF⟩ := ob1_some hF
      have hPc : va_P (dC, dI) vwCl ((W_Model cI a (s_Model_thrown S (0 : Int32)))) H := hP
      have hDc : va_D A ((W_Model cI a (s_Model_thrown S (0 : Int32)))) := hD
      have hFc := va_free (wc := (W_Model cI a (s_Model_thrown S (0 : Int32)))) hD hS hA [0, 1, 2, 3, 4, 5, 6, 7, 8, 9, 10, 11, 12, 13] rfl
      refine va_callv (va_runV (As := []) (rest := []) ⟨hx, hb, hml, hown, hts⟩ (c_X5_saves l dC dI cI a H.size _ _ h5) (cwV 0 hts gX5_set_X5_saves rfl rfl rfl (by decide +kernel) ⟨Nat.le_of_ble_eq_true rfl, Nat.le_of_ble_eq_true rfl⟩) (jPreV hK hPc hDc hN (ci := 5) rfl rfl) rfl rfl hl.1 rfl (lv_room (Nat.le_of_ble_eq_true rfl)) dX5_set_21 ⟨Nat.le_of_ble_eq_true rfl, Nat.le_of_ble_eq_true rfl⟩) hS (fun q _ h => hFc q h) hFc (fun u' t H locs ht hvm hw hB hz1 hk1 hS => ?_)
      subst hw
      obtain ⟨hP1, -, hD1⟩ := hB
      rw [ht] at hP1
      have hP : va_P (dC, dI) vwCl ((W_Model cI a u4)) H := hP1
      have hD : va_D A ((W_Model cI a u4)) := hD1.weaken (fun _ _ _ h => hFc _ h)
      refine lv_aload_n hx hb dX5_set_24 rfl (lv_at hl 0 rfl) ?_
      refine va_get (D := (dC, dI)) (ci := 5) (v := .ref (a 1)) (C := RX5) (T := TX5) (N := 26) hx hb hts hinX5 hown hK hP 0 rfl rfl 0 (by decide) (hts (Cond.fieldLink RX5 7 "LearnedShapesModel" "now" "[I") (List.mem_of_getElem? (i := 2) rfl)) (fun _ h9 => h9) rfl dX5_set_25 ?_
      refine lv_iconst (v := (0 : Int32)) hx hb dX5_set_28 (by decide) ?_
      obtain ⟨g6, hF⟩ := og_some hF
      refine va_iald (f := (g_Model_now u4)) hx hb hK hP 1 0 rfl rfl (inb_in g6) dX5_set_29 ?_
      refine lv_istore_n (lv' := [(2, .int ((g_Model_now u4) (0 : Int32).toNatClampNeg)), (0, .ref (a 0)), (1, .int v1)]) hx hb dX5_set_30 rfl hl (by decide) rfl (fun ls hl => ?_)
      refine lv_aload_n hx hb dX5_set_31 rfl (lv_at hl 1 rfl) ?_
      refine va_get (D := (dC, dI)) (ci := 5) (v := .ref (a 1)) (C := RX5) (T := TX5) (N := 26) hx hb hts hinX5 hown hK hP 0 rfl rfl 0 (by decide) (hts (Cond.fieldLink RX5 7 "LearnedShapesModel" "now" "[I") (List.mem_of_getElem? (i := 2) rfl)) (fun _ h9 => h9) rfl dX5_set_32 ?_
      refine lv_iconst (v := (0 : Int32)) hx hb dX5_set_35 (by decide) ?_
      refine lv_iload_n hx hb dX5_set_36 rfl (lv_at hl 2 rfl) ?_
      obtain ⟨g7, hF⟩ := og_some hF
      refine va_iast (f := (g_Model_now u4)) hx hb hK hP hD hS 1 0 rfl rfl (inb_in g7) dX5_set_37 (fun H locs hP hD hS => ?_)
      have hP : va_P (dC, dI) vwCl ((W_Model cI a (s_Model_now u4 (upd (g_Model_now u4) (0 : Int32).toNatClampNeg v1)))) H := hP
      have hD : va_D A ((W_Model cI a (s_Model_now u4 (upd (g_Model_now u4) (0 : Int32).toNatClampNeg v1)))) := hD
      refine lv_iload_n hx hb dX5_set_38 rfl (lv_at hl 0 rfl) ?_
      have e50 := Option.some.inj hF
      obtain ⟨e60, e51⟩ := Prod.mk.inj e50
      subst e60
      subst e51
      exact W.iret (v := ((g_Model_now u4) (0 : Int32).toNatClampNeg)) hx hb hr (fun t ht hW => ⟨⟨((g_Model_now u4) (0 : Int32).toNatClampNeg), (s_Model_now u4 (upd (g_Model_now u4) (0 : Int32).toNatClampNeg v1)), rfl, ⟨rfl, rfl⟩, by rw [ht]; exact hP, va_K.moved hW.alike hK, hD⟩, hS.F ht⟩) hS.2.2 dX5_set_39
    · have hF := F_pos c3 hF
      refine lv_aload_n hx hb dX5_set_14 rfl (lv_at hl 0 rfl) ?_
      refine lv_iconst (v := (1 : Int32)) hx hb dX5_set_15 (by decide) ?_
      obtain ⟨r8, u9, h10, hF⟩ := ob2_some hF
      have hPc : va_P (dC, dI) vwCl ((W_Model cI a (s_Model_thrown S (0 : Int32)))) H := hP
      have hDc : va_D A ((W_Model cI a (s_Model_thrown S (0 : Int32)))) := hD
      have hFc := va_free (wc := (W_Model cI a (s_Model_thrown S (0 : Int32)))) hD hS hA [0, 1, 2, 3, 4, 5, 6, 7, 8, 9, 10, 11, 12, 13] rfl
      refine va_calli (va_runV (As := [.int (1 : Int32)]) (rest := []) ⟨hx, hb, hml, hown, hts⟩ (c_X5_fails l dC dI cI a H.size _ _ _ _ h10) (cwV 1 hts gX5_set_X5_fails rfl rfl rfl (by decide +kernel) ⟨Nat.le_of_ble_eq_true rfl, Nat.le_of_ble_eq_true rfl⟩) (jPreV hK hPc hDc hN (ci := 5) rfl rfl) rfl rfl hl.1 rfl (lv_room (Nat.le_of_ble_eq_true rfl)) dX5_set_16 ⟨Nat.le_of_ble_eq_true rfl, Nat.le_of_ble_eq_true rfl⟩) hS (fun q _ h => hFc q h) hFc (fun r' u' t H locs ht hvm hw hB hz1 hk1 hS => ?_)
      obtain ⟨e1, e2⟩ := hw
      subst e1
      subst e2
      obtain ⟨hP1, -, hD1⟩ := hB
      rw [ht] at hP1
      have hP : va_P (dC, dI) vwCl ((W_Model cI a u9)) H := hP1
      have hD : va_D A ((W_Model cI a u9)) := hD1.weaken (fun _ _ _ h => hFc _ h)
      have e50 := Option.some.inj hF
      obtain ⟨e60, e51⟩ := Prod.mk.inj e50
      subst e60
      subst e51
      exact W.iret (v := r8) hx hb hr (fun t ht hW => ⟨⟨r8, u9, rfl, ⟨rfl, rfl⟩, by rw [ht]; exact hP, va_K.moved hW.alike hK, hD⟩, hS.F ht⟩) hS.2.2 dX5_set_19
  exact KE _ _ hP hD hS
set_option maxHeartbeats 4000000 in
set_option maxRecDepth 100000 in
theorem c_X5_depth (l : Launch) (dC : Nat → ClassId) (dI : Nat → Nat → Nat) (cI : ClassId) (a : Nat → Nat) (sz : Nat) (S : S_Model) (v1 : Int32) (v2 : Int32) (rr : Int32) (hF : F_X5_depth S v1 v2 = some rr) : Met l yX5_depth wsX5_depth ({ frames := 1, cells := 0, slots := 0, locals := 23 } : Room) (va_Pc [.ref (a 0), .int v1, .int v2] (jPre (dC, dI) [(cI, .int)] sz ((W_Model cI a S)))) (va_Qi (fun (r' : Int32) (_ : Unit) => rr = r') (fun _ : Unit => jB (dC, dI) [(cI, .int)] (va_A ((W_Model cI a S)) sz) ((W_Model cI a S))) (va_A ((W_Model cI a S)) sz)) 0 0 (va_A ((W_Model cI a S)) sz) := by
  refine Met.ofW (cc := cX5_depth) (maxL := 5) (ret := (some .int)) (by decide) rfl ?_
  intro p e s m args below meth c s₁ B hml hv
  obtain ⟨rfl, hsz, hP, hK, hD0, hN⟩ := hv
  have hx := B.exec
  have hb := B.bytes
  have hr := B.returns
  have hts := atoms_spec (ws := wsX5_depth) B.pre
  have hown : s.vm.findClass RX5 = some m.cls := findClass_of_methodNamed B.named
  have hlocks := B.notSynchronized
  subst hsz
  have hD := hD0.self (sz := s.heap.size)
  generalize hAe : (va_A ((W_Model cI a S)) s.heap.size) = A at hD ⊢
  have hA : ∀ q : Nat, s.heap.size ≤ q → A q := fun q h => by rw [← hAe]; exact Or.inr h
  have hS : va_S A s.heap s.heap [] := va_S.rf
  have hl := lv_entry ([.ref (a 0), .int v1, .int v2]) (n := 5) (Nat.le_of_ble_eq_true rfl)
  rw [lg_entry_eq]
  generalize (lg_sl ([.ref (a 0), .int v1, .int v2]) ++ List.replicate (5 - (lg_sl ([.ref (a 0), .int v1, .int v2])).length) Slot.unset).toArray = ls at hl ⊢
  have hl : lv_has ls 5 [(0, .ref (a 0)), (1, .int v1), (2, .int v2)] := hl
  have K11 : ∀ (n11 : Nat) (x3 : Int32) (x4 : Int32) (H : Heap) (locs : List Loc), F_X5_depth_11 v1 S n11 x3 x4 = some rr → va_P (dC, dI) vwCl ((W_Model cI a S)) H → va_D A ((W_Model cI a S)) → va_S A s.heap H locs → ∀ ls : Array Slot, lv_has ls 5 [(0, .ref (a 0)), (1, .int v1), (3, .int x3), (4, .int x4)] → W p l e (headSpec wsX5_depth ({ frames := 1, cells := 0, slots := 0, locals := 23 } : Room)).room s m ([.ref (a 0), .int v1, .int v2] : List Value).toArray below meth c H locs 0 0 (MQ below (va_Qi (fun (r' : Int32) (_ : Unit) => rr = r') (fun _ : Unit => jB (dC, dI) [(cI, .int)] A ((W_Model cI a S))) A) ([.ref (a 0), .int v1, .int v2] : List Value).toArray s 0 0 A) (F0 m 11 ls []) := by
    intro n11
    induction n11 with
    | zero => intro x3 x4 H locs hF; exact nomatch hF
    | succ n11 ih11 =>
      intro x3 x4 H locs hF hP hD hS ls hl
      rw [F_X5_depth_11_s] at hF
      refine lv_iload hx hb dX5_depth_11 (lv_at hl 3 rfl) ?_
      refine lv_iconst (v := (-1 : Int32)) hx hb dX5_depth_13 (by decide) ?_
      refine lv_icmp_eq (tgt := 33) hx hb dX5_depth_14 (by decide) (fun c1 => ?_) (fun c1 => ?_)
      · have hF := F_pos c1 hF
        refine lv_iload_n hx hb dX5_depth_33 rfl (lv_at hl 2 rfl) ?_
        have e50 := Option.some.inj hF
        subst e50
        exact W.iret (v := x3) hx hb hr (fun t ht hW => ⟨⟨x3, (), rfl, rfl, by rw [ht]; exact hP, va_K.moved hW.alike hK, hD⟩, hS.F ht⟩) hS.2.2 dX5_depth_34
      · have hF := F_neg c1 hF
        refine lv_iinc (v := (x3 + (1 : Int32))) (lv' := [(3, .int (x3 + (1 : Int32))), (0, .ref (a 0)), (1, .int v1), (4, .int x4)]) hx hb dX5_depth_17 hl (k := 2) rfl rfl (by decide) rfl (fun ls hl => ?_)
        refine lv_aload_n hx hb dX5_depth_20 rfl (lv_at hl 1 rfl) ?_
        refine lv_iload_n hx hb dX5_depth_21 rfl (lv_at hl 2 rfl) ?_
        refine lv_iload hx hb dX5_depth_22 (lv_at hl 3 rfl) ?_
        refine lv_iconst (v := (1 : Int32)) hx hb dX5_depth_24 (by decide) ?_
        obtain ⟨r2, h3, hF⟩ := ob1_some hF
        have hPc : va_P (dC, dI) vwCl ((W_Model cI a S)) H := hP
        have hDc : va_D A ((W_Model cI a S)) := hD
        have hFc := va_free (wc := (W_Model cI a S)) hD hS hA [0, 1, 2, 3, 4, 5, 6, 7, 8, 9, 10, 11, 12, 13] rfl
        refine va_calli (va_runV (As := [.int v1, .int x4, .int (1 : Int32)]) (rest := []) ⟨hx, hb, hml, hown, hts⟩ (c_X5_of l dC dI cI a H.size _ _ _ _ _ h3) (cwV 3 hts gX5_depth_X5_of rfl rfl rfl (by decide +kernel) ⟨Nat.le_of_ble_eq_true rfl, Nat.le_of_ble_eq_true rfl⟩) (jPreV hK hPc hDc hN (ci := 5) rfl rfl) rfl rfl hl.1 rfl (lv_room (Nat.le_of_ble_eq_true rfl)) dX5_depth_25 ⟨Nat.le_of_ble_eq_true rfl, Nat.le_of_ble_eq_true rfl⟩) hS (fun q _ h => hFc q h) hFc (fun r' u' t H locs ht hvm hw hB hz1 hk1 hS => ?_)
        subst hw
        obtain ⟨hP1, -, hD1⟩ := hB
        rw [ht] at hP1
        have hP : va_P (dC, dI) vwCl ((W_Model cI a S)) H := hP1
        have hD : va_D A ((W_Model cI a S)) := hD1.weaken (fun _ _ _ h => hFc _ h)
        refine lv_istore (lv' := [(4, .int r2), (3, .int (x3 + (1 : Int32))), (0, .ref (a 0)), (1, .int v1)]) hx hb dX5_depth_28 hl (by decide) rfl (fun ls hl => ?_)
        refine lv_goto (tgt := 11) hx hb dX5_depth_30 (by decide) ?_
        exact ih11 _ _ _ _ hF hP hD hS _ (lv_sub hl [2, 3, 1, 0] rfl)
  have KE : ∀ (H : Heap) (locs : List Loc), va_P (dC, dI) vwCl ((W_Model cI a S)) H → va_D A ((W_Model cI a S)) → va_S A s.heap H locs → W p l e (headSpec wsX5_depth ({ frames := 1, cells := 0, slots := 0, locals := 23 } : Room)).room s m ([.ref (a 0), .int v1, .int v2] : List Value).toArray below meth c H locs 0 0 (MQ below (va_Qi (fun (r' : Int32) (_ : Unit) => rr = r') (fun _ : Unit => jB (dC, dI) [(cI, .int)] A ((W_Model cI a S))) A) ([.ref (a 0), .int v1, .int v2] : List Value).toArray s 0 0 A) (F0 m 0 ls []) := by
    intro H locs hP hD hS
    unfold F_X5_depth at hF
    refine lv_iconst (v := (0 : Int32)) hx hb dX5_depth_0 (by decide) ?_
    refine lv_istore_n (lv' := [(3, .int (0 : Int32)), (0, .ref (a 0)), (1, .int v1), (2, .int v2)]) hx hb dX5_depth_1 rfl hl (by decide) rfl (fun ls hl => ?_)
    refine lv_aload_n hx hb dX5_depth_2 rfl (lv_at hl 1 rfl) ?_
    refine lv_iload_n hx hb dX5_depth_3 rfl (lv_at hl 2 rfl) ?_
    refine lv_iload_n hx hb dX5_depth_4 rfl (lv_at hl 3 rfl) ?_
    refine lv_iconst (v := (1 : Int32)) hx hb dX5_depth_5 (by decide) ?_
    obtain ⟨r4, h5, hF⟩ := ob1_some hF
    have hPc : va_P (dC, dI) vwCl ((W_Model cI a S)) H := hP
    have hDc : va_D A ((W_Model cI a S)) := hD
    have hFc := va_free (wc := (W_Model cI a S)) hD hS hA [0, 1, 2, 3, 4, 5, 6, 7, 8, 9, 10, 11, 12, 13] rfl
    refine va_calli (va_runV (As := [.int v1, .int v2, .int (1 : Int32)]) (rest := []) ⟨hx, hb, hml, hown, hts⟩ (c_X5_of l dC dI cI a H.size _ _ _ _ _ h5) (cwV 3 hts gX5_depth_X5_of rfl rfl rfl (by decide +kernel) ⟨Nat.le_of_ble_eq_true rfl, Nat.le_of_ble_eq_true rfl⟩) (jPreV hK hPc hDc hN (ci := 5) rfl rfl) rfl rfl hl.1 rfl (lv_room (Nat.le_of_ble_eq_true rfl)) dX5_depth_6 ⟨Nat.le_of_ble_eq_true rfl, Nat.le_of_ble_eq_true rfl⟩) hS (fun q _ h => hFc q h) hFc (fun r' u' t H locs ht hvm hw hB hz1 hk1 hS => ?_)
    subst hw
    obtain ⟨hP1, -, hD1⟩ := hB
    rw [ht] at hP1
    have hP : va_P (dC, dI) vwCl ((W_Model cI a S)) H := hP1
    have hD : va_D A ((W_Model cI a S)) := hD1.weaken (fun _ _ _ h => hFc _ h)
    refine lv_istore (lv' := [(4, .int r4), (3, .int (0 : Int32)), (0, .ref (a 0)), (1, .int v1), (2, .int v2)]) hx hb dX5_depth_9 hl (by decide) rfl (fun ls hl => ?_)
    exact K11 _ _ _ _ _ hF hP hD hS _ (lv_sub hl [2, 3, 1, 0] rfl)
  exact KE _ _ hP hD hS
set_option maxHeartbeats 4000000 in
set_option maxRecDepth 100000 in
theorem c_X5_canMiss (l : Launch) (dC : Nat → ClassId) (dI : Nat → Nat → Nat) (cI : ClassId) (a : Nat → Nat) (sz : Nat) (S : S_Model) (v1 : Int32) (v2 : Int32) (rr : Bool) (hF : F_X5_canMiss S v1 v2 = some rr) : Met l yX5_canMiss wsX5_canMiss ({ frames := 1, cells := 0, slots := 0, locals := 23 } : Room) (va_Pc [.ref (a 0), .int v1, .int v2] (jPre (dC, dI) [(cI, .int)] sz ((W_Model cI a S)))) (va_Qi (fun (r' : Int32) (_ : Unit) => b2i rr = r') (fun _ : Unit => jB (dC, dI) [(cI, .int)] (va_A ((W_Model cI a S)) sz) ((W_Model cI a S))) (va_A ((W_Model cI a S)) sz)) 0 0 (va_A ((W_Model cI a S)) sz) := by
  refine Met.ofW (cc := cX5_canMiss) (maxL := 3) (ret := (some .boolean)) (by decide) rfl ?_
  intro p e s m args below meth c s₁ B hml hv
  obtain ⟨rfl, hsz, hP, hK, hD0, hN⟩ := hv
  have hx := B.exec
  have hb := B.bytes
  have hr := B.returns
  have hts := atoms_spec (ws := wsX5_canMiss) B.pre
  have hown : s.vm.findClass RX5 = some m.cls := findClass_of_methodNamed B.named
  have hlocks := B.notSynchronized
  subst hsz
  have hD := hD0.self (sz := s.heap.size)
  generalize hAe : (va_A ((W_Model cI a S)) s.heap.size) = A at hD ⊢
  have hA : ∀ q : Nat, s.heap.size ≤ q → A q := fun q h => by rw [← hAe]; exact Or.inr h
  have hS : va_S A s.heap s.heap [] := va_S.rf
  have hl := lv_entry ([.ref (a 0), .int v1, .int v2]) (n := 3) (Nat.le_of_ble_eq_true rfl)
  rw [lg_entry_eq]
  generalize (lg_sl ([.ref (a 0), .int v1, .int v2]) ++ List.replicate (3 - (lg_sl ([.ref (a 0), .int v1, .int v2])).length) Slot.unset).toArray = ls at hl ⊢
  have hl : lv_has ls 3 [(0, .ref (a 0)), (1, .int v1), (2, .int v2)] := hl
  have KE : ∀ (H : Heap) (locs : List Loc), va_P (dC, dI) vwCl ((W_Model cI a S)) H → va_D A ((W_Model cI a S)) → va_S A s.heap H locs → W p l e (headSpec wsX5_canMiss ({ frames := 1, cells := 0, slots := 0, locals := 23 } : Room)).room s m ([.ref (a 0), .int v1, .int v2] : List Value).toArray below meth c H locs 0 0 (MQ below (va_Qi (fun (r' : Int32) (_ : Unit) => b2i rr = r') (fun _ : Unit => jB (dC, dI) [(cI, .int)] A ((W_Model cI a S))) A) ([.ref (a 0), .int v1, .int v2] : List Value).toArray s 0 0 A) (F0 m 0 ls []) := by
    intro H locs hP hD hS
    unfold F_X5_canMiss at hF
    refine lv_aload_n hx hb dX5_canMiss_0 rfl (lv_at hl 0 rfl) ?_
    refine lv_iload_n hx hb dX5_canMiss_1 rfl (lv_at hl 1 rfl) ?_
    refine lv_iload_n hx hb dX5_canMiss_2 rfl (lv_at hl 2 rfl) ?_
    refine lv_iconst (v := (2 : Int32)) hx hb dX5_canMiss_3 (by decide) ?_
    obtain ⟨r1, h2, hF⟩ := ob1_some hF
    have hPc : va_P (dC, dI) vwCl ((W_Model cI a S)) H := hP
    have hDc : va_D A ((W_Model cI a S)) := hD
    have hFc := va_free (wc := (W_Model cI a S)) hD hS hA [0, 1, 2, 3, 4, 5, 6, 7, 8, 9, 10, 11, 12, 13] rfl
    refine va_calli (va_runV (As := [.int v1, .int v2, .int (2 : Int32)]) (rest := []) ⟨hx, hb, hml, hown, hts⟩ (c_X5_of l dC dI cI a H.size _ _ _ _ _ h2) (cwV 3 hts gX5_canMiss_X5_of rfl rfl rfl (by decide +kernel) ⟨Nat.le_of_ble_eq_true rfl, Nat.le_of_ble_eq_true rfl⟩) (jPreV hK hPc hDc hN (ci := 5) rfl rfl) rfl rfl hl.1 rfl (lv_room (Nat.le_of_ble_eq_true rfl)) dX5_canMiss_4 ⟨Nat.le_of_ble_eq_true rfl, Nat.le_of_ble_eq_true rfl⟩) hS (fun q _ h => hFc q h) hFc (fun r' u' t H locs ht hvm hw hB hz1 hk1 hS => ?_)
    subst hw
    obtain ⟨hP1, -, hD1⟩ := hB
    rw [ht] at hP1
    have hP : va_P (dC, dI) vwCl ((W_Model cI a S)) H := hP1
    have hD : va_D A ((W_Model cI a S)) := hD1.weaken (fun _ _ _ h => hFc _ h)
    refine lv_iconst (v := (0 : Int32)) hx hb dX5_canMiss_7 (by decide) ?_
    refine lv_bipush (v := (7 : Int32)) hx hb dX5_canMiss_8 (by decide) ?_
    obtain ⟨r3, h4, hF⟩ := ob1_some hF
    have hPc := hP.sub (ws' := ([] : va_W)) [] rfl
    have hDc := hD.sub (ws' := ([] : va_W)) [] (by decide) rfl
    have hFc := va_free (wc := ([] : va_W)) hD hS hA [] rfl
    refine va_calli (va_runS (As := [.int r1, .int (0 : Int32), .int (7 : Int32)]) (rest := []) ⟨hx, hb, hml, hown, hts⟩ (c_X5_in l dC dI cI  H.size _ _ _ _ h4) (va_cwS 3 hts gX5_canMiss_X5_in rfl rfl rfl (by decide +kernel) ⟨Nat.le_of_ble_eq_true rfl, Nat.le_of_ble_eq_true rfl⟩) (jPreS hK hPc hDc hN) rfl rfl hl.1 rfl (lv_room (Nat.le_of_ble_eq_true rfl)) dX5_canMiss_10 ⟨Nat.le_of_ble_eq_true rfl, Nat.le_of_ble_eq_true rfl⟩) hS (fun q _ h => hFc q h) hFc (fun r' u' t H locs ht hvm hw hB hz1 hk1 hS => ?_)
    subst hw
    obtain ⟨hP1, -, hD1⟩ := hB
    rw [ht] at hP1
    obtain ⟨hP, hD⟩ := jJoin (wc := ([] : va_W)) (w1 := ([] : va_W)) (ws' := (W_Model cI a S)) hP hD [] [0, 1, 2, 3, 4, 5, 6, 7, 8, 9, 10, 11, 12, 13] [0, 1, 2, 3, 4, 5, 6, 7, 8, 9, 10, 11, 12, 13] rfl rfl (by decide) (by decide) hk1 hFc hP1 hD1 (by decide) rfl
    refine lv_if_eq (tgt := 43) hx hb dX5_canMiss_13 (by decide) (fun c5 => ?_) (fun c5 => ?_)
    · have hF := F_pos c5 hF
      refine lv_iconst (v := (0 : Int32)) hx hb dX5_canMiss_43 (by decide) ?_
      have e50 := Option.some.inj hF
      subst e50
      exact W.zret (v := (0 : Int32)) hx hb hr (rfl) (fun t ht hW => ⟨⟨(0 : Int32), (), rfl, rfl, by rw [ht]; exact hP, va_K.moved hW.alike hK, hD⟩, hS.F ht⟩) hS.2.2 dX5_canMiss_44
    · have hF := F_neg c5 hF
      refine lv_aload_n hx hb dX5_canMiss_16 rfl (lv_at hl 0 rfl) ?_
      refine lv_iload_n hx hb dX5_canMiss_17 rfl (lv_at hl 1 rfl) ?_
      refine lv_iload_n hx hb dX5_canMiss_18 rfl (lv_at hl 2 rfl) ?_
      refine lv_iconst (v := (3 : Int32)) hx hb dX5_canMiss_19 (by decide) ?_
      obtain ⟨r6, h7, hF⟩ := ob1_some hF
      have hPc : va_P (dC, dI) vwCl ((W_Model cI a S)) H := hP
      have hDc : va_D A ((W_Model cI a S)) := hD
      have hFc := va_free (wc := (W_Model cI a S)) hD hS hA [0, 1, 2, 3, 4, 5, 6, 7, 8, 9, 10, 11, 12, 13] rfl
      refine va_calli (va_runV (As := [.int v1, .int v2, .int (3 : Int32)]) (rest := []) ⟨hx, hb, hml, hown, hts⟩ (c_X5_of l dC dI cI a H.size _ _ _ _ _ h7) (cwV 3 hts gX5_canMiss_X5_of rfl rfl rfl (by decide +kernel) ⟨Nat.le_of_ble_eq_true rfl, Nat.le_of_ble_eq_true rfl⟩) (jPreV hK hPc hDc hN (ci := 5) rfl rfl) rfl rfl hl.1 rfl (lv_room (Nat.le_of_ble_eq_true rfl)) dX5_canMiss_20 ⟨Nat.le_of_ble_eq_true rfl, Nat.le_of_ble_eq_true rfl⟩) hS (fun q _ h => hFc q h) hFc (fun r' u' t H locs ht hvm hw hB hz1 hk1 hS => ?_)
      subst hw
      obtain ⟨hP1, -, hD1⟩ := hB
      rw [ht] at hP1
      have hP : va_P (dC, dI) vwCl ((W_Model cI a S)) H := hP1
      have hD : va_D A ((W_Model cI a S)) := hD1.weaken (fun _ _ _ h => hFc _ h)
      refine lv_aload_n hx hb dX5_canMiss_23 rfl (lv_at hl 0 rfl) ?_
      refine lv_iload_n hx hb dX5_canMiss_24 rfl (lv_at hl 1 rfl) ?_
      refine lv_aload_n hx hb dX5_canMiss_25 rfl (lv_at hl 0 rfl) ?_
      refine lv_iload_n hx hb dX5_canMiss_26 rfl (lv_at hl 1 rfl) ?_
      refine lv_iload_n hx hb dX5_canMiss_27 rfl (lv_at hl 2 rfl) ?_
      refine lv_iconst (v := (1 : Int32)) hx hb dX5_canMiss_28 (by decide) ?_
      obtain ⟨r8, h9, hF⟩ := ob1_some hF
      have hPc : va_P (dC, dI) vwCl ((W_Model cI a S)) H := hP
      have hDc : va_D A ((W_Model cI a S)) := hD
      have hFc := va_free (wc := (W_Model cI a S)) hD hS hA [0, 1, 2, 3, 4, 5, 6, 7, 8, 9, 10, 11, 12, 13] rfl
      refine va_calli (va_runV (As := [.int v1, .int v2, .int (1 : Int32)]) (rest := [.int v1, .ref (a 0), .int r6]) ⟨hx, hb, hml, hown, hts⟩ (c_X5_of l dC dI cI a H.size _ _ _ _ _ h9) (cwV 3 hts gX5_canMiss_X5_of rfl rfl rfl (by decide +kernel) ⟨Nat.le_of_ble_eq_true rfl, Nat.le_of_ble_eq_true rfl⟩) (jPreV hK hPc hDc hN (ci := 5) rfl rfl) rfl rfl hl.1 rfl (lv_room (Nat.le_of_ble_eq_true rfl)) dX5_canMiss_29 ⟨Nat.le_of_ble_eq_true rfl, Nat.le_of_ble_eq_true rfl⟩) hS (fun q _ h => hFc q h) hFc (fun r' u' t H locs ht hvm hw hB hz1 hk1 hS => ?_)
      subst hw
      obtain ⟨hP1, -, hD1⟩ := hB
      rw [ht] at hP1
      have hP : va_P (dC, dI) vwCl ((W_Model cI a S)) H := hP1
      have hD : va_D A ((W_Model cI a S)) := hD1.weaken (fun _ _ _ h => hFc _ h)
      refine lv_iconst (v := (5 : Int32)) hx hb dX5_canMiss_32 (by decide) ?_
      obtain ⟨r10, h11, hF⟩ := ob1_some hF
      have hPc : va_P (dC, dI) vwCl ((W_Model cI a S)) H := hP
      have hDc : va_D A ((W_Model cI a S)) := hD
      have hFc := va_free (wc := (W_Model cI a S)) hD hS hA [0, 1, 2, 3, 4, 5, 6, 7, 8, 9, 10, 11, 12, 13] rfl
      refine va_calli (va_runV (As := [.int v1, .int r8, .int (5 : Int32)]) (rest := [.int r6]) ⟨hx, hb, hml, hown, hts⟩ (c_X5_of l dC dI cI a H.size _ _ _ _ _ h11) (cwV 3 hts gX5_canMiss_X5_of rfl rfl rfl (by decide +kernel) ⟨Nat.le_of_ble_eq_true rfl, Nat.le_of_ble_eq_true rfl⟩) (jPreV hK hPc hDc hN (ci := 5) rfl rfl) rfl rfl hl.1 rfl (lv_room (Nat.le_of_ble_eq_true rfl)) dX5_canMiss_33 ⟨Nat.le_of_ble_eq_true rfl, Nat.le_of_ble_eq_true rfl⟩) hS (fun q _ h => hFc q h) hFc (fun r' u' t H locs ht hvm hw hB hz1 hk1 hS => ?_)
      subst hw
      obtain ⟨hP1, -, hD1⟩ := hB
      rw [ht] at hP1
      have hP : va_P (dC, dI) vwCl ((W_Model cI a S)) H := hP1
      have hD : va_D A ((W_Model cI a S)) := hD1.weaken (fun _ _ _ h => hFc _ h)
      refine lv_icmp_ge (tgt := 43) hx hb dX5_canMiss_36 (by decide) (fun c12 => ?_) (fun c12 => ?_)
      · have hF := F_pos c12 hF
        refine lv_iconst (v := (0 : Int32)) hx hb dX5_canMiss_43 (by decide) ?_
        have e50 := Option.some.inj hF
        subst e50
        exact W.zret (v := (0 : Int32)) hx hb hr (rfl) (fun t ht hW => ⟨⟨(0 : Int32), (), rfl, rfl, by rw [ht]; exact hP, va_K.moved hW.alike hK, hD⟩, hS.F ht⟩) hS.2.2 dX5_canMiss_44
      · have hF := F_neg c12 hF
        refine lv_iconst (v := (1 : Int32)) hx hb dX5_canMiss_39 (by decide) ?_
        refine lv_goto (tgt := 44) hx hb dX5_canMiss_40 (by decide) ?_
        have e50 := Option.some.inj hF
        subst e50
        exact W.zret (v := (1 : Int32)) hx hb hr (rfl) (fun t ht hW => ⟨⟨(1 : Int32), (), rfl, rfl, by rw [ht]; exact hP, va_K.moved hW.alike hK, hD⟩, hS.F ht⟩) hS.2.2 dX5_canMiss_44
  exact KE _ _ hP hD hS
set_option maxHeartbeats 4000000 in
set_option maxRecDepth 100000 in
theorem c_X5_childOf (l : Launch) (dC : Nat → ClassId) (dI : Nat → Nat → Nat) (cI : ClassId) (a : Nat → Nat) (sz : Nat) (S : S_Model) (v1 : Int32) (v2 : Int32) (v3 : Int32) (rr : Int32) (hF : F_X5_childOf S v1 v2 v3 = some rr) : Met l yX5_childOf wsX5_childOf ({ frames := 1, cells := 0, slots := 0, locals := 23 } : Room) (va_Pc [.ref (a 0), .int v1, .int v2, .int v3] (jPre (dC, dI) [(cI, .int)] sz ((W_Model cI a S)))) (va_Qi (fun (r' : Int32) (_ : Unit) => rr = r') (fun _ : Unit => jB (dC, dI) [(cI, .int)] (va_A ((W_Model cI a S)) sz) ((W_Model cI a S))) (va_A ((W_Model cI a S)) sz)) 0 0 (va_A ((W_Model cI a S)) sz) := by
  refine Met.ofW (cc := cX5_childOf) (maxL := 5) (ret := (some .int)) (by decide) rfl ?_
  intro p e s m args below meth c s₁ B hml hv
  obtain ⟨rfl, hsz, hP, hK, hD0, hN⟩ := hv
  have hx := B.exec
  have hb := B.bytes
  have hr := B.returns
  have hts := atoms_spec (ws := wsX5_childOf) B.pre
  have hown : s.vm.findClass RX5 = some m.cls := findClass_of_methodNamed B.named
  have hlocks := B.notSynchronized
  have hinX5 : ∀ w ∈ u_ws RX5 TX5 26, w ∈ wsX5_childOf := by decide +kernel
  subst hsz
  have hD := hD0.self (sz := s.heap.size)
  generalize hAe : (va_A ((W_Model cI a S)) s.heap.size) = A at hD ⊢
  have hA : ∀ q : Nat, s.heap.size ≤ q → A q := fun q h => by rw [← hAe]; exact Or.inr h
  have hS : va_S A s.heap s.heap [] := va_S.rf
  have hl := lv_entry ([.ref (a 0), .int v1, .int v2, .int v3]) (n := 5) (Nat.le_of_ble_eq_true rfl)
  rw [lg_entry_eq]
  generalize (lg_sl ([.ref (a 0), .int v1, .int v2, .int v3]) ++ List.replicate (5 - (lg_sl ([.ref (a 0), .int v1, .int v2, .int v3])).length) Slot.unset).toArray = ls at hl ⊢
  have hl : lv_has ls 5 [(0, .ref (a 0)), (1, .int v1), (2, .int v2), (3, .int v3)] := hl
  have K5 : ∀ (n5 : Nat) (x4 : Int32) (H : Heap) (locs : List Loc), F_X5_childOf_5 v1 v2 v3 S n5 x4 = some rr → va_P (dC, dI) vwCl ((W_Model cI a S)) H → va_D A ((W_Model cI a S)) → va_S A s.heap H locs → ∀ ls : Array Slot, lv_has ls 5 [(0, .ref (a 0)), (1, .int v1), (2, .int v2), (3, .int v3), (4, .int x4)] → W p l e (headSpec wsX5_childOf ({ frames := 1, cells := 0, slots := 0, locals := 23 } : Room)).room s m ([.ref (a 0), .int v1, .int v2, .int v3] : List Value).toArray below meth c H locs 0 0 (MQ below (va_Qi (fun (r' : Int32) (_ : Unit) => rr = r') (fun _ : Unit => jB (dC, dI) [(cI, .int)] A ((W_Model cI a S))) A) ([.ref (a 0), .int v1, .int v2, .int v3] : List Value).toArray s 0 0 A) (F0 m 5 ls []) := by
    intro n5
    induction n5 with
    | zero => intro x4 H locs hF; exact nomatch hF
    | succ n5 ih5 =>
      intro x4 H locs hF hP hD hS ls hl
      rw [F_X5_childOf_5_s] at hF
      refine lv_iload hx hb dX5_childOf_5 (lv_at hl 4 rfl) ?_
      refine lv_aload_n hx hb dX5_childOf_7 rfl (lv_at hl 0 rfl) ?_
      refine va_get (D := (dC, dI)) (ci := 5) (v := .ref (a 1)) (C := RX5) (T := TX5) (N := 26) hx hb hts hinX5 hown hK hP 0 rfl rfl 0 (by decide) (hts (Cond.fieldLink RX5 7 "LearnedShapesModel" "now" "[I") (List.mem_of_getElem? (i := 1) rfl)) (fun _ h9 => h9) rfl dX5_childOf_8 ?_
      refine lv_iconst (v := (3 : Int32)) hx hb dX5_childOf_11 (by decide) ?_
      refine lv_iload_n hx hb dX5_childOf_12 rfl (lv_at hl 1 rfl) ?_
      refine lv_iadd hx hb dX5_childOf_13 ?_
      obtain ⟨g1, hF⟩ := og_some hF
      refine va_iald (f := (g_Model_now S)) hx hb hK hP 1 0 rfl rfl (inb_in g1) dX5_childOf_14 ?_
      refine lv_icmp_ge (tgt := 51) hx hb dX5_childOf_15 (by decide) (fun c2 => ?_) (fun c2 => ?_)
      · have hF := F_pos c2 hF
        refine lv_iconst (v := (-1 : Int32)) hx hb dX5_childOf_51 (by decide) ?_
        have e50 := Option.some.inj hF
        subst e50
        exact W.iret (v := (-1 : Int32)) hx hb hr (fun t ht hW => ⟨⟨(-1 : Int32), (), rfl, rfl, by rw [ht]; exact hP, va_K.moved hW.alike hK, hD⟩, hS.F ht⟩) hS.2.2 dX5_childOf_52
      · have hF := F_neg c2 hF
        refine lv_aload_n hx hb dX5_childOf_18 rfl (lv_at hl 0 rfl) ?_
        refine lv_iload_n hx hb dX5_childOf_19 rfl (lv_at hl 1 rfl) ?_
        refine lv_iload hx hb dX5_childOf_20 (lv_at hl 4 rfl) ?_
        refine lv_iconst (v := (1 : Int32)) hx hb dX5_childOf_22 (by decide) ?_
        obtain ⟨r3, h4, hF⟩ := ob1_some hF
        have hPc : va_P (dC, dI) vwCl ((W_Model cI a S)) H := hP
        have hDc : va_D A ((W_Model cI a S)) := hD
        have hFc := va_free (wc := (W_Model cI a S)) hD hS hA [0, 1, 2, 3, 4, 5, 6, 7, 8, 9, 10, 11, 12, 13] rfl
        refine va_calli (va_runV (As := [.int v1, .int x4, .int (1 : Int32)]) (rest := []) ⟨hx, hb, hml, hown, hts⟩ (c_X5_of l dC dI cI a H.size _ _ _ _ _ h4) (cwV 3 hts gX5_childOf_X5_of rfl rfl rfl (by decide +kernel) ⟨Nat.le_of_ble_eq_true rfl, Nat.le_of_ble_eq_true rfl⟩) (jPreV hK hPc hDc hN (ci := 5) rfl rfl) rfl rfl hl.1 rfl (lv_room (Nat.le_of_ble_eq_true rfl)) dX5_childOf_23 ⟨Nat.le_of_ble_eq_true rfl, Nat.le_of_ble_eq_true rfl⟩) hS (fun q _ h => hFc q h) hFc (fun r' u' t H locs ht hvm hw hB hz1 hk1 hS => ?_)
        subst hw
        obtain ⟨hP1, -, hD1⟩ := hB
        rw [ht] at hP1
        have hP : va_P (dC, dI) vwCl ((W_Model cI a S)) H := hP1
        have hD : va_D A ((W_Model cI a S)) := hD1.weaken (fun _ _ _ h => hFc _ h)
        refine lv_iload_n hx hb dX5_childOf_26 rfl (lv_at hl 2 rfl) ?_
        refine lv_icmp_ne (tgt := 45) hx hb dX5_childOf_27 (by decide) (fun c5 => ?_) (fun c5 => ?_)
        · have hF := F_neg c5 hF
          refine lv_iinc (v := (x4 + (1 : Int32))) (lv' := [(4, .int (x4 + (1 : Int32))), (0, .ref (a 0)), (1, .int v1), (2, .int v2), (3, .int v3)]) hx hb dX5_childOf_45 hl (k := 4) rfl rfl (by decide) rfl (fun ls hl => ?_)
          refine lv_goto (tgt := 5) hx hb dX5_childOf_48 (by decide) ?_
          exact ih5 _ _ _ hF hP hD hS _ (lv_sub hl [1, 2, 3, 4, 0] rfl)
        · have hF := F_pos c5 hF
          refine lv_aload_n hx hb dX5_childOf_30 rfl (lv_at hl 0 rfl) ?_
          refine lv_iload_n hx hb dX5_childOf_31 rfl (lv_at hl 1 rfl) ?_
          refine lv_iload hx hb dX5_childOf_32 (lv_at hl 4 rfl) ?_
          refine lv_iconst (v := (2 : Int32)) hx hb dX5_childOf_34 (by decide) ?_
          obtain ⟨r6, h7, hF⟩ := ob1_some hF
          have hPc : va_P (dC, dI) vwCl ((W_Model cI a S)) H := hP
          have hDc : va_D A ((W_Model cI a S)) := hD
          have hFc := va_free (wc := (W_Model cI a S)) hD hS hA [0, 1, 2, 3, 4, 5, 6, 7, 8, 9, 10, 11, 12, 13] rfl
          refine va_calli (va_runV (As := [.int v1, .int x4, .int (2 : Int32)]) (rest := []) ⟨hx, hb, hml, hown, hts⟩ (c_X5_of l dC dI cI a H.size _ _ _ _ _ h7) (cwV 3 hts gX5_childOf_X5_of rfl rfl rfl (by decide +kernel) ⟨Nat.le_of_ble_eq_true rfl, Nat.le_of_ble_eq_true rfl⟩) (jPreV hK hPc hDc hN (ci := 5) rfl rfl) rfl rfl hl.1 rfl (lv_room (Nat.le_of_ble_eq_true rfl)) dX5_childOf_35 ⟨Nat.le_of_ble_eq_true rfl, Nat.le_of_ble_eq_true rfl⟩) hS (fun q _ h => hFc q h) hFc (fun r' u' t H locs ht hvm hw hB hz1 hk1 hS => ?_)
          subst hw
          obtain ⟨hP1, -, hD1⟩ := hB
          rw [ht] at hP1
          have hP : va_P (dC, dI) vwCl ((W_Model cI a S)) H := hP1
          have hD : va_D A ((W_Model cI a S)) := hD1.weaken (fun _ _ _ h => hFc _ h)
          refine lv_iload_n hx hb dX5_childOf_38 rfl (lv_at hl 3 rfl) ?_
          refine lv_icmp_ne (tgt := 45) hx hb dX5_childOf_39 (by decide) (fun c8 => ?_) (fun c8 => ?_)
          · have hF := F_neg c8 hF
            refine lv_iinc (v := (x4 + (1 : Int32))) (lv' := [(4, .int (x4 + (1 : Int32))), (0, .ref (a 0)), (1, .int v1), (2, .int v2), (3, .int v3)]) hx hb dX5_childOf_45 hl (k := 4) rfl rfl (by decide) rfl (fun ls hl => ?_)
            refine lv_goto (tgt := 5) hx hb dX5_childOf_48 (by decide) ?_
            exact ih5 _ _ _ hF hP hD hS _ (lv_sub hl [1, 2, 3, 4, 0] rfl)
          · have hF := F_pos c8 hF
            refine lv_iload hx hb dX5_childOf_42 (lv_at hl 4 rfl) ?_
            have e50 := Option.some.inj hF
            subst e50
            exact W.iret (v := x4) hx hb hr (fun t ht hW => ⟨⟨x4, (), rfl, rfl, by rw [ht]; exact hP, va_K.moved hW.alike hK, hD⟩, hS.F ht⟩) hS.2.2 dX5_childOf_44
  have KE : ∀ (H : Heap) (locs : List Loc), va_P (dC, dI) vwCl ((W_Model cI a S)) H → va_D A ((W_Model cI a S)) → va_S A s.heap H locs → W p l e (headSpec wsX5_childOf ({ frames := 1, cells := 0, slots := 0, locals := 23 } : Room)).room s m ([.ref (a 0), .int v1, .int v2, .int v3] : List Value).toArray below meth c H locs 0 0 (MQ below (va_Qi (fun (r' : Int32) (_ : Unit) => rr = r') (fun _ : Unit => jB (dC, dI) [(cI, .int)] A ((W_Model cI a S))) A) ([.ref (a 0), .int v1, .int v2, .int v3] : List Value).toArray s 0 0 A) (F0 m 0 ls []) := by
    intro H locs hP hD hS
    unfold F_X5_childOf at hF
    refine lv_iload_n hx hb dX5_childOf_0 rfl (lv_at hl 2 rfl) ?_
    refine lv_iconst (v := (1 : Int32)) hx hb dX5_childOf_1 (by decide) ?_
    refine lv_iadd hx hb dX5_childOf_2 ?_
    refine lv_istore (lv' := [(4, .int (v2 + (1 : Int32))), (0, .ref (a 0)), (1, .int v1), (2, .int v2), (3, .int v3)]) hx hb dX5_childOf_3 hl (by decide) rfl (fun ls hl => ?_)
    exact K5 _ _ _ _ hF hP hD hS _ (lv_sub hl [1, 2, 3, 4, 0] rfl)
  exact KE _ _ hP hD hS
set_option maxHeartbeats 4000000 in
set_option maxRecDepth 100000 in
theorem c_X5_children (l : Launch) (dC : Nat → ClassId) (dI : Nat → Nat → Nat) (cI : ClassId) (a : Nat → Nat) (sz : Nat) (S : S_Model) (v1 : Int32) (v2 : Int32) (rr : Int32) (hF : F_X5_children S v1 v2 = some rr) : Met l yX5_children wsX5_children ({ frames := 1, cells := 0, slots := 0, locals := 23 } : Room) (va_Pc [.ref (a 0), .int v1, .int v2] (jPre (dC, dI) [(cI, .int)] sz ((W_Model cI a S)))) (va_Qi (fun (r' : Int32) (_ : Unit) => rr = r') (fun _ : Unit => jB (dC, dI) [(cI, .int)] (va_A ((W_Model cI a S)) sz) ((W_Model cI a S))) (va_A ((W_Model cI a S)) sz)) 0 0 (va_A ((W_Model cI a S)) sz) := by
  refine Met.ofW (cc := cX5_children) (maxL := 5) (ret := (some .int)) (by decide) rfl ?_
  intro p e s m args below meth c s₁ B hml hv
  obtain ⟨rfl, hsz, hP, hK, hD0, hN⟩ := hv
  have hx := B.exec
  have hb := B.bytes
  have hr := B.returns
  have hts := atoms_spec (ws := wsX5_children) B.pre
  have hown : s.vm.findClass RX5 = some m.cls := findClass_of_methodNamed B.named
  have hlocks := B.notSynchronized
  have hinX5 : ∀ w ∈ u_ws RX5 TX5 26, w ∈ wsX5_children := by decide +kernel
  subst hsz
  have hD := hD0.self (sz := s.heap.size)
  generalize hAe : (va_A ((W_Model cI a S)) s.heap.size) = A at hD ⊢
  have hA : ∀ q : Nat, s.heap.size ≤ q → A q := fun q h => by rw [← hAe]; exact Or.inr h
  have hS : va_S A s.heap s.heap [] := va_S.rf
  have hl := lv_entry ([.ref (a 0), .int v1, .int v2]) (n := 5) (Nat.le_of_ble_eq_true rfl)
  rw [lg_entry_eq]
  generalize (lg_sl ([.ref (a 0), .int v1, .int v2]) ++ List.replicate (5 - (lg_sl ([.ref (a 0), .int v1, .int v2])).length) Slot.unset).toArray = ls at hl ⊢
  have hl : lv_has ls 5 [(0, .ref (a 0)), (1, .int v1), (2, .int v2)] := hl
  have K7 : ∀ (n7 : Nat) (x3 : Int32) (x4 : Int32) (H : Heap) (locs : List Loc), F_X5_children_7 v1 v2 S n7 x3 x4 = some rr → va_P (dC, dI) vwCl ((W_Model cI a S)) H → va_D A ((W_Model cI a S)) → va_S A s.heap H locs → ∀ ls : Array Slot, lv_has ls 5 [(0, .ref (a 0)), (1, .int v1), (2, .int v2), (3, .int x3), (4, .int x4)] → W p l e (headSpec wsX5_children ({ frames := 1, cells := 0, slots := 0, locals := 23 } : Room)).room s m ([.ref (a 0), .int v1, .int v2] : List Value).toArray below meth c H locs 0 0 (MQ below (va_Qi (fun (r' : Int32) (_ : Unit) => rr = r') (fun _ : Unit => jB (dC, dI) [(cI, .int)] A ((W_Model cI a S))) A) ([.ref (a 0), .int v1, .int v2] : List Value).toArray s 0 0 A) (F0 m 7 ls []) := by
    intro n7
    induction n7 with
    | zero => intro x3 x4 H locs hF; exact nomatch hF
    | succ n7 ih7 =>
      intro x3 x4 H locs hF hP hD hS ls hl
      rw [F_X5_children_7_s] at hF
      refine lv_iload hx hb dX5_children_7 (lv_at hl 4 rfl) ?_
      refine lv_aload_n hx hb dX5_children_9 rfl (lv_at hl 0 rfl) ?_
      refine va_get (D := (dC, dI)) (ci := 5) (v := .ref (a 1)) (C := RX5) (T := TX5) (N := 26) hx hb hts hinX5 hown hK hP 0 rfl rfl 0 (by decide) (hts (Cond.fieldLink RX5 7 "LearnedShapesModel" "now" "[I") (List.mem_of_getElem? (i := 1) rfl)) (fun _ h9 => h9) rfl dX5_children_10 ?_
      refine lv_iconst (v := (3 : Int32)) hx hb dX5_children_13 (by decide) ?_
      refine lv_iload_n hx hb dX5_children_14 rfl (lv_at hl 1 rfl) ?_
      refine lv_iadd hx hb dX5_children_15 ?_
      obtain ⟨g1, hF⟩ := og_some hF
      refine va_iald (f := (g_Model_now S)) hx hb hK hP 1 0 rfl rfl (inb_in g1) dX5_children_16 ?_
      refine lv_icmp_ge (tgt := 46) hx hb dX5_children_17 (by decide) (fun c2 => ?_) (fun c2 => ?_)
      · have hF := F_pos c2 hF
        refine lv_iload_n hx hb dX5_children_46 rfl (lv_at hl 3 rfl) ?_
        have e50 := Option.some.inj hF
        subst e50
        exact W.iret (v := x3) hx hb hr (fun t ht hW => ⟨⟨x3, (), rfl, rfl, by rw [ht]; exact hP, va_K.moved hW.alike hK, hD⟩, hS.F ht⟩) hS.2.2 dX5_children_47
      · have hF := F_neg c2 hF
        refine lv_iload_n hx hb dX5_children_20 rfl (lv_at hl 3 rfl) ?_
        refine lv_aload_n hx hb dX5_children_21 rfl (lv_at hl 0 rfl) ?_
        refine lv_iload_n hx hb dX5_children_22 rfl (lv_at hl 1 rfl) ?_
        refine lv_iload hx hb dX5_children_23 (lv_at hl 4 rfl) ?_
        refine lv_iconst (v := (1 : Int32)) hx hb dX5_children_25 (by decide) ?_
        obtain ⟨r3, h4, hF⟩ := ob1_some hF
        have hPc : va_P (dC, dI) vwCl ((W_Model cI a S)) H := hP
        have hDc : va_D A ((W_Model cI a S)) := hD
        have hFc := va_free (wc := (W_Model cI a S)) hD hS hA [0, 1, 2, 3, 4, 5, 6, 7, 8, 9, 10, 11, 12, 13] rfl
        refine va_calli (va_runV (As := [.int v1, .int x4, .int (1 : Int32)]) (rest := [.int x3]) ⟨hx, hb, hml, hown, hts⟩ (c_X5_of l dC dI cI a H.size _ _ _ _ _ h4) (cwV 3 hts gX5_children_X5_of rfl rfl rfl (by decide +kernel) ⟨Nat.le_of_ble_eq_true rfl, Nat.le_of_ble_eq_true rfl⟩) (jPreV hK hPc hDc hN (ci := 5) rfl rfl) rfl rfl hl.1 rfl (lv_room (Nat.le_of_ble_eq_true rfl)) dX5_children_26 ⟨Nat.le_of_ble_eq_true rfl, Nat.le_of_ble_eq_true rfl⟩) hS (fun q _ h => hFc q h) hFc (fun r' u' t H locs ht hvm hw hB hz1 hk1 hS => ?_)
        subst hw
        obtain ⟨hP1, -, hD1⟩ := hB
        rw [ht] at hP1
        have hP : va_P (dC, dI) vwCl ((W_Model cI a S)) H := hP1
        have hD : va_D A ((W_Model cI a S)) := hD1.weaken (fun _ _ _ h => hFc _ h)
        refine lv_iload_n hx hb dX5_children_29 rfl (lv_at hl 2 rfl) ?_
        refine lv_icmp_ne (tgt := 37) hx hb dX5_children_30 (by decide) (fun c5 => ?_) (fun c5 => ?_)
        · have hF := F_neg c5 hF
          refine lv_iconst (v := (0 : Int32)) hx hb dX5_children_37 (by decide) ?_
          refine lv_iadd hx hb dX5_children_38 ?_
          refine lv_istore_n (lv' := [(3, .int (x3 + (0 : Int32))), (0, .ref (a 0)), (1, .int v1), (2, .int v2), (4, .int x4)]) hx hb dX5_children_39 rfl hl (by decide) rfl (fun ls hl => ?_)
          refine lv_iinc (v := (x4 + (1 : Int32))) (lv' := [(4, .int (x4 + (1 : Int32))), (3, .int (x3 + (0 : Int32))), (0, .ref (a 0)), (1, .int v1), (2, .int v2)]) hx hb dX5_children_40 hl (k := 4) rfl rfl (by decide) rfl (fun ls hl => ?_)
          refine lv_goto (tgt := 7) hx hb dX5_children_43 (by decide) ?_
          exact ih7 _ _ _ _ hF hP hD hS _ (lv_sub hl [2, 3, 4, 1, 0] rfl)
        · have hF := F_pos c5 hF
          refine lv_iconst (v := (1 : Int32)) hx hb dX5_children_33 (by decide) ?_
          refine lv_goto (tgt := 38) hx hb dX5_children_34 (by decide) ?_
          refine lv_iadd hx hb dX5_children_38 ?_
          refine lv_istore_n (lv' := [(3, .int (x3 + (1 : Int32))), (0, .ref (a 0)), (1, .int v1), (2, .int v2), (4, .int x4)]) hx hb dX5_children_39 rfl hl (by decide) rfl (fun ls hl => ?_)
          refine lv_iinc (v := (x4 + (1 : Int32))) (lv' := [(4, .int (x4 + (1 : Int32))), (3, .int (x3 + (1 : Int32))), (0, .ref (a 0)), (1, .int v1), (2, .int v2)]) hx hb dX5_children_40 hl (k := 4) rfl rfl (by decide) rfl (fun ls hl => ?_)
          refine lv_goto (tgt := 7) hx hb dX5_children_43 (by decide) ?_
          exact ih7 _ _ _ _ hF hP hD hS _ (lv_sub hl [2, 3, 4, 1, 0] rfl)
  have KE : ∀ (H : Heap) (locs : List Loc), va_P (dC, dI) vwCl ((W_Model cI a S)) H → va_D A ((W_Model cI a S)) → va_S A s.heap H locs → W p l e (headSpec wsX5_children ({ frames := 1, cells := 0, slots := 0, locals := 23 } : Room)).room s m ([.ref (a 0), .int v1, .int v2] : List Value).toArray below meth c H locs 0 0 (MQ below (va_Qi (fun (r' : Int32) (_ : Unit) => rr = r') (fun _ : Unit => jB (dC, dI) [(cI, .int)] A ((W_Model cI a S))) A) ([.ref (a 0), .int v1, .int v2] : List Value).toArray s 0 0 A) (F0 m 0 ls []) := by
    intro H locs hP hD hS
    unfold F_X5_children at hF
    refine lv_iconst (v := (0 : Int32)) hx hb dX5_children_0 (by decide) ?_
    refine lv_istore_n (lv' := [(3, .int (0 : Int32)), (0, .ref (a 0)), (1, .int v1), (2, .int v2)]) hx hb dX5_children_1 rfl hl (by decide) rfl (fun ls hl => ?_)
    refine lv_iload_n hx hb dX5_children_2 rfl (lv_at hl 3 rfl) ?_
    refine lv_iconst (v := (1 : Int32)) hx hb dX5_children_3 (by decide) ?_
    refine lv_iadd hx hb dX5_children_4 ?_
    refine lv_istore (lv' := [(4, .int (v2 + (1 : Int32))), (3, .int (0 : Int32)), (0, .ref (a 0)), (1, .int v1), (2, .int v2)]) hx hb dX5_children_5 hl (by decide) rfl (fun ls hl => ?_)
    exact K7 _ _ _ _ _ hF hP hD hS _ (lv_sub hl [2, 3, 4, 1, 0] rfl)
  exact KE _ _ hP hD hS
set_option maxHeartbeats 4000000 in
set_option maxRecDepth 100000 in
theorem c_X5_ofNode (l : Launch) (dC : Nat → ClassId) (dI : Nat → Nat → Nat) (cI : ClassId) (a : Nat → Nat) (sz : Nat) (S : S_Model) (v1 : Int32) (v2 : Int32) (v3 : Int32) (rr : Int32) (hF : F_X5_ofNode S v1 v2 v3 = some rr) : Met l yX5_ofNode wsX5_ofNode ({ frames := 2, cells := 0, slots := 0, locals := 47 } : Room) (va_Pc [.ref (a 0), .int v1, .int v2, .int v3] (jPre (dC, dI) [(cI, .int)] sz ((W_Model cI a S)))) (va_Qi (fun (r' : Int32) (_ : Unit) => rr = r') (fun _ : Unit => jB (dC, dI) [(cI, .int)] (va_A ((W_Model cI a S)) sz) ((W_Model cI a S))) (va_A ((W_Model cI a S)) sz)) 0 0 (va_A ((W_Model cI a S)) sz) := by
  refine Met.ofW (cc := cX5_ofNode) (maxL := 4) (ret := (some .int)) (by decide) rfl ?_
  intro p e s m args below meth c s₁ B hml hv
  obtain ⟨rfl, hsz, hP, hK, hD0, hN⟩ := hv
  have hx := B.exec
  have hb := B.bytes
  have hr := B.returns
  have hts := atoms_spec (ws := wsX5_ofNode) B.pre
  have hown : s.vm.findClass RX5 = some m.cls := findClass_of_methodNamed B.named
  have hlocks := B.notSynchronized
  subst hsz
  have hD := hD0.self (sz := s.heap.size)
  generalize hAe : (va_A ((W_Model cI a S)) s.heap.size) = A at hD ⊢
  have hA : ∀ q : Nat, s.heap.size ≤ q → A q := fun q h => by rw [← hAe]; exact Or.inr h
  have hS : va_S A s.heap s.heap [] := va_S.rf
  have hl := lv_entry ([.ref (a 0), .int v1, .int v2, .int v3]) (n := 4) (Nat.le_of_ble_eq_true rfl)
  rw [lg_entry_eq]
  generalize (lg_sl ([.ref (a 0), .int v1, .int v2, .int v3]) ++ List.replicate (4 - (lg_sl ([.ref (a 0), .int v1, .int v2, .int v3])).length) Slot.unset).toArray = ls at hl ⊢
  have hl : lv_has ls 4 [(0, .ref (a 0)), (1, .int v1), (2, .int v2), (3, .int v3)] := hl
  have KE : ∀ (H : Heap) (locs : List Loc), va_P (dC, dI) vwCl ((W_Model cI a S)) H → va_D A ((W_Model cI a S)) → va_S A s.heap H locs → W p l e (headSpec wsX5_ofNode ({ frames := 2, cells := 0, slots := 0, locals := 47 } : Room)).room s m ([.ref (a 0), .int v1, .int v2, .int v3] : List Value).toArray below meth c H locs 0 0 (MQ below (va_Qi (fun (r' : Int32) (_ : Unit) => rr = r') (fun _ : Unit => jB (dC, dI) [(cI, .int)] A ((W_Model cI a S))) A) ([.ref (a 0), .int v1, .int v2, .int v3] : List Value).toArray s 0 0 A) (F0 m 0 ls []) := by
    intro H locs hP hD hS
    unfold F_X5_ofNode at hF
    refine lv_iload_n hx hb dX5_ofNode_0 rfl (lv_at hl 3 rfl) ?_
    by_cases c1 : v3 = (0 : Int32)
    · have hF := F_pos c1 hF
      refine lv_tableIn (tgt := 56) hx hb dX5_ofNode_1 (by rw [c1]; decide) (by rw [c1]; decide) (by rw [c1] <;> rfl) (by decide) ?_
      refine lv_aload_n hx hb dX5_ofNode_56 rfl (lv_at hl 0 rfl) ?_
      refine lv_iload_n hx hb dX5_ofNode_57 rfl (lv_at hl 1 rfl) ?_
      refine lv_iload_n hx hb dX5_ofNode_58 rfl (lv_at hl 2 rfl) ?_
      refine lv_iconst (v := (0 : Int32)) hx hb dX5_ofNode_59 (by decide) ?_
      obtain ⟨r2, h3, hF⟩ := ob1_some hF
      have hPc : va_P (dC, dI) vwCl ((W_Model cI a S)) H := hP
      have hDc : va_D A ((W_Model cI a S)) := hD
      have hFc := va_free (wc := (W_Model cI a S)) hD hS hA [0, 1, 2, 3, 4, 5, 6, 7, 8, 9, 10, 11, 12, 13] rfl
      refine va_calli (va_runV (As := [.int v1, .int v2, .int (0 : Int32)]) (rest := []) ⟨hx, hb, hml, hown, hts⟩ (c_X5_of l dC dI cI a H.size _ _ _ _ _ h3) (cwV 3 hts gX5_ofNode_X5_of rfl rfl rfl (by decide +kernel) ⟨Nat.le_of_ble_eq_true rfl, Nat.le_of_ble_eq_true rfl⟩) (jPreV hK hPc hDc hN (ci := 5) rfl rfl) rfl rfl hl.1 rfl (lv_room (Nat.le_of_ble_eq_true rfl)) dX5_ofNode_60 ⟨Nat.le_of_ble_eq_true rfl, Nat.le_of_ble_eq_true rfl⟩) hS (fun q _ h => hFc q h) hFc (fun r' u' t H locs ht hvm hw hB hz1 hk1 hS => ?_)
      subst hw
      obtain ⟨hP1, -, hD1⟩ := hB
      rw [ht] at hP1
      have hP : va_P (dC, dI) vwCl ((W_Model cI a S)) H := hP1
      have hD : va_D A ((W_Model cI a S)) := hD1.weaken (fun _ _ _ h => hFc _ h)
      have e50 := Option.some.inj hF
      subst e50
      exact W.iret (v := r2) hx hb hr (fun t ht hW => ⟨⟨r2, (), rfl, rfl, by rw [ht]; exact hP, va_K.moved hW.alike hK, hD⟩, hS.F ht⟩) hS.2.2 dX5_ofNode_63
    · have hF := F_neg c1 hF
      by_cases c4 : v3 = (1 : Int32)
      · have hF := F_pos c4 hF
        refine lv_tableIn (tgt := 64) hx hb dX5_ofNode_1 (by rw [c4]; decide) (by rw [c4]; decide) (by rw [c4] <;> rfl) (by decide) ?_
        refine lv_iload_n hx hb dX5_ofNode_64 rfl (lv_at hl 2 rfl) ?_
        refine lv_if_ne (tgt := 72) hx hb dX5_ofNode_65 (by decide) (fun c5 => ?_) (fun c5 => ?_)
        · have hF := F_neg c5 hF
          refine lv_aload_n hx hb dX5_ofNode_72 rfl (lv_at hl 0 rfl) ?_
          refine lv_iload_n hx hb dX5_ofNode_73 rfl (lv_at hl 1 rfl) ?_
          refine lv_iload_n hx hb dX5_ofNode_74 rfl (lv_at hl 2 rfl) ?_
          refine lv_iconst (v := (2 : Int32)) hx hb dX5_ofNode_75 (by decide) ?_
          obtain ⟨r6, h7, hF⟩ := ob1_some hF
          have hPc : va_P (dC, dI) vwCl ((W_Model cI a S)) H := hP
          have hDc : va_D A ((W_Model cI a S)) := hD
          have hFc := va_free (wc := (W_Model cI a S)) hD hS hA [0, 1, 2, 3, 4, 5, 6, 7, 8, 9, 10, 11, 12, 13] rfl
          refine va_calli (va_runV (As := [.int v1, .int v2, .int (2 : Int32)]) (rest := []) ⟨hx, hb, hml, hown, hts⟩ (c_X5_of l dC dI cI a H.size _ _ _ _ _ h7) (cwV 3 hts gX5_ofNode_X5_of rfl rfl rfl (by decide +kernel) ⟨Nat.le_of_ble_eq_true rfl, Nat.le_of_ble_eq_true rfl⟩) (jPreV hK hPc hDc hN (ci := 5) rfl rfl) rfl rfl hl.1 rfl (lv_room (Nat.le_of_ble_eq_true rfl)) dX5_ofNode_76 ⟨Nat.le_of_ble_eq_true rfl, Nat.le_of_ble_eq_true rfl⟩) hS (fun q _ h => hFc q h) hFc (fun r' u' t H locs ht hvm hw hB hz1 hk1 hS => ?_)
          subst hw
          obtain ⟨hP1, -, hD1⟩ := hB
          rw [ht] at hP1
          have hP : va_P (dC, dI) vwCl ((W_Model cI a S)) H := hP1
          have hD : va_D A ((W_Model cI a S)) := hD1.weaken (fun _ _ _ h => hFc _ h)
          have e50 := Option.some.inj hF
          subst e50
          exact W.iret (v := r6) hx hb hr (fun t ht hW => ⟨⟨r6, (), rfl, rfl, by rw [ht]; exact hP, va_K.moved hW.alike hK, hD⟩, hS.F ht⟩) hS.2.2 dX5_ofNode_79
        · have hF := F_pos c5 hF
          refine lv_iconst (v := (-1 : Int32)) hx hb dX5_ofNode_68 (by decide) ?_
          refine lv_goto (tgt := 79) hx hb dX5_ofNode_69 (by decide) ?_
          have e50 := Option.some.inj hF
          subst e50
          exact W.iret (v := (-1 : Int32)) hx hb hr (fun t ht hW => ⟨⟨(-1 : Int32), (), rfl, rfl, by rw [ht]; exact hP, va_K.moved hW.alike hK, hD⟩, hS.F ht⟩) hS.2.2 dX5_ofNode_79
      · have hF := F_neg c4 hF
        by_cases c8 : v3 = (2 : Int32)
        · have hF := F_pos c8 hF
          refine lv_tableIn (tgt := 80) hx hb dX5_ofNode_1 (by rw [c8]; decide) (by rw [c8]; decide) (by rw [c8] <;> rfl) (by decide) ?_
          refine lv_aload_n hx hb dX5_ofNode_80 rfl (lv_at hl 0 rfl) ?_
          refine lv_iload_n hx hb dX5_ofNode_81 rfl (lv_at hl 1 rfl) ?_
          refine lv_iload_n hx hb dX5_ofNode_82 rfl (lv_at hl 2 rfl) ?_
          refine lv_iconst (v := (1 : Int32)) hx hb dX5_ofNode_83 (by decide) ?_
          obtain ⟨r9, h10, hF⟩ := ob1_some hF
          have hPc : va_P (dC, dI) vwCl ((W_Model cI a S)) H := hP
          have hDc : va_D A ((W_Model cI a S)) := hD
          have hFc := va_free (wc := (W_Model cI a S)) hD hS hA [0, 1, 2, 3, 4, 5, 6, 7, 8, 9, 10, 11, 12, 13] rfl
          refine va_calli (va_runV (As := [.int v1, .int v2, .int (1 : Int32)]) (rest := []) ⟨hx, hb, hml, hown, hts⟩ (c_X5_of l dC dI cI a H.size _ _ _ _ _ h10) (cwV 3 hts gX5_ofNode_X5_of rfl rfl rfl (by decide +kernel) ⟨Nat.le_of_ble_eq_true rfl, Nat.le_of_ble_eq_true rfl⟩) (jPreV hK hPc hDc hN (ci := 5) rfl rfl) rfl rfl hl.1 rfl (lv_room (Nat.le_of_ble_eq_true rfl)) dX5_ofNode_84 ⟨Nat.le_of_ble_eq_true rfl, Nat.le_of_ble_eq_true rfl⟩) hS (fun q _ h => hFc q h) hFc (fun r' u' t H locs ht hvm hw hB hz1 hk1 hS => ?_)
          subst hw
          obtain ⟨hP1, -, hD1⟩ := hB
          rw [ht] at hP1
          have hP : va_P (dC, dI) vwCl ((W_Model cI a S)) H := hP1
          have hD : va_D A ((W_Model cI a S)) := hD1.weaken (fun _ _ _ h => hFc _ h)
          have e50 := Option.some.inj hF
          subst e50
          exact W.iret (v := r9) hx hb hr (fun t ht hW => ⟨⟨r9, (), rfl, rfl, by rw [ht]; exact hP, va_K.moved hW.alike hK, hD⟩, hS.F ht⟩) hS.2.2 dX5_ofNode_87
        · have hF := F_neg c8 hF
          by_cases c11 : v3 = (3 : Int32)
          · have hF := F_pos c11 hF
            refine lv_tableIn (tgt := 88) hx hb dX5_ofNode_1 (by rw [c11]; decide) (by rw [c11]; decide) (by rw [c11] <;> rfl) (by decide) ?_
            refine lv_aload_n hx hb dX5_ofNode_88 rfl (lv_at hl 0 rfl) ?_
            refine lv_iload_n hx hb dX5_ofNode_89 rfl (lv_at hl 1 rfl) ?_
            refine lv_iload_n hx hb dX5_ofNode_90 rfl (lv_at hl 2 rfl) ?_
            obtain ⟨r12, h13, hF⟩ := ob1_some hF
            have hPc : va_P (dC, dI) vwCl ((W_Model cI a S)) H := hP
            have hDc : va_D A ((W_Model cI a S)) := hD
            have hFc := va_free (wc := (W_Model cI a S)) hD hS hA [0, 1, 2, 3, 4, 5, 6, 7, 8, 9, 10, 11, 12, 13] rfl
            refine va_calli (va_runV (As := [.int v1, .int v2]) (rest := []) ⟨hx, hb, hml, hown, hts⟩ (c_X5_depth l dC dI cI a H.size _ _ _ _ h13) (cwV 2 hts gX5_ofNode_X5_depth rfl rfl rfl (by decide +kernel) ⟨Nat.le_of_ble_eq_true rfl, Nat.le_of_ble_eq_true rfl⟩) (jPreV hK hPc hDc hN (ci := 5) rfl rfl) rfl rfl hl.1 rfl (lv_room (Nat.le_of_ble_eq_true rfl)) dX5_ofNode_91 ⟨Nat.le_of_ble_eq_true rfl, Nat.le_of_ble_eq_true rfl⟩) hS (fun q _ h => hFc q h) hFc (fun r' u' t H locs ht hvm hw hB hz1 hk1 hS => ?_)
            subst hw
            obtain ⟨hP1, -, hD1⟩ := hB
            rw [ht] at hP1
            have hP : va_P (dC, dI) vwCl ((W_Model cI a S)) H := hP1
            have hD : va_D A ((W_Model cI a S)) := hD1.weaken (fun _ _ _ h => hFc _ h)
            have e50 := Option.some.inj hF
            subst e50
            exact W.iret (v := r12) hx hb hr (fun t ht hW => ⟨⟨r12, (), rfl, rfl, by rw [ht]; exact hP, va_K.moved hW.alike hK, hD⟩, hS.F ht⟩) hS.2.2 dX5_ofNode_94
          · have hF := F_neg c11 hF
            by_cases c14 : v3 = (4 : Int32)
            · have hF := F_pos c14 hF
              refine lv_tableIn (tgt := 126) hx hb dX5_ofNode_1 (by rw [c14]; decide) (by rw [c14]; decide) (by rw [c14] <;> rfl) (by decide) ?_
              refine lv_aload_n hx hb dX5_ofNode_126 rfl (lv_at hl 0 rfl) ?_
              refine lv_iload_n hx hb dX5_ofNode_127 rfl (lv_at hl 1 rfl) ?_
              refine lv_iload_n hx hb dX5_ofNode_128 rfl (lv_at hl 2 rfl) ?_
              refine lv_iload_n hx hb dX5_ofNode_129 rfl (lv_at hl 3 rfl) ?_
              refine lv_iconst (v := (1 : Int32)) hx hb dX5_ofNode_130 (by decide) ?_
              refine lv_isub hx hb dX5_ofNode_131 ?_
              obtain ⟨r15, h16, hF⟩ := ob1_some hF
              have hPc : va_P (dC, dI) vwCl ((W_Model cI a S)) H := hP
              have hDc : va_D A ((W_Model cI a S)) := hD
              have hFc := va_free (wc := (W_Model cI a S)) hD hS hA [0, 1, 2, 3, 4, 5, 6, 7, 8, 9, 10, 11, 12, 13] rfl
              refine va_calli (va_runV (As := [.int v1, .int v2, .int (v3 - (1 : Int32))]) (rest := []) ⟨hx, hb, hml, hown, hts⟩ (c_X5_of l dC dI cI a H.size _ _ _ _ _ h16) (cwV 3 hts gX5_ofNode_X5_of rfl rfl rfl (by decide +kernel) ⟨Nat.le_of_ble_eq_true rfl, Nat.le_of_ble_eq_true rfl⟩) (jPreV hK hPc hDc hN (ci := 5) rfl rfl) rfl rfl hl.1 rfl (lv_room (Nat.le_of_ble_eq_true rfl)) dX5_ofNode_132 ⟨Nat.le_of_ble_eq_true rfl, Nat.le_of_ble_eq_true rfl⟩) hS (fun q _ h => hFc q h) hFc (fun r' u' t H locs ht hvm hw hB hz1 hk1 hS => ?_)
              subst hw
              obtain ⟨hP1, -, hD1⟩ := hB
              rw [ht] at hP1
              have hP : va_P (dC, dI) vwCl ((W_Model cI a S)) H := hP1
              have hD : va_D A ((W_Model cI a S)) := hD1.weaken (fun _ _ _ h => hFc _ h)
              have e50 := Option.some.inj hF
              subst e50
              exact W.iret (v := r15) hx hb hr (fun t ht hW => ⟨⟨r15, (), rfl, rfl, by rw [ht]; exact hP, va_K.moved hW.alike hK, hD⟩, hS.F ht⟩) hS.2.2 dX5_ofNode_135
            · have hF := F_neg c14 hF
              by_cases c17 : v3 = (5 : Int32)
              · have hF := F_pos c17 hF
                refine lv_tableIn (tgt := 126) hx hb dX5_ofNode_1 (by rw [c17]; decide) (by rw [c17]; decide) (by rw [c17] <;> rfl) (by decide) ?_
                refine lv_aload_n hx hb dX5_ofNode_126 rfl (lv_at hl 0 rfl) ?_
                refine lv_iload_n hx hb dX5_ofNode_127 rfl (lv_at hl 1 rfl) ?_
                refine lv_iload_n hx hb dX5_ofNode_128 rfl (lv_at hl 2 rfl) ?_
                refine lv_iload_n hx hb dX5_ofNode_129 rfl (lv_at hl 3 rfl) ?_
                refine lv_iconst (v := (1 : Int32)) hx hb dX5_ofNode_130 (by decide) ?_
                refine lv_isub hx hb dX5_ofNode_131 ?_
                obtain ⟨r18, h19, hF⟩ := ob1_some hF
                have hPc : va_P (dC, dI) vwCl ((W_Model cI a S)) H := hP
                have hDc : va_D A ((W_Model cI a S)) := hD
                have hFc := va_free (wc := (W_Model cI a S)) hD hS hA [0, 1, 2, 3, 4, 5, 6, 7, 8, 9, 10, 11, 12, 13] rfl
                refine va_calli (va_runV (As := [.int v1, .int v2, .int (v3 - (1 : Int32))]) (rest := []) ⟨hx, hb, hml, hown, hts⟩ (c_X5_of l dC dI cI a H.size _ _ _ _ _ h19) (cwV 3 hts gX5_ofNode_X5_of rfl rfl rfl (by decide +kernel) ⟨Nat.le_of_ble_eq_true rfl, Nat.le_of_ble_eq_true rfl⟩) (jPreV hK hPc hDc hN (ci := 5) rfl rfl) rfl rfl hl.1 rfl (lv_room (Nat.le_of_ble_eq_true rfl)) dX5_ofNode_132 ⟨Nat.le_of_ble_eq_true rfl, Nat.le_of_ble_eq_true rfl⟩) hS (fun q _ h => hFc q h) hFc (fun r' u' t H locs ht hvm hw hB hz1 hk1 hS => ?_)
                subst hw
                obtain ⟨hP1, -, hD1⟩ := hB
                rw [ht] at hP1
                have hP : va_P (dC, dI) vwCl ((W_Model cI a S)) H := hP1
                have hD : va_D A ((W_Model cI a S)) := hD1.weaken (fun _ _ _ h => hFc _ h)
                have e50 := Option.some.inj hF
                subst e50
                exact W.iret (v := r18) hx hb hr (fun t ht hW => ⟨⟨r18, (), rfl, rfl, by rw [ht]; exact hP, va_K.moved hW.alike hK, hD⟩, hS.F ht⟩) hS.2.2 dX5_ofNode_135
              · have hF := F_neg c17 hF
                by_cases c20 : v3 = (6 : Int32)
                · have hF := F_pos c20 hF
                  refine lv_tableIn (tgt := 126) hx hb dX5_ofNode_1 (by rw [c20]; decide) (by rw [c20]; decide) (by rw [c20] <;> rfl) (by decide) ?_
                  refine lv_aload_n hx hb dX5_ofNode_126 rfl (lv_at hl 0 rfl) ?_
                  refine lv_iload_n hx hb dX5_ofNode_127 rfl (lv_at hl 1 rfl) ?_
                  refine lv_iload_n hx hb dX5_ofNode_128 rfl (lv_at hl 2 rfl) ?_
                  refine lv_iload_n hx hb dX5_ofNode_129 rfl (lv_at hl 3 rfl) ?_
                  refine lv_iconst (v := (1 : Int32)) hx hb dX5_ofNode_130 (by decide) ?_
                  refine lv_isub hx hb dX5_ofNode_131 ?_
                  obtain ⟨r21, h22, hF⟩ := ob1_some hF
                  have hPc : va_P (dC, dI) vwCl ((W_Model cI a S)) H := hP
                  have hDc : va_D A ((W_Model cI a S)) := hD
                  have hFc := va_free (wc := (W_Model cI a S)) hD hS hA [0, 1, 2, 3, 4, 5, 6, 7, 8, 9, 10, 11, 12, 13] rfl
                  refine va_calli (va_runV (As := [.int v1, .int v2, .int (v3 - (1 : Int32))]) (rest := []) ⟨hx, hb, hml, hown, hts⟩ (c_X5_of l dC dI cI a H.size _ _ _ _ _ h22) (cwV 3 hts gX5_ofNode_X5_of rfl rfl rfl (by decide +kernel) ⟨Nat.le_of_ble_eq_true rfl, Nat.le_of_ble_eq_true rfl⟩) (jPreV hK hPc hDc hN (ci := 5) rfl rfl) rfl rfl hl.1 rfl (lv_room (Nat.le_of_ble_eq_true rfl)) dX5_ofNode_132 ⟨Nat.le_of_ble_eq_true rfl, Nat.le_of_ble_eq_true rfl⟩) hS (fun q _ h => hFc q h) hFc (fun r' u' t H locs ht hvm hw hB hz1 hk1 hS => ?_)
                  subst hw
                  obtain ⟨hP1, -, hD1⟩ := hB
                  rw [ht] at hP1
                  have hP : va_P (dC, dI) vwCl ((W_Model cI a S)) H := hP1
                  have hD : va_D A ((W_Model cI a S)) := hD1.weaken (fun _ _ _ h => hFc _ h)
                  have e50 := Option.some.inj hF
                  subst e50
                  exact W.iret (v := r21) hx hb hr (fun t ht hW => ⟨⟨r21, (), rfl, rfl, by rw [ht]; exact hP, va_K.moved hW.alike hK, hD⟩, hS.F ht⟩) hS.2.2 dX5_ofNode_135
                · have hF := F_neg c20 hF
                  by_cases c23 : v3 = (7 : Int32)
                  · have hF := F_pos c23 hF
                    refine lv_tableIn (tgt := 95) hx hb dX5_ofNode_1 (by rw [c23]; decide) (by rw [c23]; decide) (by rw [c23] <;> rfl) (by decide) ?_
                    refine lv_aload_n hx hb dX5_ofNode_95 rfl (lv_at hl 0 rfl) ?_
                    refine lv_iload_n hx hb dX5_ofNode_96 rfl (lv_at hl 1 rfl) ?_
                    refine lv_iload_n hx hb dX5_ofNode_97 rfl (lv_at hl 2 rfl) ?_
                    obtain ⟨r24, h25, hF⟩ := ob1_some hF
                    have hPc : va_P (dC, dI) vwCl ((W_Model cI a S)) H := hP
                    have hDc : va_D A ((W_Model cI a S)) := hD
                    have hFc := va_free (wc := (W_Model cI a S)) hD hS hA [0, 1, 2, 3, 4, 5, 6, 7, 8, 9, 10, 11, 12, 13] rfl
                    refine va_calli (va_runV (As := [.int v1, .int v2]) (rest := []) ⟨hx, hb, hml, hown, hts⟩ (c_X5_canMiss l dC dI cI a H.size _ _ _ _ h25) (cwV 2 hts gX5_ofNode_X5_canMiss rfl rfl rfl (by decide +kernel) ⟨Nat.le_of_ble_eq_true rfl, Nat.le_of_ble_eq_true rfl⟩) (jPreV hK hPc hDc hN (ci := 5) rfl rfl) rfl rfl hl.1 rfl (lv_room (Nat.le_of_ble_eq_true rfl)) dX5_ofNode_98 ⟨Nat.le_of_ble_eq_true rfl, Nat.le_of_ble_eq_true rfl⟩) hS (fun q _ h => hFc q h) hFc (fun r' u' t H locs ht hvm hw hB hz1 hk1 hS => ?_)
                    subst hw
                    obtain ⟨hP1, -, hD1⟩ := hB
                    rw [ht] at hP1
                    have hP : va_P (dC, dI) vwCl ((W_Model cI a S)) H := hP1
                    have hD : va_D A ((W_Model cI a S)) := hD1.weaken (fun _ _ _ h => hFc _ h)
                    refine lv_if_eq (tgt := 108) hx hb dX5_ofNode_101 (by decide) (fun c26 => ?_) (fun c26 => ?_)
                    · have hF := F_pos c26 hF
                      refine lv_iconst (v := (0 : Int32)) hx hb dX5_ofNode_108 (by decide) ?_
                      have e50 := Option.some.inj hF
                      subst e50
                      exact W.iret (v := (0 : Int32)) hx hb hr (fun t ht hW => ⟨⟨(0 : Int32), (), rfl, rfl, by rw [ht]; exact hP, va_K.moved hW.alike hK, hD⟩, hS.F ht⟩) hS.2.2 dX5_ofNode_109
                    · have hF := F_neg c26 hF
                      refine lv_iconst (v := (1 : Int32)) hx hb dX5_ofNode_104 (by decide) ?_
                      refine lv_goto (tgt := 109) hx hb dX5_ofNode_105 (by decide) ?_
                      have e50 := Option.some.inj hF
                      subst e50
                      exact W.iret (v := (1 : Int32)) hx hb hr (fun t ht hW => ⟨⟨(1 : Int32), (), rfl, rfl, by rw [ht]; exact hP, va_K.moved hW.alike hK, hD⟩, hS.F ht⟩) hS.2.2 dX5_ofNode_109
                  · have hF := F_neg c23 hF
                    by_cases c27 : v3 = (8 : Int32)
                    · have hF := F_pos c27 hF
                      refine lv_tableIn (tgt := 110) hx hb dX5_ofNode_1 (by rw [c27]; decide) (by rw [c27]; decide) (by rw [c27] <;> rfl) (by decide) ?_
                      refine lv_aload_n hx hb dX5_ofNode_110 rfl (lv_at hl 0 rfl) ?_
                      refine lv_iload_n hx hb dX5_ofNode_111 rfl (lv_at hl 1 rfl) ?_
                      refine lv_iload_n hx hb dX5_ofNode_112 rfl (lv_at hl 2 rfl) ?_
                      refine lv_bipush (v := (6 : Int32)) hx hb dX5_ofNode_113 (by decide) ?_
                      obtain ⟨r28, h29, hF⟩ := ob1_some hF
                      have hPc : va_P (dC, dI) vwCl ((W_Model cI a S)) H := hP
                      have hDc : va_D A ((W_Model cI a S)) := hD
                      have hFc := va_free (wc := (W_Model cI a S)) hD hS hA [0, 1, 2, 3, 4, 5, 6, 7, 8, 9, 10, 11, 12, 13] rfl
                      refine va_calli (va_runV (As := [.int v1, .int v2, .int (6 : Int32)]) (rest := []) ⟨hx, hb, hml, hown, hts⟩ (c_X5_of l dC dI cI a H.size _ _ _ _ _ h29) (cwV 3 hts gX5_ofNode_X5_of rfl rfl rfl (by decide +kernel) ⟨Nat.le_of_ble_eq_true rfl, Nat.le_of_ble_eq_true rfl⟩) (jPreV hK hPc hDc hN (ci := 5) rfl rfl) rfl rfl hl.1 rfl (lv_room (Nat.le_of_ble_eq_true rfl)) dX5_ofNode_115 ⟨Nat.le_of_ble_eq_true rfl, Nat.le_of_ble_eq_true rfl⟩) hS (fun q _ h => hFc q h) hFc (fun r' u' t H locs ht hvm hw hB hz1 hk1 hS => ?_)
                      subst hw
                      obtain ⟨hP1, -, hD1⟩ := hB
                      rw [ht] at hP1
                      have hP : va_P (dC, dI) vwCl ((W_Model cI a S)) H := hP1
                      have hD : va_D A ((W_Model cI a S)) := hD1.weaken (fun _ _ _ h => hFc _ h)
                      have e50 := Option.some.inj hF
                      subst e50
                      exact W.iret (v := r28) hx hb hr (fun t ht hW => ⟨⟨r28, (), rfl, rfl, by rw [ht]; exact hP, va_K.moved hW.alike hK, hD⟩, hS.F ht⟩) hS.2.2 dX5_ofNode_118
                    · have hF := F_neg c27 hF
                      by_cases c30 : v3 = (9 : Int32)
                      · have hF := F_pos c30 hF
                        refine lv_tableIn (tgt := 119) hx hb dX5_ofNode_1 (by rw [c30]; decide) (by rw [c30]; decide) (by rw [c30] <;> rfl) (by decide) ?_
                        refine lv_aload_n hx hb dX5_ofNode_119 rfl (lv_at hl 0 rfl) ?_
                        refine lv_iload_n hx hb dX5_ofNode_120 rfl (lv_at hl 1 rfl) ?_
                        refine lv_iload_n hx hb dX5_ofNode_121 rfl (lv_at hl 2 rfl) ?_
                        obtain ⟨r31, h32, hF⟩ := ob1_some hF
                        have hPc : va_P (dC, dI) vwCl ((W_Model cI a S)) H := hP
                        have hDc : va_D A ((W_Model cI a S)) := hD
                        have hFc := va_free (wc := (W_Model cI a S)) hD hS hA [0, 1, 2, 3, 4, 5, 6, 7, 8, 9, 10, 11, 12, 13] rfl
                        refine va_calli (va_runV (As := [.int v1, .int v2]) (rest := []) ⟨hx, hb, hml, hown, hts⟩ (c_X5_children l dC dI cI a H.size _ _ _ _ h32) (cwV 2 hts gX5_ofNode_X5_children rfl rfl rfl (by decide +kernel) ⟨Nat.le_of_ble_eq_true rfl, Nat.le_of_ble_eq_true rfl⟩) (jPreV hK hPc hDc hN (ci := 5) rfl rfl) rfl rfl hl.1 rfl (lv_room (Nat.le_of_ble_eq_true rfl)) dX5_ofNode_122 ⟨Nat.le_of_ble_eq_true rfl, Nat.le_of_ble_eq_true rfl⟩) hS (fun q _ h => hFc q h) hFc (fun r' u' t H locs ht hvm hw hB hz1 hk1 hS => ?_)
                        subst hw
                        obtain ⟨hP1, -, hD1⟩ := hB
                        rw [ht] at hP1
                        have hP : va_P (dC, dI) vwCl ((W_Model cI a S)) H := hP1
                        have hD : va_D A ((W_Model cI a S)) := hD1.weaken (fun _ _ _ h => hFc _ h)
                        have e50 := Option.some.inj hF
                        subst e50
                        exact W.iret (v := r31) hx hb hr (fun t ht hW => ⟨⟨r31, (), rfl, rfl, by rw [ht]; exact hP, va_K.moved hW.alike hK, hD⟩, hS.F ht⟩) hS.2.2 dX5_ofNode_125
                      · have hF := F_neg c30 hF
                        refine lv_tableOut (tgt := 126) hx hb dX5_ofNode_1 (sw_out 0 9 (by decide) (fun k hk1 hk2 => ?_)) (by decide) ?_
                        · rcases (show k = 0 ∨ k = 1 ∨ k = 2 ∨ k = 3 ∨ k = 4 ∨ k = 5 ∨ k = 6 ∨ k = 7 ∨ k = 8 ∨ k = 9 by omega) with rfl | rfl | rfl | rfl | rfl | rfl | rfl | rfl | rfl | rfl
                          · exact lv_neT c1 rfl
                          · exact lv_neT c4 rfl
                          · exact lv_neT c8 rfl
                          · exact lv_neT c11 rfl
                          · exact lv_neT c14 rfl
                          · exact lv_neT c17 rfl
                          · exact lv_neT c20 rfl
                          · exact lv_neT c23 rfl
                          · exact lv_neT c27 rfl
                          · exact lv_neT c30 rfl
                        refine lv_aload_n hx hb dX5_ofNode_126 rfl (lv_at hl 0 rfl) ?_
                        refine lv_iload_n hx hb dX5_ofNode_127 rfl (lv_at hl 1 rfl) ?_
                        refine lv_iload_n hx hb dX5_ofNode_128 rfl (lv_at hl 2 rfl) ?_
                        refine lv_iload_n hx hb dX5_ofNode_129 rfl (lv_at hl 3 rfl) ?_
                        refine lv_iconst (v := (1 : Int32)) hx hb dX5_ofNode_130 (by decide) ?_
                        refine lv_isub hx hb dX5_ofNode_131 ?_
                        obtain ⟨r33, h34, hF⟩ := ob1_some hF
                        have hPc : va_P (dC, dI) vwCl ((W_Model cI a S)) H := hP
                        have hDc : va_D A ((W_Model cI a S)) := hD
                        have hFc := va_free (wc := (W_Model cI a S)) hD hS hA [0, 1, 2, 3, 4, 5, 6, 7, 8, 9, 10, 11, 12, 13] rfl
                        refine va_calli (va_runV (As := [.int v1, .int v2, .int (v3 - (1 : Int32))]) (rest := []) ⟨hx, hb, hml, hown, hts⟩ (c_X5_of l dC dI cI a H.size _ _ _ _ _ h34) (cwV 3 hts gX5_ofNode_X5_of rfl rfl rfl (by decide +kernel) ⟨Nat.le_of_ble_eq_true rfl, Nat.le_of_ble_eq_true rfl⟩) (jPreV hK hPc hDc hN (ci := 5) rfl rfl) rfl rfl hl.1 rfl (lv_room (Nat.le_of_ble_eq_true rfl)) dX5_ofNode_132 ⟨Nat.le_of_ble_eq_true rfl, Nat.le_of_ble_eq_true rfl⟩) hS (fun q _ h => hFc q h) hFc (fun r' u' t H locs ht hvm hw hB hz1 hk1 hS => ?_)
                        subst hw
                        obtain ⟨hP1, -, hD1⟩ := hB
                        rw [ht] at hP1
                        have hP : va_P (dC, dI) vwCl ((W_Model cI a S)) H := hP1
                        have hD : va_D A ((W_Model cI a S)) := hD1.weaken (fun _ _ _ h => hFc _ h)
                        have e50 := Option.some.inj hF
                        subst e50
                        exact W.iret (v := r33) hx hb hr (fun t ht hW => ⟨⟨r33, (), rfl, rfl, by rw [ht]; exact hP, va_K.moved hW.alike hK, hD⟩, hS.F ht⟩) hS.2.2 dX5_ofNode_135
  exact KE _ _ hP hD hS
set_option maxHeartbeats 4000000 in
set_option maxRecDepth 100000 in
theorem c_X5_node (l : Launch) (dC : Nat → ClassId) (dI : Nat → Nat → Nat) (cI : ClassId) (a : Nat → Nat) (sz : Nat) (S : S_Model) (v1 : Int32) (v2 : Int32) (v3 : Int32) (rr : Int32) (Y : S_Model) (hF : F_X5_node S v1 v2 v3 = some (rr, Y)) : Met l yX5_node wsX5_node ({ frames := 3, cells := 0, slots := 0, locals := 70 } : Room) (va_Pc [.ref (a 0), .int v1, .int v2, .int v3] (jPre (dC, dI) [(cI, .int)] sz ((W_Model cI a S)))) (va_Qi (fun (r' : Int32) (u : S_Model) => rr = r' ∧ Y = u) (fun u : S_Model => jB (dC, dI) [(cI, .int)] (va_A ((W_Model cI a S)) sz) ((W_Model cI a u))) (va_A ((W_Model cI a S)) sz)) 0 0 (va_A ((W_Model cI a S)) sz) := by
  refine Met.ofW (cc := cX5_node) (maxL := 4) (ret := (some .int)) (by decide) rfl ?_
  intro p e s m args below meth c s₁ B hml hv
  obtain ⟨rfl, hsz, hP, hK, hD0, hN⟩ := hv
  have hx := B.exec
  have hb := B.bytes
  have hr := B.returns
  have hts := atoms_spec (ws := wsX5_node) B.pre
  have hown : s.vm.findClass RX5 = some m.cls := findClass_of_methodNamed B.named
  have hlocks := B.notSynchronized
  have hinX5 : ∀ w ∈ u_ws RX5 TX5 26, w ∈ wsX5_node := by decide +kernel
  subst hsz
  have hD := hD0.self (sz := s.heap.size)
  generalize hAe : (va_A ((W_Model cI a S)) s.heap.size) = A at hD ⊢
  have hA : ∀ q : Nat, s.heap.size ≤ q → A q := fun q h => by rw [← hAe]; exact Or.inr h
  have hS : va_S A s.heap s.heap [] := va_S.rf
  have hl := lv_entry ([.ref (a 0), .int v1, .int v2, .int v3]) (n := 4) (Nat.le_of_ble_eq_true rfl)
  rw [lg_entry_eq]
  generalize (lg_sl ([.ref (a 0), .int v1, .int v2, .int v3]) ++ List.replicate (4 - (lg_sl ([.ref (a 0), .int v1, .int v2, .int v3])).length) Slot.unset).toArray = ls at hl ⊢
  have hl : lv_has ls 4 [(0, .ref (a 0)), (1, .int v1), (2, .int v2), (3, .int v3)] := hl
  have KE : ∀ (H : Heap) (locs : List Loc), va_P (dC, dI) vwCl ((W_Model cI a S)) H → va_D A ((W_Model cI a S)) → va_S A s.heap H locs → W p l e (headSpec wsX5_node ({ frames := 3, cells := 0, slots := 0, locals := 70 } : Room)).room s m ([.ref (a 0), .int v1, .int v2, .int v3] : List Value).toArray below meth c H locs 0 0 (MQ below (va_Qi (fun (r' : Int32) (u : S_Model) => rr = r' ∧ Y = u) (fun u : S_Model => jB (dC, dI) [(cI, .int)] A ((W_Model cI a u))) A) ([.ref (a 0), .int v1, .int v2, .int v3] : List Value).toArray s 0 0 A) (F0 m 0 ls []) := by
    intro H locs hP hD hS
    unfold F_X5_node at hF
    refine lv_aload_n hx hb dX5_node_0 rfl (lv_at hl 0 rfl) ?_
    refine lv_iconst (v := (0 : Int32)) hx hb dX5_node_1 (by decide) ?_
    refine va_put (D := (dC, dI)) (ci := 5) (v := .int (0 : Int32)) (ty := .int) (C := RX5) (T := TX5) (N := 26) hx hb hts hinX5 tyX5 tyX5_ok nmX5 hown hK hP hD hS 0 rfl rfl 5 (by decide) (hts (Cond.fieldLink RX5 49 "LearnedShapesModel" "thrown" "I") (List.mem_of_getElem? (i := 1) rfl)) (fun _ h9 => h9) rfl (by decide +kernel) (rfl) rfl (Nat.le_of_ble_eq_true rfl) dX5_node_2 (fun H locs hP hD hS => ?_)
    have hP : va_P (dC, dI) vwCl ((W_Model cI a (s_Model_thrown S (0 : Int32)))) H := hP
    have hD : va_D A ((W_Model cI a (s_Model_thrown S (0 : Int32)))) := hD
    refine lv_aload_n hx hb dX5_node_5 rfl (lv_at hl 0 rfl) ?_
    refine lv_iload_n hx hb dX5_node_6 rfl (lv_at hl 1 rfl) ?_
    refine lv_iload_n hx hb dX5_node_7 rfl (lv_at hl 2 rfl) ?_
    obtain ⟨r1, h2, hF⟩ := ob1_some hF
    have hPc : va_P (dC, dI) vwCl ((W_Model cI a (s_Model_thrown S (0 : Int32)))) H := hP
    have hDc : va_D A ((W_Model cI a (s_Model_thrown S (0 : Int32)))) := hD
    have hFc := va_free (wc := (W_Model cI a (s_Model_thrown S (0 : Int32)))) hD hS hA [0, 1, 2, 3, 4, 5, 6, 7, 8, 9, 10, 11, 12, 13] rfl
    refine va_calli (va_runV (As := [.int v1, .int v2]) (rest := []) ⟨hx, hb, hml, hown, hts⟩ (c_X5_isNode l dC dI cI a H.size _ _ _ _ h2) (cwV 2 hts gX5_node_X5_isNode rfl rfl rfl (by decide +kernel) ⟨Nat.le_of_ble_eq_true rfl, Nat.le_of_ble_eq_true rfl⟩) (jPreV hK hPc hDc hN (ci := 5) rfl rfl) rfl rfl hl.1 rfl (lv_room (Nat.le_of_ble_eq_true rfl)) dX5_node_8 ⟨Nat.le_of_ble_eq_true rfl, Nat.le_of_ble_eq_true rfl⟩) hS (fun q _ h => hFc q h) hFc (fun r' u' t H locs ht hvm hw hB hz1 hk1 hS => ?_)
    subst hw
    obtain ⟨hP1, -, hD1⟩ := hB
    rw [ht] at hP1
    have hP : va_P (dC, dI) vwCl ((W_Model cI a (s_Model_thrown S (0 : Int32)))) H := hP1
    have hD : va_D A ((W_Model cI a (s_Model_thrown S (0 : Int32)))) := hD1.weaken (fun _ _ _ h => hFc _ h)
    refine lv_if_ne (tgt := 20) hx hb dX5_node_11 (by decide) (fun c3 => ?_) (fun c3 => ?_)
    · have hF := F_neg c3 hF
      refine lv_iload_n hx hb dX5_node_20 rfl (lv_at hl 3 rfl) ?_
      refine lv_iconst (v := (0 : Int32)) hx hb dX5_node_21 (by decide) ?_
      refine lv_bipush (v := (9 : Int32)) hx hb dX5_node_22 (by decide) ?_
      obtain ⟨r4, h5, hF⟩ := ob1_some hF
      have hPc := hP.sub (ws' := ([] : va_W)) [] rfl
      have hDc := hD.sub (ws' := ([] : va_W)) [] (by decide) rfl
      have hFc := va_free (wc := ([] : va_W)) hD hS hA [] rfl
      refine va_calli (va_runS (As := [.int v3, .int (0 : Int32), .int (9 : Int32)]) (rest := []) ⟨hx, hb, hml, hown, hts⟩ (c_X5_in l dC dI cI  H.size _ _ _ _ h5) (va_cwS 3 hts gX5_node_X5_in rfl rfl rfl (by decide +kernel) ⟨Nat.le_of_ble_eq_true rfl, Nat.le_of_ble_eq_true rfl⟩) (jPreS hK hPc hDc hN) rfl rfl hl.1 rfl (lv_room (Nat.le_of_ble_eq_true rfl)) dX5_node_24 ⟨Nat.le_of_ble_eq_true rfl, Nat.le_of_ble_eq_true rfl⟩) hS (fun q _ h => hFc q h) hFc (fun r' u' t H locs ht hvm hw hB hz1 hk1 hS => ?_)
      subst hw
      obtain ⟨hP1, -, hD1⟩ := hB
      rw [ht] at hP1
      obtain ⟨hP, hD⟩ := jJoin (wc := ([] : va_W)) (w1 := ([] : va_W)) (ws' := (W_Model cI a (s_Model_thrown S (0 : Int32)))) hP hD [] [0, 1, 2, 3, 4, 5, 6, 7, 8, 9, 10, 11, 12, 13] [0, 1, 2, 3, 4, 5, 6, 7, 8, 9, 10, 11, 12, 13] rfl rfl (by decide) (by decide) hk1 hFc hP1 hD1 (by decide) rfl
      refine lv_if_eq (tgt := 40) hx hb dX5_node_27 (by decide) (fun c6 => ?_) (fun c6 => ?_)
      · have hF := F_pos c6 hF
        refine lv_aload_n hx hb dX5_node_40 rfl (lv_at hl 0 rfl) ?_
        refine lv_iconst (v := (2 : Int32)) hx hb dX5_node_41 (by decide) ?_
        obtain ⟨r7, u8, h9, hF⟩ := ob2_some hF
        have hPc : va_P (dC, dI) vwCl ((W_Model cI a (s_Model_thrown S (0 : Int32)))) H := hP
        have hDc : va_D A ((W_Model cI a (s_Model_thrown S (0 : Int32)))) := hD
        have hFc := va_free (wc := (W_Model cI a (s_Model_thrown S (0 : Int32)))) hD hS hA [0, 1, 2, 3, 4, 5, 6, 7, 8, 9, 10, 11, 12, 13] rfl
        refine va_calli (va_runV (As := [.int (2 : Int32)]) (rest := []) ⟨hx, hb, hml, hown, hts⟩ (c_X5_fails l dC dI cI a H.size _ _ _ _ h9) (cwV 1 hts gX5_node_X5_fails rfl rfl rfl (by decide +kernel) ⟨Nat.le_of_ble_eq_true rfl, Nat.le_of_ble_eq_true rfl⟩) (jPreV hK hPc hDc hN (ci := 5) rfl rfl) rfl rfl hl.1 rfl (lv_room (Nat.le_of_ble_eq_true rfl)) dX5_node_42 ⟨Nat.le_of_ble_eq_true rfl, Nat.le_of_ble_eq_true rfl⟩) hS (fun q _ h => hFc q h) hFc (fun r' u' t H locs ht hvm hw hB hz1 hk1 hS => ?_)
        obtain ⟨e1, e2⟩ := hw
        subst e1
        subst e2
        obtain ⟨hP1, -, hD1⟩ := hB
        rw [ht] at hP1
        have hP : va_P (dC, dI) vwCl ((W_Model cI a u8)) H := hP1
        have hD : va_D A ((W_Model cI a u8)) := hD1.weaken (fun _ _ _ h => hFc _ h)
        have e50 := Option.some.inj hF
        obtain ⟨e60, e51⟩ := Prod.mk.inj e50
        subst e60
        subst e51
        exact W.iret (v := r7) hx hb hr (fun t ht hW => ⟨⟨r7, u8, rfl, ⟨rfl, rfl⟩, by rw [ht]; exact hP, va_K.moved hW.alike hK, hD⟩, hS.F ht⟩) hS.2.2 dX5_node_45
      · have hF := F_neg c6 hF
        refine lv_aload_n hx hb dX5_node_30 rfl (lv_at hl 0 rfl) ?_
        refine lv_iload_n hx hb dX5_node_31 rfl (lv_at hl 1 rfl) ?_
        refine lv_iload_n hx hb dX5_node_32 rfl (lv_at hl 2 rfl) ?_
        refine lv_iload_n hx hb dX5_node_33 rfl (lv_at hl 3 rfl) ?_
        obtain ⟨r10, h11, hF⟩ := ob1_some hF
        have hPc : va_P (dC, dI) vwCl ((W_Model cI a (s_Model_thrown S (0 : Int32)))) H := hP
        have hDc : va_D A ((W_Model cI a (s_Model_thrown S (0 : Int32)))) := hD
        have hFc := va_free (wc := (W_Model cI a (s_Model_thrown S (0 : Int32)))) hD hS hA [0, 1, 2, 3, 4, 5, 6, 7, 8, 9, 10, 11, 12, 13] rfl
        refine va_calli (va_runV (As := [.int v1, .int v2, .int v3]) (rest := []) ⟨hx, hb, hml, hown, hts⟩ (c_X5_ofNode l dC dI cI a H.size _ _ _ _ _ h11) (cwV 3 hts gX5_node_X5_ofNode rfl rfl rfl (by decide +kernel) ⟨Nat.le_of_ble_eq_true rfl, Nat.le_of_ble_eq_true rfl⟩) (jPreV hK hPc hDc hN (ci := 5) rfl rfl) rfl rfl hl.1 rfl (lv_room (Nat.le_of_ble_eq_true rfl)) dX5_node_34 ⟨Nat.le_of_ble_eq_true rfl, Nat.le_of_ble_eq_true rfl⟩) hS (fun q _ h => hFc q h) hFc (fun r' u' t H locs ht hvm hw hB hz1 hk1 hS => ?_)
        subst hw
        obtain ⟨hP1, -, hD1⟩ := hB
        rw [ht] at hP1
        have hP : va_P (dC, dI) vwCl ((W_Model cI a (s_Model_thrown S (0 : Int32)))) H := hP1
        have hD : va_D A ((W_Model cI a (s_Model_thrown S (0 : Int32)))) := hD1.weaken (fun _ _ _ h => hFc _ h)
        refine lv_goto (tgt := 45) hx hb dX5_node_37 (by decide) ?_
        have e50 := Option.some.inj hF
        obtain ⟨e60, e51⟩ := Prod.mk.inj e50
        subst e60
        subst e51
        exact W.iret (v := r10) hx hb hr (fun t ht hW => ⟨⟨r10, (s_Model_thrown S (0 : Int32)), rfl, ⟨rfl, rfl⟩, by rw [ht]; exact hP, va_K.moved hW.alike hK, hD⟩, hS.F ht⟩) hS.2.2 dX5_node_45
    · have hF := F_pos c3 hF
      refine lv_aload_n hx hb dX5_node_14 rfl (lv_at hl 0 rfl) ?_
      refine lv_iconst (v := (1 : Int32)) hx hb dX5_node_15 (by decide) ?_
      obtain ⟨r12, u13, h14, hF⟩ := ob2_some hF
      have hPc : va_P (dC, dI) vwCl ((W_Model cI a (s_Model_thrown S (0 : Int32)))) H := hP
      have hDc : va_D A ((W_Model cI a (s_Model_thrown S (0 : Int32)))) := hD
      have hFc := va_free (wc := (W_Model cI a (s_Model_thrown S (0 : Int32)))) hD hS hA [0, 1, 2, 3, 4, 5, 6, 7, 8, 9, 10, 11, 12, 13] rfl
      refine va_calli (va_runV (As := [.int (1 : Int32)]) (rest := []) ⟨hx, hb, hml, hown, hts⟩ (c_X5_fails l dC dI cI a H.size _ _ _ _ h14) (cwV 1 hts gX5_node_X5_fails rfl rfl rfl (by decide +kernel) ⟨Nat.le_of_ble_eq_true rfl, Nat.le_of_ble_eq_true rfl⟩) (jPreV hK hPc hDc hN (ci := 5) rfl rfl) rfl rfl hl.1 rfl (lv_room (Nat.le_of_ble_eq_true rfl)) dX5_node_16 ⟨Nat.le_of_ble_eq_true rfl, Nat.le_of_ble_eq_true rfl⟩) hS (fun q _ h => hFc q h) hFc (fun r' u' t H locs ht hvm hw hB hz1 hk1 hS => ?_)
      obtain ⟨e1, e2⟩ := hw
      subst e1
      subst e2
      obtain ⟨hP1, -, hD1⟩ := hB
      rw [ht] at hP1
      have hP : va_P (dC, dI) vwCl ((W_Model cI a u13)) H := hP1
      have hD : va_D A ((W_Model cI a u13)) := hD1.weaken (fun _ _ _ h => hFc _ h)
      have e50 := Option.some.inj hF
      obtain ⟨e60, e51⟩ := Prod.mk.inj e50
      subst e60
      subst e51
      exact W.iret (v := r12) hx hb hr (fun t ht hW => ⟨⟨r12, u13, rfl, ⟨rfl, rfl⟩, by rw [ht]; exact hP, va_K.moved hW.alike hK, hD⟩, hS.F ht⟩) hS.2.2 dX5_node_19
  exact KE _ _ hP hD hS
set_option maxHeartbeats 4000000 in
set_option maxRecDepth 100000 in
theorem c_X5_child (l : Launch) (dC : Nat → ClassId) (dI : Nat → Nat → Nat) (cI : ClassId) (a : Nat → Nat) (sz : Nat) (S : S_Model) (v1 : Int32) (v2 : Int32) (v3 : Int32) (rr : Int32) (Y : S_Model) (hF : F_X5_child S v1 v2 v3 = some (rr, Y)) : Met l yX5_child wsX5_child ({ frames := 3, cells := 0, slots := 0, locals := 64 } : Room) (va_Pc [.ref (a 0), .int v1, .int v2, .int v3] (jPre (dC, dI) [(cI, .int)] sz ((W_Model cI a S)))) (va_Qi (fun (r' : Int32) (u : S_Model) => rr = r' ∧ Y = u) (fun u : S_Model => jB (dC, dI) [(cI, .int)] (va_A ((W_Model cI a S)) sz) ((W_Model cI a u))) (va_A ((W_Model cI a S)) sz)) 0 0 (va_A ((W_Model cI a S)) sz) := by
  refine Met.ofW (cc := cX5_child) (maxL := 4) (ret := (some .int)) (by decide) rfl ?_
  intro p e s m args below meth c s₁ B hml hv
  obtain ⟨rfl, hsz, hP, hK, hD0, hN⟩ := hv
  have hx := B.exec
  have hb := B.bytes
  have hr := B.returns
  have hts := atoms_spec (ws := wsX5_child) B.pre
  have hown : s.vm.findClass RX5 = some m.cls := findClass_of_methodNamed B.named
  have hlocks := B.notSynchronized
  have hinX5 : ∀ w ∈ u_ws RX5 TX5 26, w ∈ wsX5_child := by decide +kernel
  subst hsz
  have hD := hD0.self (sz := s.heap.size)
  generalize hAe : (va_A ((W_Model cI a S)) s.heap.size) = A at hD ⊢
  have hA : ∀ q : Nat, s.heap.size ≤ q → A q := fun q h => by rw [← hAe]; exact Or.inr h
  have hS : va_S A s.heap s.heap [] := va_S.rf
  have hl := lv_entry ([.ref (a 0), .int v1, .int v2, .int v3]) (n := 4) (Nat.le_of_ble_eq_true rfl)
  rw [lg_entry_eq]
  generalize (lg_sl ([.ref (a 0), .int v1, .int v2, .int v3]) ++ List.replicate (4 - (lg_sl ([.ref (a 0), .int v1, .int v2, .int v3])).length) Slot.unset).toArray = ls at hl ⊢
  have hl : lv_has ls 4 [(0, .ref (a 0)), (1, .int v1), (2, .int v2), (3, .int v3)] := hl
  have KE : ∀ (H : Heap) (locs : List Loc), va_P (dC, dI) vwCl ((W_Model cI a S)) H → va_D A ((W_Model cI a S)) → va_S A s.heap H locs → W p l e (headSpec wsX5_child ({ frames := 3, cells := 0, slots := 0, locals := 64 } : Room)).room s m ([.ref (a 0), .int v1, .int v2, .int v3] : List Value).toArray below meth c H locs 0 0 (MQ below (va_Qi (fun (r' : Int32) (u : S_Model) => rr = r' ∧ Y = u) (fun u : S_Model => jB (dC, dI) [(cI, .int)] A ((W_Model cI a u))) A) ([.ref (a 0), .int v1, .int v2, .int v3] : List Value).toArray s 0 0 A) (F0 m 0 ls []) := by
    intro H locs hP hD hS
    unfold F_X5_child at hF
    refine lv_aload_n hx hb dX5_child_0 rfl (lv_at hl 0 rfl) ?_
    refine lv_iconst (v := (0 : Int32)) hx hb dX5_child_1 (by decide) ?_
    refine va_put (D := (dC, dI)) (ci := 5) (v := .int (0 : Int32)) (ty := .int) (C := RX5) (T := TX5) (N := 26) hx hb hts hinX5 tyX5 tyX5_ok nmX5 hown hK hP hD hS 0 rfl rfl 5 (by decide) (hts (Cond.fieldLink RX5 49 "LearnedShapesModel" "thrown" "I") (List.mem_of_getElem? (i := 1) rfl)) (fun _ h9 => h9) rfl (by decide +kernel) (rfl) rfl (Nat.le_of_ble_eq_true rfl) dX5_child_2 (fun H locs hP hD hS => ?_)
    have hP : va_P (dC, dI) vwCl ((W_Model cI a (s_Model_thrown S (0 : Int32)))) H := hP
    have hD : va_D A ((W_Model cI a (s_Model_thrown S (0 : Int32)))) := hD
    refine lv_aload_n hx hb dX5_child_5 rfl (lv_at hl 0 rfl) ?_
    refine lv_iload_n hx hb dX5_child_6 rfl (lv_at hl 1 rfl) ?_
    refine lv_iload_n hx hb dX5_child_7 rfl (lv_at hl 2 rfl) ?_
    obtain ⟨r1, h2, hF⟩ := ob1_some hF
    have hPc : va_P (dC, dI) vwCl ((W_Model cI a (s_Model_thrown S (0 : Int32)))) H := hP
    have hDc : va_D A ((W_Model cI a (s_Model_thrown S (0 : Int32)))) := hD
    have hFc := va_free (wc := (W_Model cI a (s_Model_thrown S (0 : Int32)))) hD hS hA [0, 1, 2, 3, 4, 5, 6, 7, 8, 9, 10, 11, 12, 13] rfl
    refine va_calli (va_runV (As := [.int v1, .int v2]) (rest := []) ⟨hx, hb, hml, hown, hts⟩ (c_X5_isNode l dC dI cI a H.size _ _ _ _ h2) (cwV 2 hts gX5_child_X5_isNode rfl rfl rfl (by decide +kernel) ⟨Nat.le_of_ble_eq_true rfl, Nat.le_of_ble_eq_true rfl⟩) (jPreV hK hPc hDc hN (ci := 5) rfl rfl) rfl rfl hl.1 rfl (lv_room (Nat.le_of_ble_eq_true rfl)) dX5_child_8 ⟨Nat.le_of_ble_eq_true rfl, Nat.le_of_ble_eq_true rfl⟩) hS (fun q _ h => hFc q h) hFc (fun r' u' t H locs ht hvm hw hB hz1 hk1 hS => ?_)
    subst hw
    obtain ⟨hP1, -, hD1⟩ := hB
    rw [ht] at hP1
    have hP : va_P (dC, dI) vwCl ((W_Model cI a (s_Model_thrown S (0 : Int32)))) H := hP1
    have hD : va_D A ((W_Model cI a (s_Model_thrown S (0 : Int32)))) := hD1.weaken (fun _ _ _ h => hFc _ h)
    refine lv_if_ne (tgt := 20) hx hb dX5_child_11 (by decide) (fun c3 => ?_) (fun c3 => ?_)
    · have hF := F_neg c3 hF
      refine lv_iload_n hx hb dX5_child_20 rfl (lv_at hl 3 rfl) ?_
      refine lv_iconst (v := (0 : Int32)) hx hb dX5_child_21 (by decide) ?_
      refine lv_bipush (v := (8 : Int32)) hx hb dX5_child_22 (by decide) ?_
      obtain ⟨r4, h5, hF⟩ := ob1_some hF
      have hPc := hP.sub (ws' := ([] : va_W)) [] rfl
      have hDc := hD.sub (ws' := ([] : va_W)) [] (by decide) rfl
      have hFc := va_free (wc := ([] : va_W)) hD hS hA [] rfl
      refine va_calli (va_runS (As := [.int v3, .int (0 : Int32), .int (8 : Int32)]) (rest := []) ⟨hx, hb, hml, hown, hts⟩ (c_X5_in l dC dI cI  H.size _ _ _ _ h5) (va_cwS 3 hts gX5_child_X5_in rfl rfl rfl (by decide +kernel) ⟨Nat.le_of_ble_eq_true rfl, Nat.le_of_ble_eq_true rfl⟩) (jPreS hK hPc hDc hN) rfl rfl hl.1 rfl (lv_room (Nat.le_of_ble_eq_true rfl)) dX5_child_24 ⟨Nat.le_of_ble_eq_true rfl, Nat.le_of_ble_eq_true rfl⟩) hS (fun q _ h => hFc q h) hFc (fun r' u' t H locs ht hvm hw hB hz1 hk1 hS => ?_)
      subst hw
      obtain ⟨hP1, -, hD1⟩ := hB
      rw [ht] at hP1
      obtain ⟨hP, hD⟩ := jJoin (wc := ([] : va_W)) (w1 := ([] : va_W)) (ws' := (W_Model cI a (s_Model_thrown S (0 : Int32)))) hP hD [] [0, 1, 2, 3, 4, 5, 6, 7, 8, 9, 10, 11, 12, 13] [0, 1, 2, 3, 4, 5, 6, 7, 8, 9, 10, 11, 12, 13] rfl rfl (by decide) (by decide) hk1 hFc hP1 hD1 (by decide) rfl
      refine lv_if_eq (tgt := 40) hx hb dX5_child_27 (by decide) (fun c6 => ?_) (fun c6 => ?_)
      · have hF := F_pos c6 hF
        refine lv_aload_n hx hb dX5_child_40 rfl (lv_at hl 0 rfl) ?_
        refine lv_iconst (v := (2 : Int32)) hx hb dX5_child_41 (by decide) ?_
        obtain ⟨r7, u8, h9, hF⟩ := ob2_some hF
        have hPc : va_P (dC, dI) vwCl ((W_Model cI a (s_Model_thrown S (0 : Int32)))) H := hP
        have hDc : va_D A ((W_Model cI a (s_Model_thrown S (0 : Int32)))) := hD
        have hFc := va_free (wc := (W_Model cI a (s_Model_thrown S (0 : Int32)))) hD hS hA [0, 1, 2, 3, 4, 5, 6, 7, 8, 9, 10, 11, 12, 13] rfl
        refine va_calli (va_runV (As := [.int (2 : Int32)]) (rest := []) ⟨hx, hb, hml, hown, hts⟩ (c_X5_fails l dC dI cI a H.size _ _ _ _ h9) (cwV 1 hts gX5_child_X5_fails rfl rfl rfl (by decide +kernel) ⟨Nat.le_of_ble_eq_true rfl, Nat.le_of_ble_eq_true rfl⟩) (jPreV hK hPc hDc hN (ci := 5) rfl rfl) rfl rfl hl.1 rfl (lv_room (Nat.le_of_ble_eq_true rfl)) dX5_child_42 ⟨Nat.le_of_ble_eq_true rfl, Nat.le_of_ble_eq_true rfl⟩) hS (fun q _ h => hFc q h) hFc (fun r' u' t H locs ht hvm hw hB hz1 hk1 hS => ?_)
        obtain ⟨e1, e2⟩ := hw
        subst e1
        subst e2
        obtain ⟨hP1, -, hD1⟩ := hB
        rw [ht] at hP1
        have hP : va_P (dC, dI) vwCl ((W_Model cI a u8)) H := hP1
        have hD : va_D A ((W_Model cI a u8)) := hD1.weaken (fun _ _ _ h => hFc _ h)
        have e50 := Option.some.inj hF
        obtain ⟨e60, e51⟩ := Prod.mk.inj e50
        subst e60
        subst e51
        exact W.iret (v := r7) hx hb hr (fun t ht hW => ⟨⟨r7, u8, rfl, ⟨rfl, rfl⟩, by rw [ht]; exact hP, va_K.moved hW.alike hK, hD⟩, hS.F ht⟩) hS.2.2 dX5_child_45
      · have hF := F_neg c6 hF
        refine lv_aload_n hx hb dX5_child_30 rfl (lv_at hl 0 rfl) ?_
        refine lv_iload_n hx hb dX5_child_31 rfl (lv_at hl 1 rfl) ?_
        refine lv_iload_n hx hb dX5_child_32 rfl (lv_at hl 2 rfl) ?_
        refine lv_iload_n hx hb dX5_child_33 rfl (lv_at hl 3 rfl) ?_
        obtain ⟨r10, h11, hF⟩ := ob1_some hF
        have hPc : va_P (dC, dI) vwCl ((W_Model cI a (s_Model_thrown S (0 : Int32)))) H := hP
        have hDc : va_D A ((W_Model cI a (s_Model_thrown S (0 : Int32)))) := hD
        have hFc := va_free (wc := (W_Model cI a (s_Model_thrown S (0 : Int32)))) hD hS hA [0, 1, 2, 3, 4, 5, 6, 7, 8, 9, 10, 11, 12, 13] rfl
        refine va_calli (va_runV (As := [.int v1, .int v2, .int v3]) (rest := []) ⟨hx, hb, hml, hown, hts⟩ (c_X5_childOf l dC dI cI a H.size _ _ _ _ _ h11) (cwV 3 hts gX5_child_X5_childOf rfl rfl rfl (by decide +kernel) ⟨Nat.le_of_ble_eq_true rfl, Nat.le_of_ble_eq_true rfl⟩) (jPreV hK hPc hDc hN (ci := 5) rfl rfl) rfl rfl hl.1 rfl (lv_room (Nat.le_of_ble_eq_true rfl)) dX5_child_34 ⟨Nat.le_of_ble_eq_true rfl, Nat.le_of_ble_eq_true rfl⟩) hS (fun q _ h => hFc q h) hFc (fun r' u' t H locs ht hvm hw hB hz1 hk1 hS => ?_)
        subst hw
        obtain ⟨hP1, -, hD1⟩ := hB
        rw [ht] at hP1
        have hP : va_P (dC, dI) vwCl ((W_Model cI a (s_Model_thrown S (0 : Int32)))) H := hP1
        have hD : va_D A ((W_Model cI a (s_Model_thrown S (0 : Int32)))) := hD1.weaken (fun _ _ _ h => hFc _ h)
        refine lv_goto (tgt := 45) hx hb dX5_child_37 (by decide) ?_
        have e50 := Option.some.inj hF
        obtain ⟨e60, e51⟩ := Prod.mk.inj e50
        subst e60
        subst e51
        exact W.iret (v := r10) hx hb hr (fun t ht hW => ⟨⟨r10, (s_Model_thrown S (0 : Int32)), rfl, ⟨rfl, rfl⟩, by rw [ht]; exact hP, va_K.moved hW.alike hK, hD⟩, hS.F ht⟩) hS.2.2 dX5_child_45
    · have hF := F_pos c3 hF
      refine lv_aload_n hx hb dX5_child_14 rfl (lv_at hl 0 rfl) ?_
      refine lv_iconst (v := (1 : Int32)) hx hb dX5_child_15 (by decide) ?_
      obtain ⟨r12, u13, h14, hF⟩ := ob2_some hF
      have hPc : va_P (dC, dI) vwCl ((W_Model cI a (s_Model_thrown S (0 : Int32)))) H := hP
      have hDc : va_D A ((W_Model cI a (s_Model_thrown S (0 : Int32)))) := hD
      have hFc := va_free (wc := (W_Model cI a (s_Model_thrown S (0 : Int32)))) hD hS hA [0, 1, 2, 3, 4, 5, 6, 7, 8, 9, 10, 11, 12, 13] rfl
      refine va_calli (va_runV (As := [.int (1 : Int32)]) (rest := []) ⟨hx, hb, hml, hown, hts⟩ (c_X5_fails l dC dI cI a H.size _ _ _ _ h14) (cwV 1 hts gX5_child_X5_fails rfl rfl rfl (by decide +kernel) ⟨Nat.le_of_ble_eq_true rfl, Nat.le_of_ble_eq_true rfl⟩) (jPreV hK hPc hDc hN (ci := 5) rfl rfl) rfl rfl hl.1 rfl (lv_room (Nat.le_of_ble_eq_true rfl)) dX5_child_16 ⟨Nat.le_of_ble_eq_true rfl, Nat.le_of_ble_eq_true rfl⟩) hS (fun q _ h => hFc q h) hFc (fun r' u' t H locs ht hvm hw hB hz1 hk1 hS => ?_)
      obtain ⟨e1, e2⟩ := hw
      subst e1
      subst e2
      obtain ⟨hP1, -, hD1⟩ := hB
      rw [ht] at hP1
      have hP : va_P (dC, dI) vwCl ((W_Model cI a u13)) H := hP1
      have hD : va_D A ((W_Model cI a u13)) := hD1.weaken (fun _ _ _ h => hFc _ h)
      have e50 := Option.some.inj hF
      obtain ⟨e60, e51⟩ := Prod.mk.inj e50
      subst e60
      subst e51
      exact W.iret (v := r12) hx hb hr (fun t ht hW => ⟨⟨r12, u13, rfl, ⟨rfl, rfl⟩, by rw [ht]; exact hP, va_K.moved hW.alike hK, hD⟩, hS.F ht⟩) hS.2.2 dX5_child_19
  exact KE _ _ hP hD hS
set_option maxHeartbeats 4000000 in
set_option maxRecDepth 100000 in
theorem c_X5_ofShape (l : Launch) (dC : Nat → ClassId) (dI : Nat → Nat → Nat) (cI : ClassId) (a : Nat → Nat) (sz : Nat) (S : S_Model) (v1 : Int32) (v2 : Int32) (rr : Int32) (hF : F_X5_ofShape S v1 v2 = some rr) : Met l yX5_ofShape wsX5_ofShape ({ frames := 2, cells := 0, slots := 0, locals := 47 } : Room) (va_Pc [.ref (a 0), .int v1, .int v2] (jPre (dC, dI) [(cI, .int)] sz ((W_Model cI a S)))) (va_Qi (fun (r' : Int32) (_ : Unit) => rr = r') (fun _ : Unit => jB (dC, dI) [(cI, .int)] (va_A ((W_Model cI a S)) sz) ((W_Model cI a S))) (va_A ((W_Model cI a S)) sz)) 0 0 (va_A ((W_Model cI a S)) sz) := by
  refine Met.ofW (cc := cX5_ofShape) (maxL := 6) (ret := (some .int)) (by decide) rfl ?_
  intro p e s m args below meth c s₁ B hml hv
  obtain ⟨rfl, hsz, hP, hK, hD0, hN⟩ := hv
  have hx := B.exec
  have hb := B.bytes
  have hr := B.returns
  have hts := atoms_spec (ws := wsX5_ofShape) B.pre
  have hown : s.vm.findClass RX5 = some m.cls := findClass_of_methodNamed B.named
  have hlocks := B.notSynchronized
  have hinX5 : ∀ w ∈ u_ws RX5 TX5 26, w ∈ wsX5_ofShape := by decide +kernel
  subst hsz
  have hD := hD0.self (sz := s.heap.size)
  generalize hAe : (va_A ((W_Model cI a S)) s.heap.size) = A at hD ⊢
  have hA : ∀ q : Nat, s.heap.size ≤ q → A q := fun q h => by rw [← hAe]; exact Or.inr h
  have hS : va_S A s.heap s.heap [] := va_S.rf
  have hl := lv_entry ([.ref (a 0), .int v1, .int v2]) (n := 6) (Nat.le_of_ble_eq_true rfl)
  rw [lg_entry_eq]
  generalize (lg_sl ([.ref (a 0), .int v1, .int v2]) ++ List.replicate (6 - (lg_sl ([.ref (a 0), .int v1, .int v2])).length) Slot.unset).toArray = ls at hl ⊢
  have hl : lv_has ls 6 [(0, .ref (a 0)), (1, .int v1), (2, .int v2)] := hl
  have K43 : ∀ (n43 : Nat) (x3 : Int32) (x4 : Int32) (H : Heap) (locs : List Loc), F_X5_ofShape_43 v1 v2 S n43 x3 x4 = some rr → va_P (dC, dI) vwCl ((W_Model cI a S)) H → va_D A ((W_Model cI a S)) → va_S A s.heap H locs → ∀ ls : Array Slot, lv_has ls 6 [(0, .ref (a 0)), (1, .int v1), (2, .int v2), (3, .int x3), (4, .int x4)] → W p l e (headSpec wsX5_ofShape ({ frames := 2, cells := 0, slots := 0, locals := 47 } : Room)).room s m ([.ref (a 0), .int v1, .int v2] : List Value).toArray below meth c H locs 0 0 (MQ below (va_Qi (fun (r' : Int32) (_ : Unit) => rr = r') (fun _ : Unit => jB (dC, dI) [(cI, .int)] A ((W_Model cI a S))) A) ([.ref (a 0), .int v1, .int v2] : List Value).toArray s 0 0 A) (F0 m 43 ls []) := by
    intro n43
    induction n43 with
    | zero => intro x3 x4 H locs hF; exact nomatch hF
    | succ n43 ih43 =>
      intro x3 x4 H locs hF hP hD hS ls hl
      rw [F_X5_ofShape_43_s] at hF
      refine lv_iload hx hb dX5_ofShape_43 (lv_at hl 4 rfl) ?_
      refine lv_aload_n hx hb dX5_ofShape_45 rfl (lv_at hl 0 rfl) ?_
      refine va_get (D := (dC, dI)) (ci := 5) (v := .ref (a 1)) (C := RX5) (T := TX5) (N := 26) hx hb hts hinX5 hown hK hP 0 rfl rfl 0 (by decide) (hts (Cond.fieldLink RX5 7 "LearnedShapesModel" "now" "[I") (List.mem_of_getElem? (i := 1) rfl)) (fun _ h9 => h9) rfl dX5_ofShape_46 ?_
      refine lv_iconst (v := (3 : Int32)) hx hb dX5_ofShape_49 (by decide) ?_
      refine lv_iload_n hx hb dX5_ofShape_50 rfl (lv_at hl 1 rfl) ?_
      refine lv_iadd hx hb dX5_ofShape_51 ?_
      obtain ⟨g1, hF⟩ := og_some hF
      refine va_iald (f := (g_Model_now S)) hx hb hK hP 1 0 rfl rfl (inb_in g1) dX5_ofShape_52 ?_
      refine lv_icmp_ge (tgt := 166) hx hb dX5_ofShape_53 (by decide) (fun c2 => ?_) (fun c2 => ?_)
      · have hF := F_pos c2 hF
        refine lv_iload_n hx hb dX5_ofShape_166 rfl (lv_at hl 3 rfl) ?_
        have e50 := Option.some.inj hF
        subst e50
        exact W.iret (v := x3) hx hb hr (fun t ht hW => ⟨⟨x3, (), rfl, rfl, by rw [ht]; exact hP, va_K.moved hW.alike hK, hD⟩, hS.F ht⟩) hS.2.2 dX5_ofShape_167
      · have hF := F_neg c2 hF
        refine lv_iload_n hx hb dX5_ofShape_56 rfl (lv_at hl 2 rfl) ?_
        refine lv_iconst (v := (5 : Int32)) hx hb dX5_ofShape_57 (by decide) ?_
        refine lv_icmp_ne (tgt := 87) hx hb dX5_ofShape_58 (by decide) (fun c3 => ?_) (fun c3 => ?_)
        · have hF := F_neg c3 hF
          refine lv_iload_n hx hb dX5_ofShape_87 rfl (lv_at hl 2 rfl) ?_
          refine lv_iconst (v := (2 : Int32)) hx hb dX5_ofShape_88 (by decide) ?_
          refine lv_icmp_ne (tgt := 113) hx hb dX5_ofShape_89 (by decide) (fun c4 => ?_) (fun c4 => ?_)
          · have hF := F_neg c4 hF
            refine lv_iload_n hx hb dX5_ofShape_113 rfl (lv_at hl 2 rfl) ?_
            refine lv_iconst (v := (3 : Int32)) hx hb dX5_ofShape_114 (by decide) ?_
            refine lv_icmp_ne (tgt := 128) hx hb dX5_ofShape_115 (by decide) (fun c5 => ?_) (fun c5 => ?_)
            · have hF := F_neg c5 hF
              refine lv_aload_n hx hb dX5_ofShape_128 rfl (lv_at hl 0 rfl) ?_
              refine lv_iload_n hx hb dX5_ofShape_129 rfl (lv_at hl 1 rfl) ?_
              refine lv_iload hx hb dX5_ofShape_130 (lv_at hl 4 rfl) ?_
              refine lv_iconst (v := (4 : Int32)) hx hb dX5_ofShape_132 (by decide) ?_
              obtain ⟨r6, h7, hF⟩ := ob1_some hF
              have hPc : va_P (dC, dI) vwCl ((W_Model cI a S)) H := hP
              have hDc : va_D A ((W_Model cI a S)) := hD
              have hFc := va_free (wc := (W_Model cI a S)) hD hS hA [0, 1, 2, 3, 4, 5, 6, 7, 8, 9, 10, 11, 12, 13] rfl
              refine va_calli (va_runV (As := [.int v1, .int x4, .int (4 : Int32)]) (rest := []) ⟨hx, hb, hml, hown, hts⟩ (c_X5_of l dC dI cI a H.size _ _ _ _ _ h7) (cwV 3 hts gX5_ofShape_X5_of rfl rfl rfl (by decide +kernel) ⟨Nat.le_of_ble_eq_true rfl, Nat.le_of_ble_eq_true rfl⟩) (jPreV hK hPc hDc hN (ci := 5) rfl rfl) rfl rfl hl.1 rfl (lv_room (Nat.le_of_ble_eq_true rfl)) dX5_ofShape_133 ⟨Nat.le_of_ble_eq_true rfl, Nat.le_of_ble_eq_true rfl⟩) hS (fun q _ h => hFc q h) hFc (fun r' u' t H locs ht hvm hw hB hz1 hk1 hS => ?_)
              subst hw
              obtain ⟨hP1, -, hD1⟩ := hB
              rw [ht] at hP1
              have hP : va_P (dC, dI) vwCl ((W_Model cI a S)) H := hP1
              have hD : va_D A ((W_Model cI a S)) := hD1.weaken (fun _ _ _ h => hFc _ h)
              refine lv_iconst (v := (1 : Int32)) hx hb dX5_ofShape_136 (by decide) ?_
              refine lv_icmp_ne (tgt := 144) hx hb dX5_ofShape_137 (by decide) (fun c8 => ?_) (fun c8 => ?_)
              · have hF := F_neg c8 hF
                refine lv_iconst (v := (0 : Int32)) hx hb dX5_ofShape_144 (by decide) ?_
                refine lv_istore (lv' := [(5, .int (0 : Int32)), (0, .ref (a 0)), (1, .int v1), (2, .int v2), (3, .int x3), (4, .int x4)]) hx hb dX5_ofShape_145 hl (by decide) rfl (fun ls hl => ?_)
                refine lv_iload_n hx hb dX5_ofShape_147 rfl (lv_at hl 4 rfl) ?_
                refine lv_iload hx hb dX5_ofShape_148 (lv_at hl 0 rfl) ?_
                refine lv_if_eq (tgt := 157) hx hb dX5_ofShape_150 (by decide) (fun _ => ?_) (fun c => absurd c (by decide))
                refine lv_iconst (v := (0 : Int32)) hx hb dX5_ofShape_157 (by decide) ?_
                refine lv_iadd hx hb dX5_ofShape_158 ?_
                refine lv_istore_n (lv' := [(3, .int (x3 + (0 : Int32))), (5, .int (0 : Int32)), (0, .ref (a 0)), (1, .int v1), (2, .int v2), (4, .int x4)]) hx hb dX5_ofShape_159 rfl hl (by decide) rfl (fun ls hl => ?_)
                refine lv_iinc (v := (x4 + (1 : Int32))) (lv' := [(4, .int (x4 + (1 : Int32))), (3, .int (x3 + (0 : Int32))), (5, .int (0 : Int32)), (0, .ref (a 0)), (1, .int v1), (2, .int v2)]) hx hb dX5_ofShape_160 hl (k := 5) rfl rfl (by decide) rfl (fun ls hl => ?_)
                refine lv_goto (tgt := 43) hx hb dX5_ofShape_163 (by decide) ?_
                exact ih43 _ _ _ _ hF hP hD hS _ (lv_sub hl [3, 4, 5, 1, 0] rfl)
              · have hF := F_pos c8 hF
                refine lv_iconst (v := (1 : Int32)) hx hb dX5_ofShape_140 (by decide) ?_
                refine lv_goto (tgt := 145) hx hb dX5_ofShape_141 (by decide) ?_
                refine lv_istore (lv' := [(5, .int (1 : Int32)), (0, .ref (a 0)), (1, .int v1), (2, .int v2), (3, .int x3), (4, .int x4)]) hx hb dX5_ofShape_145 hl (by decide) rfl (fun ls hl => ?_)
                refine lv_iload_n hx hb dX5_ofShape_147 rfl (lv_at hl 4 rfl) ?_
                refine lv_iload hx hb dX5_ofShape_148 (lv_at hl 0 rfl) ?_
                refine lv_if_eq (tgt := 157) hx hb dX5_ofShape_150 (by decide) (fun c => absurd c (by decide)) (fun _ => ?_)
                refine lv_iconst (v := (1 : Int32)) hx hb dX5_ofShape_153 (by decide) ?_
                refine lv_goto (tgt := 158) hx hb dX5_ofShape_154 (by decide) ?_
                refine lv_iadd hx hb dX5_ofShape_158 ?_
                refine lv_istore_n (lv' := [(3, .int (x3 + (1 : Int32))), (5, .int (1 : Int32)), (0, .ref (a 0)), (1, .int v1), (2, .int v2), (4, .int x4)]) hx hb dX5_ofShape_159 rfl hl (by decide) rfl (fun ls hl => ?_)
                refine lv_iinc (v := (x4 + (1 : Int32))) (lv' := [(4, .int (x4 + (1 : Int32))), (3, .int (x3 + (1 : Int32))), (5, .int (1 : Int32)), (0, .ref (a 0)), (1, .int v1), (2, .int v2)]) hx hb dX5_ofShape_160 hl (k := 5) rfl rfl (by decide) rfl (fun ls hl => ?_)
                refine lv_goto (tgt := 43) hx hb dX5_ofShape_163 (by decide) ?_
                exact ih43 _ _ _ _ hF hP hD hS _ (lv_sub hl [3, 4, 5, 1, 0] rfl)
            · have hF := F_pos c5 hF
              refine lv_aload_n hx hb dX5_ofShape_118 rfl (lv_at hl 0 rfl) ?_
              refine lv_iload_n hx hb dX5_ofShape_119 rfl (lv_at hl 1 rfl) ?_
              refine lv_iload hx hb dX5_ofShape_120 (lv_at hl 4 rfl) ?_
              obtain ⟨r9, h10, hF⟩ := ob1_some hF
              have hPc : va_P (dC, dI) vwCl ((W_Model cI a S)) H := hP
              have hDc : va_D A ((W_Model cI a S)) := hD
              have hFc := va_free (wc := (W_Model cI a S)) hD hS hA [0, 1, 2, 3, 4, 5, 6, 7, 8, 9, 10, 11, 12, 13] rfl
              refine va_calli (va_runV (As := [.int v1, .int x4]) (rest := []) ⟨hx, hb, hml, hown, hts⟩ (c_X5_canMiss l dC dI cI a H.size _ _ _ _ h10) (cwV 2 hts gX5_ofShape_X5_canMiss rfl rfl rfl (by decide +kernel) ⟨Nat.le_of_ble_eq_true rfl, Nat.le_of_ble_eq_true rfl⟩) (jPreV hK hPc hDc hN (ci := 5) rfl rfl) rfl rfl hl.1 rfl (lv_room (Nat.le_of_ble_eq_true rfl)) dX5_ofShape_122 ⟨Nat.le_of_ble_eq_true rfl, Nat.le_of_ble_eq_true rfl⟩) hS (fun q _ h => hFc q h) hFc (fun r' u' t H locs ht hvm hw hB hz1 hk1 hS => ?_)
              subst hw
              obtain ⟨hP1, -, hD1⟩ := hB
              rw [ht] at hP1
              have hP : va_P (dC, dI) vwCl ((W_Model cI a S)) H := hP1
              have hD : va_D A ((W_Model cI a S)) := hD1.weaken (fun _ _ _ h => hFc _ h)
              refine lv_goto (tgt := 145) hx hb dX5_ofShape_125 (by decide) ?_
              refine lv_istore (lv' := [(5, .int (b2i r9)), (0, .ref (a 0)), (1, .int v1), (2, .int v2), (3, .int x3), (4, .int x4)]) hx hb dX5_ofShape_145 hl (by decide) rfl (fun ls hl => ?_)
              refine lv_iload_n hx hb dX5_ofShape_147 rfl (lv_at hl 4 rfl) ?_
              refine lv_iload hx hb dX5_ofShape_148 (lv_at hl 0 rfl) ?_
              refine lv_if_eq (tgt := 157) hx hb dX5_ofShape_150 (by decide) (fun c11 => ?_) (fun c11 => ?_)
              · have hF := F_pos c11 hF
                refine lv_iconst (v := (0 : Int32)) hx hb dX5_ofShape_157 (by decide) ?_
                refine lv_iadd hx hb dX5_ofShape_158 ?_
                refine lv_istore_n (lv' := [(3, .int (x3 + (0 : Int32))), (5, .int (b2i r9)), (0, .ref (a 0)), (1, .int v1), (2, .int v2), (4, .int x4)]) hx hb dX5_ofShape_159 rfl hl (by decide) rfl (fun ls hl => ?_)
                refine lv_iinc (v := (x4 + (1 : Int32))) (lv' := [(4, .int (x4 + (1 : Int32))), (3, .int (x3 + (0 : Int32))), (5, .int (b2i r9)), (0, .ref (a 0)), (1, .int v1), (2, .int v2)]) hx hb dX5_ofShape_160 hl (k := 5) rfl rfl (by decide) rfl (fun ls hl => ?_)
                refine lv_goto (tgt := 43) hx hb dX5_ofShape_163 (by decide) ?_
                exact ih43 _ _ _ _ hF hP hD hS _ (lv_sub hl [3, 4, 5, 1, 0] rfl)
              · have hF := F_neg c11 hF
                refine lv_iconst (v := (1 : Int32)) hx hb dX5_ofShape_153 (by decide) ?_
                refine lv_goto (tgt := 158) hx hb dX5_ofShape_154 (by decide) ?_
                refine lv_iadd hx hb dX5_ofShape_158 ?_
                refine lv_istore_n (lv' := [(3, .int (x3 + (1 : Int32))), (5, .int (b2i r9)), (0, .ref (a 0)), (1, .int v1), (2, .int v2), (4, .int x4)]) hx hb dX5_ofShape_159 rfl hl (by decide) rfl (fun ls hl => ?_)
                refine lv_iinc (v := (x4 + (1 : Int32))) (lv' := [(4, .int (x4 + (1 : Int32))), (3, .int (x3 + (1 : Int32))), (5, .int (b2i r9)), (0, .ref (a 0)), (1, .int v1), (2, .int v2)]) hx hb dX5_ofShape_160 hl (k := 5) rfl rfl (by decide) rfl (fun ls hl => ?_)
                refine lv_goto (tgt := 43) hx hb dX5_ofShape_163 (by decide) ?_
                exact ih43 _ _ _ _ hF hP hD hS _ (lv_sub hl [3, 4, 5, 1, 0] rfl)
          · have hF := F_pos c4 hF
            refine lv_aload_n hx hb dX5_ofShape_92 rfl (lv_at hl 0 rfl) ?_
            refine lv_iload_n hx hb dX5_ofShape_93 rfl (lv_at hl 1 rfl) ?_
            refine lv_iload hx hb dX5_ofShape_94 (lv_at hl 4 rfl) ?_
            refine lv_iconst (v := (0 : Int32)) hx hb dX5_ofShape_96 (by decide) ?_
            obtain ⟨r12, h13, hF⟩ := ob1_some hF
            have hPc : va_P (dC, dI) vwCl ((W_Model cI a S)) H := hP
            have hDc : va_D A ((W_Model cI a S)) := hD
            have hFc := va_free (wc := (W_Model cI a S)) hD hS hA [0, 1, 2, 3, 4, 5, 6, 7, 8, 9, 10, 11, 12, 13] rfl
            refine va_calli (va_runV (As := [.int v1, .int x4, .int (0 : Int32)]) (rest := []) ⟨hx, hb, hml, hown, hts⟩ (c_X5_of l dC dI cI a H.size _ _ _ _ _ h13) (cwV 3 hts gX5_ofShape_X5_of rfl rfl rfl (by decide +kernel) ⟨Nat.le_of_ble_eq_true rfl, Nat.le_of_ble_eq_true rfl⟩) (jPreV hK hPc hDc hN (ci := 5) rfl rfl) rfl rfl hl.1 rfl (lv_room (Nat.le_of_ble_eq_true rfl)) dX5_ofShape_97 ⟨Nat.le_of_ble_eq_true rfl, Nat.le_of_ble_eq_true rfl⟩) hS (fun q _ h => hFc q h) hFc (fun r' u' t H locs ht hvm hw hB hz1 hk1 hS => ?_)
            subst hw
            obtain ⟨hP1, -, hD1⟩ := hB
            rw [ht] at hP1
            have hP : va_P (dC, dI) vwCl ((W_Model cI a S)) H := hP1
            have hD : va_D A ((W_Model cI a S)) := hD1.weaken (fun _ _ _ h => hFc _ h)
            refine lv_bipush (v := (7 : Int32)) hx hb dX5_ofShape_100 (by decide) ?_
            refine lv_icmp_ne (tgt := 109) hx hb dX5_ofShape_102 (by decide) (fun c14 => ?_) (fun c14 => ?_)
            · have hF := F_neg c14 hF
              refine lv_iconst (v := (0 : Int32)) hx hb dX5_ofShape_109 (by decide) ?_
              refine lv_goto (tgt := 145) hx hb dX5_ofShape_110 (by decide) ?_
              refine lv_istore (lv' := [(5, .int (0 : Int32)), (0, .ref (a 0)), (1, .int v1), (2, .int v2), (3, .int x3), (4, .int x4)]) hx hb dX5_ofShape_145 hl (by decide) rfl (fun ls hl => ?_)
              refine lv_iload_n hx hb dX5_ofShape_147 rfl (lv_at hl 4 rfl) ?_
              refine lv_iload hx hb dX5_ofShape_148 (lv_at hl 0 rfl) ?_
              refine lv_if_eq (tgt := 157) hx hb dX5_ofShape_150 (by decide) (fun _ => ?_) (fun c => absurd c (by decide))
              refine lv_iconst (v := (0 : Int32)) hx hb dX5_ofShape_157 (by decide) ?_
              refine lv_iadd hx hb dX5_ofShape_158 ?_
              refine lv_istore_n (lv' := [(3, .int (x3 + (0 : Int32))), (5, .int (0 : Int32)), (0, .ref (a 0)), (1, .int v1), (2, .int v2), (4, .int x4)]) hx hb dX5_ofShape_159 rfl hl (by decide) rfl (fun ls hl => ?_)
              refine lv_iinc (v := (x4 + (1 : Int32))) (lv' := [(4, .int (x4 + (1 : Int32))), (3, .int (x3 + (0 : Int32))), (5, .int (0 : Int32)), (0, .ref (a 0)), (1, .int v1), (2, .int v2)]) hx hb dX5_ofShape_160 hl (k := 5) rfl rfl (by decide) rfl (fun ls hl => ?_)
              refine lv_goto (tgt := 43) hx hb dX5_ofShape_163 (by decide) ?_
              exact ih43 _ _ _ _ hF hP hD hS _ (lv_sub hl [3, 4, 5, 1, 0] rfl)
            · have hF := F_pos c14 hF
              refine lv_iconst (v := (1 : Int32)) hx hb dX5_ofShape_105 (by decide) ?_
              refine lv_goto (tgt := 145) hx hb dX5_ofShape_106 (by decide) ?_
              refine lv_istore (lv' := [(5, .int (1 : Int32)), (0, .ref (a 0)), (1, .int v1), (2, .int v2), (3, .int x3), (4, .int x4)]) hx hb dX5_ofShape_145 hl (by decide) rfl (fun ls hl => ?_)
              refine lv_iload_n hx hb dX5_ofShape_147 rfl (lv_at hl 4 rfl) ?_
              refine lv_iload hx hb dX5_ofShape_148 (lv_at hl 0 rfl) ?_
              refine lv_if_eq (tgt := 157) hx hb dX5_ofShape_150 (by decide) (fun c => absurd c (by decide)) (fun _ => ?_)
              refine lv_iconst (v := (1 : Int32)) hx hb dX5_ofShape_153 (by decide) ?_
              refine lv_goto (tgt := 158) hx hb dX5_ofShape_154 (by decide) ?_
              refine lv_iadd hx hb dX5_ofShape_158 ?_
              refine lv_istore_n (lv' := [(3, .int (x3 + (1 : Int32))), (5, .int (1 : Int32)), (0, .ref (a 0)), (1, .int v1), (2, .int v2), (4, .int x4)]) hx hb dX5_ofShape_159 rfl hl (by decide) rfl (fun ls hl => ?_)
              refine lv_iinc (v := (x4 + (1 : Int32))) (lv' := [(4, .int (x4 + (1 : Int32))), (3, .int (x3 + (1 : Int32))), (5, .int (1 : Int32)), (0, .ref (a 0)), (1, .int v1), (2, .int v2)]) hx hb dX5_ofShape_160 hl (k := 5) rfl rfl (by decide) rfl (fun ls hl => ?_)
              refine lv_goto (tgt := 43) hx hb dX5_ofShape_163 (by decide) ?_
              exact ih43 _ _ _ _ hF hP hD hS _ (lv_sub hl [3, 4, 5, 1, 0] rfl)
        · have hF := F_pos c3 hF
          refine lv_aload_n hx hb dX5_ofShape_61 rfl (lv_at hl 0 rfl) ?_
          refine lv_iload_n hx hb dX5_ofShape_62 rfl (lv_at hl 1 rfl) ?_
          refine lv_iload hx hb dX5_ofShape_63 (lv_at hl 4 rfl) ?_
          obtain ⟨r15, h16, hF⟩ := ob1_some hF
          have hPc : va_P (dC, dI) vwCl ((W_Model cI a S)) H := hP
          have hDc : va_D A ((W_Model cI a S)) := hD
          have hFc := va_free (wc := (W_Model cI a S)) hD hS hA [0, 1, 2, 3, 4, 5, 6, 7, 8, 9, 10, 11, 12, 13] rfl
          refine va_calli (va_runV (As := [.int v1, .int x4]) (rest := []) ⟨hx, hb, hml, hown, hts⟩ (c_X5_depth l dC dI cI a H.size _ _ _ _ h16) (cwV 2 hts gX5_ofShape_X5_depth rfl rfl rfl (by decide +kernel) ⟨Nat.le_of_ble_eq_true rfl, Nat.le_of_ble_eq_true rfl⟩) (jPreV hK hPc hDc hN (ci := 5) rfl rfl) rfl rfl hl.1 rfl (lv_room (Nat.le_of_ble_eq_true rfl)) dX5_ofShape_65 ⟨Nat.le_of_ble_eq_true rfl, Nat.le_of_ble_eq_true rfl⟩) hS (fun q _ h => hFc q h) hFc (fun r' u' t H locs ht hvm hw hB hz1 hk1 hS => ?_)
          subst hw
          obtain ⟨hP1, -, hD1⟩ := hB
          rw [ht] at hP1
          have hP : va_P (dC, dI) vwCl ((W_Model cI a S)) H := hP1
          have hD : va_D A ((W_Model cI a S)) := hD1.weaken (fun _ _ _ h => hFc _ h)
          refine lv_iload_n hx hb dX5_ofShape_68 rfl (lv_at hl 3 rfl) ?_
          refine lv_icmp_le (tgt := 82) hx hb dX5_ofShape_69 (by decide) (fun c17 => ?_) (fun c17 => ?_)
          · have hF := F_pos c17 hF
            refine lv_iload_n hx hb dX5_ofShape_82 rfl (lv_at hl 3 rfl) ?_
            refine lv_istore_n (lv' := [(3, .int x3), (0, .ref (a 0)), (1, .int v1), (2, .int v2), (4, .int x4)]) hx hb dX5_ofShape_83 rfl hl (by decide) rfl (fun ls hl => ?_)
            refine lv_goto (tgt := 160) hx hb dX5_ofShape_84 (by decide) ?_
            refine lv_iinc (v := (x4 + (1 : Int32))) (lv' := [(4, .int (x4 + (1 : Int32))), (3, .int x3), (0, .ref (a 0)), (1, .int v1), (2, .int v2)]) hx hb dX5_ofShape_160 hl (k := 4) rfl rfl (by decide) rfl (fun ls hl => ?_)
            refine lv_goto (tgt := 43) hx hb dX5_ofShape_163 (by decide) ?_
            exact ih43 _ _ _ _ hF hP hD hS _ (lv_sub hl [2, 3, 4, 1, 0] rfl)
          · have hF := F_neg c17 hF
            refine lv_aload_n hx hb dX5_ofShape_72 rfl (lv_at hl 0 rfl) ?_
            refine lv_iload_n hx hb dX5_ofShape_73 rfl (lv_at hl 1 rfl) ?_
            refine lv_iload hx hb dX5_ofShape_74 (lv_at hl 4 rfl) ?_
            obtain ⟨r18, h19, hF⟩ := ob1_some hF
            have hPc : va_P (dC, dI) vwCl ((W_Model cI a S)) H := hP
            have hDc : va_D A ((W_Model cI a S)) := hD
            have hFc := va_free (wc := (W_Model cI a S)) hD hS hA [0, 1, 2, 3, 4, 5, 6, 7, 8, 9, 10, 11, 12, 13] rfl
            refine va_calli (va_runV (As := [.int v1, .int x4]) (rest := []) ⟨hx, hb, hml, hown, hts⟩ (c_X5_depth l dC dI cI a H.size _ _ _ _ h19) (cwV 2 hts gX5_ofShape_X5_depth rfl rfl rfl (by decide +kernel) ⟨Nat.le_of_ble_eq_true rfl, Nat.le_of_ble_eq_true rfl⟩) (jPreV hK hPc hDc hN (ci := 5) rfl rfl) rfl rfl hl.1 rfl (lv_room (Nat.le_of_ble_eq_true rfl)) dX5_ofShape_76 ⟨Nat.le_of_ble_eq_true rfl, Nat.le_of_ble_eq_true rfl⟩) hS (fun q _ h => hFc q h) hFc (fun r' u' t H locs ht hvm hw hB hz1 hk1 hS => ?_)
            subst hw
            obtain ⟨hP1, -, hD1⟩ := hB
            rw [ht] at hP1
            have hP : va_P (dC, dI) vwCl ((W_Model cI a S)) H := hP1
            have hD : va_D A ((W_Model cI a S)) := hD1.weaken (fun _ _ _ h => hFc _ h)
            refine lv_goto (tgt := 83) hx hb dX5_ofShape_79 (by decide) ?_
            refine lv_istore_n (lv' := [(3, .int r18), (0, .ref (a 0)), (1, .int v1), (2, .int v2), (4, .int x4)]) hx hb dX5_ofShape_83 rfl hl (by decide) rfl (fun ls hl => ?_)
            refine lv_goto (tgt := 160) hx hb dX5_ofShape_84 (by decide) ?_
            refine lv_iinc (v := (x4 + (1 : Int32))) (lv' := [(4, .int (x4 + (1 : Int32))), (3, .int r18), (0, .ref (a 0)), (1, .int v1), (2, .int v2)]) hx hb dX5_ofShape_160 hl (k := 4) rfl rfl (by decide) rfl (fun ls hl => ?_)
            refine lv_goto (tgt := 43) hx hb dX5_ofShape_163 (by decide) ?_
            exact ih43 _ _ _ _ hF hP hD hS _ (lv_sub hl [2, 3, 4, 1, 0] rfl)
  have KE : ∀ (H : Heap) (locs : List Loc), va_P (dC, dI) vwCl ((W_Model cI a S)) H → va_D A ((W_Model cI a S)) → va_S A s.heap H locs → W p l e (headSpec wsX5_ofShape ({ frames := 2, cells := 0, slots := 0, locals := 47 } : Room)).room s m ([.ref (a 0), .int v1, .int v2] : List Value).toArray below meth c H locs 0 0 (MQ below (va_Qi (fun (r' : Int32) (_ : Unit) => rr = r') (fun _ : Unit => jB (dC, dI) [(cI, .int)] A ((W_Model cI a S))) A) ([.ref (a 0), .int v1, .int v2] : List Value).toArray s 0 0 A) (F0 m 0 ls []) := by
    intro H locs hP hD hS
    unfold F_X5_ofShape at hF
    refine lv_iload_n hx hb dX5_ofShape_0 rfl (lv_at hl 2 rfl) ?_
    refine lv_iconst (v := (2 : Int32)) hx hb dX5_ofShape_1 (by decide) ?_
    refine lv_icmp_ge (tgt := 29) hx hb dX5_ofShape_2 (by decide) (fun c20 => ?_) (fun c20 => ?_)
    · have hF := F_pos c20 hF
      refine lv_iload_n hx hb dX5_ofShape_29 rfl (lv_at hl 2 rfl) ?_
      refine lv_iconst (v := (5 : Int32)) hx hb dX5_ofShape_30 (by decide) ?_
      refine lv_icmp_ne (tgt := 38) hx hb dX5_ofShape_31 (by decide) (fun c21 => ?_) (fun c21 => ?_)
      · have hF := F_neg c21 hF
        refine lv_iconst (v := (0 : Int32)) hx hb dX5_ofShape_38 (by decide) ?_
        refine lv_istore_n (lv' := [(3, .int (0 : Int32)), (0, .ref (a 0)), (1, .int v1), (2, .int v2)]) hx hb dX5_ofShape_39 rfl hl (by decide) rfl (fun ls hl => ?_)
        refine lv_iconst (v := (0 : Int32)) hx hb dX5_ofShape_40 (by decide) ?_
        refine lv_istore (lv' := [(4, .int (0 : Int32)), (3, .int (0 : Int32)), (0, .ref (a 0)), (1, .int v1), (2, .int v2)]) hx hb dX5_ofShape_41 hl (by decide) rfl (fun ls hl => ?_)
        exact K43 _ _ _ _ _ hF hP hD hS _ (lv_sub hl [2, 3, 4, 1, 0] rfl)
      · have hF := F_pos c21 hF
        refine lv_iconst (v := (-1 : Int32)) hx hb dX5_ofShape_34 (by decide) ?_
        refine lv_goto (tgt := 39) hx hb dX5_ofShape_35 (by decide) ?_
        refine lv_istore_n (lv' := [(3, .int (-1 : Int32)), (0, .ref (a 0)), (1, .int v1), (2, .int v2)]) hx hb dX5_ofShape_39 rfl hl (by decide) rfl (fun ls hl => ?_)
        refine lv_iconst (v := (0 : Int32)) hx hb dX5_ofShape_40 (by decide) ?_
        refine lv_istore (lv' := [(4, .int (0 : Int32)), (3, .int (-1 : Int32)), (0, .ref (a 0)), (1, .int v1), (2, .int v2)]) hx hb dX5_ofShape_41 hl (by decide) rfl (fun ls hl => ?_)
        exact K43 _ _ _ _ _ hF hP hD hS _ (lv_sub hl [2, 3, 4, 1, 0] rfl)
    · have hF := F_neg c20 hF
      refine lv_iload_n hx hb dX5_ofShape_5 rfl (lv_at hl 2 rfl) ?_
      refine lv_if_ne (tgt := 20) hx hb dX5_ofShape_6 (by decide) (fun c22 => ?_) (fun c22 => ?_)
      · have hF := F_neg c22 hF
        refine lv_aload_n hx hb dX5_ofShape_20 rfl (lv_at hl 0 rfl) ?_
        refine va_get (D := (dC, dI)) (ci := 5) (v := .ref (a 1)) (C := RX5) (T := TX5) (N := 26) hx hb hts hinX5 hown hK hP 0 rfl rfl 0 (by decide) (hts (Cond.fieldLink RX5 7 "LearnedShapesModel" "now" "[I") (List.mem_of_getElem? (i := 1) rfl)) (fun _ h9 => h9) rfl dX5_ofShape_21 ?_
        refine lv_iconst (v := (3 : Int32)) hx hb dX5_ofShape_24 (by decide) ?_
        refine lv_iload_n hx hb dX5_ofShape_25 rfl (lv_at hl 1 rfl) ?_
        refine lv_iadd hx hb dX5_ofShape_26 ?_
        obtain ⟨g23, hF⟩ := og_some hF
        refine va_iald (f := (g_Model_now S)) hx hb hK hP 1 0 rfl rfl (inb_in g23) dX5_ofShape_27 ?_
        have e50 := Option.some.inj hF
        subst e50
        exact W.iret (v := ((g_Model_now S) ((3 : Int32) + v1).toNatClampNeg)) hx hb hr (fun t ht hW => ⟨⟨((g_Model_now S) ((3 : Int32) + v1).toNatClampNeg), (), rfl, rfl, by rw [ht]; exact hP, va_K.moved hW.alike hK, hD⟩, hS.F ht⟩) hS.2.2 dX5_ofShape_28
      · have hF := F_pos c22 hF
        refine lv_aload_n hx hb dX5_ofShape_9 rfl (lv_at hl 0 rfl) ?_
        refine va_get (D := (dC, dI)) (ci := 5) (v := .ref (a 1)) (C := RX5) (T := TX5) (N := 26) hx hb hts hinX5 hown hK hP 0 rfl rfl 0 (by decide) (hts (Cond.fieldLink RX5 7 "LearnedShapesModel" "now" "[I") (List.mem_of_getElem? (i := 1) rfl)) (fun _ h9 => h9) rfl dX5_ofShape_10 ?_
        refine lv_iconst (v := (1 : Int32)) hx hb dX5_ofShape_13 (by decide) ?_
        refine lv_iload_n hx hb dX5_ofShape_14 rfl (lv_at hl 1 rfl) ?_
        refine lv_iadd hx hb dX5_ofShape_15 ?_
        obtain ⟨g24, hF⟩ := og_some hF
        refine va_iald (f := (g_Model_now S)) hx hb hK hP 1 0 rfl rfl (inb_in g24) dX5_ofShape_16 ?_
        refine lv_goto (tgt := 28) hx hb dX5_ofShape_17 (by decide) ?_
        have e50 := Option.some.inj hF
        subst e50
        exact W.iret (v := ((g_Model_now S) ((1 : Int32) + v1).toNatClampNeg)) hx hb hr (fun t ht hW => ⟨⟨((g_Model_now S) ((1 : Int32) + v1).toNatClampNeg), (), rfl, rfl, by rw [ht]; exact hP, va_K.moved hW.alike hK, hD⟩, hS.F ht⟩) hS.2.2 dX5_ofShape_28
  exact KE _ _ hP hD hS
set_option maxHeartbeats 4000000 in
set_option maxRecDepth 100000 in
theorem c_X5_shape (l : Launch) (dC : Nat → ClassId) (dI : Nat → Nat → Nat) (cI : ClassId) (a : Nat → Nat) (sz : Nat) (S : S_Model) (v1 : Int32) (v2 : Int32) (rr : Int32) (Y : S_Model) (hF : F_X5_shape S v1 v2 = some (rr, Y)) : Met l yX5_shape wsX5_shape ({ frames := 3, cells := 0, slots := 0, locals := 72 } : Room) (va_Pc [.ref (a 0), .int v1, .int v2] (jPre (dC, dI) [(cI, .int)] sz ((W_Model cI a S)))) (va_Qi (fun (r' : Int32) (u : S_Model) => rr = r' ∧ Y = u) (fun u : S_Model => jB (dC, dI) [(cI, .int)] (va_A ((W_Model cI a S)) sz) ((W_Model cI a u))) (va_A ((W_Model cI a S)) sz)) 0 0 (va_A ((W_Model cI a S)) sz) := by
  refine Met.ofW (cc := cX5_shape) (maxL := 3) (ret := (some .int)) (by decide) rfl ?_
  intro p e s m args below meth c s₁ B hml hv
  obtain ⟨rfl, hsz, hP, hK, hD0, hN⟩ := hv
  have hx := B.exec
  have hb := B.bytes
  have hr := B.returns
  have hts := atoms_spec (ws := wsX5_shape) B.pre
  have hown : s.vm.findClass RX5 = some m.cls := findClass_of_methodNamed B.named
  have hlocks := B.notSynchronized
  have hinX5 : ∀ w ∈ u_ws RX5 TX5 26, w ∈ wsX5_shape := by decide +kernel
  subst hsz
  have hD := hD0.self (sz := s.heap.size)
  generalize hAe : (va_A ((W_Model cI a S)) s.heap.size) = A at hD ⊢
  have hA : ∀ q : Nat, s.heap.size ≤ q → A q := fun q h => by rw [← hAe]; exact Or.inr h
  have hS : va_S A s.heap s.heap [] := va_S.rf
  have hl := lv_entry ([.ref (a 0), .int v1, .int v2]) (n := 3) (Nat.le_of_ble_eq_true rfl)
  rw [lg_entry_eq]
  generalize (lg_sl ([.ref (a 0), .int v1, .int v2]) ++ List.replicate (3 - (lg_sl ([.ref (a 0), .int v1, .int v2])).length) Slot.unset).toArray = ls at hl ⊢
  have hl : lv_has ls 3 [(0, .ref (a 0)), (1, .int v1), (2, .int v2)] := hl
  have KE : ∀ (H : Heap) (locs : List Loc), va_P (dC, dI) vwCl ((W_Model cI a S)) H → va_D A ((W_Model cI a S)) → va_S A s.heap H locs → W p l e (headSpec wsX5_shape ({ frames := 3, cells := 0, slots := 0, locals := 72 } : Room)).room s m ([.ref (a 0), .int v1, .int v2] : List Value).toArray below meth c H locs 0 0 (MQ below (va_Qi (fun (r' : Int32) (u : S_Model) => rr = r' ∧ Y = u) (fun u : S_Model => jB (dC, dI) [(cI, .int)] A ((W_Model cI a u))) A) ([.ref (a 0), .int v1, .int v2] : List Value).toArray s 0 0 A) (F0 m 0 ls []) := by
    intro H locs hP hD hS
    unfold F_X5_shape at hF
    refine lv_aload_n hx hb dX5_shape_0 rfl (lv_at hl 0 rfl) ?_
    refine lv_iconst (v := (0 : Int32)) hx hb dX5_shape_1 (by decide) ?_
    refine va_put (D := (dC, dI)) (ci := 5) (v := .int (0 : Int32)) (ty := .int) (C := RX5) (T := TX5) (N := 26) hx hb hts hinX5 tyX5 tyX5_ok nmX5 hown hK hP hD hS 0 rfl rfl 5 (by decide) (hts (Cond.fieldLink RX5 49 "LearnedShapesModel" "thrown" "I") (List.mem_of_getElem? (i := 1) rfl)) (fun _ h9 => h9) rfl (by decide +kernel) (rfl) rfl (Nat.le_of_ble_eq_true rfl) dX5_shape_2 (fun H locs hP hD hS => ?_)
    have hP : va_P (dC, dI) vwCl ((W_Model cI a (s_Model_thrown S (0 : Int32)))) H := hP
    have hD : va_D A ((W_Model cI a (s_Model_thrown S (0 : Int32)))) := hD
    refine lv_iload_n hx hb dX5_shape_5 rfl (lv_at hl 1 rfl) ?_
    obtain ⟨r1, h2, hF⟩ := ob1_some hF
    have hPc := hP.sub (ws' := ([] : va_W)) [] rfl
    have hDc := hD.sub (ws' := ([] : va_W)) [] (by decide) rfl
    have hFc := va_free (wc := ([] : va_W)) hD hS hA [] rfl
    refine va_calli (va_runS (As := [.int v1]) (rest := []) ⟨hx, hb, hml, hown, hts⟩ (c_X5_isShape l dC dI cI  H.size _ _ h2) (va_cwS 1 hts gX5_shape_X5_isShape rfl rfl rfl (by decide +kernel) ⟨Nat.le_of_ble_eq_true rfl, Nat.le_of_ble_eq_true rfl⟩) (jPreS hK hPc hDc hN) rfl rfl hl.1 rfl (lv_room (Nat.le_of_ble_eq_true rfl)) dX5_shape_6 ⟨Nat.le_of_ble_eq_true rfl, Nat.le_of_ble_eq_true rfl⟩) hS (fun q _ h => hFc q h) hFc (fun r' u' t H locs ht hvm hw hB hz1 hk1 hS => ?_)
    subst hw
    obtain ⟨hP1, -, hD1⟩ := hB
    rw [ht] at hP1
    obtain ⟨hP, hD⟩ := jJoin (wc := ([] : va_W)) (w1 := ([] : va_W)) (ws' := (W_Model cI a (s_Model_thrown S (0 : Int32)))) hP hD [] [0, 1, 2, 3, 4, 5, 6, 7, 8, 9, 10, 11, 12, 13] [0, 1, 2, 3, 4, 5, 6, 7, 8, 9, 10, 11, 12, 13] rfl rfl (by decide) (by decide) hk1 hFc hP1 hD1 (by decide) rfl
    refine lv_if_ne (tgt := 18) hx hb dX5_shape_9 (by decide) (fun c3 => ?_) (fun c3 => ?_)
    · have hF := F_neg c3 hF
      refine lv_iload_n hx hb dX5_shape_18 rfl (lv_at hl 2 rfl) ?_
      refine lv_iconst (v := (0 : Int32)) hx hb dX5_shape_19 (by decide) ?_
      refine lv_iconst (v := (5 : Int32)) hx hb dX5_shape_20 (by decide) ?_
      obtain ⟨r4, h5, hF⟩ := ob1_some hF
      have hPc := hP.sub (ws' := ([] : va_W)) [] rfl
      have hDc := hD.sub (ws' := ([] : va_W)) [] (by decide) rfl
      have hFc := va_free (wc := ([] : va_W)) hD hS hA [] rfl
      refine va_calli (va_runS (As := [.int v2, .int (0 : Int32), .int (5 : Int32)]) (rest := []) ⟨hx, hb, hml, hown, hts⟩ (c_X5_in l dC dI cI  H.size _ _ _ _ h5) (va_cwS 3 hts gX5_shape_X5_in rfl rfl rfl (by decide +kernel) ⟨Nat.le_of_ble_eq_true rfl, Nat.le_of_ble_eq_true rfl⟩) (jPreS hK hPc hDc hN) rfl rfl hl.1 rfl (lv_room (Nat.le_of_ble_eq_true rfl)) dX5_shape_21 ⟨Nat.le_of_ble_eq_true rfl, Nat.le_of_ble_eq_true rfl⟩) hS (fun q _ h => hFc q h) hFc (fun r' u' t H locs ht hvm hw hB hz1 hk1 hS => ?_)
      subst hw
      obtain ⟨hP1, -, hD1⟩ := hB
      rw [ht] at hP1
      obtain ⟨hP, hD⟩ := jJoin (wc := ([] : va_W)) (w1 := ([] : va_W)) (ws' := (W_Model cI a (s_Model_thrown S (0 : Int32)))) hP hD [] [0, 1, 2, 3, 4, 5, 6, 7, 8, 9, 10, 11, 12, 13] [0, 1, 2, 3, 4, 5, 6, 7, 8, 9, 10, 11, 12, 13] rfl rfl (by decide) (by decide) hk1 hFc hP1 hD1 (by decide) rfl
      refine lv_if_eq (tgt := 36) hx hb dX5_shape_24 (by decide) (fun c6 => ?_) (fun c6 => ?_)
      · have hF := F_pos c6 hF
        refine lv_aload_n hx hb dX5_shape_36 rfl (lv_at hl 0 rfl) ?_
        refine lv_iconst (v := (2 : Int32)) hx hb dX5_shape_37 (by decide) ?_
        obtain ⟨r7, u8, h9, hF⟩ := ob2_some hF
        have hPc : va_P (dC, dI) vwCl ((W_Model cI a (s_Model_thrown S (0 : Int32)))) H := hP
        have hDc : va_D A ((W_Model cI a (s_Model_thrown S (0 : Int32)))) := hD
        have hFc := va_free (wc := (W_Model cI a (s_Model_thrown S (0 : Int32)))) hD hS hA [0, 1, 2, 3, 4, 5, 6, 7, 8, 9, 10, 11, 12, 13] rfl
        refine va_calli (va_runV (As := [.int (2 : Int32)]) (rest := []) ⟨hx, hb, hml, hown, hts⟩ (c_X5_fails l dC dI cI a H.size _ _ _ _ h9) (cwV 1 hts gX5_shape_X5_fails rfl rfl rfl (by decide +kernel) ⟨Nat.le_of_ble_eq_true rfl, Nat.le_of_ble_eq_true rfl⟩) (jPreV hK hPc hDc hN (ci := 5) rfl rfl) rfl rfl hl.1 rfl (lv_room (Nat.le_of_ble_eq_true rfl)) dX5_shape_38 ⟨Nat.le_of_ble_eq_true rfl, Nat.le_of_ble_eq_true rfl⟩) hS (fun q _ h => hFc q h) hFc (fun r' u' t H locs ht hvm hw hB hz1 hk1 hS => ?_)
        obtain ⟨e1, e2⟩ := hw
        subst e1
        subst e2
        obtain ⟨hP1, -, hD1⟩ := hB
        rw [ht] at hP1
        have hP : va_P (dC, dI) vwCl ((W_Model cI a u8)) H := hP1
        have hD : va_D A ((W_Model cI a u8)) := hD1.weaken (fun _ _ _ h => hFc _ h)
        have e50 := Option.some.inj hF
        obtain ⟨e60, e51⟩ := Prod.mk.inj e50
        subst e60
        subst e51
        exact W.iret (v := r7) hx hb hr (fun t ht hW => ⟨⟨r7, u8, rfl, ⟨rfl, rfl⟩, by rw [ht]; exact hP, va_K.moved hW.alike hK, hD⟩, hS.F ht⟩) hS.2.2 dX5_shape_41
      · have hF := F_neg c6 hF
        refine lv_aload_n hx hb dX5_shape_27 rfl (lv_at hl 0 rfl) ?_
        refine lv_iload_n hx hb dX5_shape_28 rfl (lv_at hl 1 rfl) ?_
        refine lv_iload_n hx hb dX5_shape_29 rfl (lv_at hl 2 rfl) ?_
        obtain ⟨r10, h11, hF⟩ := ob1_some hF
        have hPc : va_P (dC, dI) vwCl ((W_Model cI a (s_Model_thrown S (0 : Int32)))) H := hP
        have hDc : va_D A ((W_Model cI a (s_Model_thrown S (0 : Int32)))) := hD
        have hFc := va_free (wc := (W_Model cI a (s_Model_thrown S (0 : Int32)))) hD hS hA [0, 1, 2, 3, 4, 5, 6, 7, 8, 9, 10, 11, 12, 13] rfl
        refine va_calli (va_runV (As := [.int v1, .int v2]) (rest := []) ⟨hx, hb, hml, hown, hts⟩ (c_X5_ofShape l dC dI cI a H.size _ _ _ _ h11) (cwV 2 hts gX5_shape_X5_ofShape rfl rfl rfl (by decide +kernel) ⟨Nat.le_of_ble_eq_true rfl, Nat.le_of_ble_eq_true rfl⟩) (jPreV hK hPc hDc hN (ci := 5) rfl rfl) rfl rfl hl.1 rfl (lv_room (Nat.le_of_ble_eq_true rfl)) dX5_shape_30 ⟨Nat.le_of_ble_eq_true rfl, Nat.le_of_ble_eq_true rfl⟩) hS (fun q _ h => hFc q h) hFc (fun r' u' t H locs ht hvm hw hB hz1 hk1 hS => ?_)
        subst hw
        obtain ⟨hP1, -, hD1⟩ := hB
        rw [ht] at hP1
        have hP : va_P (dC, dI) vwCl ((W_Model cI a (s_Model_thrown S (0 : Int32)))) H := hP1
        have hD : va_D A ((W_Model cI a (s_Model_thrown S (0 : Int32)))) := hD1.weaken (fun _ _ _ h => hFc _ h)
        refine lv_goto (tgt := 41) hx hb dX5_shape_33 (by decide) ?_
        have e50 := Option.some.inj hF
        obtain ⟨e60, e51⟩ := Prod.mk.inj e50
        subst e60
        subst e51
        exact W.iret (v := r10) hx hb hr (fun t ht hW => ⟨⟨r10, (s_Model_thrown S (0 : Int32)), rfl, ⟨rfl, rfl⟩, by rw [ht]; exact hP, va_K.moved hW.alike hK, hD⟩, hS.F ht⟩) hS.2.2 dX5_shape_41
    · have hF := F_pos c3 hF
      refine lv_aload_n hx hb dX5_shape_12 rfl (lv_at hl 0 rfl) ?_
      refine lv_iconst (v := (1 : Int32)) hx hb dX5_shape_13 (by decide) ?_
      obtain ⟨r12, u13, h14, hF⟩ := ob2_some hF
      have hPc : va_P (dC, dI) vwCl ((W_Model cI a (s_Model_thrown S (0 : Int32)))) H := hP
      have hDc : va_D A ((W_Model cI a (s_Model_thrown S (0 : Int32)))) := hD
      have hFc := va_free (wc := (W_Model cI a (s_Model_thrown S (0 : Int32)))) hD hS hA [0, 1, 2, 3, 4, 5, 6, 7, 8, 9, 10, 11, 12, 13] rfl
      refine va_calli (va_runV (As := [.int (1 : Int32)]) (rest := []) ⟨hx, hb, hml, hown, hts⟩ (c_X5_fails l dC dI cI a H.size _ _ _ _ h14) (cwV 1 hts gX5_shape_X5_fails rfl rfl rfl (by decide +kernel) ⟨Nat.le_of_ble_eq_true rfl, Nat.le_of_ble_eq_true rfl⟩) (jPreV hK hPc hDc hN (ci := 5) rfl rfl) rfl rfl hl.1 rfl (lv_room (Nat.le_of_ble_eq_true rfl)) dX5_shape_14 ⟨Nat.le_of_ble_eq_true rfl, Nat.le_of_ble_eq_true rfl⟩) hS (fun q _ h => hFc q h) hFc (fun r' u' t H locs ht hvm hw hB hz1 hk1 hS => ?_)
      obtain ⟨e1, e2⟩ := hw
      subst e1
      subst e2
      obtain ⟨hP1, -, hD1⟩ := hB
      rw [ht] at hP1
      have hP : va_P (dC, dI) vwCl ((W_Model cI a u13)) H := hP1
      have hD : va_D A ((W_Model cI a u13)) := hD1.weaken (fun _ _ _ h => hFc _ h)
      have e50 := Option.some.inj hF
      obtain ⟨e60, e51⟩ := Prod.mk.inj e50
      subst e60
      subst e51
      exact W.iret (v := r12) hx hb hr (fun t ht hW => ⟨⟨r12, u13, rfl, ⟨rfl, rfl⟩, by rw [ht]; exact hP, va_K.moved hW.alike hK, hD⟩, hS.F ht⟩) hS.2.2 dX5_shape_17
  exact KE _ _ hP hD hS
set_option maxHeartbeats 4000000 in
set_option maxRecDepth 100000 in
theorem c_X5_ofDocument (l : Launch) (dC : Nat → ClassId) (dI : Nat → Nat → Nat) (cI : ClassId) (a : Nat → Nat) (sz : Nat) (S : S_Model) (v1 : Int32) (rr : Int32) (Y : S_Model) (hF : F_X5_ofDocument S v1 = some (rr, Y)) : Met l yX5_ofDocument wsX5_ofDocument ({ frames := 7, cells := 0, slots := 0, locals := 155 } : Room) (va_Pc [.ref (a 0), .int v1] (jPre (dC, dI) [(cI, .int)] sz ((W_Model cI a S)))) (va_Qi (fun (r' : Int32) (u : S_Model) => rr = r' ∧ Y = u) (fun u : S_Model => jB (dC, dI) [(cI, .int)] (va_A ((W_Model cI a S)) sz) ((W_Model cI a u))) (va_A ((W_Model cI a S)) sz)) 0 0 (va_A ((W_Model cI a S)) sz) := by
  refine Met.ofW (cc := cX5_ofDocument) (maxL := 4) (ret := (some .int)) (by decide) rfl ?_
  intro p e s m args below meth c s₁ B hml hv
  obtain ⟨rfl, hsz, hP, hK, hD0, hN⟩ := hv
  have hx := B.exec
  have hb := B.bytes
  have hr := B.returns
  have hts := atoms_spec (ws := wsX5_ofDocument) B.pre
  have hown : s.vm.findClass RX5 = some m.cls := findClass_of_methodNamed B.named
  have hlocks := B.notSynchronized
  have hinX5 : ∀ w ∈ u_ws RX5 TX5 26, w ∈ wsX5_ofDocument := by decide +kernel
  subst hsz
  have hD := hD0.self (sz := s.heap.size)
  generalize hAe : (va_A ((W_Model cI a S)) s.heap.size) = A at hD ⊢
  have hA : ∀ q : Nat, s.heap.size ≤ q → A q := fun q h => by rw [← hAe]; exact Or.inr h
  have hS : va_S A s.heap s.heap [] := va_S.rf
  have hl := lv_entry ([.ref (a 0), .int v1]) (n := 4) (Nat.le_of_ble_eq_true rfl)
  rw [lg_entry_eq]
  generalize (lg_sl ([.ref (a 0), .int v1]) ++ List.replicate (4 - (lg_sl ([.ref (a 0), .int v1])).length) Slot.unset).toArray = ls at hl ⊢
  have hl : lv_has ls 4 [(0, .ref (a 0)), (1, .int v1)] := hl
  have K39 : ∀ (n39 : Nat) (S : S_Model) (x2 : Int32) (x3 : Int32) (H : Heap) (locs : List Loc), F_X5_ofDocument_39 v1 n39 S x2 x3 = some (rr, Y) → va_P (dC, dI) vwCl ((W_Model cI a S)) H → va_D A ((W_Model cI a S)) → va_S A s.heap H locs → ∀ ls : Array Slot, lv_has ls 4 [(0, .ref (a 0)), (1, .int v1), (2, .int x2), (3, .int x3)] → W p l e (headSpec wsX5_ofDocument ({ frames := 7, cells := 0, slots := 0, locals := 155 } : Room)).room s m ([.ref (a 0), .int v1] : List Value).toArray below meth c H locs 0 0 (MQ below (va_Qi (fun (r' : Int32) (u : S_Model) => rr = r' ∧ Y = u) (fun u : S_Model => jB (dC, dI) [(cI, .int)] A ((W_Model cI a u))) A) ([.ref (a 0), .int v1] : List Value).toArray s 0 0 A) (F0 m 39 ls []) := by
    intro n39
    induction n39 with
    | zero => intro S x2 x3 H locs hF; exact nomatch hF
    | succ n39 ih39 =>
      intro S x2 x3 H locs hF hP hD hS ls hl
      rw [F_X5_ofDocument_39_s] at hF
      refine lv_iload_n hx hb dX5_ofDocument_39 rfl (lv_at hl 3 rfl) ?_
      refine lv_aload_n hx hb dX5_ofDocument_40 rfl (lv_at hl 0 rfl) ?_
      refine va_get (D := (dC, dI)) (ci := 5) (v := .int (g_Model_valued S)) (C := RX5) (T := TX5) (N := 26) hx hb hts hinX5 hown hK hP 0 rfl rfl 14 (by decide) (hts (Cond.fieldLink RX5 82 "LearnedShapesModel" "valued" "I") (List.mem_of_getElem? (i := 1) rfl)) (fun _ h9 => h9) rfl dX5_ofDocument_41 ?_
      refine lv_icmp_ge (tgt := 73) hx hb dX5_ofDocument_44 (by decide) (fun c1 => ?_) (fun c1 => ?_)
      · have hF := F_pos c1 hF
        refine lv_iload_n hx hb dX5_ofDocument_73 rfl (lv_at hl 2 rfl) ?_
        have e50 := Option.some.inj hF
        obtain ⟨e60, e51⟩ := Prod.mk.inj e50
        subst e60
        subst e51
        exact W.iret (v := x2) hx hb hr (fun t ht hW => ⟨⟨x2, S, rfl, ⟨rfl, rfl⟩, by rw [ht]; exact hP, va_K.moved hW.alike hK, hD⟩, hS.F ht⟩) hS.2.2 dX5_ofDocument_74
      · have hF := F_neg c1 hF
        refine lv_iload_n hx hb dX5_ofDocument_47 rfl (lv_at hl 2 rfl) ?_
        refine lv_aload_n hx hb dX5_ofDocument_48 rfl (lv_at hl 0 rfl) ?_
        refine va_get (D := (dC, dI)) (ci := 5) (v := .ref (a 4)) (C := RX5) (T := TX5) (N := 26) hx hb hts hinX5 hown hK hP 0 rfl rfl 8 (by decide) (hts (Cond.fieldLink RX5 19 "LearnedShapesModel" "kinds" "[I") (List.mem_of_getElem? (i := 3) rfl)) (fun _ h9 => h9) rfl dX5_ofDocument_49 ?_
        refine lv_iload_n hx hb dX5_ofDocument_52 rfl (lv_at hl 3 rfl) ?_
        obtain ⟨g2, hF⟩ := og_some hF
        refine va_iald (f := (g_Model_kinds S)) hx hb hK hP 4 0 rfl rfl (inb_in g2) dX5_ofDocument_53 ?_
        refine lv_iload_n hx hb dX5_ofDocument_54 rfl (lv_at hl 1 rfl) ?_
        refine lv_iconst (v := (1 : Int32)) hx hb dX5_ofDocument_55 (by decide) ?_
        refine lv_isub hx hb dX5_ofDocument_56 ?_
        refine lv_icmp_ne (tgt := 64) hx hb dX5_ofDocument_57 (by decide) (fun c3 => ?_) (fun c3 => ?_)
        · have hF := F_neg c3 hF
          refine lv_iconst (v := (0 : Int32)) hx hb dX5_ofDocument_64 (by decide) ?_
          refine lv_iadd hx hb dX5_ofDocument_65 ?_
          refine lv_istore_n (lv' := [(2, .int (x2 + (0 : Int32))), (0, .ref (a 0)), (1, .int v1), (3, .int x3)]) hx hb dX5_ofDocument_66 rfl hl (by decide) rfl (fun ls hl => ?_)
          refine lv_iinc (v := (x3 + (1 : Int32))) (lv' := [(3, .int (x3 + (1 : Int32))), (2, .int (x2 + (0 : Int32))), (0, .ref (a 0)), (1, .int v1)]) hx hb dX5_ofDocument_67 hl (k := 3) rfl rfl (by decide) rfl (fun ls hl => ?_)
          refine lv_goto (tgt := 39) hx hb dX5_ofDocument_70 (by decide) ?_
          exact ih39 _ _ _ _ _ hF hP hD hS _ (lv_sub hl [2, 3, 1, 0] rfl)
        · have hF := F_pos c3 hF
          refine lv_iconst (v := (1 : Int32)) hx hb dX5_ofDocument_60 (by decide) ?_
          refine lv_goto (tgt := 65) hx hb dX5_ofDocument_61 (by decide) ?_
          refine lv_iadd hx hb dX5_ofDocument_65 ?_
          refine lv_istore_n (lv' := [(2, .int (x2 + (1 : Int32))), (0, .ref (a 0)), (1, .int v1), (3, .int x3)]) hx hb dX5_ofDocument_66 rfl hl (by decide) rfl (fun ls hl => ?_)
          refine lv_iinc (v := (x3 + (1 : Int32))) (lv' := [(3, .int (x3 + (1 : Int32))), (2, .int (x2 + (1 : Int32))), (0, .ref (a 0)), (1, .int v1)]) hx hb dX5_ofDocument_67 hl (k := 3) rfl rfl (by decide) rfl (fun ls hl => ?_)
          refine lv_goto (tgt := 39) hx hb dX5_ofDocument_70 (by decide) ?_
          exact ih39 _ _ _ _ _ hF hP hD hS _ (lv_sub hl [2, 3, 1, 0] rfl)
  have KE : ∀ (H : Heap) (locs : List Loc), va_P (dC, dI) vwCl ((W_Model cI a S)) H → va_D A ((W_Model cI a S)) → va_S A s.heap H locs → W p l e (headSpec wsX5_ofDocument ({ frames := 7, cells := 0, slots := 0, locals := 155 } : Room)).room s m ([.ref (a 0), .int v1] : List Value).toArray below meth c H locs 0 0 (MQ below (va_Qi (fun (r' : Int32) (u : S_Model) => rr = r' ∧ Y = u) (fun u : S_Model => jB (dC, dI) [(cI, .int)] A ((W_Model cI a u))) A) ([.ref (a 0), .int v1] : List Value).toArray s 0 0 A) (F0 m 0 ls []) := by
    intro H locs hP hD hS
    unfold F_X5_ofDocument at hF
    refine lv_aload_n hx hb dX5_ofDocument_0 rfl (lv_at hl 0 rfl) ?_
    obtain ⟨r4, u5, h6, hF⟩ := ob2_some hF
    have hPc : va_P (dC, dI) vwCl ((W_Model cI a S)) H := hP
    have hDc : va_D A ((W_Model cI a S)) := hD
    have hFc := va_free (wc := (W_Model cI a S)) hD hS hA [0, 1, 2, 3, 4, 5, 6, 7, 8, 9, 10, 11, 12, 13] rfl
    refine va_calli (va_runV (As := []) (rest := []) ⟨hx, hb, hml, hown, hts⟩ (c_X5_isText l dC dI cI a H.size _ _ _ h6) (cwV 0 hts gX5_ofDocument_X5_isText rfl rfl rfl (by decide +kernel) ⟨Nat.le_of_ble_eq_true rfl, Nat.le_of_ble_eq_true rfl⟩) (jPreV hK hPc hDc hN (ci := 5) rfl rfl) rfl rfl hl.1 rfl (lv_room (Nat.le_of_ble_eq_true rfl)) dX5_ofDocument_1 ⟨Nat.le_of_ble_eq_true rfl, Nat.le_of_ble_eq_true rfl⟩) hS (fun q _ h => hFc q h) hFc (fun r' u' t H locs ht hvm hw hB hz1 hk1 hS => ?_)
    obtain ⟨e1, e2⟩ := hw
    subst e1
    subst e2
    obtain ⟨hP1, -, hD1⟩ := hB
    rw [ht] at hP1
    have hP : va_P (dC, dI) vwCl ((W_Model cI a u5)) H := hP1
    have hD : va_D A ((W_Model cI a u5)) := hD1.weaken (fun _ _ _ h => hFc _ h)
    refine lv_if_ne (tgt := 9) hx hb dX5_ofDocument_4 (by decide) (fun c7 => ?_) (fun c7 => ?_)
    · have hF := F_neg c7 hF
      refine lv_iload_n hx hb dX5_ofDocument_9 rfl (lv_at hl 1 rfl) ?_
      refine lv_if_eq (tgt := 19) hx hb dX5_ofDocument_10 (by decide) (fun c8 => ?_) (fun c8 => ?_)
      · have hF := F_pos c8 hF
        refine lv_iload_n hx hb dX5_ofDocument_19 rfl (lv_at hl 1 rfl) ?_
        refine lv_if_ne (tgt := 30) hx hb dX5_ofDocument_20 (by decide) (fun c9 => ?_) (fun c9 => ?_)
        · have hF := F_neg c9 hF
          refine lv_aload_n hx hb dX5_ofDocument_30 rfl (lv_at hl 0 rfl) ?_
          refine va_get (D := (dC, dI)) (ci := 5) (v := .int (g_Model_deepest u5)) (C := RX5) (T := TX5) (N := 26) hx hb hts hinX5 hown hK hP 0 rfl rfl 17 (by decide) (hts (Cond.fieldLink RX5 99 "LearnedShapesModel" "deepest" "I") (List.mem_of_getElem? (i := 2) rfl)) (fun _ h9 => h9) rfl dX5_ofDocument_31 ?_
          have e50 := Option.some.inj hF
          obtain ⟨e60, e51⟩ := Prod.mk.inj e50
          subst e60
          subst e51
          exact W.iret (v := (g_Model_deepest u5)) hx hb hr (fun t ht hW => ⟨⟨(g_Model_deepest u5), u5, rfl, ⟨rfl, rfl⟩, by rw [ht]; exact hP, va_K.moved hW.alike hK, hD⟩, hS.F ht⟩) hS.2.2 dX5_ofDocument_34
        · have hF := F_pos c9 hF
          refine lv_aload_n hx hb dX5_ofDocument_23 rfl (lv_at hl 0 rfl) ?_
          refine va_get (D := (dC, dI)) (ci := 5) (v := .int (g_Model_valued u5)) (C := RX5) (T := TX5) (N := 26) hx hb hts hinX5 hown hK hP 0 rfl rfl 14 (by decide) (hts (Cond.fieldLink RX5 82 "LearnedShapesModel" "valued" "I") (List.mem_of_getElem? (i := 1) rfl)) (fun _ h9 => h9) rfl dX5_ofDocument_24 ?_
          refine lv_goto (tgt := 34) hx hb dX5_ofDocument_27 (by decide) ?_
          have e50 := Option.some.inj hF
          obtain ⟨e60, e51⟩ := Prod.mk.inj e50
          subst e60
          subst e51
          exact W.iret (v := (g_Model_valued u5)) hx hb hr (fun t ht hW => ⟨⟨(g_Model_valued u5), u5, rfl, ⟨rfl, rfl⟩, by rw [ht]; exact hP, va_K.moved hW.alike hK, hD⟩, hS.F ht⟩) hS.2.2 dX5_ofDocument_34
      · have hF := F_neg c8 hF
        refine lv_iload_n hx hb dX5_ofDocument_13 rfl (lv_at hl 1 rfl) ?_
        refine lv_bipush (v := (8 : Int32)) hx hb dX5_ofDocument_14 (by decide) ?_
        refine lv_icmp_ne (tgt := 35) hx hb dX5_ofDocument_16 (by decide) (fun c10 => ?_) (fun c10 => ?_)
        · have hF := F_neg c10 hF
          refine lv_iconst (v := (0 : Int32)) hx hb dX5_ofDocument_35 (by decide) ?_
          refine lv_istore_n (lv' := [(2, .int (0 : Int32)), (0, .ref (a 0)), (1, .int v1)]) hx hb dX5_ofDocument_36 rfl hl (by decide) rfl (fun ls hl => ?_)
          refine lv_iconst (v := (0 : Int32)) hx hb dX5_ofDocument_37 (by decide) ?_
          refine lv_istore_n (lv' := [(3, .int (0 : Int32)), (2, .int (0 : Int32)), (0, .ref (a 0)), (1, .int v1)]) hx hb dX5_ofDocument_38 rfl hl (by decide) rfl (fun ls hl => ?_)
          exact K39 _ _ _ _ _ _ hF hP hD hS _ (lv_sub hl [2, 3, 1, 0] rfl)
        · have hF := F_pos c10 hF
          refine lv_iload_n hx hb dX5_ofDocument_19 rfl (lv_at hl 1 rfl) ?_
          refine lv_if_ne (tgt := 30) hx hb dX5_ofDocument_20 (by decide) (fun c11 => ?_) (fun c11 => ?_)
          · have hF := F_neg c11 hF
            refine lv_aload_n hx hb dX5_ofDocument_30 rfl (lv_at hl 0 rfl) ?_
            refine va_get (D := (dC, dI)) (ci := 5) (v := .int (g_Model_deepest u5)) (C := RX5) (T := TX5) (N := 26) hx hb hts hinX5 hown hK hP 0 rfl rfl 17 (by decide) (hts (Cond.fieldLink RX5 99 "LearnedShapesModel" "deepest" "I") (List.mem_of_getElem? (i := 2) rfl)) (fun _ h9 => h9) rfl dX5_ofDocument_31 ?_
            have e50 := Option.some.inj hF
            obtain ⟨e60, e51⟩ := Prod.mk.inj e50
            subst e60
            subst e51
            exact W.iret (v := (g_Model_deepest u5)) hx hb hr (fun t ht hW => ⟨⟨(g_Model_deepest u5), u5, rfl, ⟨rfl, rfl⟩, by rw [ht]; exact hP, va_K.moved hW.alike hK, hD⟩, hS.F ht⟩) hS.2.2 dX5_ofDocument_34
          · have hF := F_pos c11 hF
            refine lv_aload_n hx hb dX5_ofDocument_23 rfl (lv_at hl 0 rfl) ?_
            refine va_get (D := (dC, dI)) (ci := 5) (v := .int (g_Model_valued u5)) (C := RX5) (T := TX5) (N := 26) hx hb hts hinX5 hown hK hP 0 rfl rfl 14 (by decide) (hts (Cond.fieldLink RX5 82 "LearnedShapesModel" "valued" "I") (List.mem_of_getElem? (i := 1) rfl)) (fun _ h9 => h9) rfl dX5_ofDocument_24 ?_
            refine lv_goto (tgt := 34) hx hb dX5_ofDocument_27 (by decide) ?_
            have e50 := Option.some.inj hF
            obtain ⟨e60, e51⟩ := Prod.mk.inj e50
            subst e60
            subst e51
            exact W.iret (v := (g_Model_valued u5)) hx hb hr (fun t ht hW => ⟨⟨(g_Model_valued u5), u5, rfl, ⟨rfl, rfl⟩, by rw [ht]; exact hP, va_K.moved hW.alike hK, hD⟩, hS.F ht⟩) hS.2.2 dX5_ofDocument_34
    · have hF := F_pos c7 hF
      refine lv_iconst (v := (-1 : Int32)) hx hb dX5_ofDocument_7 (by decide) ?_
      have e50 := Option.some.inj hF
      obtain ⟨e60, e51⟩ := Prod.mk.inj e50
      subst e60
      subst e51
      exact W.iret (v := (-1 : Int32)) hx hb hr (fun t ht hW => ⟨⟨(-1 : Int32), u5, rfl, ⟨rfl, rfl⟩, by rw [ht]; exact hP, va_K.moved hW.alike hK, hD⟩, hS.F ht⟩) hS.2.2 dX5_ofDocument_8
  exact KE _ _ hP hD hS
set_option maxHeartbeats 4000000 in
set_option maxRecDepth 100000 in
theorem c_X5_document (l : Launch) (dC : Nat → ClassId) (dI : Nat → Nat → Nat) (cI : ClassId) (a : Nat → Nat) (sz : Nat) (S : S_Model) (v1 : Int32) (rr : Int32) (Y : S_Model) (hF : F_X5_document S v1 = some (rr, Y)) : Met l yX5_document wsX5_document ({ frames := 8, cells := 0, slots := 0, locals := 178 } : Room) (va_Pc [.ref (a 0), .int v1] (jPre (dC, dI) [(cI, .int)] sz ((W_Model cI a S)))) (va_Qi (fun (r' : Int32) (u : S_Model) => rr = r' ∧ Y = u) (fun u : S_Model => jB (dC, dI) [(cI, .int)] (va_A ((W_Model cI a S)) sz) ((W_Model cI a u))) (va_A ((W_Model cI a S)) sz)) 0 0 (va_A ((W_Model cI a S)) sz) := by
  refine Met.ofW (cc := cX5_document) (maxL := 2) (ret := (some .int)) (by decide) rfl ?_
  intro p e s m args below meth c s₁ B hml hv
  obtain ⟨rfl, hsz, hP, hK, hD0, hN⟩ := hv
  have hx := B.exec
  have hb := B.bytes
  have hr := B.returns
  have hts := atoms_spec (ws := wsX5_document) B.pre
  have hown : s.vm.findClass RX5 = some m.cls := findClass_of_methodNamed B.named
  have hlocks := B.notSynchronized
  have hinX5 : ∀ w ∈ u_ws RX5 TX5 26, w ∈ wsX5_document := by decide +kernel
  subst hsz
  have hD := hD0.self (sz := s.heap.size)
  generalize hAe : (va_A ((W_Model cI a S)) s.heap.size) = A at hD ⊢
  have hA : ∀ q : Nat, s.heap.size ≤ q → A q := fun q h => by rw [← hAe]; exact Or.inr h
  have hS : va_S A s.heap s.heap [] := va_S.rf
  have hl := lv_entry ([.ref (a 0), .int v1]) (n := 2) (Nat.le_of_ble_eq_true rfl)
  rw [lg_entry_eq]
  generalize (lg_sl ([.ref (a 0), .int v1]) ++ List.replicate (2 - (lg_sl ([.ref (a 0), .int v1])).length) Slot.unset).toArray = ls at hl ⊢
  have hl : lv_has ls 2 [(0, .ref (a 0)), (1, .int v1)] := hl
  have KE : ∀ (H : Heap) (locs : List Loc), va_P (dC, dI) vwCl ((W_Model cI a S)) H → va_D A ((W_Model cI a S)) → va_S A s.heap H locs → W p l e (headSpec wsX5_document ({ frames := 8, cells := 0, slots := 0, locals := 178 } : Room)).room s m ([.ref (a 0), .int v1] : List Value).toArray below meth c H locs 0 0 (MQ below (va_Qi (fun (r' : Int32) (u : S_Model) => rr = r' ∧ Y = u) (fun u : S_Model => jB (dC, dI) [(cI, .int)] A ((W_Model cI a u))) A) ([.ref (a 0), .int v1] : List Value).toArray s 0 0 A) (F0 m 0 ls []) := by
    intro H locs hP hD hS
    unfold F_X5_document at hF
    refine lv_aload_n hx hb dX5_document_0 rfl (lv_at hl 0 rfl) ?_
    refine lv_iconst (v := (0 : Int32)) hx hb dX5_document_1 (by decide) ?_
    refine va_put (D := (dC, dI)) (ci := 5) (v := .int (0 : Int32)) (ty := .int) (C := RX5) (T := TX5) (N := 26) hx hb hts hinX5 tyX5 tyX5_ok nmX5 hown hK hP hD hS 0 rfl rfl 5 (by decide) (hts (Cond.fieldLink RX5 49 "LearnedShapesModel" "thrown" "I") (List.mem_of_getElem? (i := 1) rfl)) (fun _ h9 => h9) rfl (by decide +kernel) (rfl) rfl (Nat.le_of_ble_eq_true rfl) dX5_document_2 (fun H locs hP hD hS => ?_)
    have hP : va_P (dC, dI) vwCl ((W_Model cI a (s_Model_thrown S (0 : Int32)))) H := hP
    have hD : va_D A ((W_Model cI a (s_Model_thrown S (0 : Int32)))) := hD
    refine lv_iload_n hx hb dX5_document_5 rfl (lv_at hl 1 rfl) ?_
    refine lv_iconst (v := (0 : Int32)) hx hb dX5_document_6 (by decide) ?_
    refine lv_bipush (v := (8 : Int32)) hx hb dX5_document_7 (by decide) ?_
    obtain ⟨r1, h2, hF⟩ := ob1_some hF
    have hPc := hP.sub (ws' := ([] : va_W)) [] rfl
    have hDc := hD.sub (ws' := ([] : va_W)) [] (by decide) rfl
    have hFc := va_free (wc := ([] : va_W)) hD hS hA [] rfl
    refine va_calli (va_runS (As := [.int v1, .int (0 : Int32), .int (8 : Int32)]) (rest := []) ⟨hx, hb, hml, hown, hts⟩ (c_X5_in l dC dI cI  H.size _ _ _ _ h2) (va_cwS 3 hts gX5_document_X5_in rfl rfl rfl (by decide +kernel) ⟨Nat.le_of_ble_eq_true rfl, Nat.le_of_ble_eq_true rfl⟩) (jPreS hK hPc hDc hN) rfl rfl hl.1 rfl (lv_room (Nat.le_of_ble_eq_true rfl)) dX5_document_9 ⟨Nat.le_of_ble_eq_true rfl, Nat.le_of_ble_eq_true rfl⟩) hS (fun q _ h => hFc q h) hFc (fun r' u' t H locs ht hvm hw hB hz1 hk1 hS => ?_)
    subst hw
    obtain ⟨hP1, -, hD1⟩ := hB
    rw [ht] at hP1
    obtain ⟨hP, hD⟩ := jJoin (wc := ([] : va_W)) (w1 := ([] : va_W)) (ws' := (W_Model cI a (s_Model_thrown S (0 : Int32)))) hP hD [] [0, 1, 2, 3, 4, 5, 6, 7, 8, 9, 10, 11, 12, 13] [0, 1, 2, 3, 4, 5, 6, 7, 8, 9, 10, 11, 12, 13] rfl rfl (by decide) (by decide) hk1 hFc hP1 hD1 (by decide) rfl
    refine lv_if_eq (tgt := 23) hx hb dX5_document_12 (by decide) (fun c3 => ?_) (fun c3 => ?_)
    · have hF := F_pos c3 hF
      refine lv_aload_n hx hb dX5_document_23 rfl (lv_at hl 0 rfl) ?_
      refine lv_iconst (v := (1 : Int32)) hx hb dX5_document_24 (by decide) ?_
      obtain ⟨r4, u5, h6, hF⟩ := ob2_some hF
      have hPc : va_P (dC, dI) vwCl ((W_Model cI a (s_Model_thrown S (0 : Int32)))) H := hP
      have hDc : va_D A ((W_Model cI a (s_Model_thrown S (0 : Int32)))) := hD
      have hFc := va_free (wc := (W_Model cI a (s_Model_thrown S (0 : Int32)))) hD hS hA [0, 1, 2, 3, 4, 5, 6, 7, 8, 9, 10, 11, 12, 13] rfl
      refine va_calli (va_runV (As := [.int (1 : Int32)]) (rest := []) ⟨hx, hb, hml, hown, hts⟩ (c_X5_fails l dC dI cI a H.size _ _ _ _ h6) (cwV 1 hts gX5_document_X5_fails rfl rfl rfl (by decide +kernel) ⟨Nat.le_of_ble_eq_true rfl, Nat.le_of_ble_eq_true rfl⟩) (jPreV hK hPc hDc hN (ci := 5) rfl rfl) rfl rfl hl.1 rfl (lv_room (Nat.le_of_ble_eq_true rfl)) dX5_document_25 ⟨Nat.le_of_ble_eq_true rfl, Nat.le_of_ble_eq_true rfl⟩) hS (fun q _ h => hFc q h) hFc (fun r' u' t H locs ht hvm hw hB hz1 hk1 hS => ?_)
      obtain ⟨e1, e2⟩ := hw
      subst e1
      subst e2
      obtain ⟨hP1, -, hD1⟩ := hB
      rw [ht] at hP1
      have hP : va_P (dC, dI) vwCl ((W_Model cI a u5)) H := hP1
      have hD : va_D A ((W_Model cI a u5)) := hD1.weaken (fun _ _ _ h => hFc _ h)
      have e50 := Option.some.inj hF
      obtain ⟨e60, e51⟩ := Prod.mk.inj e50
      subst e60
      subst e51
      exact W.iret (v := r4) hx hb hr (fun t ht hW => ⟨⟨r4, u5, rfl, ⟨rfl, rfl⟩, by rw [ht]; exact hP, va_K.moved hW.alike hK, hD⟩, hS.F ht⟩) hS.2.2 dX5_document_28
    · have hF := F_neg c3 hF
      refine lv_aload_n hx hb dX5_document_15 rfl (lv_at hl 0 rfl) ?_
      refine lv_iload_n hx hb dX5_document_16 rfl (lv_at hl 1 rfl) ?_
      obtain ⟨r7, u8, h9, hF⟩ := ob2_some hF
      have hPc : va_P (dC, dI) vwCl ((W_Model cI a (s_Model_thrown S (0 : Int32)))) H := hP
      have hDc : va_D A ((W_Model cI a (s_Model_thrown S (0 : Int32)))) := hD
      have hFc := va_free (wc := (W_Model cI a (s_Model_thrown S (0 : Int32)))) hD hS hA [0, 1, 2, 3, 4, 5, 6, 7, 8, 9, 10, 11, 12, 13] rfl
      refine va_calli (va_runV (As := [.int v1]) (rest := []) ⟨hx, hb, hml, hown, hts⟩ (c_X5_ofDocument l dC dI cI a H.size _ _ _ _ h9) (cwV 1 hts gX5_document_X5_ofDocument rfl rfl rfl (by decide +kernel) ⟨Nat.le_of_ble_eq_true rfl, Nat.le_of_ble_eq_true rfl⟩) (jPreV hK hPc hDc hN (ci := 5) rfl rfl) rfl rfl hl.1 rfl (lv_room (Nat.le_of_ble_eq_true rfl)) dX5_document_17 ⟨Nat.le_of_ble_eq_true rfl, Nat.le_of_ble_eq_true rfl⟩) hS (fun q _ h => hFc q h) hFc (fun r' u' t H locs ht hvm hw hB hz1 hk1 hS => ?_)
      obtain ⟨e1, e2⟩ := hw
      subst e1
      subst e2
      obtain ⟨hP1, -, hD1⟩ := hB
      rw [ht] at hP1
      have hP : va_P (dC, dI) vwCl ((W_Model cI a u8)) H := hP1
      have hD : va_D A ((W_Model cI a u8)) := hD1.weaken (fun _ _ _ h => hFc _ h)
      refine lv_goto (tgt := 28) hx hb dX5_document_20 (by decide) ?_
      have e50 := Option.some.inj hF
      obtain ⟨e60, e51⟩ := Prod.mk.inj e50
      subst e60
      subst e51
      exact W.iret (v := r7) hx hb hr (fun t ht hW => ⟨⟨r7, u8, rfl, ⟨rfl, rfl⟩, by rw [ht]; exact hP, va_K.moved hW.alike hK, hD⟩, hS.F ht⟩) hS.2.2 dX5_document_28
  exact KE _ _ hP hD hS
set_option maxHeartbeats 4000000 in
set_option maxRecDepth 100000 in
theorem c_X5_count (l : Launch) (dC : Nat → ClassId) (dI : Nat → Nat → Nat) (cI : ClassId) (a : Nat → Nat) (sz : Nat) (S : S_Model) (v1 : Int32) (rr : Int32) (Y : S_Model) (hF : F_X5_count S v1 = some (rr, Y)) : Met l yX5_count wsX5_count ({ frames := 1, cells := 0, slots := 0, locals := 22 } : Room) (va_Pc [.ref (a 0), .int v1] (jPre (dC, dI) [(cI, .int)] sz ((W_Model cI a S)))) (va_Qi (fun (r' : Int32) (u : S_Model) => rr = r' ∧ Y = u) (fun u : S_Model => jB (dC, dI) [(cI, .int)] (va_A ((W_Model cI a S)) sz) ((W_Model cI a u))) (va_A ((W_Model cI a S)) sz)) 0 0 (va_A ((W_Model cI a S)) sz) := by
  refine Met.ofW (cc := cX5_count) (maxL := 2) (ret := (some .int)) (by decide) rfl ?_
  intro p e s m args below meth c s₁ B hml hv
  obtain ⟨rfl, hsz, hP, hK, hD0, hN⟩ := hv
  have hx := B.exec
  have hb := B.bytes
  have hr := B.returns
  have hts := atoms_spec (ws := wsX5_count) B.pre
  have hown : s.vm.findClass RX5 = some m.cls := findClass_of_methodNamed B.named
  have hlocks := B.notSynchronized
  have hinX5 : ∀ w ∈ u_ws RX5 TX5 26, w ∈ wsX5_count := by decide +kernel
  subst hsz
  have hD := hD0.self (sz := s.heap.size)
  generalize hAe : (va_A ((W_Model cI a S)) s.heap.size) = A at hD ⊢
  have hA : ∀ q : Nat, s.heap.size ≤ q → A q := fun q h => by rw [← hAe]; exact Or.inr h
  have hS : va_S A s.heap s.heap [] := va_S.rf
  have hl := lv_entry ([.ref (a 0), .int v1]) (n := 2) (Nat.le_of_ble_eq_true rfl)
  rw [lg_entry_eq]
  generalize (lg_sl ([.ref (a 0), .int v1]) ++ List.replicate (2 - (lg_sl ([.ref (a 0), .int v1])).length) Slot.unset).toArray = ls at hl ⊢
  have hl : lv_has ls 2 [(0, .ref (a 0)), (1, .int v1)] := hl
  have KE : ∀ (H : Heap) (locs : List Loc), va_P (dC, dI) vwCl ((W_Model cI a S)) H → va_D A ((W_Model cI a S)) → va_S A s.heap H locs → W p l e (headSpec wsX5_count ({ frames := 1, cells := 0, slots := 0, locals := 22 } : Room)).room s m ([.ref (a 0), .int v1] : List Value).toArray below meth c H locs 0 0 (MQ below (va_Qi (fun (r' : Int32) (u : S_Model) => rr = r' ∧ Y = u) (fun u : S_Model => jB (dC, dI) [(cI, .int)] A ((W_Model cI a u))) A) ([.ref (a 0), .int v1] : List Value).toArray s 0 0 A) (F0 m 0 ls []) := by
    intro H locs hP hD hS
    unfold F_X5_count at hF
    refine lv_aload_n hx hb dX5_count_0 rfl (lv_at hl 0 rfl) ?_
    refine lv_iconst (v := (0 : Int32)) hx hb dX5_count_1 (by decide) ?_
    refine va_put (D := (dC, dI)) (ci := 5) (v := .int (0 : Int32)) (ty := .int) (C := RX5) (T := TX5) (N := 26) hx hb hts hinX5 tyX5 tyX5_ok nmX5 hown hK hP hD hS 0 rfl rfl 5 (by decide) (hts (Cond.fieldLink RX5 49 "LearnedShapesModel" "thrown" "I") (List.mem_of_getElem? (i := 1) rfl)) (fun _ h9 => h9) rfl (by decide +kernel) (rfl) rfl (Nat.le_of_ble_eq_true rfl) dX5_count_2 (fun H locs hP hD hS => ?_)
    have hP : va_P (dC, dI) vwCl ((W_Model cI a (s_Model_thrown S (0 : Int32)))) H := hP
    have hD : va_D A ((W_Model cI a (s_Model_thrown S (0 : Int32)))) := hD
    refine lv_iload_n hx hb dX5_count_5 rfl (lv_at hl 1 rfl) ?_
    refine lv_iconst (v := (0 : Int32)) hx hb dX5_count_6 (by decide) ?_
    refine lv_iconst (v := (2 : Int32)) hx hb dX5_count_7 (by decide) ?_
    obtain ⟨r1, h2, hF⟩ := ob1_some hF
    have hPc := hP.sub (ws' := ([] : va_W)) [] rfl
    have hDc := hD.sub (ws' := ([] : va_W)) [] (by decide) rfl
    have hFc := va_free (wc := ([] : va_W)) hD hS hA [] rfl
    refine va_calli (va_runS (As := [.int v1, .int (0 : Int32), .int (2 : Int32)]) (rest := []) ⟨hx, hb, hml, hown, hts⟩ (c_X5_in l dC dI cI  H.size _ _ _ _ h2) (va_cwS 3 hts gX5_count_X5_in rfl rfl rfl (by decide +kernel) ⟨Nat.le_of_ble_eq_true rfl, Nat.le_of_ble_eq_true rfl⟩) (jPreS hK hPc hDc hN) rfl rfl hl.1 rfl (lv_room (Nat.le_of_ble_eq_true rfl)) dX5_count_8 ⟨Nat.le_of_ble_eq_true rfl, Nat.le_of_ble_eq_true rfl⟩) hS (fun q _ h => hFc q h) hFc (fun r' u' t H locs ht hvm hw hB hz1 hk1 hS => ?_)
    subst hw
    obtain ⟨hP1, -, hD1⟩ := hB
    rw [ht] at hP1
    obtain ⟨hP, hD⟩ := jJoin (wc := ([] : va_W)) (w1 := ([] : va_W)) (ws' := (W_Model cI a (s_Model_thrown S (0 : Int32)))) hP hD [] [0, 1, 2, 3, 4, 5, 6, 7, 8, 9, 10, 11, 12, 13] [0, 1, 2, 3, 4, 5, 6, 7, 8, 9, 10, 11, 12, 13] rfl rfl (by decide) (by decide) hk1 hFc hP1 hD1 (by decide) rfl
    refine lv_if_eq (tgt := 46) hx hb dX5_count_11 (by decide) (fun c3 => ?_) (fun c3 => ?_)
    · have hF := F_pos c3 hF
      refine lv_aload_n hx hb dX5_count_46 rfl (lv_at hl 0 rfl) ?_
      refine lv_iconst (v := (1 : Int32)) hx hb dX5_count_47 (by decide) ?_
      obtain ⟨r4, u5, h6, hF⟩ := ob2_some hF
      have hPc : va_P (dC, dI) vwCl ((W_Model cI a (s_Model_thrown S (0 : Int32)))) H := hP
      have hDc : va_D A ((W_Model cI a (s_Model_thrown S (0 : Int32)))) := hD
      have hFc := va_free (wc := (W_Model cI a (s_Model_thrown S (0 : Int32)))) hD hS hA [0, 1, 2, 3, 4, 5, 6, 7, 8, 9, 10, 11, 12, 13] rfl
      refine va_calli (va_runV (As := [.int (1 : Int32)]) (rest := []) ⟨hx, hb, hml, hown, hts⟩ (c_X5_fails l dC dI cI a H.size _ _ _ _ h6) (cwV 1 hts gX5_count_X5_fails rfl rfl rfl (by decide +kernel) ⟨Nat.le_of_ble_eq_true rfl, Nat.le_of_ble_eq_true rfl⟩) (jPreV hK hPc hDc hN (ci := 5) rfl rfl) rfl rfl hl.1 rfl (lv_room (Nat.le_of_ble_eq_true rfl)) dX5_count_48 ⟨Nat.le_of_ble_eq_true rfl, Nat.le_of_ble_eq_true rfl⟩) hS (fun q _ h => hFc q h) hFc (fun r' u' t H locs ht hvm hw hB hz1 hk1 hS => ?_)
      obtain ⟨e1, e2⟩ := hw
      subst e1
      subst e2
      obtain ⟨hP1, -, hD1⟩ := hB
      rw [ht] at hP1
      have hP : va_P (dC, dI) vwCl ((W_Model cI a u5)) H := hP1
      have hD : va_D A ((W_Model cI a u5)) := hD1.weaken (fun _ _ _ h => hFc _ h)
      have e50 := Option.some.inj hF
      obtain ⟨e60, e51⟩ := Prod.mk.inj e50
      subst e60
      subst e51
      exact W.iret (v := r4) hx hb hr (fun t ht hW => ⟨⟨r4, u5, rfl, ⟨rfl, rfl⟩, by rw [ht]; exact hP, va_K.moved hW.alike hK, hD⟩, hS.F ht⟩) hS.2.2 dX5_count_51
    · have hF := F_neg c3 hF
      refine lv_iload_n hx hb dX5_count_14 rfl (lv_at hl 1 rfl) ?_
      refine lv_if_ne (tgt := 27) hx hb dX5_count_15 (by decide) (fun c7 => ?_) (fun c7 => ?_)
      · have hF := F_neg c7 hF
        refine lv_iload_n hx hb dX5_count_27 rfl (lv_at hl 1 rfl) ?_
        refine lv_iconst (v := (1 : Int32)) hx hb dX5_count_28 (by decide) ?_
        refine lv_icmp_ne (tgt := 39) hx hb dX5_count_29 (by decide) (fun c8 => ?_) (fun c8 => ?_)
        · have hF := F_neg c8 hF
          refine lv_aload_n hx hb dX5_count_39 rfl (lv_at hl 0 rfl) ?_
          refine va_get (D := (dC, dI)) (ci := 5) (v := .int (g_Model_kept S)) (C := RX5) (T := TX5) (N := 26) hx hb hts hinX5 hown hK hP 0 rfl rfl 2 (by decide) (hts (Cond.fieldLink RX5 61 "LearnedShapesModel" "kept" "I") (List.mem_of_getElem? (i := 4) rfl)) (fun _ h9 => h9) rfl dX5_count_40 ?_
          refine lv_goto (tgt := 51) hx hb dX5_count_43 (by decide) ?_
          have e50 := Option.some.inj hF
          obtain ⟨e60, e51⟩ := Prod.mk.inj e50
          subst e60
          subst e51
          exact W.iret (v := (g_Model_kept S)) hx hb hr (fun t ht hW => ⟨⟨(g_Model_kept S), (s_Model_thrown S (0 : Int32)), rfl, ⟨rfl, rfl⟩, by rw [ht]; exact hP, va_K.moved hW.alike hK, hD⟩, hS.F ht⟩) hS.2.2 dX5_count_51
        · have hF := F_pos c8 hF
          refine lv_aload_n hx hb dX5_count_32 rfl (lv_at hl 0 rfl) ?_
          refine va_get (D := (dC, dI)) (ci := 5) (v := .int (g_Model_typed S)) (C := RX5) (T := TX5) (N := 26) hx hb hts hinX5 hown hK hP 0 rfl rfl 4 (by decide) (hts (Cond.fieldLink RX5 71 "LearnedShapesModel" "typed" "I") (List.mem_of_getElem? (i := 3) rfl)) (fun _ h9 => h9) rfl dX5_count_33 ?_
          refine lv_goto (tgt := 51) hx hb dX5_count_36 (by decide) ?_
          have e50 := Option.some.inj hF
          obtain ⟨e60, e51⟩ := Prod.mk.inj e50
          subst e60
          subst e51
          exact W.iret (v := (g_Model_typed S)) hx hb hr (fun t ht hW => ⟨⟨(g_Model_typed S), (s_Model_thrown S (0 : Int32)), rfl, ⟨rfl, rfl⟩, by rw [ht]; exact hP, va_K.moved hW.alike hK, hD⟩, hS.F ht⟩) hS.2.2 dX5_count_51
      · have hF := F_pos c7 hF
        refine lv_aload_n hx hb dX5_count_18 rfl (lv_at hl 0 rfl) ?_
        refine va_get (D := (dC, dI)) (ci := 5) (v := .ref (a 1)) (C := RX5) (T := TX5) (N := 26) hx hb hts hinX5 hown hK hP 0 rfl rfl 0 (by decide) (hts (Cond.fieldLink RX5 7 "LearnedShapesModel" "now" "[I") (List.mem_of_getElem? (i := 2) rfl)) (fun _ h9 => h9) rfl dX5_count_19 ?_
        refine lv_iconst (v := (0 : Int32)) hx hb dX5_count_22 (by decide) ?_
        obtain ⟨g9, hF⟩ := og_some hF
        refine va_iald (f := (g_Model_now S)) hx hb hK hP 1 0 rfl rfl (inb_in g9) dX5_count_23 ?_
        refine lv_goto (tgt := 51) hx hb dX5_count_24 (by decide) ?_
        have e50 := Option.some.inj hF
        obtain ⟨e60, e51⟩ := Prod.mk.inj e50
        subst e60
        subst e51
        exact W.iret (v := ((g_Model_now S) (0 : Int32).toNatClampNeg)) hx hb hr (fun t ht hW => ⟨⟨((g_Model_now S) (0 : Int32).toNatClampNeg), (s_Model_thrown S (0 : Int32)), rfl, ⟨rfl, rfl⟩, by rw [ht]; exact hP, va_K.moved hW.alike hK, hD⟩, hS.F ht⟩) hS.2.2 dX5_count_51
  exact KE _ _ hP hD hS
set_option maxHeartbeats 4000000 in
set_option maxRecDepth 100000 in
theorem c_X5_misfits (l : Launch) (dC : Nat → ClassId) (dI : Nat → Nat → Nat) (cI : ClassId) (a : Nat → Nat) (sz : Nat) (S : S_Model) (v1 : Int32) (v2 : Int32) (v3 : Int32) (Y : S_Model) (hF : F_X5_misfits S v1 v2 v3 = some Y) : Met l yX5_misfits wsX5_misfits ({ frames := 0, cells := 0, slots := 0, locals := 0 } : Room) (va_Pc [.ref (a 0), .int v1, .int v2, .int v3] (jPre (dC, dI) [(cI, .int)] sz ((W_Model cI a S)))) (va_Qv (fun u : S_Model => Y = u) (fun u : S_Model => jB (dC, dI) [(cI, .int)] (va_A ((W_Model cI a S)) sz) ((W_Model cI a u))) (va_A ((W_Model cI a S)) sz)) 0 0 (va_A ((W_Model cI a S)) sz) := by
  refine Met.ofW (cc := cX5_misfits) (maxL := 4) (ret := none) (by decide) rfl ?_
  intro p e s m args below meth c s₁ B hml hv
  obtain ⟨rfl, hsz, hP, hK, hD0, hN⟩ := hv
  have hx := B.exec
  have hb := B.bytes
  have hr := B.returns
  have hts := atoms_spec (ws := wsX5_misfits) B.pre
  have hown : s.vm.findClass RX5 = some m.cls := findClass_of_methodNamed B.named
  have hlocks := B.notSynchronized
  have hinX5 : ∀ w ∈ u_ws RX5 TX5 26, w ∈ wsX5_misfits := by decide +kernel
  subst hsz
  have hD := hD0.self (sz := s.heap.size)
  generalize hAe : (va_A ((W_Model cI a S)) s.heap.size) = A at hD ⊢
  have hA : ∀ q : Nat, s.heap.size ≤ q → A q := fun q h => by rw [← hAe]; exact Or.inr h
  have hS : va_S A s.heap s.heap [] := va_S.rf
  have hl := lv_entry ([.ref (a 0), .int v1, .int v2, .int v3]) (n := 4) (Nat.le_of_ble_eq_true rfl)
  rw [lg_entry_eq]
  generalize (lg_sl ([.ref (a 0), .int v1, .int v2, .int v3]) ++ List.replicate (4 - (lg_sl ([.ref (a 0), .int v1, .int v2, .int v3])).length) Slot.unset).toArray = ls at hl ⊢
  have hl : lv_has ls 4 [(0, .ref (a 0)), (1, .int v1), (2, .int v2), (3, .int v3)] := hl
  have KE : ∀ (H : Heap) (locs : List Loc), va_P (dC, dI) vwCl ((W_Model cI a S)) H → va_D A ((W_Model cI a S)) → va_S A s.heap H locs → W p l e (headSpec wsX5_misfits ({ frames := 0, cells := 0, slots := 0, locals := 0 } : Room)).room s m ([.ref (a 0), .int v1, .int v2, .int v3] : List Value).toArray below meth c H locs 0 0 (MQ below (va_Qv (fun u : S_Model => Y = u) (fun u : S_Model => jB (dC, dI) [(cI, .int)] A ((W_Model cI a u))) A) ([.ref (a 0), .int v1, .int v2, .int v3] : List Value).toArray s 0 0 A) (F0 m 0 ls []) := by
    intro H locs hP hD hS
    unfold F_X5_misfits at hF
    refine lv_aload_n hx hb dX5_misfits_0 rfl (lv_at hl 0 rfl) ?_
    refine va_get (D := (dC, dI)) (ci := 5) (v := .int (g_Model_misfit S)) (C := RX5) (T := TX5) (N := 26) hx hb hts hinX5 hown hK hP 0 rfl rfl 23 (by decide) (hts (Cond.fieldLink RX5 210 "LearnedShapesModel" "misfit" "I") (List.mem_of_getElem? (i := 1) rfl)) (fun _ h9 => h9) rfl dX5_misfits_1 ?_
    refine lv_if_eq (tgt := 15) hx hb dX5_misfits_4 (by decide) (fun c1 => ?_) (fun c1 => ?_)
    · have hF := F_pos c1 hF
      refine lv_aload_n hx hb dX5_misfits_15 rfl (lv_at hl 0 rfl) ?_
      refine lv_iload_n hx hb dX5_misfits_16 rfl (lv_at hl 1 rfl) ?_
      refine va_put (D := (dC, dI)) (ci := 5) (v := .int v1) (ty := .int) (C := RX5) (T := TX5) (N := 26) hx hb hts hinX5 tyX5 tyX5_ok nmX5 hown hK hP hD hS 0 rfl rfl 23 (by decide) (hts (Cond.fieldLink RX5 210 "LearnedShapesModel" "misfit" "I") (List.mem_of_getElem? (i := 1) rfl)) (fun _ h9 => h9) rfl (by decide +kernel) (rfl) rfl (Nat.le_of_ble_eq_true rfl) dX5_misfits_17 (fun H locs hP hD hS => ?_)
      have hP : va_P (dC, dI) vwCl ((W_Model cI a (s_Model_misfit S v1))) H := hP
      have hD : va_D A ((W_Model cI a (s_Model_misfit S v1))) := hD
      refine lv_aload_n hx hb dX5_misfits_20 rfl (lv_at hl 0 rfl) ?_
      refine lv_iload_n hx hb dX5_misfits_21 rfl (lv_at hl 2 rfl) ?_
      refine va_put (D := (dC, dI)) (ci := 5) (v := .int v2) (ty := .int) (C := RX5) (T := TX5) (N := 26) hx hb hts hinX5 tyX5 tyX5_ok nmX5 hown hK hP hD hS 0 rfl rfl 24 (by decide) (hts (Cond.fieldLink RX5 213 "LearnedShapesModel" "misfitAt" "I") (List.mem_of_getElem? (i := 2) rfl)) (fun _ h9 => h9) rfl (by decide +kernel) (rfl) rfl (Nat.le_of_ble_eq_true rfl) dX5_misfits_22 (fun H locs hP hD hS => ?_)
      have hP : va_P (dC, dI) vwCl ((W_Model cI a (s_Model_misfitAt (s_Model_misfit S v1) v2))) H := hP
      have hD : va_D A ((W_Model cI a (s_Model_misfitAt (s_Model_misfit S v1) v2))) := hD
      refine lv_aload_n hx hb dX5_misfits_25 rfl (lv_at hl 0 rfl) ?_
      refine lv_iload_n hx hb dX5_misfits_26 rfl (lv_at hl 3 rfl) ?_
      refine va_put (D := (dC, dI)) (ci := 5) (v := .int v3) (ty := .int) (C := RX5) (T := TX5) (N := 26) hx hb hts hinX5 tyX5 tyX5_ok nmX5 hown hK hP hD hS 0 rfl rfl 25 (by decide) (hts (Cond.fieldLink RX5 216 "LearnedShapesModel" "misfitNode" "I") (List.mem_of_getElem? (i := 3) rfl)) (fun _ h9 => h9) rfl (by decide +kernel) (rfl) rfl (Nat.le_of_ble_eq_true rfl) dX5_misfits_27 (fun H locs hP hD hS => ?_)
      have hP : va_P (dC, dI) vwCl ((W_Model cI a (s_Model_misfitNode (s_Model_misfitAt (s_Model_misfit S v1) v2) v3))) H := hP
      have hD : va_D A ((W_Model cI a (s_Model_misfitNode (s_Model_misfitAt (s_Model_misfit S v1) v2) v3))) := hD
      have e50 := Option.some.inj hF
      subst e50
      exact W.vret hx hb hr (fun t ht hW => ⟨⟨(s_Model_misfitNode (s_Model_misfitAt (s_Model_misfit S v1) v2) v3), rfl, rfl, by rw [ht]; exact hP, va_K.moved hW.alike hK, hD⟩, hS.F ht⟩) hS.2.2 dX5_misfits_30
    · have hF := F_neg c1 hF
      refine lv_iload_n hx hb dX5_misfits_7 rfl (lv_at hl 2 rfl) ?_
      refine lv_aload_n hx hb dX5_misfits_8 rfl (lv_at hl 0 rfl) ?_
      refine va_get (D := (dC, dI)) (ci := 5) (v := .int (g_Model_misfitAt S)) (C := RX5) (T := TX5) (N := 26) hx hb hts hinX5 hown hK hP 0 rfl rfl 24 (by decide) (hts (Cond.fieldLink RX5 213 "LearnedShapesModel" "misfitAt" "I") (List.mem_of_getElem? (i := 2) rfl)) (fun _ h9 => h9) rfl dX5_misfits_9 ?_
      refine lv_icmp_ge (tgt := 30) hx hb dX5_misfits_12 (by decide) (fun c2 => ?_) (fun c2 => ?_)
      · have hF := F_pos c2 hF
        have e50 := Option.some.inj hF
        subst e50
        exact W.vret hx hb hr (fun t ht hW => ⟨⟨S, rfl, rfl, by rw [ht]; exact hP, va_K.moved hW.alike hK, hD⟩, hS.F ht⟩) hS.2.2 dX5_misfits_30
      · have hF := F_neg c2 hF
        refine lv_aload_n hx hb dX5_misfits_15 rfl (lv_at hl 0 rfl) ?_
        refine lv_iload_n hx hb dX5_misfits_16 rfl (lv_at hl 1 rfl) ?_
        refine va_put (D := (dC, dI)) (ci := 5) (v := .int v1) (ty := .int) (C := RX5) (T := TX5) (N := 26) hx hb hts hinX5 tyX5 tyX5_ok nmX5 hown hK hP hD hS 0 rfl rfl 23 (by decide) (hts (Cond.fieldLink RX5 210 "LearnedShapesModel" "misfit" "I") (List.mem_of_getElem? (i := 1) rfl)) (fun _ h9 => h9) rfl (by decide +kernel) (rfl) rfl (Nat.le_of_ble_eq_true rfl) dX5_misfits_17 (fun H locs hP hD hS => ?_)
        have hP : va_P (dC, dI) vwCl ((W_Model cI a (s_Model_misfit S v1))) H := hP
        have hD : va_D A ((W_Model cI a (s_Model_misfit S v1))) := hD
        refine lv_aload_n hx hb dX5_misfits_20 rfl (lv_at hl 0 rfl) ?_
        refine lv_iload_n hx hb dX5_misfits_21 rfl (lv_at hl 2 rfl) ?_
        refine va_put (D := (dC, dI)) (ci := 5) (v := .int v2) (ty := .int) (C := RX5) (T := TX5) (N := 26) hx hb hts hinX5 tyX5 tyX5_ok nmX5 hown hK hP hD hS 0 rfl rfl 24 (by decide) (hts (Cond.fieldLink RX5 213 "LearnedShapesModel" "misfitAt" "I") (List.mem_of_getElem? (i := 2) rfl)) (fun _ h9 => h9) rfl (by decide +kernel) (rfl) rfl (Nat.le_of_ble_eq_true rfl) dX5_misfits_22 (fun H locs hP hD hS => ?_)
        have hP : va_P (dC, dI) vwCl ((W_Model cI a (s_Model_misfitAt (s_Model_misfit S v1) v2))) H := hP
        have hD : va_D A ((W_Model cI a (s_Model_misfitAt (s_Model_misfit S v1) v2))) := hD
        refine lv_aload_n hx hb dX5_misfits_25 rfl (lv_at hl 0 rfl) ?_
        refine lv_iload_n hx hb dX5_misfits_26 rfl (lv_at hl 3 rfl) ?_
        refine va_put (D := (dC, dI)) (ci := 5) (v := .int v3) (ty := .int) (C := RX5) (T := TX5) (N := 26) hx hb hts hinX5 tyX5 tyX5_ok nmX5 hown hK hP hD hS 0 rfl rfl 25 (by decide) (hts (Cond.fieldLink RX5 216 "LearnedShapesModel" "misfitNode" "I") (List.mem_of_getElem? (i := 3) rfl)) (fun _ h9 => h9) rfl (by decide +kernel) (rfl) rfl (Nat.le_of_ble_eq_true rfl) dX5_misfits_27 (fun H locs hP hD hS => ?_)
        have hP : va_P (dC, dI) vwCl ((W_Model cI a (s_Model_misfitNode (s_Model_misfitAt (s_Model_misfit S v1) v2) v3))) H := hP
        have hD : va_D A ((W_Model cI a (s_Model_misfitNode (s_Model_misfitAt (s_Model_misfit S v1) v2) v3))) := hD
        have e50 := Option.some.inj hF
        subst e50
        exact W.vret hx hb hr (fun t ht hW => ⟨⟨(s_Model_misfitNode (s_Model_misfitAt (s_Model_misfit S v1) v2) v3), rfl, rfl, by rw [ht]; exact hP, va_K.moved hW.alike hK, hD⟩, hS.F ht⟩) hS.2.2 dX5_misfits_30
  exact KE _ _ hP hD hS
set_option maxHeartbeats 4000000 in
set_option maxRecDepth 100000 in
theorem c_X5_holds (l : Launch) (dC : Nat → ClassId) (dI : Nat → Nat → Nat) (cI : ClassId) (a : Nat → Nat) (sz : Nat) (S : S_Model) (v1 : Int32) (v2 : Int32) (rr : Int32) (Y : S_Model) (hF : F_X5_holds S v1 v2 = some (rr, Y)) : Met l yX5_holds wsX5_holds ({ frames := 2, cells := 0, slots := 0, locals := 47 } : Room) (va_Pc [.ref (a 0), .int v1, .int v2] (jPre (dC, dI) [(cI, .int)] sz ((W_Model cI a S)))) (va_Qi (fun (r' : Int32) (u : S_Model) => rr = r' ∧ Y = u) (fun u : S_Model => jB (dC, dI) [(cI, .int)] (va_A ((W_Model cI a S)) sz) ((W_Model cI a u))) (va_A ((W_Model cI a S)) sz)) 0 0 (va_A ((W_Model cI a S)) sz) := by
  refine Met.ofW (cc := cX5_holds) (maxL := 6) (ret := (some .int)) (by decide) rfl ?_
  intro p e s m args below meth c s₁ B hml hv
  obtain ⟨rfl, hsz, hP, hK, hD0, hN⟩ := hv
  have hx := B.exec
  have hb := B.bytes
  have hr := B.returns
  have hts := atoms_spec (ws := wsX5_holds) B.pre
  have hown : s.vm.findClass RX5 = some m.cls := findClass_of_methodNamed B.named
  have hlocks := B.notSynchronized
  have hinX5 : ∀ w ∈ u_ws RX5 TX5 26, w ∈ wsX5_holds := by decide +kernel
  subst hsz
  have hD := hD0.self (sz := s.heap.size)
  generalize hAe : (va_A ((W_Model cI a S)) s.heap.size) = A at hD ⊢
  have hA : ∀ q : Nat, s.heap.size ≤ q → A q := fun q h => by rw [← hAe]; exact Or.inr h
  have hS : va_S A s.heap s.heap [] := va_S.rf
  have hl := lv_entry ([.ref (a 0), .int v1, .int v2]) (n := 6) (Nat.le_of_ble_eq_true rfl)
  rw [lg_entry_eq]
  generalize (lg_sl ([.ref (a 0), .int v1, .int v2]) ++ List.replicate (6 - (lg_sl ([.ref (a 0), .int v1, .int v2])).length) Slot.unset).toArray = ls at hl ⊢
  have hl : lv_has ls 6 [(0, .ref (a 0)), (1, .int v1), (2, .int v2)] := hl
  have K157 : ∀ (S : S_Model) (x4 : Int32) (t0 : Bool) (H : Heap) (locs : List Loc), F_X5_holds_157 v1 v2 S x4 t0 = some (rr, Y) → va_P (dC, dI) vwCl ((W_Model cI a S)) H → va_D A ((W_Model cI a S)) → va_S A s.heap H locs → ∀ ls : Array Slot, lv_has ls 6 [(0, .ref (a 0)), (1, .int v1), (2, .int v2), (4, .int x4)] → W p l e (headSpec wsX5_holds ({ frames := 2, cells := 0, slots := 0, locals := 47 } : Room)).room s m ([.ref (a 0), .int v1, .int v2] : List Value).toArray below meth c H locs 0 0 (MQ below (va_Qi (fun (r' : Int32) (u : S_Model) => rr = r' ∧ Y = u) (fun u : S_Model => jB (dC, dI) [(cI, .int)] A ((W_Model cI a u))) A) ([.ref (a 0), .int v1, .int v2] : List Value).toArray s 0 0 A) (F0 m 157 ls [.int (b2i t0)]) := by
    intro S x4 t0 H locs hF hP hD hS ls hl
    unfold F_X5_holds_157 at hF
    refine lv_istore (lv' := [(5, .int (b2i t0)), (0, .ref (a 0)), (1, .int v1), (2, .int v2), (4, .int x4)]) hx hb dX5_holds_157 hl (by decide) rfl (fun ls hl => ?_)
    refine lv_iload hx hb dX5_holds_159 (lv_at hl 0 rfl) ?_
    refine lv_if_ne (tgt := 177) hx hb dX5_holds_161 (by decide) (fun c1 => ?_) (fun c1 => ?_)
    · have hF := F_neg c1 hF
      refine lv_iload hx hb dX5_holds_177 (lv_at hl 0 rfl) ?_
      refine lv_if_eq (tgt := 200) hx hb dX5_holds_179 (by decide) (fun c2 => ?_) (fun c2 => ?_)
      · have hF := F_pos c2 hF
        refine lv_iconst (v := (-1 : Int32)) hx hb dX5_holds_200 (by decide) ?_
        have e50 := Option.some.inj hF
        obtain ⟨e60, e51⟩ := Prod.mk.inj e50
        subst e60
        subst e51
        exact W.iret (v := (-1 : Int32)) hx hb hr (fun t ht hW => ⟨⟨(-1 : Int32), S, rfl, ⟨rfl, rfl⟩, by rw [ht]; exact hP, va_K.moved hW.alike hK, hD⟩, hS.F ht⟩) hS.2.2 dX5_holds_201
      · have hF := F_neg c2 hF
        refine lv_aload_n hx hb dX5_holds_182 rfl (lv_at hl 1 rfl) ?_
        refine lv_iload_n hx hb dX5_holds_183 rfl (lv_at hl 2 rfl) ?_
        refine lv_iload hx hb dX5_holds_184 (lv_at hl 4 rfl) ?_
        refine lv_iconst (v := (0 : Int32)) hx hb dX5_holds_186 (by decide) ?_
        obtain ⟨r3, h4, hF⟩ := ob1_some hF
        have hPc : va_P (dC, dI) vwCl ((W_Model cI a S)) H := hP
        have hDc : va_D A ((W_Model cI a S)) := hD
        have hFc := va_free (wc := (W_Model cI a S)) hD hS hA [0, 1, 2, 3, 4, 5, 6, 7, 8, 9, 10, 11, 12, 13] rfl
        refine va_calli (va_runV (As := [.int v1, .int x4, .int (0 : Int32)]) (rest := []) ⟨hx, hb, hml, hown, hts⟩ (c_X5_of l dC dI cI a H.size _ _ _ _ _ h4) (cwV 3 hts gX5_holds_X5_of rfl rfl rfl (by decide +kernel) ⟨Nat.le_of_ble_eq_true rfl, Nat.le_of_ble_eq_true rfl⟩) (jPreV hK hPc hDc hN (ci := 5) rfl rfl) rfl rfl hl.1 rfl (lv_room (Nat.le_of_ble_eq_true rfl)) dX5_holds_187 ⟨Nat.le_of_ble_eq_true rfl, Nat.le_of_ble_eq_true rfl⟩) hS (fun q _ h => hFc q h) hFc (fun r' u' t H locs ht hvm hw hB hz1 hk1 hS => ?_)
        subst hw
        obtain ⟨hP1, -, hD1⟩ := hB
        rw [ht] at hP1
        have hP : va_P (dC, dI) vwCl ((W_Model cI a S)) H := hP1
        have hD : va_D A ((W_Model cI a S)) := hD1.weaken (fun _ _ _ h => hFc _ h)
        refine lv_bipush (v := (7 : Int32)) hx hb dX5_holds_190 (by decide) ?_
        refine lv_icmp_eq (tgt := 200) hx hb dX5_holds_192 (by decide) (fun c5 => ?_) (fun c5 => ?_)
        · have hF := F_pos c5 hF
          refine lv_iconst (v := (-1 : Int32)) hx hb dX5_holds_200 (by decide) ?_
          have e50 := Option.some.inj hF
          obtain ⟨e60, e51⟩ := Prod.mk.inj e50
          subst e60
          subst e51
          exact W.iret (v := (-1 : Int32)) hx hb hr (fun t ht hW => ⟨⟨(-1 : Int32), S, rfl, ⟨rfl, rfl⟩, by rw [ht]; exact hP, va_K.moved hW.alike hK, hD⟩, hS.F ht⟩) hS.2.2 dX5_holds_201
        · have hF := F_neg c5 hF
          refine lv_iload hx hb dX5_holds_195 (lv_at hl 4 rfl) ?_
          refine lv_goto (tgt := 201) hx hb dX5_holds_197 (by decide) ?_
          have e50 := Option.some.inj hF
          obtain ⟨e60, e51⟩ := Prod.mk.inj e50
          subst e60
          subst e51
          exact W.iret (v := x4) hx hb hr (fun t ht hW => ⟨⟨x4, S, rfl, ⟨rfl, rfl⟩, by rw [ht]; exact hP, va_K.moved hW.alike hK, hD⟩, hS.F ht⟩) hS.2.2 dX5_holds_201
    · have hF := F_pos c1 hF
      refine lv_aload_n hx hb dX5_holds_164 rfl (lv_at hl 1 rfl) ?_
      refine lv_iconst (v := (1 : Int32)) hx hb dX5_holds_165 (by decide) ?_
      refine lv_aload_n hx hb dX5_holds_166 rfl (lv_at hl 1 rfl) ?_
      refine va_get (D := (dC, dI)) (ci := 5) (v := .ref (a 7)) (C := RX5) (T := TX5) (N := 26) hx hb hts hinX5 hown hK hP 0 rfl rfl 11 (by decide) (hts (Cond.fieldLink RX5 28 "LearnedShapesModel" "begins" "[I") (List.mem_of_getElem? (i := 4) rfl)) (fun _ h9 => h9) rfl dX5_holds_167 ?_
      refine lv_iload_n hx hb dX5_holds_170 rfl (lv_at hl 3 rfl) ?_
      obtain ⟨g6, hF⟩ := og_some hF
      refine va_iald (f := (g_Model_begins S)) hx hb hK hP 7 0 rfl rfl (inb_in g6) dX5_holds_171 ?_
      refine lv_iload hx hb dX5_holds_172 (lv_at hl 4 rfl) ?_
      obtain ⟨u7, h8, hF⟩ := ob1_some hF
      have hPc : va_P (dC, dI) vwCl ((W_Model cI a S)) H := hP
      have hDc : va_D A ((W_Model cI a S)) := hD
      have hFc := va_free (wc := (W_Model cI a S)) hD hS hA [0, 1, 2, 3, 4, 5, 6, 7, 8, 9, 10, 11, 12, 13] rfl
      refine va_callv (va_runV (As := [.int (1 : Int32), .int ((g_Model_begins S) v2.toNatClampNeg), .int x4]) (rest := []) ⟨hx, hb, hml, hown, hts⟩ (c_X5_misfits l dC dI cI a H.size _ _ _ _ _ h8) (cwV 3 hts gX5_holds_X5_misfits rfl rfl rfl (by decide +kernel) ⟨Nat.le_of_ble_eq_true rfl, Nat.le_of_ble_eq_true rfl⟩) (jPreV hK hPc hDc hN (ci := 5) rfl rfl) rfl rfl hl.1 rfl (lv_room (Nat.le_of_ble_eq_true rfl)) dX5_holds_174 ⟨Nat.le_of_ble_eq_true rfl, Nat.le_of_ble_eq_true rfl⟩) hS (fun q _ h => hFc q h) hFc (fun u' t H locs ht hvm hw hB hz1 hk1 hS => ?_)
      subst hw
      obtain ⟨hP1, -, hD1⟩ := hB
      rw [ht] at hP1
      have hP : va_P (dC, dI) vwCl ((W_Model cI a u7)) H := hP1
      have hD : va_D A ((W_Model cI a u7)) := hD1.weaken (fun _ _ _ h => hFc _ h)
      refine lv_iload hx hb dX5_holds_177 (lv_at hl 0 rfl) ?_
      refine lv_if_eq (tgt := 200) hx hb dX5_holds_179 (by decide) (fun c9 => ?_) (fun c9 => ?_)
      · have hF := F_pos c9 hF
        refine lv_iconst (v := (-1 : Int32)) hx hb dX5_holds_200 (by decide) ?_
        have e50 := Option.some.inj hF
        obtain ⟨e60, e51⟩ := Prod.mk.inj e50
        subst e60
        subst e51
        exact W.iret (v := (-1 : Int32)) hx hb hr (fun t ht hW => ⟨⟨(-1 : Int32), u7, rfl, ⟨rfl, rfl⟩, by rw [ht]; exact hP, va_K.moved hW.alike hK, hD⟩, hS.F ht⟩) hS.2.2 dX5_holds_201
      · have hF := F_neg c9 hF
        refine lv_aload_n hx hb dX5_holds_182 rfl (lv_at hl 1 rfl) ?_
        refine lv_iload_n hx hb dX5_holds_183 rfl (lv_at hl 2 rfl) ?_
        refine lv_iload hx hb dX5_holds_184 (lv_at hl 4 rfl) ?_
        refine lv_iconst (v := (0 : Int32)) hx hb dX5_holds_186 (by decide) ?_
        obtain ⟨r10, h11, hF⟩ := ob1_some hF
        have hPc : va_P (dC, dI) vwCl ((W_Model cI a u7)) H := hP
        have hDc : va_D A ((W_Model cI a u7)) := hD
        have hFc := va_free (wc := (W_Model cI a u7)) hD hS hA [0, 1, 2, 3, 4, 5, 6, 7, 8, 9, 10, 11, 12, 13] rfl
        refine va_calli (va_runV (As := [.int v1, .int x4, .int (0 : Int32)]) (rest := []) ⟨hx, hb, hml, hown, hts⟩ (c_X5_of l dC dI cI a H.size _ _ _ _ _ h11) (cwV 3 hts gX5_holds_X5_of rfl rfl rfl (by decide +kernel) ⟨Nat.le_of_ble_eq_true rfl, Nat.le_of_ble_eq_true rfl⟩) (jPreV hK hPc hDc hN (ci := 5) rfl rfl) rfl rfl hl.1 rfl (lv_room (Nat.le_of_ble_eq_true rfl)) dX5_holds_187 ⟨Nat.le_of_ble_eq_true rfl, Nat.le_of_ble_eq_true rfl⟩) hS (fun q _ h => hFc q h) hFc (fun r' u' t H locs ht hvm hw hB hz1 hk1 hS => ?_)
        subst hw
        obtain ⟨hP1, -, hD1⟩ := hB
        rw [ht] at hP1
        have hP : va_P (dC, dI) vwCl ((W_Model cI a u7)) H := hP1
        have hD : va_D A ((W_Model cI a u7)) := hD1.weaken (fun _ _ _ h => hFc _ h)
        refine lv_bipush (v := (7 : Int32)) hx hb dX5_holds_190 (by decide) ?_
        refine lv_icmp_eq (tgt := 200) hx hb dX5_holds_192 (by decide) (fun c12 => ?_) (fun c12 => ?_)
        · have hF := F_pos c12 hF
          refine lv_iconst (v := (-1 : Int32)) hx hb dX5_holds_200 (by decide) ?_
          have e50 := Option.some.inj hF
          obtain ⟨e60, e51⟩ := Prod.mk.inj e50
          subst e60
          subst e51
          exact W.iret (v := (-1 : Int32)) hx hb hr (fun t ht hW => ⟨⟨(-1 : Int32), u7, rfl, ⟨rfl, rfl⟩, by rw [ht]; exact hP, va_K.moved hW.alike hK, hD⟩, hS.F ht⟩) hS.2.2 dX5_holds_201
        · have hF := F_neg c12 hF
          refine lv_iload hx hb dX5_holds_195 (lv_at hl 4 rfl) ?_
          refine lv_goto (tgt := 201) hx hb dX5_holds_197 (by decide) ?_
          have e50 := Option.some.inj hF
          obtain ⟨e60, e51⟩ := Prod.mk.inj e50
          subst e60
          subst e51
          exact W.iret (v := x4) hx hb hr (fun t ht hW => ⟨⟨x4, u7, rfl, ⟨rfl, rfl⟩, by rw [ht]; exact hP, va_K.moved hW.alike hK, hD⟩, hS.F ht⟩) hS.2.2 dX5_holds_201
  have K51 : ∀ (S : S_Model) (x3 : Int32) (t0 : Int32) (H : Heap) (locs : List Loc), F_X5_holds_51 v1 v2 S x3 t0 = some (rr, Y) → va_P (dC, dI) vwCl ((W_Model cI a S)) H → va_D A ((W_Model cI a S)) → va_S A s.heap H locs → ∀ ls : Array Slot, lv_has ls 6 [(0, .ref (a 0)), (1, .int v1), (2, .int v2), (3, .int x3)] → W p l e (headSpec wsX5_holds ({ frames := 2, cells := 0, slots := 0, locals := 47 } : Room)).room s m ([.ref (a 0), .int v1, .int v2] : List Value).toArray below meth c H locs 0 0 (MQ below (va_Qi (fun (r' : Int32) (u : S_Model) => rr = r' ∧ Y = u) (fun u : S_Model => jB (dC, dI) [(cI, .int)] A ((W_Model cI a u))) A) ([.ref (a 0), .int v1, .int v2] : List Value).toArray s 0 0 A) (F0 m 51 ls [.int t0]) := by
    intro S x3 t0 H locs hF hP hD hS ls hl
    unfold F_X5_holds_51 at hF
    refine lv_istore (lv' := [(4, .int t0), (0, .ref (a 0)), (1, .int v1), (2, .int v2), (3, .int x3)]) hx hb dX5_holds_51 hl (by decide) rfl (fun ls hl => ?_)
    refine lv_iload hx hb dX5_holds_53 (lv_at hl 0 rfl) ?_
    refine lv_iconst (v := (-1 : Int32)) hx hb dX5_holds_55 (by decide) ?_
    refine lv_icmp_ne (tgt := 95) hx hb dX5_holds_56 (by decide) (fun c13 => ?_) (fun c13 => ?_)
    · have hF := F_neg c13 hF
      refine lv_aload_n hx hb dX5_holds_95 rfl (lv_at hl 1 rfl) ?_
      refine va_get (D := (dC, dI)) (ci := 5) (v := .ref (a 4)) (C := RX5) (T := TX5) (N := 26) hx hb hts hinX5 hown hK hP 0 rfl rfl 8 (by decide) (hts (Cond.fieldLink RX5 19 "LearnedShapesModel" "kinds" "[I") (List.mem_of_getElem? (i := 5) rfl)) (fun _ h9 => h9) rfl dX5_holds_96 ?_
      refine lv_iload_n hx hb dX5_holds_99 rfl (lv_at hl 3 rfl) ?_
      obtain ⟨g14, hF⟩ := og_some hF
      refine va_iald (f := (g_Model_kinds S)) hx hb hK hP 4 0 rfl rfl (inb_in g14) dX5_holds_100 ?_
      refine lv_if_ne (tgt := 124) hx hb dX5_holds_101 (by decide) (fun c15 => ?_) (fun c15 => ?_)
      · have hF := F_neg c15 hF
        refine lv_aload_n hx hb dX5_holds_124 rfl (lv_at hl 1 rfl) ?_
        refine lv_iload_n hx hb dX5_holds_125 rfl (lv_at hl 2 rfl) ?_
        refine lv_iload hx hb dX5_holds_126 (lv_at hl 0 rfl) ?_
        refine lv_iconst (v := (0 : Int32)) hx hb dX5_holds_128 (by decide) ?_
        obtain ⟨r16, h17, hF⟩ := ob1_some hF
        have hPc : va_P (dC, dI) vwCl ((W_Model cI a S)) H := hP
        have hDc : va_D A ((W_Model cI a S)) := hD
        have hFc := va_free (wc := (W_Model cI a S)) hD hS hA [0, 1, 2, 3, 4, 5, 6, 7, 8, 9, 10, 11, 12, 13] rfl
        refine va_calli (va_runV (As := [.int v1, .int t0, .int (0 : Int32)]) (rest := []) ⟨hx, hb, hml, hown, hts⟩ (c_X5_of l dC dI cI a H.size _ _ _ _ _ h17) (cwV 3 hts gX5_holds_X5_of rfl rfl rfl (by decide +kernel) ⟨Nat.le_of_ble_eq_true rfl, Nat.le_of_ble_eq_true rfl⟩) (jPreV hK hPc hDc hN (ci := 5) rfl rfl) rfl rfl hl.1 rfl (lv_room (Nat.le_of_ble_eq_true rfl)) dX5_holds_129 ⟨Nat.le_of_ble_eq_true rfl, Nat.le_of_ble_eq_true rfl⟩) hS (fun q _ h => hFc q h) hFc (fun r' u' t H locs ht hvm hw hB hz1 hk1 hS => ?_)
        subst hw
        obtain ⟨hP1, -, hD1⟩ := hB
        rw [ht] at hP1
        have hP : va_P (dC, dI) vwCl ((W_Model cI a S)) H := hP1
        have hD : va_D A ((W_Model cI a S)) := hD1.weaken (fun _ _ _ h => hFc _ h)
        refine lv_aload_n hx hb dX5_holds_132 rfl (lv_at hl 1 rfl) ?_
        refine va_get (D := (dC, dI)) (ci := 5) (v := .ref (a 4)) (C := RX5) (T := TX5) (N := 26) hx hb hts hinX5 hown hK hP 0 rfl rfl 8 (by decide) (hts (Cond.fieldLink RX5 19 "LearnedShapesModel" "kinds" "[I") (List.mem_of_getElem? (i := 5) rfl)) (fun _ h9 => h9) rfl dX5_holds_133 ?_
        refine lv_iload_n hx hb dX5_holds_136 rfl (lv_at hl 3 rfl) ?_
        obtain ⟨g18, hF⟩ := og_some hF
        refine va_iald (f := (g_Model_kinds S)) hx hb hK hP 4 0 rfl rfl (inb_in g18) dX5_holds_137 ?_
        obtain ⟨r19, h20, hF⟩ := ob1_some hF
        have hPc := hP.sub (ws' := ([] : va_W)) [] rfl
        have hDc := hD.sub (ws' := ([] : va_W)) [] (by decide) rfl
        have hFc := va_free (wc := ([] : va_W)) hD hS hA [] rfl
        refine va_calli (va_runS (As := [.int r16, .int ((g_Model_kinds S) v2.toNatClampNeg)]) (rest := []) ⟨hx, hb, hml, hown, hts⟩ (c_X5_joined l dC dI cI  H.size _ _ _ h20) (va_cwS 2 hts gX5_holds_X5_joined rfl rfl rfl (by decide +kernel) ⟨Nat.le_of_ble_eq_true rfl, Nat.le_of_ble_eq_true rfl⟩) (jPreS hK hPc hDc hN) rfl rfl hl.1 rfl (lv_room (Nat.le_of_ble_eq_true rfl)) dX5_holds_138 ⟨Nat.le_of_ble_eq_true rfl, Nat.le_of_ble_eq_true rfl⟩) hS (fun q _ h => hFc q h) hFc (fun r' u' t H locs ht hvm hw hB hz1 hk1 hS => ?_)
        subst hw
        obtain ⟨hP1, -, hD1⟩ := hB
        rw [ht] at hP1
        obtain ⟨hP, hD⟩ := jJoin (wc := ([] : va_W)) (w1 := ([] : va_W)) (ws' := (W_Model cI a S)) hP hD [] [0, 1, 2, 3, 4, 5, 6, 7, 8, 9, 10, 11, 12, 13] [0, 1, 2, 3, 4, 5, 6, 7, 8, 9, 10, 11, 12, 13] rfl rfl (by decide) (by decide) hk1 hFc hP1 hD1 (by decide) rfl
        refine lv_aload_n hx hb dX5_holds_141 rfl (lv_at hl 1 rfl) ?_
        refine lv_iload_n hx hb dX5_holds_142 rfl (lv_at hl 2 rfl) ?_
        refine lv_iload hx hb dX5_holds_143 (lv_at hl 0 rfl) ?_
        refine lv_iconst (v := (0 : Int32)) hx hb dX5_holds_145 (by decide) ?_
        obtain ⟨r21, h22, hF⟩ := ob1_some hF
        have hPc : va_P (dC, dI) vwCl ((W_Model cI a S)) H := hP
        have hDc : va_D A ((W_Model cI a S)) := hD
        have hFc := va_free (wc := (W_Model cI a S)) hD hS hA [0, 1, 2, 3, 4, 5, 6, 7, 8, 9, 10, 11, 12, 13] rfl
        refine va_calli (va_runV (As := [.int v1, .int t0, .int (0 : Int32)]) (rest := [.int r19]) ⟨hx, hb, hml, hown, hts⟩ (c_X5_of l dC dI cI a H.size _ _ _ _ _ h22) (cwV 3 hts gX5_holds_X5_of rfl rfl rfl (by decide +kernel) ⟨Nat.le_of_ble_eq_true rfl, Nat.le_of_ble_eq_true rfl⟩) (jPreV hK hPc hDc hN (ci := 5) rfl rfl) rfl rfl hl.1 rfl (lv_room (Nat.le_of_ble_eq_true rfl)) dX5_holds_146 ⟨Nat.le_of_ble_eq_true rfl, Nat.le_of_ble_eq_true rfl⟩) hS (fun q _ h => hFc q h) hFc (fun r' u' t H locs ht hvm hw hB hz1 hk1 hS => ?_)
        subst hw
        obtain ⟨hP1, -, hD1⟩ := hB
        rw [ht] at hP1
        have hP : va_P (dC, dI) vwCl ((W_Model cI a S)) H := hP1
        have hD : va_D A ((W_Model cI a S)) := hD1.weaken (fun _ _ _ h => hFc _ h)
        refine lv_icmp_ne (tgt := 156) hx hb dX5_holds_149 (by decide) (fun c23 => ?_) (fun c23 => ?_)
        · have hF := F_neg c23 hF
          refine lv_iconst (v := (0 : Int32)) hx hb dX5_holds_156 (by decide) ?_
          exact K157 _ _ _ _ _ hF hP hD hS _ (lv_sub hl [1, 2, 3, 0] rfl)
        · have hF := F_pos c23 hF
          refine lv_iconst (v := (1 : Int32)) hx hb dX5_holds_152 (by decide) ?_
          refine lv_goto (tgt := 157) hx hb dX5_holds_153 (by decide) ?_
          exact K157 _ _ _ _ _ hF hP hD hS _ (lv_sub hl [1, 2, 3, 0] rfl)
      · have hF := F_pos c15 hF
        refine lv_aload_n hx hb dX5_holds_104 rfl (lv_at hl 1 rfl) ?_
        refine lv_iload_n hx hb dX5_holds_105 rfl (lv_at hl 2 rfl) ?_
        refine lv_iload hx hb dX5_holds_106 (lv_at hl 0 rfl) ?_
        refine lv_iconst (v := (4 : Int32)) hx hb dX5_holds_108 (by decide) ?_
        obtain ⟨r24, h25, hF⟩ := ob1_some hF
        have hPc : va_P (dC, dI) vwCl ((W_Model cI a S)) H := hP
        have hDc : va_D A ((W_Model cI a S)) := hD
        have hFc := va_free (wc := (W_Model cI a S)) hD hS hA [0, 1, 2, 3, 4, 5, 6, 7, 8, 9, 10, 11, 12, 13] rfl
        refine va_calli (va_runV (As := [.int v1, .int t0, .int (4 : Int32)]) (rest := []) ⟨hx, hb, hml, hown, hts⟩ (c_X5_of l dC dI cI a H.size _ _ _ _ _ h25) (cwV 3 hts gX5_holds_X5_of rfl rfl rfl (by decide +kernel) ⟨Nat.le_of_ble_eq_true rfl, Nat.le_of_ble_eq_true rfl⟩) (jPreV hK hPc hDc hN (ci := 5) rfl rfl) rfl rfl hl.1 rfl (lv_room (Nat.le_of_ble_eq_true rfl)) dX5_holds_109 ⟨Nat.le_of_ble_eq_true rfl, Nat.le_of_ble_eq_true rfl⟩) hS (fun q _ h => hFc q h) hFc (fun r' u' t H locs ht hvm hw hB hz1 hk1 hS => ?_)
        subst hw
        obtain ⟨hP1, -, hD1⟩ := hB
        rw [ht] at hP1
        have hP : va_P (dC, dI) vwCl ((W_Model cI a S)) H := hP1
        have hD : va_D A ((W_Model cI a S)) := hD1.weaken (fun _ _ _ h => hFc _ h)
        refine lv_iconst (v := (1 : Int32)) hx hb dX5_holds_112 (by decide) ?_
        refine lv_icmp_ne (tgt := 120) hx hb dX5_holds_113 (by decide) (fun c26 => ?_) (fun c26 => ?_)
        · have hF := F_neg c26 hF
          refine lv_iconst (v := (0 : Int32)) hx hb dX5_holds_120 (by decide) ?_
          refine lv_goto (tgt := 157) hx hb dX5_holds_121 (by decide) ?_
          exact K157 _ _ _ _ _ hF hP hD hS _ (lv_sub hl [1, 2, 3, 0] rfl)
        · have hF := F_pos c26 hF
          refine lv_iconst (v := (1 : Int32)) hx hb dX5_holds_116 (by decide) ?_
          refine lv_goto (tgt := 157) hx hb dX5_holds_117 (by decide) ?_
          exact K157 _ _ _ _ _ hF hP hD hS _ (lv_sub hl [1, 2, 3, 0] rfl)
    · have hF := F_pos c13 hF
      refine lv_aload_n hx hb dX5_holds_59 rfl (lv_at hl 1 rfl) ?_
      refine lv_iconst (v := (2 : Int32)) hx hb dX5_holds_60 (by decide) ?_
      refine lv_aload_n hx hb dX5_holds_61 rfl (lv_at hl 1 rfl) ?_
      refine va_get (D := (dC, dI)) (ci := 5) (v := .ref (a 6)) (C := RX5) (T := TX5) (N := 26) hx hb hts hinX5 hown hK hP 0 rfl rfl 10 (by decide) (hts (Cond.fieldLink RX5 25 "LearnedShapesModel" "letters" "[I") (List.mem_of_getElem? (i := 3) rfl)) (fun _ h9 => h9) rfl dX5_holds_62 ?_
      refine lv_iload_n hx hb dX5_holds_65 rfl (lv_at hl 3 rfl) ?_
      obtain ⟨g27, hF⟩ := og_some hF
      refine va_iald (f := (g_Model_letters S)) hx hb hK hP 6 0 rfl rfl (inb_in g27) dX5_holds_66 ?_
      refine lv_bipush (v := (8 : Int32)) hx hb dX5_holds_67 (by decide) ?_
      refine lv_icmp_ne (tgt := 81) hx hb dX5_holds_69 (by decide) (fun c28 => ?_) (fun c28 => ?_)
      · have hF := F_neg c28 hF
        refine lv_aload_n hx hb dX5_holds_81 rfl (lv_at hl 1 rfl) ?_
        refine va_get (D := (dC, dI)) (ci := 5) (v := .ref (a 7)) (C := RX5) (T := TX5) (N := 26) hx hb hts hinX5 hown hK hP 0 rfl rfl 11 (by decide) (hts (Cond.fieldLink RX5 28 "LearnedShapesModel" "begins" "[I") (List.mem_of_getElem? (i := 4) rfl)) (fun _ h9 => h9) rfl dX5_holds_82 ?_
        refine lv_iload_n hx hb dX5_holds_85 rfl (lv_at hl 3 rfl) ?_
        obtain ⟨g29, hF⟩ := og_some hF
        refine va_iald (f := (g_Model_begins S)) hx hb hK hP 7 0 rfl rfl (inb_in g29) dX5_holds_86 ?_
        refine lv_iconst (v := (1 : Int32)) hx hb dX5_holds_87 (by decide) ?_
        refine lv_isub hx hb dX5_holds_88 ?_
        refine lv_iload_n hx hb dX5_holds_89 rfl (lv_at hl 4 rfl) ?_
        obtain ⟨u30, h31, hF⟩ := ob1_some hF
        have hPc : va_P (dC, dI) vwCl ((W_Model cI a S)) H := hP
        have hDc : va_D A ((W_Model cI a S)) := hD
        have hFc := va_free (wc := (W_Model cI a S)) hD hS hA [0, 1, 2, 3, 4, 5, 6, 7, 8, 9, 10, 11, 12, 13] rfl
        refine va_callv (va_runV (As := [.int (2 : Int32), .int (((g_Model_begins S) v2.toNatClampNeg) - (1 : Int32)), .int x3]) (rest := []) ⟨hx, hb, hml, hown, hts⟩ (c_X5_misfits l dC dI cI a H.size _ _ _ _ _ h31) (cwV 3 hts gX5_holds_X5_misfits rfl rfl rfl (by decide +kernel) ⟨Nat.le_of_ble_eq_true rfl, Nat.le_of_ble_eq_true rfl⟩) (jPreV hK hPc hDc hN (ci := 5) rfl rfl) rfl rfl hl.1 rfl (lv_room (Nat.le_of_ble_eq_true rfl)) dX5_holds_90 ⟨Nat.le_of_ble_eq_true rfl, Nat.le_of_ble_eq_true rfl⟩) hS (fun q _ h => hFc q h) hFc (fun u' t H locs ht hvm hw hB hz1 hk1 hS => ?_)
        subst hw
        obtain ⟨hP1, -, hD1⟩ := hB
        rw [ht] at hP1
        have hP : va_P (dC, dI) vwCl ((W_Model cI a u30)) H := hP1
        have hD : va_D A ((W_Model cI a u30)) := hD1.weaken (fun _ _ _ h => hFc _ h)
        refine lv_iconst (v := (-1 : Int32)) hx hb dX5_holds_93 (by decide) ?_
        have e50 := Option.some.inj hF
        obtain ⟨e60, e51⟩ := Prod.mk.inj e50
        subst e60
        subst e51
        exact W.iret (v := (-1 : Int32)) hx hb hr (fun t ht hW => ⟨⟨(-1 : Int32), u30, rfl, ⟨rfl, rfl⟩, by rw [ht]; exact hP, va_K.moved hW.alike hK, hD⟩, hS.F ht⟩) hS.2.2 dX5_holds_94
      · have hF := F_pos c28 hF
        refine lv_aload_n hx hb dX5_holds_72 rfl (lv_at hl 1 rfl) ?_
        refine va_get (D := (dC, dI)) (ci := 5) (v := .ref (a 7)) (C := RX5) (T := TX5) (N := 26) hx hb hts hinX5 hown hK hP 0 rfl rfl 11 (by decide) (hts (Cond.fieldLink RX5 28 "LearnedShapesModel" "begins" "[I") (List.mem_of_getElem? (i := 4) rfl)) (fun _ h9 => h9) rfl dX5_holds_73 ?_
        refine lv_iload_n hx hb dX5_holds_76 rfl (lv_at hl 3 rfl) ?_
        obtain ⟨g32, hF⟩ := og_some hF
        refine va_iald (f := (g_Model_begins S)) hx hb hK hP 7 0 rfl rfl (inb_in g32) dX5_holds_77 ?_
        refine lv_goto (tgt := 89) hx hb dX5_holds_78 (by decide) ?_
        refine lv_iload_n hx hb dX5_holds_89 rfl (lv_at hl 4 rfl) ?_
        obtain ⟨u33, h34, hF⟩ := ob1_some hF
        have hPc : va_P (dC, dI) vwCl ((W_Model cI a S)) H := hP
        have hDc : va_D A ((W_Model cI a S)) := hD
        have hFc := va_free (wc := (W_Model cI a S)) hD hS hA [0, 1, 2, 3, 4, 5, 6, 7, 8, 9, 10, 11, 12, 13] rfl
        refine va_callv (va_runV (As := [.int (2 : Int32), .int ((g_Model_begins S) v2.toNatClampNeg), .int x3]) (rest := []) ⟨hx, hb, hml, hown, hts⟩ (c_X5_misfits l dC dI cI a H.size _ _ _ _ _ h34) (cwV 3 hts gX5_holds_X5_misfits rfl rfl rfl (by decide +kernel) ⟨Nat.le_of_ble_eq_true rfl, Nat.le_of_ble_eq_true rfl⟩) (jPreV hK hPc hDc hN (ci := 5) rfl rfl) rfl rfl hl.1 rfl (lv_room (Nat.le_of_ble_eq_true rfl)) dX5_holds_90 ⟨Nat.le_of_ble_eq_true rfl, Nat.le_of_ble_eq_true rfl⟩) hS (fun q _ h => hFc q h) hFc (fun u' t H locs ht hvm hw hB hz1 hk1 hS => ?_)
        subst hw
        obtain ⟨hP1, -, hD1⟩ := hB
        rw [ht] at hP1
        have hP : va_P (dC, dI) vwCl ((W_Model cI a u33)) H := hP1
        have hD : va_D A ((W_Model cI a u33)) := hD1.weaken (fun _ _ _ h => hFc _ h)
        refine lv_iconst (v := (-1 : Int32)) hx hb dX5_holds_93 (by decide) ?_
        have e50 := Option.some.inj hF
        obtain ⟨e60, e51⟩ := Prod.mk.inj e50
        subst e60
        subst e51
        exact W.iret (v := (-1 : Int32)) hx hb hr (fun t ht hW => ⟨⟨(-1 : Int32), u33, rfl, ⟨rfl, rfl⟩, by rw [ht]; exact hP, va_K.moved hW.alike hK, hD⟩, hS.F ht⟩) hS.2.2 dX5_holds_94
  have K19 : ∀ (S : S_Model) (t0 : Int32) (H : Heap) (locs : List Loc), F_X5_holds_19 v1 v2 S t0 = some (rr, Y) → va_P (dC, dI) vwCl ((W_Model cI a S)) H → va_D A ((W_Model cI a S)) → va_S A s.heap H locs → ∀ ls : Array Slot, lv_has ls 6 [(0, .ref (a 0)), (1, .int v1), (2, .int v2)] → W p l e (headSpec wsX5_holds ({ frames := 2, cells := 0, slots := 0, locals := 47 } : Room)).room s m ([.ref (a 0), .int v1, .int v2] : List Value).toArray below meth c H locs 0 0 (MQ below (va_Qi (fun (r' : Int32) (u : S_Model) => rr = r' ∧ Y = u) (fun u : S_Model => jB (dC, dI) [(cI, .int)] A ((W_Model cI a u))) A) ([.ref (a 0), .int v1, .int v2] : List Value).toArray s 0 0 A) (F0 m 19 ls [.int t0]) := by
    intro S t0 H locs hF hP hD hS ls hl
    unfold F_X5_holds_19 at hF
    refine lv_istore_n (lv' := [(3, .int t0), (0, .ref (a 0)), (1, .int v1), (2, .int v2)]) hx hb dX5_holds_19 rfl hl (by decide) rfl (fun ls hl => ?_)
    refine lv_iload_n hx hb dX5_holds_20 rfl (lv_at hl 3 rfl) ?_
    refine lv_if_le (tgt := 31) hx hb dX5_holds_21 (by decide) (fun c35 => ?_) (fun c35 => ?_)
    · have hF := F_pos c35 hF
      refine lv_iload_n hx hb dX5_holds_31 rfl (lv_at hl 3 rfl) ?_
      refine lv_if_ne (tgt := 39) hx hb dX5_holds_32 (by decide) (fun c36 => ?_) (fun c36 => ?_)
      · have hF := F_neg c36 hF
        refine lv_aload_n hx hb dX5_holds_39 rfl (lv_at hl 1 rfl) ?_
        refine lv_iload_n hx hb dX5_holds_40 rfl (lv_at hl 2 rfl) ?_
        refine lv_iload_n hx hb dX5_holds_41 rfl (lv_at hl 0 rfl) ?_
        refine lv_aload_n hx hb dX5_holds_42 rfl (lv_at hl 1 rfl) ?_
        refine va_get (D := (dC, dI)) (ci := 5) (v := .ref (a 6)) (C := RX5) (T := TX5) (N := 26) hx hb hts hinX5 hown hK hP 0 rfl rfl 10 (by decide) (hts (Cond.fieldLink RX5 25 "LearnedShapesModel" "letters" "[I") (List.mem_of_getElem? (i := 3) rfl)) (fun _ h9 => h9) rfl dX5_holds_43 ?_
        refine lv_iload_n hx hb dX5_holds_46 rfl (lv_at hl 3 rfl) ?_
        obtain ⟨g37, hF⟩ := og_some hF
        refine va_iald (f := (g_Model_letters S)) hx hb hK hP 6 0 rfl rfl (inb_in g37) dX5_holds_47 ?_
        obtain ⟨r38, h39, hF⟩ := ob1_some hF
        have hPc : va_P (dC, dI) vwCl ((W_Model cI a S)) H := hP
        have hDc : va_D A ((W_Model cI a S)) := hD
        have hFc := va_free (wc := (W_Model cI a S)) hD hS hA [0, 1, 2, 3, 4, 5, 6, 7, 8, 9, 10, 11, 12, 13] rfl
        refine va_calli (va_runV (As := [.int v1, .int t0, .int ((g_Model_letters S) v2.toNatClampNeg)]) (rest := []) ⟨hx, hb, hml, hown, hts⟩ (c_X5_childOf l dC dI cI a H.size _ _ _ _ _ h39) (cwV 3 hts gX5_holds_X5_childOf rfl rfl rfl (by decide +kernel) ⟨Nat.le_of_ble_eq_true rfl, Nat.le_of_ble_eq_true rfl⟩) (jPreV hK hPc hDc hN (ci := 5) rfl rfl) rfl rfl hl.1 rfl (lv_room (Nat.le_of_ble_eq_true rfl)) dX5_holds_48 ⟨Nat.le_of_ble_eq_true rfl, Nat.le_of_ble_eq_true rfl⟩) hS (fun q _ h => hFc q h) hFc (fun r' u' t H locs ht hvm hw hB hz1 hk1 hS => ?_)
        subst hw
        obtain ⟨hP1, -, hD1⟩ := hB
        rw [ht] at hP1
        have hP : va_P (dC, dI) vwCl ((W_Model cI a S)) H := hP1
        have hD : va_D A ((W_Model cI a S)) := hD1.weaken (fun _ _ _ h => hFc _ h)
        exact K51 _ _ _ _ _ hF hP hD hS _ (lv_sub hl [1, 2, 3, 0] rfl)
      · have hF := F_pos c36 hF
        refine lv_iconst (v := (0 : Int32)) hx hb dX5_holds_35 (by decide) ?_
        refine lv_goto (tgt := 51) hx hb dX5_holds_36 (by decide) ?_
        exact K51 _ _ _ _ _ hF hP hD hS _ (lv_sub hl [1, 2, 3, 0] rfl)
    · have hF := F_neg c35 hF
      refine lv_iload_n hx hb dX5_holds_24 rfl (lv_at hl 0 rfl) ?_
      refine lv_iconst (v := (-1 : Int32)) hx hb dX5_holds_25 (by decide) ?_
      refine lv_icmp_ne (tgt := 31) hx hb dX5_holds_26 (by decide) (fun c40 => ?_) (fun c40 => ?_)
      · have hF := F_neg c40 hF
        refine lv_iload_n hx hb dX5_holds_31 rfl (lv_at hl 3 rfl) ?_
        refine lv_if_ne (tgt := 39) hx hb dX5_holds_32 (by decide) (fun c41 => ?_) (fun c41 => ?_)
        · have hF := F_neg c41 hF
          refine lv_aload_n hx hb dX5_holds_39 rfl (lv_at hl 1 rfl) ?_
          refine lv_iload_n hx hb dX5_holds_40 rfl (lv_at hl 2 rfl) ?_
          refine lv_iload_n hx hb dX5_holds_41 rfl (lv_at hl 0 rfl) ?_
          refine lv_aload_n hx hb dX5_holds_42 rfl (lv_at hl 1 rfl) ?_
          refine va_get (D := (dC, dI)) (ci := 5) (v := .ref (a 6)) (C := RX5) (T := TX5) (N := 26) hx hb hts hinX5 hown hK hP 0 rfl rfl 10 (by decide) (hts (Cond.fieldLink RX5 25 "LearnedShapesModel" "letters" "[I") (List.mem_of_getElem? (i := 3) rfl)) (fun _ h9 => h9) rfl dX5_holds_43 ?_
          refine lv_iload_n hx hb dX5_holds_46 rfl (lv_at hl 3 rfl) ?_
          obtain ⟨g42, hF⟩ := og_some hF
          refine va_iald (f := (g_Model_letters S)) hx hb hK hP 6 0 rfl rfl (inb_in g42) dX5_holds_47 ?_
          obtain ⟨r43, h44, hF⟩ := ob1_some hF
          have hPc : va_P (dC, dI) vwCl ((W_Model cI a S)) H := hP
          have hDc : va_D A ((W_Model cI a S)) := hD
          have hFc := va_free (wc := (W_Model cI a S)) hD hS hA [0, 1, 2, 3, 4, 5, 6, 7, 8, 9, 10, 11, 12, 13] rfl
          refine va_calli (va_runV (As := [.int v1, .int t0, .int ((g_Model_letters S) v2.toNatClampNeg)]) (rest := []) ⟨hx, hb, hml, hown, hts⟩ (c_X5_childOf l dC dI cI a H.size _ _ _ _ _ h44) (cwV 3 hts gX5_holds_X5_childOf rfl rfl rfl (by decide +kernel) ⟨Nat.le_of_ble_eq_true rfl, Nat.le_of_ble_eq_true rfl⟩) (jPreV hK hPc hDc hN (ci := 5) rfl rfl) rfl rfl hl.1 rfl (lv_room (Nat.le_of_ble_eq_true rfl)) dX5_holds_48 ⟨Nat.le_of_ble_eq_true rfl, Nat.le_of_ble_eq_true rfl⟩) hS (fun q _ h => hFc q h) hFc (fun r' u' t H locs ht hvm hw hB hz1 hk1 hS => ?_)
          subst hw
          obtain ⟨hP1, -, hD1⟩ := hB
          rw [ht] at hP1
          have hP : va_P (dC, dI) vwCl ((W_Model cI a S)) H := hP1
          have hD : va_D A ((W_Model cI a S)) := hD1.weaken (fun _ _ _ h => hFc _ h)
          exact K51 _ _ _ _ _ hF hP hD hS _ (lv_sub hl [1, 2, 3, 0] rfl)
        · have hF := F_pos c41 hF
          refine lv_iconst (v := (0 : Int32)) hx hb dX5_holds_35 (by decide) ?_
          refine lv_goto (tgt := 51) hx hb dX5_holds_36 (by decide) ?_
          exact K51 _ _ _ _ _ hF hP hD hS _ (lv_sub hl [1, 2, 3, 0] rfl)
      · have hF := F_pos c40 hF
        refine lv_iconst (v := (-1 : Int32)) hx hb dX5_holds_29 (by decide) ?_
        have e50 := Option.some.inj hF
        obtain ⟨e60, e51⟩ := Prod.mk.inj e50
        subst e60
        subst e51
        exact W.iret (v := (-1 : Int32)) hx hb hr (fun t ht hW => ⟨⟨(-1 : Int32), S, rfl, ⟨rfl, rfl⟩, by rw [ht]; exact hP, va_K.moved hW.alike hK, hD⟩, hS.F ht⟩) hS.2.2 dX5_holds_30
  have KE : ∀ (H : Heap) (locs : List Loc), va_P (dC, dI) vwCl ((W_Model cI a S)) H → va_D A ((W_Model cI a S)) → va_S A s.heap H locs → W p l e (headSpec wsX5_holds ({ frames := 2, cells := 0, slots := 0, locals := 47 } : Room)).room s m ([.ref (a 0), .int v1, .int v2] : List Value).toArray below meth c H locs 0 0 (MQ below (va_Qi (fun (r' : Int32) (u : S_Model) => rr = r' ∧ Y = u) (fun u : S_Model => jB (dC, dI) [(cI, .int)] A ((W_Model cI a u))) A) ([.ref (a 0), .int v1, .int v2] : List Value).toArray s 0 0 A) (F0 m 0 ls []) := by
    intro H locs hP hD hS
    unfold F_X5_holds at hF
    refine lv_iload_n hx hb dX5_holds_0 rfl (lv_at hl 2 rfl) ?_
    refine lv_if_ne (tgt := 8) hx hb dX5_holds_1 (by decide) (fun c45 => ?_) (fun c45 => ?_)
    · have hF := F_neg c45 hF
      refine lv_aload_n hx hb dX5_holds_8 rfl (lv_at hl 0 rfl) ?_
      refine va_get (D := (dC, dI)) (ci := 5) (v := .ref (a 12)) (C := RX5) (T := TX5) (N := 26) hx hb hts hinX5 hown hK hP 0 rfl rfl 20 (by decide) (hts (Cond.fieldLink RX5 43 "LearnedShapesModel" "place" "[I") (List.mem_of_getElem? (i := 1) rfl)) (fun _ h9 => h9) rfl dX5_holds_9 ?_
      refine lv_aload_n hx hb dX5_holds_12 rfl (lv_at hl 0 rfl) ?_
      refine va_get (D := (dC, dI)) (ci := 5) (v := .ref (a 5)) (C := RX5) (T := TX5) (N := 26) hx hb hts hinX5 hown hK hP 0 rfl rfl 9 (by decide) (hts (Cond.fieldLink RX5 22 "LearnedShapesModel" "above" "[I") (List.mem_of_getElem? (i := 2) rfl)) (fun _ h9 => h9) rfl dX5_holds_13 ?_
      refine lv_iload_n hx hb dX5_holds_16 rfl (lv_at hl 2 rfl) ?_
      obtain ⟨g46, hF⟩ := og_some hF
      refine va_iald (f := (g_Model_above S)) hx hb hK hP 5 0 rfl rfl (inb_in g46) dX5_holds_17 ?_
      obtain ⟨g47, hF⟩ := og_some hF
      refine va_iald (f := (g_Model_place S)) hx hb hK hP 12 0 rfl rfl (inb_in g47) dX5_holds_18 ?_
      exact K19 _ _ _ _ hF hP hD hS _ (lv_sub hl [0, 1, 2] rfl)
    · have hF := F_pos c45 hF
      refine lv_iconst (v := (-1 : Int32)) hx hb dX5_holds_4 (by decide) ?_
      refine lv_goto (tgt := 19) hx hb dX5_holds_5 (by decide) ?_
      exact K19 _ _ _ _ hF hP hD hS _ (lv_sub hl [0, 1, 2] rfl)
  exact KE _ _ hP hD hS
set_option maxHeartbeats 4000000 in
set_option maxRecDepth 100000 in
theorem c_X5_finds (l : Launch) (dC : Nat → ClassId) (dI : Nat → Nat → Nat) (cI : ClassId) (a : Nat → Nat) (sz : Nat) (S : S_Model) (v1 : Int32) (Y : S_Model) (hF : F_X5_finds S v1 = some Y) : Met l yX5_finds wsX5_finds ({ frames := 3, cells := 0, slots := 0, locals := 72 } : Room) (va_Pc [.ref (a 0), .int v1] (jPre (dC, dI) [(cI, .int)] sz ((W_Model cI a S)))) (va_Qv (fun u : S_Model => Y = u) (fun u : S_Model => jB (dC, dI) [(cI, .int)] (va_A ((W_Model cI a S)) sz) ((W_Model cI a u))) (va_A ((W_Model cI a S)) sz)) 0 0 (va_A ((W_Model cI a S)) sz) := by
  refine Met.ofW (cc := cX5_finds) (maxL := 5) (ret := none) (by decide) rfl ?_
  intro p e s m args below meth c s₁ B hml hv
  obtain ⟨rfl, hsz, hP, hK, hD0, hN⟩ := hv
  have hx := B.exec
  have hb := B.bytes
  have hr := B.returns
  have hts := atoms_spec (ws := wsX5_finds) B.pre
  have hown : s.vm.findClass RX5 = some m.cls := findClass_of_methodNamed B.named
  have hlocks := B.notSynchronized
  have hinX5 : ∀ w ∈ u_ws RX5 TX5 26, w ∈ wsX5_finds := by decide +kernel
  subst hsz
  have hD := hD0.self (sz := s.heap.size)
  generalize hAe : (va_A ((W_Model cI a S)) s.heap.size) = A at hD ⊢
  have hA : ∀ q : Nat, s.heap.size ≤ q → A q := fun q h => by rw [← hAe]; exact Or.inr h
  have hS : va_S A s.heap s.heap [] := va_S.rf
  have hl := lv_entry ([.ref (a 0), .int v1]) (n := 5) (Nat.le_of_ble_eq_true rfl)
  rw [lg_entry_eq]
  generalize (lg_sl ([.ref (a 0), .int v1]) ++ List.replicate (5 - (lg_sl ([.ref (a 0), .int v1])).length) Slot.unset).toArray = ls at hl ⊢
  have hl : lv_has ls 5 [(0, .ref (a 0)), (1, .int v1)] := hl
  have K36 : ∀ (n36 : Nat) (S : S_Model) (x2 : Int32) (H : Heap) (locs : List Loc), F_X5_finds_36 v1 n36 S x2 = some Y → va_P (dC, dI) vwCl ((W_Model cI a S)) H → va_D A ((W_Model cI a S)) → va_S A s.heap H locs → ∀ ls : Array Slot, lv_has ls 5 [(0, .ref (a 0)), (1, .int v1), (2, .int x2)] → W p l e (headSpec wsX5_finds ({ frames := 3, cells := 0, slots := 0, locals := 72 } : Room)).room s m ([.ref (a 0), .int v1] : List Value).toArray below meth c H locs 0 0 (MQ below (va_Qv (fun u : S_Model => Y = u) (fun u : S_Model => jB (dC, dI) [(cI, .int)] A ((W_Model cI a u))) A) ([.ref (a 0), .int v1] : List Value).toArray s 0 0 A) (F0 m 36 ls []) := by
    intro n36
    induction n36 with
    | zero => intro S x2 H locs hF; exact nomatch hF
    | succ n36 ih36 =>
      intro S x2 H locs hF hP hD hS ls hl
      rw [F_X5_finds_36_s] at hF
      have K58 : ∀ (n58 : Nat) (S : S_Model) (x2 : Int32) (x3 : Int32) (H : Heap) (locs : List Loc), F_X5_finds_58 v1 (F_X5_finds_36 v1 n36) n58 S x2 x3 = some Y → va_P (dC, dI) vwCl ((W_Model cI a S)) H → va_D A ((W_Model cI a S)) → va_S A s.heap H locs → ∀ ls : Array Slot, lv_has ls 5 [(0, .ref (a 0)), (1, .int v1), (2, .int x2), (3, .int x3)] → W p l e (headSpec wsX5_finds ({ frames := 3, cells := 0, slots := 0, locals := 72 } : Room)).room s m ([.ref (a 0), .int v1] : List Value).toArray below meth c H locs 0 0 (MQ below (va_Qv (fun u : S_Model => Y = u) (fun u : S_Model => jB (dC, dI) [(cI, .int)] A ((W_Model cI a u))) A) ([.ref (a 0), .int v1] : List Value).toArray s 0 0 A) (F0 m 58 ls []) := by
        intro n58
        induction n58 with
        | zero => intro S x2 x3 H locs hF; exact nomatch hF
        | succ n58 ih58 =>
          intro S x2 x3 H locs hF hP hD hS ls hl
          rw [F_X5_finds_58_s] at hF
          refine lv_iload_n hx hb dX5_finds_58 rfl (lv_at hl 3 rfl) ?_
          refine lv_bipush (v := (8 : Int32)) hx hb dX5_finds_59 (by decide) ?_
          refine lv_icmp_ge (tgt := 151) hx hb dX5_finds_61 (by decide) (fun c1 => ?_) (fun c1 => ?_)
          · have hF := F_pos c1 hF
            refine lv_iinc (v := (x2 + (1 : Int32))) (lv' := [(2, .int (x2 + (1 : Int32))), (0, .ref (a 0)), (1, .int v1), (3, .int x3)]) hx hb dX5_finds_151 hl (k := 2) rfl rfl (by decide) rfl (fun ls hl => ?_)
            refine lv_goto (tgt := 36) hx hb dX5_finds_154 (by decide) ?_
            exact ih36 _ _ _ _ hF hP hD hS _ (lv_sub hl [1, 2, 0] rfl)
          · have hF := F_neg c1 hF
            refine lv_aload_n hx hb dX5_finds_64 rfl (lv_at hl 0 rfl) ?_
            refine va_get (D := (dC, dI)) (ci := 5) (v := .ref (a 12)) (C := RX5) (T := TX5) (N := 26) hx hb hts hinX5 hown hK hP 0 rfl rfl 20 (by decide) (hts (Cond.fieldLink RX5 43 "LearnedShapesModel" "place" "[I") (List.mem_of_getElem? (i := 6) rfl)) (fun _ h9 => h9) rfl dX5_finds_65 ?_
            refine lv_iload_n hx hb dX5_finds_68 rfl (lv_at hl 2 rfl) ?_
            obtain ⟨g2, hF⟩ := og_some hF
            refine va_iald (f := (g_Model_place S)) hx hb hK hP 12 0 rfl rfl (inb_in g2) dX5_finds_69 ?_
            refine lv_iconst (v := (-1 : Int32)) hx hb dX5_finds_70 (by decide) ?_
            refine lv_icmp_eq (tgt := 151) hx hb dX5_finds_71 (by decide) (fun c3 => ?_) (fun c3 => ?_)
            · have hF := F_pos c3 hF
              refine lv_iinc (v := (x2 + (1 : Int32))) (lv' := [(2, .int (x2 + (1 : Int32))), (0, .ref (a 0)), (1, .int v1), (3, .int x3)]) hx hb dX5_finds_151 hl (k := 2) rfl rfl (by decide) rfl (fun ls hl => ?_)
              refine lv_goto (tgt := 36) hx hb dX5_finds_154 (by decide) ?_
              exact ih36 _ _ _ _ hF hP hD hS _ (lv_sub hl [1, 2, 0] rfl)
            · have hF := F_neg c3 hF
              refine lv_aload_n hx hb dX5_finds_74 rfl (lv_at hl 0 rfl) ?_
              refine va_get (D := (dC, dI)) (ci := 5) (v := .ref (a 4)) (C := RX5) (T := TX5) (N := 26) hx hb hts hinX5 hown hK hP 0 rfl rfl 8 (by decide) (hts (Cond.fieldLink RX5 19 "LearnedShapesModel" "kinds" "[I") (List.mem_of_getElem? (i := 7) rfl)) (fun _ h9 => h9) rfl dX5_finds_75 ?_
              refine lv_iload_n hx hb dX5_finds_78 rfl (lv_at hl 2 rfl) ?_
              obtain ⟨g4, hF⟩ := og_some hF
              refine va_iald (f := (g_Model_kinds S)) hx hb hK hP 4 0 rfl rfl (inb_in g4) dX5_finds_79 ?_
              refine lv_bipush (v := (6 : Int32)) hx hb dX5_finds_80 (by decide) ?_
              refine lv_icmp_ne (tgt := 151) hx hb dX5_finds_82 (by decide) (fun c5 => ?_) (fun c5 => ?_)
              · have hF := F_neg c5 hF
                refine lv_iinc (v := (x2 + (1 : Int32))) (lv' := [(2, .int (x2 + (1 : Int32))), (0, .ref (a 0)), (1, .int v1), (3, .int x3)]) hx hb dX5_finds_151 hl (k := 2) rfl rfl (by decide) rfl (fun ls hl => ?_)
                refine lv_goto (tgt := 36) hx hb dX5_finds_154 (by decide) ?_
                exact ih36 _ _ _ _ hF hP hD hS _ (lv_sub hl [1, 2, 0] rfl)
              · have hF := F_pos c5 hF
                refine lv_aload_n hx hb dX5_finds_85 rfl (lv_at hl 0 rfl) ?_
                refine lv_iload_n hx hb dX5_finds_86 rfl (lv_at hl 1 rfl) ?_
                refine lv_aload_n hx hb dX5_finds_87 rfl (lv_at hl 0 rfl) ?_
                refine va_get (D := (dC, dI)) (ci := 5) (v := .ref (a 12)) (C := RX5) (T := TX5) (N := 26) hx hb hts hinX5 hown hK hP 0 rfl rfl 20 (by decide) (hts (Cond.fieldLink RX5 43 "LearnedShapesModel" "place" "[I") (List.mem_of_getElem? (i := 6) rfl)) (fun _ h9 => h9) rfl dX5_finds_88 ?_
                refine lv_iload_n hx hb dX5_finds_91 rfl (lv_at hl 2 rfl) ?_
                obtain ⟨g6, hF⟩ := og_some hF
                refine va_iald (f := (g_Model_place S)) hx hb hK hP 12 0 rfl rfl (inb_in g6) dX5_finds_92 ?_
                refine lv_iload_n hx hb dX5_finds_93 rfl (lv_at hl 3 rfl) ?_
                obtain ⟨r7, h8, hF⟩ := ob1_some hF
                have hPc : va_P (dC, dI) vwCl ((W_Model cI a S)) H := hP
                have hDc : va_D A ((W_Model cI a S)) := hD
                have hFc := va_free (wc := (W_Model cI a S)) hD hS hA [0, 1, 2, 3, 4, 5, 6, 7, 8, 9, 10, 11, 12, 13] rfl
                refine va_calli (va_runV (As := [.int v1, .int ((g_Model_place S) x2.toNatClampNeg), .int x3]) (rest := []) ⟨hx, hb, hml, hown, hts⟩ (c_X5_childOf l dC dI cI a H.size _ _ _ _ _ h8) (cwV 3 hts gX5_finds_X5_childOf rfl rfl rfl (by decide +kernel) ⟨Nat.le_of_ble_eq_true rfl, Nat.le_of_ble_eq_true rfl⟩) (jPreV hK hPc hDc hN (ci := 5) rfl rfl) rfl rfl hl.1 rfl (lv_room (Nat.le_of_ble_eq_true rfl)) dX5_finds_94 ⟨Nat.le_of_ble_eq_true rfl, Nat.le_of_ble_eq_true rfl⟩) hS (fun q _ h => hFc q h) hFc (fun r' u' t H locs ht hvm hw hB hz1 hk1 hS => ?_)
                subst hw
                obtain ⟨hP1, -, hD1⟩ := hB
                rw [ht] at hP1
                have hP : va_P (dC, dI) vwCl ((W_Model cI a S)) H := hP1
                have hD : va_D A ((W_Model cI a S)) := hD1.weaken (fun _ _ _ h => hFc _ h)
                refine lv_istore (lv' := [(4, .int r7), (0, .ref (a 0)), (1, .int v1), (2, .int x2), (3, .int x3)]) hx hb dX5_finds_97 hl (by decide) rfl (fun ls hl => ?_)
                refine lv_iload hx hb dX5_finds_99 (lv_at hl 0 rfl) ?_
                refine lv_iconst (v := (-1 : Int32)) hx hb dX5_finds_101 (by decide) ?_
                refine lv_icmp_eq (tgt := 145) hx hb dX5_finds_102 (by decide) (fun c9 => ?_) (fun c9 => ?_)
                · have hF := F_pos c9 hF
                  refine lv_iinc (v := (x3 + (1 : Int32))) (lv' := [(3, .int (x3 + (1 : Int32))), (4, .int r7), (0, .ref (a 0)), (1, .int v1), (2, .int x2)]) hx hb dX5_finds_145 hl (k := 4) rfl rfl (by decide) rfl (fun ls hl => ?_)
                  refine lv_goto (tgt := 58) hx hb dX5_finds_148 (by decide) ?_
                  exact ih58 _ _ _ _ _ hF hP hD hS _ (lv_sub hl [2, 3, 4, 0] rfl)
                · have hF := F_neg c9 hF
                  refine lv_aload_n hx hb dX5_finds_105 rfl (lv_at hl 1 rfl) ?_
                  refine va_get (D := (dC, dI)) (ci := 5) (v := .ref (a 9)) (C := RX5) (T := TX5) (N := 26) hx hb hts hinX5 hown hK hP 0 rfl rfl 13 (by decide) (hts (Cond.fieldLink RX5 34 "LearnedShapesModel" "used" "[I") (List.mem_of_getElem? (i := 8) rfl)) (fun _ h9 => h9) rfl dX5_finds_106 ?_
                  refine lv_iload_n hx hb dX5_finds_109 rfl (lv_at hl 3 rfl) ?_
                  obtain ⟨g10, hF⟩ := og_some hF
                  refine va_iald (f := (g_Model_used S)) hx hb hK hP 9 0 rfl rfl (inb_in g10) dX5_finds_110 ?_
                  refine lv_iload_n hx hb dX5_finds_111 rfl (lv_at hl 4 rfl) ?_
                  refine lv_ishr hx hb dX5_finds_112 ?_
                  refine lv_iconst (v := (1 : Int32)) hx hb dX5_finds_113 (by decide) ?_
                  refine lv_iand hx hb dX5_finds_114 ?_
                  refine lv_if_ne (tgt := 145) hx hb dX5_finds_115 (by decide) (fun c11 => ?_) (fun c11 => ?_)
                  · have hF := F_neg c11 hF
                    refine lv_iinc (v := (x3 + (1 : Int32))) (lv' := [(3, .int (x3 + (1 : Int32))), (4, .int r7), (0, .ref (a 0)), (1, .int v1), (2, .int x2)]) hx hb dX5_finds_145 hl (k := 4) rfl rfl (by decide) rfl (fun ls hl => ?_)
                    refine lv_goto (tgt := 58) hx hb dX5_finds_148 (by decide) ?_
                    exact ih58 _ _ _ _ _ hF hP hD hS _ (lv_sub hl [2, 3, 4, 0] rfl)
                  · have hF := F_pos c11 hF
                    refine lv_aload_n hx hb dX5_finds_118 rfl (lv_at hl 1 rfl) ?_
                    refine lv_iload_n hx hb dX5_finds_119 rfl (lv_at hl 2 rfl) ?_
                    refine lv_iload hx hb dX5_finds_120 (lv_at hl 0 rfl) ?_
                    obtain ⟨r12, h13, hF⟩ := ob1_some hF
                    have hPc : va_P (dC, dI) vwCl ((W_Model cI a S)) H := hP
                    have hDc : va_D A ((W_Model cI a S)) := hD
                    have hFc := va_free (wc := (W_Model cI a S)) hD hS hA [0, 1, 2, 3, 4, 5, 6, 7, 8, 9, 10, 11, 12, 13] rfl
                    refine va_calli (va_runV (As := [.int v1, .int r7]) (rest := []) ⟨hx, hb, hml, hown, hts⟩ (c_X5_canMiss l dC dI cI a H.size _ _ _ _ h13) (cwV 2 hts gX5_finds_X5_canMiss rfl rfl rfl (by decide +kernel) ⟨Nat.le_of_ble_eq_true rfl, Nat.le_of_ble_eq_true rfl⟩) (jPreV hK hPc hDc hN (ci := 5) rfl rfl) rfl rfl hl.1 rfl (lv_room (Nat.le_of_ble_eq_true rfl)) dX5_finds_122 ⟨Nat.le_of_ble_eq_true rfl, Nat.le_of_ble_eq_true rfl⟩) hS (fun q _ h => hFc q h) hFc (fun r' u' t H locs ht hvm hw hB hz1 hk1 hS => ?_)
                    subst hw
                    obtain ⟨hP1, -, hD1⟩ := hB
                    rw [ht] at hP1
                    have hP : va_P (dC, dI) vwCl ((W_Model cI a S)) H := hP1
                    have hD : va_D A ((W_Model cI a S)) := hD1.weaken (fun _ _ _ h => hFc _ h)
                    refine lv_if_ne (tgt := 145) hx hb dX5_finds_125 (by decide) (fun c14 => ?_) (fun c14 => ?_)
                    · have hF := F_neg c14 hF
                      refine lv_iinc (v := (x3 + (1 : Int32))) (lv' := [(3, .int (x3 + (1 : Int32))), (4, .int r7), (0, .ref (a 0)), (1, .int v1), (2, .int x2)]) hx hb dX5_finds_145 hl (k := 4) rfl rfl (by decide) rfl (fun ls hl => ?_)
                      refine lv_goto (tgt := 58) hx hb dX5_finds_148 (by decide) ?_
                      exact ih58 _ _ _ _ _ hF hP hD hS _ (lv_sub hl [2, 3, 4, 0] rfl)
                    · have hF := F_pos c14 hF
                      refine lv_aload_n hx hb dX5_finds_128 rfl (lv_at hl 1 rfl) ?_
                      refine lv_iconst (v := (3 : Int32)) hx hb dX5_finds_129 (by decide) ?_
                      refine lv_aload_n hx hb dX5_finds_130 rfl (lv_at hl 1 rfl) ?_
                      refine va_get (D := (dC, dI)) (ci := 5) (v := .ref (a 8)) (C := RX5) (T := TX5) (N := 26) hx hb hts hinX5 hown hK hP 0 rfl rfl 12 (by decide) (hts (Cond.fieldLink RX5 31 "LearnedShapesModel" "ends" "[I") (List.mem_of_getElem? (i := 9) rfl)) (fun _ h9 => h9) rfl dX5_finds_131 ?_
                      refine lv_iload_n hx hb dX5_finds_134 rfl (lv_at hl 3 rfl) ?_
                      obtain ⟨g15, hF⟩ := og_some hF
                      refine va_iald (f := (g_Model_ends S)) hx hb hK hP 8 0 rfl rfl (inb_in g15) dX5_finds_135 ?_
                      refine lv_aload_n hx hb dX5_finds_136 rfl (lv_at hl 1 rfl) ?_
                      refine va_get (D := (dC, dI)) (ci := 5) (v := .ref (a 12)) (C := RX5) (T := TX5) (N := 26) hx hb hts hinX5 hown hK hP 0 rfl rfl 20 (by decide) (hts (Cond.fieldLink RX5 43 "LearnedShapesModel" "place" "[I") (List.mem_of_getElem? (i := 6) rfl)) (fun _ h9 => h9) rfl dX5_finds_137 ?_
                      refine lv_iload_n hx hb dX5_finds_140 rfl (lv_at hl 3 rfl) ?_
                      obtain ⟨g16, hF⟩ := og_some hF
                      refine va_iald (f := (g_Model_place S)) hx hb hK hP 12 0 rfl rfl (inb_in g16) dX5_finds_141 ?_
                      obtain ⟨u17, h18, hF⟩ := ob1_some hF
                      have hPc : va_P (dC, dI) vwCl ((W_Model cI a S)) H := hP
                      have hDc : va_D A ((W_Model cI a S)) := hD
                      have hFc := va_free (wc := (W_Model cI a S)) hD hS hA [0, 1, 2, 3, 4, 5, 6, 7, 8, 9, 10, 11, 12, 13] rfl
                      refine va_callv (va_runV (As := [.int (3 : Int32), .int ((g_Model_ends S) x2.toNatClampNeg), .int ((g_Model_place S) x2.toNatClampNeg)]) (rest := []) ⟨hx, hb, hml, hown, hts⟩ (c_X5_misfits l dC dI cI a H.size _ _ _ _ _ h18) (cwV 3 hts gX5_finds_X5_misfits rfl rfl rfl (by decide +kernel) ⟨Nat.le_of_ble_eq_true rfl, Nat.le_of_ble_eq_true rfl⟩) (jPreV hK hPc hDc hN (ci := 5) rfl rfl) rfl rfl hl.1 rfl (lv_room (Nat.le_of_ble_eq_true rfl)) dX5_finds_142 ⟨Nat.le_of_ble_eq_true rfl, Nat.le_of_ble_eq_true rfl⟩) hS (fun q _ h => hFc q h) hFc (fun u' t H locs ht hvm hw hB hz1 hk1 hS => ?_)
                      subst hw
                      obtain ⟨hP1, -, hD1⟩ := hB
                      rw [ht] at hP1
                      have hP : va_P (dC, dI) vwCl ((W_Model cI a u17)) H := hP1
                      have hD : va_D A ((W_Model cI a u17)) := hD1.weaken (fun _ _ _ h => hFc _ h)
                      refine lv_iinc (v := (x3 + (1 : Int32))) (lv' := [(3, .int (x3 + (1 : Int32))), (4, .int r7), (0, .ref (a 0)), (1, .int v1), (2, .int x2)]) hx hb dX5_finds_145 hl (k := 4) rfl rfl (by decide) rfl (fun ls hl => ?_)
                      refine lv_goto (tgt := 58) hx hb dX5_finds_148 (by decide) ?_
                      exact ih58 _ _ _ _ _ hF hP hD hS _ (lv_sub hl [2, 3, 4, 0] rfl)
      refine lv_iload_n hx hb dX5_finds_36 rfl (lv_at hl 2 rfl) ?_
      refine lv_aload_n hx hb dX5_finds_37 rfl (lv_at hl 0 rfl) ?_
      refine va_get (D := (dC, dI)) (ci := 5) (v := .int (g_Model_valued S)) (C := RX5) (T := TX5) (N := 26) hx hb hts hinX5 hown hK hP 0 rfl rfl 14 (by decide) (hts (Cond.fieldLink RX5 82 "LearnedShapesModel" "valued" "I") (List.mem_of_getElem? (i := 5) rfl)) (fun _ h9 => h9) rfl dX5_finds_38 ?_
      refine lv_icmp_ge (tgt := 157) hx hb dX5_finds_41 (by decide) (fun c19 => ?_) (fun c19 => ?_)
      · have hF := F_pos c19 hF
        have e50 := Option.some.inj hF
        subst e50
        exact W.vret hx hb hr (fun t ht hW => ⟨⟨S, rfl, rfl, by rw [ht]; exact hP, va_K.moved hW.alike hK, hD⟩, hS.F ht⟩) hS.2.2 dX5_finds_157
      · have hF := F_neg c19 hF
        refine lv_aload_n hx hb dX5_finds_44 rfl (lv_at hl 0 rfl) ?_
        refine va_get (D := (dC, dI)) (ci := 5) (v := .ref (a 12)) (C := RX5) (T := TX5) (N := 26) hx hb hts hinX5 hown hK hP 0 rfl rfl 20 (by decide) (hts (Cond.fieldLink RX5 43 "LearnedShapesModel" "place" "[I") (List.mem_of_getElem? (i := 6) rfl)) (fun _ h9 => h9) rfl dX5_finds_45 ?_
        refine lv_iload_n hx hb dX5_finds_48 rfl (lv_at hl 2 rfl) ?_
        refine lv_aload_n hx hb dX5_finds_49 rfl (lv_at hl 0 rfl) ?_
        refine lv_iload_n hx hb dX5_finds_50 rfl (lv_at hl 1 rfl) ?_
        refine lv_iload_n hx hb dX5_finds_51 rfl (lv_at hl 2 rfl) ?_
        obtain ⟨r20, u21, h22, hF⟩ := ob2_some hF
        have hPc : va_P (dC, dI) vwCl ((W_Model cI a S)) H := hP
        have hDc : va_D A ((W_Model cI a S)) := hD
        have hFc := va_free (wc := (W_Model cI a S)) hD hS hA [0, 1, 2, 3, 4, 5, 6, 7, 8, 9, 10, 11, 12, 13] rfl
        refine va_calli (va_runV (As := [.int v1, .int x2]) (rest := [.int x2, .ref (a 12)]) ⟨hx, hb, hml, hown, hts⟩ (c_X5_holds l dC dI cI a H.size _ _ _ _ _ h22) (cwV 2 hts gX5_finds_X5_holds rfl rfl rfl (by decide +kernel) ⟨Nat.le_of_ble_eq_true rfl, Nat.le_of_ble_eq_true rfl⟩) (jPreV hK hPc hDc hN (ci := 5) rfl rfl) rfl rfl hl.1 rfl (lv_room (Nat.le_of_ble_eq_true rfl)) dX5_finds_52 ⟨Nat.le_of_ble_eq_true rfl, Nat.le_of_ble_eq_true rfl⟩) hS (fun q _ h => hFc q h) hFc (fun r' u' t H locs ht hvm hw hB hz1 hk1 hS => ?_)
        obtain ⟨e1, e2⟩ := hw
        subst e1
        subst e2
        obtain ⟨hP1, -, hD1⟩ := hB
        rw [ht] at hP1
        have hP : va_P (dC, dI) vwCl ((W_Model cI a u21)) H := hP1
        have hD : va_D A ((W_Model cI a u21)) := hD1.weaken (fun _ _ _ h => hFc _ h)
        obtain ⟨g23, hF⟩ := og_some hF
        refine va_iast (f := (g_Model_place u21)) hx hb hK hP hD hS 12 0 rfl rfl (inb_in g23) dX5_finds_55 (fun H locs hP hD hS => ?_)
        have hP : va_P (dC, dI) vwCl ((W_Model cI a (s_Model_place u21 (upd (g_Model_place u21) x2.toNatClampNeg r20)))) H := hP
        have hD : va_D A ((W_Model cI a (s_Model_place u21 (upd (g_Model_place u21) x2.toNatClampNeg r20)))) := hD
        refine lv_iconst (v := (0 : Int32)) hx hb dX5_finds_56 (by decide) ?_
        refine lv_istore_n (lv' := [(3, .int (0 : Int32)), (0, .ref (a 0)), (1, .int v1), (2, .int x2)]) hx hb dX5_finds_57 rfl hl (by decide) rfl (fun ls hl => ?_)
        exact K58 _ _ _ _ _ _ hF hP hD hS _ (lv_sub hl [1, 2, 3, 0] rfl)
  have KE : ∀ (H : Heap) (locs : List Loc), va_P (dC, dI) vwCl ((W_Model cI a S)) H → va_D A ((W_Model cI a S)) → va_S A s.heap H locs → W p l e (headSpec wsX5_finds ({ frames := 3, cells := 0, slots := 0, locals := 72 } : Room)).room s m ([.ref (a 0), .int v1] : List Value).toArray below meth c H locs 0 0 (MQ below (va_Qv (fun u : S_Model => Y = u) (fun u : S_Model => jB (dC, dI) [(cI, .int)] A ((W_Model cI a u))) A) ([.ref (a 0), .int v1] : List Value).toArray s 0 0 A) (F0 m 0 ls []) := by
    intro H locs hP hD hS
    unfold F_X5_finds at hF
    refine lv_aload_n hx hb dX5_finds_0 rfl (lv_at hl 0 rfl) ?_
    refine lv_iconst (v := (0 : Int32)) hx hb dX5_finds_1 (by decide) ?_
    refine va_put (D := (dC, dI)) (ci := 5) (v := .int (0 : Int32)) (ty := .int) (C := RX5) (T := TX5) (N := 26) hx hb hts hinX5 tyX5 tyX5_ok nmX5 hown hK hP hD hS 0 rfl rfl 23 (by decide) (hts (Cond.fieldLink RX5 210 "LearnedShapesModel" "misfit" "I") (List.mem_of_getElem? (i := 1) rfl)) (fun _ h9 => h9) rfl (by decide +kernel) (rfl) rfl (Nat.le_of_ble_eq_true rfl) dX5_finds_2 (fun H locs hP hD hS => ?_)
    have hP : va_P (dC, dI) vwCl ((W_Model cI a (s_Model_misfit S (0 : Int32)))) H := hP
    have hD : va_D A ((W_Model cI a (s_Model_misfit S (0 : Int32)))) := hD
    refine lv_aload_n hx hb dX5_finds_5 rfl (lv_at hl 0 rfl) ?_
    refine lv_iconst (v := (-1 : Int32)) hx hb dX5_finds_6 (by decide) ?_
    refine va_put (D := (dC, dI)) (ci := 5) (v := .int (-1 : Int32)) (ty := .int) (C := RX5) (T := TX5) (N := 26) hx hb hts hinX5 tyX5 tyX5_ok nmX5 hown hK hP hD hS 0 rfl rfl 24 (by decide) (hts (Cond.fieldLink RX5 213 "LearnedShapesModel" "misfitAt" "I") (List.mem_of_getElem? (i := 2) rfl)) (fun _ h9 => h9) rfl (by decide +kernel) (rfl) rfl (Nat.le_of_ble_eq_true rfl) dX5_finds_7 (fun H locs hP hD hS => ?_)
    have hP : va_P (dC, dI) vwCl ((W_Model cI a (s_Model_misfitAt (s_Model_misfit S (0 : Int32)) (-1 : Int32)))) H := hP
    have hD : va_D A ((W_Model cI a (s_Model_misfitAt (s_Model_misfit S (0 : Int32)) (-1 : Int32)))) := hD
    refine lv_aload_n hx hb dX5_finds_10 rfl (lv_at hl 0 rfl) ?_
    refine lv_iconst (v := (-1 : Int32)) hx hb dX5_finds_11 (by decide) ?_
    refine va_put (D := (dC, dI)) (ci := 5) (v := .int (-1 : Int32)) (ty := .int) (C := RX5) (T := TX5) (N := 26) hx hb hts hinX5 tyX5 tyX5_ok nmX5 hown hK hP hD hS 0 rfl rfl 25 (by decide) (hts (Cond.fieldLink RX5 216 "LearnedShapesModel" "misfitNode" "I") (List.mem_of_getElem? (i := 3) rfl)) (fun _ h9 => h9) rfl (by decide +kernel) (rfl) rfl (Nat.le_of_ble_eq_true rfl) dX5_finds_12 (fun H locs hP hD hS => ?_)
    have hP : va_P (dC, dI) vwCl ((W_Model cI a (s_Model_misfitNode (s_Model_misfitAt (s_Model_misfit S (0 : Int32)) (-1 : Int32)) (-1 : Int32)))) H := hP
    have hD : va_D A ((W_Model cI a (s_Model_misfitNode (s_Model_misfitAt (s_Model_misfit S (0 : Int32)) (-1 : Int32)) (-1 : Int32)))) := hD
    refine lv_aload_n hx hb dX5_finds_15 rfl (lv_at hl 0 rfl) ?_
    refine va_get (D := (dC, dI)) (ci := 5) (v := .ref (a 1)) (C := RX5) (T := TX5) (N := 26) hx hb hts hinX5 hown hK hP 0 rfl rfl 0 (by decide) (hts (Cond.fieldLink RX5 7 "LearnedShapesModel" "now" "[I") (List.mem_of_getElem? (i := 4) rfl)) (fun _ h9 => h9) rfl dX5_finds_16 ?_
    refine lv_iconst (v := (3 : Int32)) hx hb dX5_finds_19 (by decide) ?_
    refine lv_iload_n hx hb dX5_finds_20 rfl (lv_at hl 1 rfl) ?_
    refine lv_iadd hx hb dX5_finds_21 ?_
    obtain ⟨g24, hF⟩ := og_some hF
    refine va_iald (f := (g_Model_now S)) hx hb hK hP 1 0 rfl rfl (inb_in g24) dX5_finds_22 ?_
    refine lv_if_ne (tgt := 34) hx hb dX5_finds_23 (by decide) (fun c25 => ?_) (fun c25 => ?_)
    · have hF := F_neg c25 hF
      refine lv_iconst (v := (0 : Int32)) hx hb dX5_finds_34 (by decide) ?_
      refine lv_istore_n (lv' := [(2, .int (0 : Int32)), (0, .ref (a 0)), (1, .int v1)]) hx hb dX5_finds_35 rfl hl (by decide) rfl (fun ls hl => ?_)
      exact K36 _ _ _ _ _ hF hP hD hS _ (lv_sub hl [1, 2, 0] rfl)
    · have hF := F_pos c25 hF
      refine lv_aload_n hx hb dX5_finds_26 rfl (lv_at hl 0 rfl) ?_
      refine lv_iconst (v := (1 : Int32)) hx hb dX5_finds_27 (by decide) ?_
      refine lv_iconst (v := (0 : Int32)) hx hb dX5_finds_28 (by decide) ?_
      refine lv_iconst (v := (-1 : Int32)) hx hb dX5_finds_29 (by decide) ?_
      obtain ⟨u26, h27, hF⟩ := ob1_some hF
      have hPc : va_P (dC, dI) vwCl ((W_Model cI a (s_Model_misfitNode (s_Model_misfitAt (s_Model_misfit S (0 : Int32)) (-1 : Int32)) (-1 : Int32)))) H := hP
      have hDc : va_D A ((W_Model cI a (s_Model_misfitNode (s_Model_misfitAt (s_Model_misfit S (0 : Int32)) (-1 : Int32)) (-1 : Int32)))) := hD
      have hFc := va_free (wc := (W_Model cI a (s_Model_misfitNode (s_Model_misfitAt (s_Model_misfit S (0 : Int32)) (-1 : Int32)) (-1 : Int32)))) hD hS hA [0, 1, 2, 3, 4, 5, 6, 7, 8, 9, 10, 11, 12, 13] rfl
      refine va_callv (va_runV (As := [.int (1 : Int32), .int (0 : Int32), .int (-1 : Int32)]) (rest := []) ⟨hx, hb, hml, hown, hts⟩ (c_X5_misfits l dC dI cI a H.size _ _ _ _ _ h27) (cwV 3 hts gX5_finds_X5_misfits rfl rfl rfl (by decide +kernel) ⟨Nat.le_of_ble_eq_true rfl, Nat.le_of_ble_eq_true rfl⟩) (jPreV hK hPc hDc hN (ci := 5) rfl rfl) rfl rfl hl.1 rfl (lv_room (Nat.le_of_ble_eq_true rfl)) dX5_finds_30 ⟨Nat.le_of_ble_eq_true rfl, Nat.le_of_ble_eq_true rfl⟩) hS (fun q _ h => hFc q h) hFc (fun u' t H locs ht hvm hw hB hz1 hk1 hS => ?_)
      subst hw
      obtain ⟨hP1, -, hD1⟩ := hB
      rw [ht] at hP1
      have hP : va_P (dC, dI) vwCl ((W_Model cI a u26)) H := hP1
      have hD : va_D A ((W_Model cI a u26)) := hD1.weaken (fun _ _ _ h => hFc _ h)
      have e50 := Option.some.inj hF
      subst e50
      exact W.vret hx hb hr (fun t ht hW => ⟨⟨u26, rfl, rfl, by rw [ht]; exact hP, va_K.moved hW.alike hK, hD⟩, hS.F ht⟩) hS.2.2 dX5_finds_33
  exact KE _ _ hP hD hS
set_option maxHeartbeats 4000000 in
set_option maxRecDepth 100000 in
theorem c_X5_fitOf (l : Launch) (dC : Nat → ClassId) (dI : Nat → Nat → Nat) (cI : ClassId) (a : Nat → Nat) (sz : Nat) (S : S_Model) (v1 : Int32) (v2 : Int32) (rr : Int32) (Y : S_Model) (hF : F_X5_fitOf S v1 v2 = some (rr, Y)) : Met l yX5_fitOf wsX5_fitOf ({ frames := 7, cells := 0, slots := 0, locals := 155 } : Room) (va_Pc [.ref (a 0), .int v1, .int v2] (jPre (dC, dI) [(cI, .int)] sz ((W_Model cI a S)))) (va_Qi (fun (r' : Int32) (u : S_Model) => rr = r' ∧ Y = u) (fun u : S_Model => jB (dC, dI) [(cI, .int)] (va_A ((W_Model cI a S)) sz) ((W_Model cI a u))) (va_A ((W_Model cI a S)) sz)) 0 0 (va_A ((W_Model cI a S)) sz) := by
  refine Met.ofW (cc := cX5_fitOf) (maxL := 3) (ret := (some .int)) (by decide) rfl ?_
  intro p e s m args below meth c s₁ B hml hv
  obtain ⟨rfl, hsz, hP, hK, hD0, hN⟩ := hv
  have hx := B.exec
  have hb := B.bytes
  have hr := B.returns
  have hts := atoms_spec (ws := wsX5_fitOf) B.pre
  have hown : s.vm.findClass RX5 = some m.cls := findClass_of_methodNamed B.named
  have hlocks := B.notSynchronized
  have hinX5 : ∀ w ∈ u_ws RX5 TX5 26, w ∈ wsX5_fitOf := by decide +kernel
  subst hsz
  have hD := hD0.self (sz := s.heap.size)
  generalize hAe : (va_A ((W_Model cI a S)) s.heap.size) = A at hD ⊢
  have hA : ∀ q : Nat, s.heap.size ≤ q → A q := fun q h => by rw [← hAe]; exact Or.inr h
  have hS : va_S A s.heap s.heap [] := va_S.rf
  have hl := lv_entry ([.ref (a 0), .int v1, .int v2]) (n := 3) (Nat.le_of_ble_eq_true rfl)
  rw [lg_entry_eq]
  generalize (lg_sl ([.ref (a 0), .int v1, .int v2]) ++ List.replicate (3 - (lg_sl ([.ref (a 0), .int v1, .int v2])).length) Slot.unset).toArray = ls at hl ⊢
  have hl : lv_has ls 3 [(0, .ref (a 0)), (1, .int v1), (2, .int v2)] := hl
  have KE : ∀ (H : Heap) (locs : List Loc), va_P (dC, dI) vwCl ((W_Model cI a S)) H → va_D A ((W_Model cI a S)) → va_S A s.heap H locs → W p l e (headSpec wsX5_fitOf ({ frames := 7, cells := 0, slots := 0, locals := 155 } : Room)).room s m ([.ref (a 0), .int v1, .int v2] : List Value).toArray below meth c H locs 0 0 (MQ below (va_Qi (fun (r' : Int32) (u : S_Model) => rr = r' ∧ Y = u) (fun u : S_Model => jB (dC, dI) [(cI, .int)] A ((W_Model cI a u))) A) ([.ref (a 0), .int v1, .int v2] : List Value).toArray s 0 0 A) (F0 m 0 ls []) := by
    intro H locs hP hD hS
    unfold F_X5_fitOf at hF
    refine lv_aload_n hx hb dX5_fitOf_0 rfl (lv_at hl 0 rfl) ?_
    obtain ⟨r1, u2, h3, hF⟩ := ob2_some hF
    have hPc : va_P (dC, dI) vwCl ((W_Model cI a S)) H := hP
    have hDc : va_D A ((W_Model cI a S)) := hD
    have hFc := va_free (wc := (W_Model cI a S)) hD hS hA [0, 1, 2, 3, 4, 5, 6, 7, 8, 9, 10, 11, 12, 13] rfl
    refine va_calli (va_runV (As := []) (rest := []) ⟨hx, hb, hml, hown, hts⟩ (c_X5_isText l dC dI cI a H.size _ _ _ h3) (cwV 0 hts gX5_fitOf_X5_isText rfl rfl rfl (by decide +kernel) ⟨Nat.le_of_ble_eq_true rfl, Nat.le_of_ble_eq_true rfl⟩) (jPreV hK hPc hDc hN (ci := 5) rfl rfl) rfl rfl hl.1 rfl (lv_room (Nat.le_of_ble_eq_true rfl)) dX5_fitOf_1 ⟨Nat.le_of_ble_eq_true rfl, Nat.le_of_ble_eq_true rfl⟩) hS (fun q _ h => hFc q h) hFc (fun r' u' t H locs ht hvm hw hB hz1 hk1 hS => ?_)
    obtain ⟨e1, e2⟩ := hw
    subst e1
    subst e2
    obtain ⟨hP1, -, hD1⟩ := hB
    rw [ht] at hP1
    have hP : va_P (dC, dI) vwCl ((W_Model cI a u2)) H := hP1
    have hD : va_D A ((W_Model cI a u2)) := hD1.weaken (fun _ _ _ h => hFc _ h)
    refine lv_if_ne (tgt := 9) hx hb dX5_fitOf_4 (by decide) (fun c4 => ?_) (fun c4 => ?_)
    · have hF := F_neg c4 hF
      refine lv_aload_n hx hb dX5_fitOf_9 rfl (lv_at hl 0 rfl) ?_
      refine lv_iload_n hx hb dX5_fitOf_10 rfl (lv_at hl 1 rfl) ?_
      obtain ⟨u5, h6, hF⟩ := ob1_some hF
      have hPc : va_P (dC, dI) vwCl ((W_Model cI a u2)) H := hP
      have hDc : va_D A ((W_Model cI a u2)) := hD
      have hFc := va_free (wc := (W_Model cI a u2)) hD hS hA [0, 1, 2, 3, 4, 5, 6, 7, 8, 9, 10, 11, 12, 13] rfl
      refine va_callv (va_runV (As := [.int v1]) (rest := []) ⟨hx, hb, hml, hown, hts⟩ (c_X5_finds l dC dI cI a H.size _ _ _ h6) (cwV 1 hts gX5_fitOf_X5_finds rfl rfl rfl (by decide +kernel) ⟨Nat.le_of_ble_eq_true rfl, Nat.le_of_ble_eq_true rfl⟩) (jPreV hK hPc hDc hN (ci := 5) rfl rfl) rfl rfl hl.1 rfl (lv_room (Nat.le_of_ble_eq_true rfl)) dX5_fitOf_11 ⟨Nat.le_of_ble_eq_true rfl, Nat.le_of_ble_eq_true rfl⟩) hS (fun q _ h => hFc q h) hFc (fun u' t H locs ht hvm hw hB hz1 hk1 hS => ?_)
      subst hw
      obtain ⟨hP1, -, hD1⟩ := hB
      rw [ht] at hP1
      have hP : va_P (dC, dI) vwCl ((W_Model cI a u5)) H := hP1
      have hD : va_D A ((W_Model cI a u5)) := hD1.weaken (fun _ _ _ h => hFc _ h)
      refine lv_iload_n hx hb dX5_fitOf_14 rfl (lv_at hl 2 rfl) ?_
      refine lv_if_ne (tgt := 25) hx hb dX5_fitOf_15 (by decide) (fun c7 => ?_) (fun c7 => ?_)
      · have hF := F_neg c7 hF
        refine lv_iload_n hx hb dX5_fitOf_25 rfl (lv_at hl 2 rfl) ?_
        refine lv_iconst (v := (1 : Int32)) hx hb dX5_fitOf_26 (by decide) ?_
        refine lv_icmp_ne (tgt := 37) hx hb dX5_fitOf_27 (by decide) (fun c8 => ?_) (fun c8 => ?_)
        · have hF := F_neg c8 hF
          refine lv_aload_n hx hb dX5_fitOf_37 rfl (lv_at hl 0 rfl) ?_
          refine va_get (D := (dC, dI)) (ci := 5) (v := .int (g_Model_misfitNode u5)) (C := RX5) (T := TX5) (N := 26) hx hb hts hinX5 hown hK hP 0 rfl rfl 25 (by decide) (hts (Cond.fieldLink RX5 216 "LearnedShapesModel" "misfitNode" "I") (List.mem_of_getElem? (i := 3) rfl)) (fun _ h9 => h9) rfl dX5_fitOf_38 ?_
          have e50 := Option.some.inj hF
          obtain ⟨e60, e51⟩ := Prod.mk.inj e50
          subst e60
          subst e51
          exact W.iret (v := (g_Model_misfitNode u5)) hx hb hr (fun t ht hW => ⟨⟨(g_Model_misfitNode u5), u5, rfl, ⟨rfl, rfl⟩, by rw [ht]; exact hP, va_K.moved hW.alike hK, hD⟩, hS.F ht⟩) hS.2.2 dX5_fitOf_41
        · have hF := F_pos c8 hF
          refine lv_aload_n hx hb dX5_fitOf_30 rfl (lv_at hl 0 rfl) ?_
          refine va_get (D := (dC, dI)) (ci := 5) (v := .int (g_Model_misfitAt u5)) (C := RX5) (T := TX5) (N := 26) hx hb hts hinX5 hown hK hP 0 rfl rfl 24 (by decide) (hts (Cond.fieldLink RX5 213 "LearnedShapesModel" "misfitAt" "I") (List.mem_of_getElem? (i := 2) rfl)) (fun _ h9 => h9) rfl dX5_fitOf_31 ?_
          refine lv_goto (tgt := 41) hx hb dX5_fitOf_34 (by decide) ?_
          have e50 := Option.some.inj hF
          obtain ⟨e60, e51⟩ := Prod.mk.inj e50
          subst e60
          subst e51
          exact W.iret (v := (g_Model_misfitAt u5)) hx hb hr (fun t ht hW => ⟨⟨(g_Model_misfitAt u5), u5, rfl, ⟨rfl, rfl⟩, by rw [ht]; exact hP, va_K.moved hW.alike hK, hD⟩, hS.F ht⟩) hS.2.2 dX5_fitOf_41
      · have hF := F_pos c7 hF
        refine lv_aload_n hx hb dX5_fitOf_18 rfl (lv_at hl 0 rfl) ?_
        refine va_get (D := (dC, dI)) (ci := 5) (v := .int (g_Model_misfit u5)) (C := RX5) (T := TX5) (N := 26) hx hb hts hinX5 hown hK hP 0 rfl rfl 23 (by decide) (hts (Cond.fieldLink RX5 210 "LearnedShapesModel" "misfit" "I") (List.mem_of_getElem? (i := 1) rfl)) (fun _ h9 => h9) rfl dX5_fitOf_19 ?_
        refine lv_goto (tgt := 41) hx hb dX5_fitOf_22 (by decide) ?_
        have e50 := Option.some.inj hF
        obtain ⟨e60, e51⟩ := Prod.mk.inj e50
        subst e60
        subst e51
        exact W.iret (v := (g_Model_misfit u5)) hx hb hr (fun t ht hW => ⟨⟨(g_Model_misfit u5), u5, rfl, ⟨rfl, rfl⟩, by rw [ht]; exact hP, va_K.moved hW.alike hK, hD⟩, hS.F ht⟩) hS.2.2 dX5_fitOf_41
    · have hF := F_pos c4 hF
      refine lv_iconst (v := (-1 : Int32)) hx hb dX5_fitOf_7 (by decide) ?_
      have e50 := Option.some.inj hF
      obtain ⟨e60, e51⟩ := Prod.mk.inj e50
      subst e60
      subst e51
      exact W.iret (v := (-1 : Int32)) hx hb hr (fun t ht hW => ⟨⟨(-1 : Int32), u2, rfl, ⟨rfl, rfl⟩, by rw [ht]; exact hP, va_K.moved hW.alike hK, hD⟩, hS.F ht⟩) hS.2.2 dX5_fitOf_8
  exact KE _ _ hP hD hS
set_option maxHeartbeats 4000000 in
set_option maxRecDepth 100000 in
theorem c_X5_fits (l : Launch) (dC : Nat → ClassId) (dI : Nat → Nat → Nat) (cI : ClassId) (a : Nat → Nat) (sz : Nat) (S : S_Model) (v1 : Int32) (v2 : Int32) (rr : Int32) (Y : S_Model) (hF : F_X5_fits S v1 v2 = some (rr, Y)) : Met l yX5_fits wsX5_fits ({ frames := 8, cells := 0, slots := 0, locals := 177 } : Room) (va_Pc [.ref (a 0), .int v1, .int v2] (jPre (dC, dI) [(cI, .int)] sz ((W_Model cI a S)))) (va_Qi (fun (r' : Int32) (u : S_Model) => rr = r' ∧ Y = u) (fun u : S_Model => jB (dC, dI) [(cI, .int)] (va_A ((W_Model cI a S)) sz) ((W_Model cI a u))) (va_A ((W_Model cI a S)) sz)) 0 0 (va_A ((W_Model cI a S)) sz) := by
  refine Met.ofW (cc := cX5_fits) (maxL := 3) (ret := (some .int)) (by decide) rfl ?_
  intro p e s m args below meth c s₁ B hml hv
  obtain ⟨rfl, hsz, hP, hK, hD0, hN⟩ := hv
  have hx := B.exec
  have hb := B.bytes
  have hr := B.returns
  have hts := atoms_spec (ws := wsX5_fits) B.pre
  have hown : s.vm.findClass RX5 = some m.cls := findClass_of_methodNamed B.named
  have hlocks := B.notSynchronized
  have hinX5 : ∀ w ∈ u_ws RX5 TX5 26, w ∈ wsX5_fits := by decide +kernel
  subst hsz
  have hD := hD0.self (sz := s.heap.size)
  generalize hAe : (va_A ((W_Model cI a S)) s.heap.size) = A at hD ⊢
  have hA : ∀ q : Nat, s.heap.size ≤ q → A q := fun q h => by rw [← hAe]; exact Or.inr h
  have hS : va_S A s.heap s.heap [] := va_S.rf
  have hl := lv_entry ([.ref (a 0), .int v1, .int v2]) (n := 3) (Nat.le_of_ble_eq_true rfl)
  rw [lg_entry_eq]
  generalize (lg_sl ([.ref (a 0), .int v1, .int v2]) ++ List.replicate (3 - (lg_sl ([.ref (a 0), .int v1, .int v2])).length) Slot.unset).toArray = ls at hl ⊢
  have hl : lv_has ls 3 [(0, .ref (a 0)), (1, .int v1), (2, .int v2)] := hl
  have KE : ∀ (H : Heap) (locs : List Loc), va_P (dC, dI) vwCl ((W_Model cI a S)) H → va_D A ((W_Model cI a S)) → va_S A s.heap H locs → W p l e (headSpec wsX5_fits ({ frames := 8, cells := 0, slots := 0, locals := 177 } : Room)).room s m ([.ref (a 0), .int v1, .int v2] : List Value).toArray below meth c H locs 0 0 (MQ below (va_Qi (fun (r' : Int32) (u : S_Model) => rr = r' ∧ Y = u) (fun u : S_Model => jB (dC, dI) [(cI, .int)] A ((W_Model cI a u))) A) ([.ref (a 0), .int v1, .int v2] : List Value).toArray s 0 0 A) (F0 m 0 ls []) := by
    intro H locs hP hD hS
    unfold F_X5_fits at hF
    refine lv_aload_n hx hb dX5_fits_0 rfl (lv_at hl 0 rfl) ?_
    refine lv_iconst (v := (0 : Int32)) hx hb dX5_fits_1 (by decide) ?_
    refine va_put (D := (dC, dI)) (ci := 5) (v := .int (0 : Int32)) (ty := .int) (C := RX5) (T := TX5) (N := 26) hx hb hts hinX5 tyX5 tyX5_ok nmX5 hown hK hP hD hS 0 rfl rfl 5 (by decide) (hts (Cond.fieldLink RX5 49 "LearnedShapesModel" "thrown" "I") (List.mem_of_getElem? (i := 1) rfl)) (fun _ h9 => h9) rfl (by decide +kernel) (rfl) rfl (Nat.le_of_ble_eq_true rfl) dX5_fits_2 (fun H locs hP hD hS => ?_)
    have hP : va_P (dC, dI) vwCl ((W_Model cI a (s_Model_thrown S (0 : Int32)))) H := hP
    have hD : va_D A ((W_Model cI a (s_Model_thrown S (0 : Int32)))) := hD
    refine lv_iload_n hx hb dX5_fits_5 rfl (lv_at hl 1 rfl) ?_
    obtain ⟨r1, h2, hF⟩ := ob1_some hF
    have hPc := hP.sub (ws' := ([] : va_W)) [] rfl
    have hDc := hD.sub (ws' := ([] : va_W)) [] (by decide) rfl
    have hFc := va_free (wc := ([] : va_W)) hD hS hA [] rfl
    refine va_calli (va_runS (As := [.int v1]) (rest := []) ⟨hx, hb, hml, hown, hts⟩ (c_X5_isShape l dC dI cI  H.size _ _ h2) (va_cwS 1 hts gX5_fits_X5_isShape rfl rfl rfl (by decide +kernel) ⟨Nat.le_of_ble_eq_true rfl, Nat.le_of_ble_eq_true rfl⟩) (jPreS hK hPc hDc hN) rfl rfl hl.1 rfl (lv_room (Nat.le_of_ble_eq_true rfl)) dX5_fits_6 ⟨Nat.le_of_ble_eq_true rfl, Nat.le_of_ble_eq_true rfl⟩) hS (fun q _ h => hFc q h) hFc (fun r' u' t H locs ht hvm hw hB hz1 hk1 hS => ?_)
    subst hw
    obtain ⟨hP1, -, hD1⟩ := hB
    rw [ht] at hP1
    obtain ⟨hP, hD⟩ := jJoin (wc := ([] : va_W)) (w1 := ([] : va_W)) (ws' := (W_Model cI a (s_Model_thrown S (0 : Int32)))) hP hD [] [0, 1, 2, 3, 4, 5, 6, 7, 8, 9, 10, 11, 12, 13] [0, 1, 2, 3, 4, 5, 6, 7, 8, 9, 10, 11, 12, 13] rfl rfl (by decide) (by decide) hk1 hFc hP1 hD1 (by decide) rfl
    refine lv_if_ne (tgt := 18) hx hb dX5_fits_9 (by decide) (fun c3 => ?_) (fun c3 => ?_)
    · have hF := F_neg c3 hF
      refine lv_iload_n hx hb dX5_fits_18 rfl (lv_at hl 2 rfl) ?_
      refine lv_iconst (v := (0 : Int32)) hx hb dX5_fits_19 (by decide) ?_
      refine lv_iconst (v := (2 : Int32)) hx hb dX5_fits_20 (by decide) ?_
      obtain ⟨r4, h5, hF⟩ := ob1_some hF
      have hPc := hP.sub (ws' := ([] : va_W)) [] rfl
      have hDc := hD.sub (ws' := ([] : va_W)) [] (by decide) rfl
      have hFc := va_free (wc := ([] : va_W)) hD hS hA [] rfl
      refine va_calli (va_runS (As := [.int v2, .int (0 : Int32), .int (2 : Int32)]) (rest := []) ⟨hx, hb, hml, hown, hts⟩ (c_X5_in l dC dI cI  H.size _ _ _ _ h5) (va_cwS 3 hts gX5_fits_X5_in rfl rfl rfl (by decide +kernel) ⟨Nat.le_of_ble_eq_true rfl, Nat.le_of_ble_eq_true rfl⟩) (jPreS hK hPc hDc hN) rfl rfl hl.1 rfl (lv_room (Nat.le_of_ble_eq_true rfl)) dX5_fits_21 ⟨Nat.le_of_ble_eq_true rfl, Nat.le_of_ble_eq_true rfl⟩) hS (fun q _ h => hFc q h) hFc (fun r' u' t H locs ht hvm hw hB hz1 hk1 hS => ?_)
      subst hw
      obtain ⟨hP1, -, hD1⟩ := hB
      rw [ht] at hP1
      obtain ⟨hP, hD⟩ := jJoin (wc := ([] : va_W)) (w1 := ([] : va_W)) (ws' := (W_Model cI a (s_Model_thrown S (0 : Int32)))) hP hD [] [0, 1, 2, 3, 4, 5, 6, 7, 8, 9, 10, 11, 12, 13] [0, 1, 2, 3, 4, 5, 6, 7, 8, 9, 10, 11, 12, 13] rfl rfl (by decide) (by decide) hk1 hFc hP1 hD1 (by decide) rfl
      refine lv_if_eq (tgt := 36) hx hb dX5_fits_24 (by decide) (fun c6 => ?_) (fun c6 => ?_)
      · have hF := F_pos c6 hF
        refine lv_aload_n hx hb dX5_fits_36 rfl (lv_at hl 0 rfl) ?_
        refine lv_iconst (v := (2 : Int32)) hx hb dX5_fits_37 (by decide) ?_
        obtain ⟨r7, u8, h9, hF⟩ := ob2_some hF
        have hPc : va_P (dC, dI) vwCl ((W_Model cI a (s_Model_thrown S (0 : Int32)))) H := hP
        have hDc : va_D A ((W_Model cI a (s_Model_thrown S (0 : Int32)))) := hD
        have hFc := va_free (wc := (W_Model cI a (s_Model_thrown S (0 : Int32)))) hD hS hA [0, 1, 2, 3, 4, 5, 6, 7, 8, 9, 10, 11, 12, 13] rfl
        refine va_calli (va_runV (As := [.int (2 : Int32)]) (rest := []) ⟨hx, hb, hml, hown, hts⟩ (c_X5_fails l dC dI cI a H.size _ _ _ _ h9) (cwV 1 hts gX5_fits_X5_fails rfl rfl rfl (by decide +kernel) ⟨Nat.le_of_ble_eq_true rfl, Nat.le_of_ble_eq_true rfl⟩) (jPreV hK hPc hDc hN (ci := 5) rfl rfl) rfl rfl hl.1 rfl (lv_room (Nat.le_of_ble_eq_true rfl)) dX5_fits_38 ⟨Nat.le_of_ble_eq_true rfl, Nat.le_of_ble_eq_true rfl⟩) hS (fun q _ h => hFc q h) hFc (fun r' u' t H locs ht hvm hw hB hz1 hk1 hS => ?_)
        obtain ⟨e1, e2⟩ := hw
        subst e1
        subst e2
        obtain ⟨hP1, -, hD1⟩ := hB
        rw [ht] at hP1
        have hP : va_P (dC, dI) vwCl ((W_Model cI a u8)) H := hP1
        have hD : va_D A ((W_Model cI a u8)) := hD1.weaken (fun _ _ _ h => hFc _ h)
        have e50 := Option.some.inj hF
        obtain ⟨e60, e51⟩ := Prod.mk.inj e50
        subst e60
        subst e51
        exact W.iret (v := r7) hx hb hr (fun t ht hW => ⟨⟨r7, u8, rfl, ⟨rfl, rfl⟩, by rw [ht]; exact hP, va_K.moved hW.alike hK, hD⟩, hS.F ht⟩) hS.2.2 dX5_fits_41
      · have hF := F_neg c6 hF
        refine lv_aload_n hx hb dX5_fits_27 rfl (lv_at hl 0 rfl) ?_
        refine lv_iload_n hx hb dX5_fits_28 rfl (lv_at hl 1 rfl) ?_
        refine lv_iload_n hx hb dX5_fits_29 rfl (lv_at hl 2 rfl) ?_
        obtain ⟨r10, u11, h12, hF⟩ := ob2_some hF
        have hPc : va_P (dC, dI) vwCl ((W_Model cI a (s_Model_thrown S (0 : Int32)))) H := hP
        have hDc : va_D A ((W_Model cI a (s_Model_thrown S (0 : Int32)))) := hD
        have hFc := va_free (wc := (W_Model cI a (s_Model_thrown S (0 : Int32)))) hD hS hA [0, 1, 2, 3, 4, 5, 6, 7, 8, 9, 10, 11, 12, 13] rfl
        refine va_calli (va_runV (As := [.int v1, .int v2]) (rest := []) ⟨hx, hb, hml, hown, hts⟩ (c_X5_fitOf l dC dI cI a H.size _ _ _ _ _ h12) (cwV 2 hts gX5_fits_X5_fitOf rfl rfl rfl (by decide +kernel) ⟨Nat.le_of_ble_eq_true rfl, Nat.le_of_ble_eq_true rfl⟩) (jPreV hK hPc hDc hN (ci := 5) rfl rfl) rfl rfl hl.1 rfl (lv_room (Nat.le_of_ble_eq_true rfl)) dX5_fits_30 ⟨Nat.le_of_ble_eq_true rfl, Nat.le_of_ble_eq_true rfl⟩) hS (fun q _ h => hFc q h) hFc (fun r' u' t H locs ht hvm hw hB hz1 hk1 hS => ?_)
        obtain ⟨e1, e2⟩ := hw
        subst e1
        subst e2
        obtain ⟨hP1, -, hD1⟩ := hB
        rw [ht] at hP1
        have hP : va_P (dC, dI) vwCl ((W_Model cI a u11)) H := hP1
        have hD : va_D A ((W_Model cI a u11)) := hD1.weaken (fun _ _ _ h => hFc _ h)
        refine lv_goto (tgt := 41) hx hb dX5_fits_33 (by decide) ?_
        have e50 := Option.some.inj hF
        obtain ⟨e60, e51⟩ := Prod.mk.inj e50
        subst e60
        subst e51
        exact W.iret (v := r10) hx hb hr (fun t ht hW => ⟨⟨r10, u11, rfl, ⟨rfl, rfl⟩, by rw [ht]; exact hP, va_K.moved hW.alike hK, hD⟩, hS.F ht⟩) hS.2.2 dX5_fits_41
    · have hF := F_pos c3 hF
      refine lv_aload_n hx hb dX5_fits_12 rfl (lv_at hl 0 rfl) ?_
      refine lv_iconst (v := (1 : Int32)) hx hb dX5_fits_13 (by decide) ?_
      obtain ⟨r13, u14, h15, hF⟩ := ob2_some hF
      have hPc : va_P (dC, dI) vwCl ((W_Model cI a (s_Model_thrown S (0 : Int32)))) H := hP
      have hDc : va_D A ((W_Model cI a (s_Model_thrown S (0 : Int32)))) := hD
      have hFc := va_free (wc := (W_Model cI a (s_Model_thrown S (0 : Int32)))) hD hS hA [0, 1, 2, 3, 4, 5, 6, 7, 8, 9, 10, 11, 12, 13] rfl
      refine va_calli (va_runV (As := [.int (1 : Int32)]) (rest := []) ⟨hx, hb, hml, hown, hts⟩ (c_X5_fails l dC dI cI a H.size _ _ _ _ h15) (cwV 1 hts gX5_fits_X5_fails rfl rfl rfl (by decide +kernel) ⟨Nat.le_of_ble_eq_true rfl, Nat.le_of_ble_eq_true rfl⟩) (jPreV hK hPc hDc hN (ci := 5) rfl rfl) rfl rfl hl.1 rfl (lv_room (Nat.le_of_ble_eq_true rfl)) dX5_fits_14 ⟨Nat.le_of_ble_eq_true rfl, Nat.le_of_ble_eq_true rfl⟩) hS (fun q _ h => hFc q h) hFc (fun r' u' t H locs ht hvm hw hB hz1 hk1 hS => ?_)
      obtain ⟨e1, e2⟩ := hw
      subst e1
      subst e2
      obtain ⟨hP1, -, hD1⟩ := hB
      rw [ht] at hP1
      have hP : va_P (dC, dI) vwCl ((W_Model cI a u14)) H := hP1
      have hD : va_D A ((W_Model cI a u14)) := hD1.weaken (fun _ _ _ h => hFc _ h)
      have e50 := Option.some.inj hF
      obtain ⟨e60, e51⟩ := Prod.mk.inj e50
      subst e60
      subst e51
      exact W.iret (v := r13) hx hb hr (fun t ht hW => ⟨⟨r13, u14, rfl, ⟨rfl, rfl⟩, by rw [ht]; exact hP, va_K.moved hW.alike hK, hD⟩, hS.F ht⟩) hS.2.2 dX5_fits_17
  exact KE _ _ hP hD hS
set_option maxHeartbeats 4000000 in
set_option maxRecDepth 100000 in
theorem c_X5_learnedOf (l : Launch) (dC : Nat → ClassId) (dI : Nat → Nat → Nat) (cI : ClassId) (a : Nat → Nat) (sz : Nat) (S : S_Model) (v1 : Int32) (v2 : Int32) (rr : Int32) (Y : S_Model) (hF : F_X5_learnedOf S v1 v2 = some (rr, Y)) : Met l yX5_learnedOf wsX5_learnedOf ({ frames := 7, cells := 0, slots := 0, locals := 155 } : Room) (va_Pc [.ref (a 0), .int v1, .int v2] (jPre (dC, dI) [(cI, .int)] sz ((W_Model cI a S)))) (va_Qi (fun (r' : Int32) (u : S_Model) => rr = r' ∧ Y = u) (fun u : S_Model => jB (dC, dI) [(cI, .int)] (va_A ((W_Model cI a S)) sz) ((W_Model cI a u))) (va_A ((W_Model cI a S)) sz)) 0 0 (va_A ((W_Model cI a S)) sz) := by
  refine Met.ofW (cc := cX5_learnedOf) (maxL := 7) (ret := (some .int)) (by decide) rfl ?_
  intro p e s m args below meth c s₁ B hml hv
  obtain ⟨rfl, hsz, hP, hK, hD0, hN⟩ := hv
  have hx := B.exec
  have hb := B.bytes
  have hr := B.returns
  have hts := atoms_spec (ws := wsX5_learnedOf) B.pre
  have hown : s.vm.findClass RX5 = some m.cls := findClass_of_methodNamed B.named
  have hlocks := B.notSynchronized
  have hinX5 : ∀ w ∈ u_ws RX5 TX5 26, w ∈ wsX5_learnedOf := by decide +kernel
  subst hsz
  have hD := hD0.self (sz := s.heap.size)
  generalize hAe : (va_A ((W_Model cI a S)) s.heap.size) = A at hD ⊢
  have hA : ∀ q : Nat, s.heap.size ≤ q → A q := fun q h => by rw [← hAe]; exact Or.inr h
  have hS : va_S A s.heap s.heap [] := va_S.rf
  have hl := lv_entry ([.ref (a 0), .int v1, .int v2]) (n := 7) (Nat.le_of_ble_eq_true rfl)
  rw [lg_entry_eq]
  generalize (lg_sl ([.ref (a 0), .int v1, .int v2]) ++ List.replicate (7 - (lg_sl ([.ref (a 0), .int v1, .int v2])).length) Slot.unset).toArray = ls at hl ⊢
  have hl : lv_has ls 7 [(0, .ref (a 0)), (1, .int v1), (2, .int v2)] := hl
  have K52 : ∀ (n52 : Nat) (S : S_Model) (x3 : Int32) (x4 : Int32) (H : Heap) (locs : List Loc), F_X5_learnedOf_52 v1 v2 n52 S x3 x4 = some (rr, Y) → va_P (dC, dI) vwCl ((W_Model cI a S)) H → va_D A ((W_Model cI a S)) → va_S A s.heap H locs → ∀ ls : Array Slot, lv_has ls 7 [(0, .ref (a 0)), (1, .int v1), (2, .int v2), (3, .int x3), (4, .int x4)] → W p l e (headSpec wsX5_learnedOf ({ frames := 7, cells := 0, slots := 0, locals := 155 } : Room)).room s m ([.ref (a 0), .int v1, .int v2] : List Value).toArray below meth c H locs 0 0 (MQ below (va_Qi (fun (r' : Int32) (u : S_Model) => rr = r' ∧ Y = u) (fun u : S_Model => jB (dC, dI) [(cI, .int)] A ((W_Model cI a u))) A) ([.ref (a 0), .int v1, .int v2] : List Value).toArray s 0 0 A) (F0 m 52 ls []) := by
    intro n52
    induction n52 with
    | zero => intro S x3 x4 H locs hF; exact nomatch hF
    | succ n52 ih52 =>
      intro S x3 x4 H locs hF hP hD hS ls hl
      rw [F_X5_learnedOf_52_s] at hF
      have K101 : ∀ (S : S_Model) (x3 : Int32) (x4 : Int32) (x5 : Int32) (t0 : Bool) (H : Heap) (locs : List Loc), F_X5_learnedOf_101 v1 v2 (F_X5_learnedOf_52 v1 v2 n52) S x3 x4 x5 t0 = some (rr, Y) → va_P (dC, dI) vwCl ((W_Model cI a S)) H → va_D A ((W_Model cI a S)) → va_S A s.heap H locs → ∀ ls : Array Slot, lv_has ls 7 [(0, .ref (a 0)), (1, .int v1), (2, .int v2), (3, .int x3), (4, .int x4), (5, .int x5)] → W p l e (headSpec wsX5_learnedOf ({ frames := 7, cells := 0, slots := 0, locals := 155 } : Room)).room s m ([.ref (a 0), .int v1, .int v2] : List Value).toArray below meth c H locs 0 0 (MQ below (va_Qi (fun (r' : Int32) (u : S_Model) => rr = r' ∧ Y = u) (fun u : S_Model => jB (dC, dI) [(cI, .int)] A ((W_Model cI a u))) A) ([.ref (a 0), .int v1, .int v2] : List Value).toArray s 0 0 A) (F0 m 101 ls [.int (b2i t0)]) := by
        intro S x3 x4 x5 t0 H locs hF hP hD hS ls hl
        unfold F_X5_learnedOf_101 at hF
        refine lv_istore (lv' := [(6, .int (b2i t0)), (0, .ref (a 0)), (1, .int v1), (2, .int v2), (3, .int x3), (4, .int x4), (5, .int x5)]) hx hb dX5_learnedOf_101 hl (by decide) rfl (fun ls hl => ?_)
        refine lv_iload_n hx hb dX5_learnedOf_103 rfl (lv_at hl 4 rfl) ?_
        refine lv_iload_n hx hb dX5_learnedOf_104 rfl (lv_at hl 3 rfl) ?_
        refine lv_iconst (v := (1 : Int32)) hx hb dX5_learnedOf_105 (by decide) ?_
        refine lv_icmp_ne (tgt := 117) hx hb dX5_learnedOf_106 (by decide) (fun c1 => ?_) (fun c1 => ?_)
        · have hF := F_neg c1 hF
          refine lv_iload_n hx hb dX5_learnedOf_117 rfl (lv_at hl 3 rfl) ?_
          refine lv_iconst (v := (2 : Int32)) hx hb dX5_learnedOf_118 (by decide) ?_
          refine lv_icmp_ne (tgt := 137) hx hb dX5_learnedOf_119 (by decide) (fun c2 => ?_) (fun c2 => ?_)
          · have hF := F_neg c2 hF
            refine lv_iload hx hb dX5_learnedOf_137 (lv_at hl 6 rfl) ?_
            refine lv_iconst (v := (-1 : Int32)) hx hb dX5_learnedOf_139 (by decide) ?_
            refine lv_icmp_ne (tgt := 147) hx hb dX5_learnedOf_140 (by decide) (fun c3 => ?_) (fun c3 => ?_)
            · have hF := F_neg c3 hF
              refine lv_iconst (v := (0 : Int32)) hx hb dX5_learnedOf_147 (by decide) ?_
              refine lv_iadd hx hb dX5_learnedOf_148 ?_
              refine lv_istore_n (lv' := [(3, .int (x3 + (0 : Int32))), (6, .int (b2i t0)), (0, .ref (a 0)), (1, .int v1), (2, .int v2), (4, .int x4), (5, .int x5)]) hx hb dX5_learnedOf_149 rfl hl (by decide) rfl (fun ls hl => ?_)
              refine lv_iinc (v := (x4 + (1 : Int32))) (lv' := [(4, .int (x4 + (1 : Int32))), (3, .int (x3 + (0 : Int32))), (6, .int (b2i t0)), (0, .ref (a 0)), (1, .int v1), (2, .int v2), (5, .int x5)]) hx hb dX5_learnedOf_150 hl (k := 5) rfl rfl (by decide) rfl (fun ls hl => ?_)
              refine lv_goto (tgt := 52) hx hb dX5_learnedOf_153 (by decide) ?_
              exact ih52 _ _ _ _ _ hF hP hD hS _ (lv_sub hl [3, 4, 5, 1, 0] rfl)
            · have hF := F_pos c3 hF
              refine lv_iconst (v := (1 : Int32)) hx hb dX5_learnedOf_143 (by decide) ?_
              refine lv_goto (tgt := 148) hx hb dX5_learnedOf_144 (by decide) ?_
              refine lv_iadd hx hb dX5_learnedOf_148 ?_
              refine lv_istore_n (lv' := [(3, .int (x3 + (1 : Int32))), (6, .int (b2i t0)), (0, .ref (a 0)), (1, .int v1), (2, .int v2), (4, .int x4), (5, .int x5)]) hx hb dX5_learnedOf_149 rfl hl (by decide) rfl (fun ls hl => ?_)
              refine lv_iinc (v := (x4 + (1 : Int32))) (lv' := [(4, .int (x4 + (1 : Int32))), (3, .int (x3 + (1 : Int32))), (6, .int (b2i t0)), (0, .ref (a 0)), (1, .int v1), (2, .int v2), (5, .int x5)]) hx hb dX5_learnedOf_150 hl (k := 5) rfl rfl (by decide) rfl (fun ls hl => ?_)
              refine lv_goto (tgt := 52) hx hb dX5_learnedOf_153 (by decide) ?_
              exact ih52 _ _ _ _ _ hF hP hD hS _ (lv_sub hl [3, 4, 5, 1, 0] rfl)
          · have hF := F_pos c2 hF
            refine lv_iload hx hb dX5_learnedOf_122 (lv_at hl 0 rfl) ?_
            refine lv_if_eq (tgt := 147) hx hb dX5_learnedOf_124 (by decide) (fun c4 => ?_) (fun c4 => ?_)
            · have hF := F_pos c4 hF
              refine lv_iconst (v := (0 : Int32)) hx hb dX5_learnedOf_147 (by decide) ?_
              refine lv_iadd hx hb dX5_learnedOf_148 ?_
              refine lv_istore_n (lv' := [(3, .int (x3 + (0 : Int32))), (6, .int (b2i t0)), (0, .ref (a 0)), (1, .int v1), (2, .int v2), (4, .int x4), (5, .int x5)]) hx hb dX5_learnedOf_149 rfl hl (by decide) rfl (fun ls hl => ?_)
              refine lv_iinc (v := (x4 + (1 : Int32))) (lv' := [(4, .int (x4 + (1 : Int32))), (3, .int (x3 + (0 : Int32))), (6, .int (b2i t0)), (0, .ref (a 0)), (1, .int v1), (2, .int v2), (5, .int x5)]) hx hb dX5_learnedOf_150 hl (k := 5) rfl rfl (by decide) rfl (fun ls hl => ?_)
              refine lv_goto (tgt := 52) hx hb dX5_learnedOf_153 (by decide) ?_
              exact ih52 _ _ _ _ _ hF hP hD hS _ (lv_sub hl [3, 4, 5, 1, 0] rfl)
            · have hF := F_neg c4 hF
              refine lv_iload hx hb dX5_learnedOf_127 (lv_at hl 6 rfl) ?_
              refine lv_bipush (v := (7 : Int32)) hx hb dX5_learnedOf_129 (by decide) ?_
              refine lv_icmp_ne (tgt := 147) hx hb dX5_learnedOf_131 (by decide) (fun c5 => ?_) (fun c5 => ?_)
              · have hF := F_neg c5 hF
                refine lv_iconst (v := (0 : Int32)) hx hb dX5_learnedOf_147 (by decide) ?_
                refine lv_iadd hx hb dX5_learnedOf_148 ?_
                refine lv_istore_n (lv' := [(3, .int (x3 + (0 : Int32))), (6, .int (b2i t0)), (0, .ref (a 0)), (1, .int v1), (2, .int v2), (4, .int x4), (5, .int x5)]) hx hb dX5_learnedOf_149 rfl hl (by decide) rfl (fun ls hl => ?_)
                refine lv_iinc (v := (x4 + (1 : Int32))) (lv' := [(4, .int (x4 + (1 : Int32))), (3, .int (x3 + (0 : Int32))), (6, .int (b2i t0)), (0, .ref (a 0)), (1, .int v1), (2, .int v2), (5, .int x5)]) hx hb dX5_learnedOf_150 hl (k := 5) rfl rfl (by decide) rfl (fun ls hl => ?_)
                refine lv_goto (tgt := 52) hx hb dX5_learnedOf_153 (by decide) ?_
                exact ih52 _ _ _ _ _ hF hP hD hS _ (lv_sub hl [3, 4, 5, 1, 0] rfl)
              · have hF := F_pos c5 hF
                refine lv_goto (tgt := 143) hx hb dX5_learnedOf_134 (by decide) ?_
                refine lv_iconst (v := (1 : Int32)) hx hb dX5_learnedOf_143 (by decide) ?_
                refine lv_goto (tgt := 148) hx hb dX5_learnedOf_144 (by decide) ?_
                refine lv_iadd hx hb dX5_learnedOf_148 ?_
                refine lv_istore_n (lv' := [(3, .int (x3 + (1 : Int32))), (6, .int (b2i t0)), (0, .ref (a 0)), (1, .int v1), (2, .int v2), (4, .int x4), (5, .int x5)]) hx hb dX5_learnedOf_149 rfl hl (by decide) rfl (fun ls hl => ?_)
                refine lv_iinc (v := (x4 + (1 : Int32))) (lv' := [(4, .int (x4 + (1 : Int32))), (3, .int (x3 + (1 : Int32))), (6, .int (b2i t0)), (0, .ref (a 0)), (1, .int v1), (2, .int v2), (5, .int x5)]) hx hb dX5_learnedOf_150 hl (k := 5) rfl rfl (by decide) rfl (fun ls hl => ?_)
                refine lv_goto (tgt := 52) hx hb dX5_learnedOf_153 (by decide) ?_
                exact ih52 _ _ _ _ _ hF hP hD hS _ (lv_sub hl [3, 4, 5, 1, 0] rfl)
        · have hF := F_pos c1 hF
          refine lv_iload hx hb dX5_learnedOf_109 (lv_at hl 0 rfl) ?_
          refine lv_if_eq (tgt := 147) hx hb dX5_learnedOf_111 (by decide) (fun c6 => ?_) (fun c6 => ?_)
          · have hF := F_pos c6 hF
            refine lv_iconst (v := (0 : Int32)) hx hb dX5_learnedOf_147 (by decide) ?_
            refine lv_iadd hx hb dX5_learnedOf_148 ?_
            refine lv_istore_n (lv' := [(3, .int (x3 + (0 : Int32))), (6, .int (b2i t0)), (0, .ref (a 0)), (1, .int v1), (2, .int v2), (4, .int x4), (5, .int x5)]) hx hb dX5_learnedOf_149 rfl hl (by decide) rfl (fun ls hl => ?_)
            refine lv_iinc (v := (x4 + (1 : Int32))) (lv' := [(4, .int (x4 + (1 : Int32))), (3, .int (x3 + (0 : Int32))), (6, .int (b2i t0)), (0, .ref (a 0)), (1, .int v1), (2, .int v2), (5, .int x5)]) hx hb dX5_learnedOf_150 hl (k := 5) rfl rfl (by decide) rfl (fun ls hl => ?_)
            refine lv_goto (tgt := 52) hx hb dX5_learnedOf_153 (by decide) ?_
            exact ih52 _ _ _ _ _ hF hP hD hS _ (lv_sub hl [3, 4, 5, 1, 0] rfl)
          · have hF := F_neg c6 hF
            refine lv_goto (tgt := 143) hx hb dX5_learnedOf_114 (by decide) ?_
            refine lv_iconst (v := (1 : Int32)) hx hb dX5_learnedOf_143 (by decide) ?_
            refine lv_goto (tgt := 148) hx hb dX5_learnedOf_144 (by decide) ?_
            refine lv_iadd hx hb dX5_learnedOf_148 ?_
            refine lv_istore_n (lv' := [(3, .int (x3 + (1 : Int32))), (6, .int (b2i t0)), (0, .ref (a 0)), (1, .int v1), (2, .int v2), (4, .int x4), (5, .int x5)]) hx hb dX5_learnedOf_149 rfl hl (by decide) rfl (fun ls hl => ?_)
            refine lv_iinc (v := (x4 + (1 : Int32))) (lv' := [(4, .int (x4 + (1 : Int32))), (3, .int (x3 + (1 : Int32))), (6, .int (b2i t0)), (0, .ref (a 0)), (1, .int v1), (2, .int v2), (5, .int x5)]) hx hb dX5_learnedOf_150 hl (k := 5) rfl rfl (by decide) rfl (fun ls hl => ?_)
            refine lv_goto (tgt := 52) hx hb dX5_learnedOf_153 (by decide) ?_
            exact ih52 _ _ _ _ _ hF hP hD hS _ (lv_sub hl [3, 4, 5, 1, 0] rfl)
      refine lv_iload hx hb dX5_learnedOf_52 (lv_at hl 4 rfl) ?_
      refine lv_aload_n hx hb dX5_learnedOf_54 rfl (lv_at hl 0 rfl) ?_
      refine va_get (D := (dC, dI)) (ci := 5) (v := .ref (a 1)) (C := RX5) (T := TX5) (N := 26) hx hb hts hinX5 hown hK hP 0 rfl rfl 0 (by decide) (hts (Cond.fieldLink RX5 7 "LearnedShapesModel" "now" "[I") (List.mem_of_getElem? (i := 1) rfl)) (fun _ h9 => h9) rfl dX5_learnedOf_55 ?_
      refine lv_iconst (v := (3 : Int32)) hx hb dX5_learnedOf_58 (by decide) ?_
      refine lv_iload_n hx hb dX5_learnedOf_59 rfl (lv_at hl 1 rfl) ?_
      refine lv_iadd hx hb dX5_learnedOf_60 ?_
      obtain ⟨g7, hF⟩ := og_some hF
      refine va_iald (f := (g_Model_now S)) hx hb hK hP 1 0 rfl rfl (inb_in g7) dX5_learnedOf_61 ?_
      refine lv_icmp_ge (tgt := 156) hx hb dX5_learnedOf_62 (by decide) (fun c8 => ?_) (fun c8 => ?_)
      · have hF := F_pos c8 hF
        refine lv_iload_n hx hb dX5_learnedOf_156 rfl (lv_at hl 3 rfl) ?_
        have e50 := Option.some.inj hF
        obtain ⟨e60, e51⟩ := Prod.mk.inj e50
        subst e60
        subst e51
        exact W.iret (v := x3) hx hb hr (fun t ht hW => ⟨⟨x3, S, rfl, ⟨rfl, rfl⟩, by rw [ht]; exact hP, va_K.moved hW.alike hK, hD⟩, hS.F ht⟩) hS.2.2 dX5_learnedOf_157
      · have hF := F_neg c8 hF
        refine lv_aload_n hx hb dX5_learnedOf_65 rfl (lv_at hl 0 rfl) ?_
        refine va_get (D := (dC, dI)) (ci := 5) (v := .ref (a 11)) (C := RX5) (T := TX5) (N := 26) hx hb hts hinX5 hown hK hP 0 rfl rfl 18 (by decide) (hts (Cond.fieldLink RX5 40 "LearnedShapesModel" "tree" "[I") (List.mem_of_getElem? (i := 2) rfl)) (fun _ h9 => h9) rfl dX5_learnedOf_66 ?_
        refine lv_bipush (v := (7 : Int32)) hx hb dX5_learnedOf_69 (by decide) ?_
        refine lv_iload hx hb dX5_learnedOf_71 (lv_at hl 4 rfl) ?_
        refine lv_imul hx hb dX5_learnedOf_73 ?_
        obtain ⟨g9, hF⟩ := og_some hF
        refine va_iald (f := (g_Model_tree S)) hx hb hK hP 11 0 rfl rfl (inb_in g9) dX5_learnedOf_74 ?_
        refine lv_istore (lv' := [(5, .int ((g_Model_tree S) ((7 : Int32) * x4).toNatClampNeg)), (0, .ref (a 0)), (1, .int v1), (2, .int v2), (3, .int x3), (4, .int x4)]) hx hb dX5_learnedOf_75 hl (by decide) rfl (fun ls hl => ?_)
        refine lv_iload hx hb dX5_learnedOf_77 (lv_at hl 0 rfl) ?_
        refine lv_iconst (v := (-1 : Int32)) hx hb dX5_learnedOf_79 (by decide) ?_
        refine lv_icmp_eq (tgt := 100) hx hb dX5_learnedOf_80 (by decide) (fun c10 => ?_) (fun c10 => ?_)
        · have hF := F_pos c10 hF
          refine lv_iconst (v := (0 : Int32)) hx hb dX5_learnedOf_100 (by decide) ?_
          exact K101 _ _ _ _ _ _ _ hF hP hD hS _ (lv_sub hl [1, 2, 3, 4, 5, 0] rfl)
        · have hF := F_neg c10 hF
          refine lv_iload hx hb dX5_learnedOf_83 (lv_at hl 0 rfl) ?_
          refine lv_aload_n hx hb dX5_learnedOf_85 rfl (lv_at hl 1 rfl) ?_
          refine lv_iload_n hx hb dX5_learnedOf_86 rfl (lv_at hl 2 rfl) ?_
          refine lv_iload hx hb dX5_learnedOf_87 (lv_at hl 5 rfl) ?_
          refine lv_iconst (v := (0 : Int32)) hx hb dX5_learnedOf_89 (by decide) ?_
          obtain ⟨r11, h12, hF⟩ := ob1_some hF
          have hPc : va_P (dC, dI) vwCl ((W_Model cI a S)) H := hP
          have hDc : va_D A ((W_Model cI a S)) := hD
          have hFc := va_free (wc := (W_Model cI a S)) hD hS hA [0, 1, 2, 3, 4, 5, 6, 7, 8, 9, 10, 11, 12, 13] rfl
          refine va_calli (va_runV (As := [.int v1, .int x4, .int (0 : Int32)]) (rest := [.int ((g_Model_tree S) ((7 : Int32) * x4).toNatClampNeg)]) ⟨hx, hb, hml, hown, hts⟩ (c_X5_of l dC dI cI a H.size _ _ _ _ _ h12) (cwV 3 hts gX5_learnedOf_X5_of rfl rfl rfl (by decide +kernel) ⟨Nat.le_of_ble_eq_true rfl, Nat.le_of_ble_eq_true rfl⟩) (jPreV hK hPc hDc hN (ci := 5) rfl rfl) rfl rfl hl.1 rfl (lv_room (Nat.le_of_ble_eq_true rfl)) dX5_learnedOf_90 ⟨Nat.le_of_ble_eq_true rfl, Nat.le_of_ble_eq_true rfl⟩) hS (fun q _ h => hFc q h) hFc (fun r' u' t H locs ht hvm hw hB hz1 hk1 hS => ?_)
          subst hw
          obtain ⟨hP1, -, hD1⟩ := hB
          rw [ht] at hP1
          have hP : va_P (dC, dI) vwCl ((W_Model cI a S)) H := hP1
          have hD : va_D A ((W_Model cI a S)) := hD1.weaken (fun _ _ _ h => hFc _ h)
          refine lv_icmp_eq (tgt := 100) hx hb dX5_learnedOf_93 (by decide) (fun c13 => ?_) (fun c13 => ?_)
          · have hF := F_pos c13 hF
            refine lv_iconst (v := (0 : Int32)) hx hb dX5_learnedOf_100 (by decide) ?_
            exact K101 _ _ _ _ _ _ _ hF hP hD hS _ (lv_sub hl [1, 2, 3, 4, 5, 0] rfl)
          · have hF := F_neg c13 hF
            refine lv_iconst (v := (1 : Int32)) hx hb dX5_learnedOf_96 (by decide) ?_
            refine lv_goto (tgt := 101) hx hb dX5_learnedOf_97 (by decide) ?_
            exact K101 _ _ _ _ _ _ _ hF hP hD hS _ (lv_sub hl [1, 2, 3, 4, 5, 0] rfl)
  have KE : ∀ (H : Heap) (locs : List Loc), va_P (dC, dI) vwCl ((W_Model cI a S)) H → va_D A ((W_Model cI a S)) → va_S A s.heap H locs → W p l e (headSpec wsX5_learnedOf ({ frames := 7, cells := 0, slots := 0, locals := 155 } : Room)).room s m ([.ref (a 0), .int v1, .int v2] : List Value).toArray below meth c H locs 0 0 (MQ below (va_Qi (fun (r' : Int32) (u : S_Model) => rr = r' ∧ Y = u) (fun u : S_Model => jB (dC, dI) [(cI, .int)] A ((W_Model cI a u))) A) ([.ref (a 0), .int v1, .int v2] : List Value).toArray s 0 0 A) (F0 m 0 ls []) := by
    intro H locs hP hD hS
    unfold F_X5_learnedOf at hF
    refine lv_aload_n hx hb dX5_learnedOf_0 rfl (lv_at hl 0 rfl) ?_
    obtain ⟨r14, u15, h16, hF⟩ := ob2_some hF
    have hPc : va_P (dC, dI) vwCl ((W_Model cI a S)) H := hP
    have hDc : va_D A ((W_Model cI a S)) := hD
    have hFc := va_free (wc := (W_Model cI a S)) hD hS hA [0, 1, 2, 3, 4, 5, 6, 7, 8, 9, 10, 11, 12, 13] rfl
    refine va_calli (va_runV (As := []) (rest := []) ⟨hx, hb, hml, hown, hts⟩ (c_X5_isText l dC dI cI a H.size _ _ _ h16) (cwV 0 hts gX5_learnedOf_X5_isText rfl rfl rfl (by decide +kernel) ⟨Nat.le_of_ble_eq_true rfl, Nat.le_of_ble_eq_true rfl⟩) (jPreV hK hPc hDc hN (ci := 5) rfl rfl) rfl rfl hl.1 rfl (lv_room (Nat.le_of_ble_eq_true rfl)) dX5_learnedOf_1 ⟨Nat.le_of_ble_eq_true rfl, Nat.le_of_ble_eq_true rfl⟩) hS (fun q _ h => hFc q h) hFc (fun r' u' t H locs ht hvm hw hB hz1 hk1 hS => ?_)
    obtain ⟨e1, e2⟩ := hw
    subst e1
    subst e2
    obtain ⟨hP1, -, hD1⟩ := hB
    rw [ht] at hP1
    have hP : va_P (dC, dI) vwCl ((W_Model cI a u15)) H := hP1
    have hD : va_D A ((W_Model cI a u15)) := hD1.weaken (fun _ _ _ h => hFc _ h)
    refine lv_if_ne (tgt := 9) hx hb dX5_learnedOf_4 (by decide) (fun c17 => ?_) (fun c17 => ?_)
    · have hF := F_neg c17 hF
      refine lv_aload_n hx hb dX5_learnedOf_9 rfl (lv_at hl 0 rfl) ?_
      refine lv_iload_n hx hb dX5_learnedOf_10 rfl (lv_at hl 1 rfl) ?_
      obtain ⟨u18, h19, hF⟩ := ob1_some hF
      have hPc : va_P (dC, dI) vwCl ((W_Model cI a u15)) H := hP
      have hDc : va_D A ((W_Model cI a u15)) := hD
      have hFc := va_free (wc := (W_Model cI a u15)) hD hS hA [0, 1, 2, 3, 4, 5, 6, 7, 8, 9, 10, 11, 12, 13] rfl
      refine va_callv (va_runV (As := [.int v1]) (rest := []) ⟨hx, hb, hml, hown, hts⟩ (c_X5_shows l dC dI cI a H.size _ _ _ h19) (cwV 1 hts gX5_learnedOf_X5_shows rfl rfl rfl (by decide +kernel) ⟨Nat.le_of_ble_eq_true rfl, Nat.le_of_ble_eq_true rfl⟩) (jPreV hK hPc hDc hN (ci := 5) rfl rfl) rfl rfl hl.1 rfl (lv_room (Nat.le_of_ble_eq_true rfl)) dX5_learnedOf_11 ⟨Nat.le_of_ble_eq_true rfl, Nat.le_of_ble_eq_true rfl⟩) hS (fun q _ h => hFc q h) hFc (fun u' t H locs ht hvm hw hB hz1 hk1 hS => ?_)
      subst hw
      obtain ⟨hP1, -, hD1⟩ := hB
      rw [ht] at hP1
      have hP : va_P (dC, dI) vwCl ((W_Model cI a u18)) H := hP1
      have hD : va_D A ((W_Model cI a u18)) := hD1.weaken (fun _ _ _ h => hFc _ h)
      refine lv_iload_n hx hb dX5_learnedOf_14 rfl (lv_at hl 2 rfl) ?_
      refine lv_if_eq (tgt := 23) hx hb dX5_learnedOf_15 (by decide) (fun c20 => ?_) (fun c20 => ?_)
      · have hF := F_pos c20 hF
        refine lv_iload_n hx hb dX5_learnedOf_23 rfl (lv_at hl 2 rfl) ?_
        refine lv_if_ne (tgt := 34) hx hb dX5_learnedOf_24 (by decide) (fun c21 => ?_) (fun c21 => ?_)
        · have hF := F_neg c21 hF
          refine lv_aload_n hx hb dX5_learnedOf_34 rfl (lv_at hl 0 rfl) ?_
          obtain ⟨r22, h23, hF⟩ := ob1_some hF
          have hPc : va_P (dC, dI) vwCl ((W_Model cI a u18)) H := hP
          have hDc : va_D A ((W_Model cI a u18)) := hD
          have hFc := va_free (wc := (W_Model cI a u18)) hD hS hA [0, 1, 2, 3, 4, 5, 6, 7, 8, 9, 10, 11, 12, 13] rfl
          refine va_calli (va_runV (As := []) (rest := []) ⟨hx, hb, hml, hown, hts⟩ (c_X5_isRefused l dC dI cI a H.size _ _ h23) (cwV 0 hts gX5_learnedOf_X5_isRefused rfl rfl rfl (by decide +kernel) ⟨Nat.le_of_ble_eq_true rfl, Nat.le_of_ble_eq_true rfl⟩) (jPreV hK hPc hDc hN (ci := 5) rfl rfl) rfl rfl hl.1 rfl (lv_room (Nat.le_of_ble_eq_true rfl)) dX5_learnedOf_35 ⟨Nat.le_of_ble_eq_true rfl, Nat.le_of_ble_eq_true rfl⟩) hS (fun q _ h => hFc q h) hFc (fun r' u' t H locs ht hvm hw hB hz1 hk1 hS => ?_)
          subst hw
          obtain ⟨hP1, -, hD1⟩ := hB
          rw [ht] at hP1
          have hP : va_P (dC, dI) vwCl ((W_Model cI a u18)) H := hP1
          have hD : va_D A ((W_Model cI a u18)) := hD1.weaken (fun _ _ _ h => hFc _ h)
          refine lv_if_eq (tgt := 45) hx hb dX5_learnedOf_38 (by decide) (fun c24 => ?_) (fun c24 => ?_)
          · have hF := F_pos c24 hF
            refine lv_iconst (v := (0 : Int32)) hx hb dX5_learnedOf_45 (by decide) ?_
            have e50 := Option.some.inj hF
            obtain ⟨e60, e51⟩ := Prod.mk.inj e50
            subst e60
            subst e51
            exact W.iret (v := (0 : Int32)) hx hb hr (fun t ht hW => ⟨⟨(0 : Int32), u18, rfl, ⟨rfl, rfl⟩, by rw [ht]; exact hP, va_K.moved hW.alike hK, hD⟩, hS.F ht⟩) hS.2.2 dX5_learnedOf_46
          · have hF := F_neg c24 hF
            refine lv_iconst (v := (1 : Int32)) hx hb dX5_learnedOf_41 (by decide) ?_
            refine lv_goto (tgt := 46) hx hb dX5_learnedOf_42 (by decide) ?_
            have e50 := Option.some.inj hF
            obtain ⟨e60, e51⟩ := Prod.mk.inj e50
            subst e60
            subst e51
            exact W.iret (v := (1 : Int32)) hx hb hr (fun t ht hW => ⟨⟨(1 : Int32), u18, rfl, ⟨rfl, rfl⟩, by rw [ht]; exact hP, va_K.moved hW.alike hK, hD⟩, hS.F ht⟩) hS.2.2 dX5_learnedOf_46
        · have hF := F_pos c21 hF
          refine lv_aload_n hx hb dX5_learnedOf_27 rfl (lv_at hl 0 rfl) ?_
          obtain ⟨r25, h26, hF⟩ := ob1_some hF
          have hPc : va_P (dC, dI) vwCl ((W_Model cI a u18)) H := hP
          have hDc : va_D A ((W_Model cI a u18)) := hD
          have hFc := va_free (wc := (W_Model cI a u18)) hD hS hA [0, 1, 2, 3, 4, 5, 6, 7, 8, 9, 10, 11, 12, 13] rfl
          refine va_calli (va_runV (As := []) (rest := []) ⟨hx, hb, hml, hown, hts⟩ (c_X5_nodes l dC dI cI a H.size _ _ h26) (cwV 0 hts gX5_learnedOf_X5_nodes rfl rfl rfl (by decide +kernel) ⟨Nat.le_of_ble_eq_true rfl, Nat.le_of_ble_eq_true rfl⟩) (jPreV hK hPc hDc hN (ci := 5) rfl rfl) rfl rfl hl.1 rfl (lv_room (Nat.le_of_ble_eq_true rfl)) dX5_learnedOf_28 ⟨Nat.le_of_ble_eq_true rfl, Nat.le_of_ble_eq_true rfl⟩) hS (fun q _ h => hFc q h) hFc (fun r' u' t H locs ht hvm hw hB hz1 hk1 hS => ?_)
          subst hw
          obtain ⟨hP1, -, hD1⟩ := hB
          rw [ht] at hP1
          have hP : va_P (dC, dI) vwCl ((W_Model cI a u18)) H := hP1
          have hD : va_D A ((W_Model cI a u18)) := hD1.weaken (fun _ _ _ h => hFc _ h)
          refine lv_goto (tgt := 46) hx hb dX5_learnedOf_31 (by decide) ?_
          have e50 := Option.some.inj hF
          obtain ⟨e60, e51⟩ := Prod.mk.inj e50
          subst e60
          subst e51
          exact W.iret (v := r25) hx hb hr (fun t ht hW => ⟨⟨r25, u18, rfl, ⟨rfl, rfl⟩, by rw [ht]; exact hP, va_K.moved hW.alike hK, hD⟩, hS.F ht⟩) hS.2.2 dX5_learnedOf_46
      · have hF := F_neg c20 hF
        refine lv_iload_n hx hb dX5_learnedOf_18 rfl (lv_at hl 2 rfl) ?_
        refine lv_iconst (v := (4 : Int32)) hx hb dX5_learnedOf_19 (by decide) ?_
        refine lv_icmp_ne (tgt := 47) hx hb dX5_learnedOf_20 (by decide) (fun c27 => ?_) (fun c27 => ?_)
        · have hF := F_neg c27 hF
          refine lv_iconst (v := (0 : Int32)) hx hb dX5_learnedOf_47 (by decide) ?_
          refine lv_istore_n (lv' := [(3, .int (0 : Int32)), (0, .ref (a 0)), (1, .int v1), (2, .int v2)]) hx hb dX5_learnedOf_48 rfl hl (by decide) rfl (fun ls hl => ?_)
          refine lv_iconst (v := (0 : Int32)) hx hb dX5_learnedOf_49 (by decide) ?_
          refine lv_istore (lv' := [(4, .int (0 : Int32)), (3, .int (0 : Int32)), (0, .ref (a 0)), (1, .int v1), (2, .int v2)]) hx hb dX5_learnedOf_50 hl (by decide) rfl (fun ls hl => ?_)
          exact K52 _ _ _ _ _ _ hF hP hD hS _ (lv_sub hl [2, 3, 4, 1, 0] rfl)
        · have hF := F_pos c27 hF
          refine lv_iload_n hx hb dX5_learnedOf_23 rfl (lv_at hl 2 rfl) ?_
          refine lv_if_ne (tgt := 34) hx hb dX5_learnedOf_24 (by decide) (fun c28 => ?_) (fun c28 => ?_)
          · have hF := F_neg c28 hF
            refine lv_aload_n hx hb dX5_learnedOf_34 rfl (lv_at hl 0 rfl) ?_
            obtain ⟨r29, h30, hF⟩ := ob1_some hF
            have hPc : va_P (dC, dI) vwCl ((W_Model cI a u18)) H := hP
            have hDc : va_D A ((W_Model cI a u18)) := hD
            have hFc := va_free (wc := (W_Model cI a u18)) hD hS hA [0, 1, 2, 3, 4, 5, 6, 7, 8, 9, 10, 11, 12, 13] rfl
            refine va_calli (va_runV (As := []) (rest := []) ⟨hx, hb, hml, hown, hts⟩ (c_X5_isRefused l dC dI cI a H.size _ _ h30) (cwV 0 hts gX5_learnedOf_X5_isRefused rfl rfl rfl (by decide +kernel) ⟨Nat.le_of_ble_eq_true rfl, Nat.le_of_ble_eq_true rfl⟩) (jPreV hK hPc hDc hN (ci := 5) rfl rfl) rfl rfl hl.1 rfl (lv_room (Nat.le_of_ble_eq_true rfl)) dX5_learnedOf_35 ⟨Nat.le_of_ble_eq_true rfl, Nat.le_of_ble_eq_true rfl⟩) hS (fun q _ h => hFc q h) hFc (fun r' u' t H locs ht hvm hw hB hz1 hk1 hS => ?_)
            subst hw
            obtain ⟨hP1, -, hD1⟩ := hB
            rw [ht] at hP1
            have hP : va_P (dC, dI) vwCl ((W_Model cI a u18)) H := hP1
            have hD : va_D A ((W_Model cI a u18)) := hD1.weaken (fun _ _ _ h => hFc _ h)
            refine lv_if_eq (tgt := 45) hx hb dX5_learnedOf_38 (by decide) (fun c31 => ?_) (fun c31 => ?_)
            · have hF := F_pos c31 hF
              refine lv_iconst (v := (0 : Int32)) hx hb dX5_learnedOf_45 (by decide) ?_
              have e50 := Option.some.inj hF
              obtain ⟨e60, e51⟩ := Prod.mk.inj e50
              subst e60
              subst e51
              exact W.iret (v := (0 : Int32)) hx hb hr (fun t ht hW => ⟨⟨(0 : Int32), u18, rfl, ⟨rfl, rfl⟩, by rw [ht]; exact hP, va_K.moved hW.alike hK, hD⟩, hS.F ht⟩) hS.2.2 dX5_learnedOf_46
            · have hF := F_neg c31 hF
              refine lv_iconst (v := (1 : Int32)) hx hb dX5_learnedOf_41 (by decide) ?_
              refine lv_goto (tgt := 46) hx hb dX5_learnedOf_42 (by decide) ?_
              have e50 := Option.some.inj hF
              obtain ⟨e60, e51⟩ := Prod.mk.inj e50
              subst e60
              subst e51
              exact W.iret (v := (1 : Int32)) hx hb hr (fun t ht hW => ⟨⟨(1 : Int32), u18, rfl, ⟨rfl, rfl⟩, by rw [ht]; exact hP, va_K.moved hW.alike hK, hD⟩, hS.F ht⟩) hS.2.2 dX5_learnedOf_46
          · have hF := F_pos c28 hF
            refine lv_aload_n hx hb dX5_learnedOf_27 rfl (lv_at hl 0 rfl) ?_
            obtain ⟨r32, h33, hF⟩ := ob1_some hF
            have hPc : va_P (dC, dI) vwCl ((W_Model cI a u18)) H := hP
            have hDc : va_D A ((W_Model cI a u18)) := hD
            have hFc := va_free (wc := (W_Model cI a u18)) hD hS hA [0, 1, 2, 3, 4, 5, 6, 7, 8, 9, 10, 11, 12, 13] rfl
            refine va_calli (va_runV (As := []) (rest := []) ⟨hx, hb, hml, hown, hts⟩ (c_X5_nodes l dC dI cI a H.size _ _ h33) (cwV 0 hts gX5_learnedOf_X5_nodes rfl rfl rfl (by decide +kernel) ⟨Nat.le_of_ble_eq_true rfl, Nat.le_of_ble_eq_true rfl⟩) (jPreV hK hPc hDc hN (ci := 5) rfl rfl) rfl rfl hl.1 rfl (lv_room (Nat.le_of_ble_eq_true rfl)) dX5_learnedOf_28 ⟨Nat.le_of_ble_eq_true rfl, Nat.le_of_ble_eq_true rfl⟩) hS (fun q _ h => hFc q h) hFc (fun r' u' t H locs ht hvm hw hB hz1 hk1 hS => ?_)
            subst hw
            obtain ⟨hP1, -, hD1⟩ := hB
            rw [ht] at hP1
            have hP : va_P (dC, dI) vwCl ((W_Model cI a u18)) H := hP1
            have hD : va_D A ((W_Model cI a u18)) := hD1.weaken (fun _ _ _ h => hFc _ h)
            refine lv_goto (tgt := 46) hx hb dX5_learnedOf_31 (by decide) ?_
            have e50 := Option.some.inj hF
            obtain ⟨e60, e51⟩ := Prod.mk.inj e50
            subst e60
            subst e51
            exact W.iret (v := r32) hx hb hr (fun t ht hW => ⟨⟨r32, u18, rfl, ⟨rfl, rfl⟩, by rw [ht]; exact hP, va_K.moved hW.alike hK, hD⟩, hS.F ht⟩) hS.2.2 dX5_learnedOf_46
    · have hF := F_pos c17 hF
      refine lv_iconst (v := (-1 : Int32)) hx hb dX5_learnedOf_7 (by decide) ?_
      have e50 := Option.some.inj hF
      obtain ⟨e60, e51⟩ := Prod.mk.inj e50
      subst e60
      subst e51
      exact W.iret (v := (-1 : Int32)) hx hb hr (fun t ht hW => ⟨⟨(-1 : Int32), u15, rfl, ⟨rfl, rfl⟩, by rw [ht]; exact hP, va_K.moved hW.alike hK, hD⟩, hS.F ht⟩) hS.2.2 dX5_learnedOf_8
  exact KE _ _ hP hD hS
set_option maxHeartbeats 4000000 in
set_option maxRecDepth 100000 in
theorem c_X5_ifLearned (l : Launch) (dC : Nat → ClassId) (dI : Nat → Nat → Nat) (cI : ClassId) (a : Nat → Nat) (sz : Nat) (S : S_Model) (v1 : Int32) (v2 : Int32) (rr : Int32) (Y : S_Model) (hF : F_X5_ifLearned S v1 v2 = some (rr, Y)) : Met l yX5_ifLearned wsX5_ifLearned ({ frames := 8, cells := 0, slots := 0, locals := 181 } : Room) (va_Pc [.ref (a 0), .int v1, .int v2] (jPre (dC, dI) [(cI, .int)] sz ((W_Model cI a S)))) (va_Qi (fun (r' : Int32) (u : S_Model) => rr = r' ∧ Y = u) (fun u : S_Model => jB (dC, dI) [(cI, .int)] (va_A ((W_Model cI a S)) sz) ((W_Model cI a u))) (va_A ((W_Model cI a S)) sz)) 0 0 (va_A ((W_Model cI a S)) sz) := by
  refine Met.ofW (cc := cX5_ifLearned) (maxL := 3) (ret := (some .int)) (by decide) rfl ?_
  intro p e s m args below meth c s₁ B hml hv
  obtain ⟨rfl, hsz, hP, hK, hD0, hN⟩ := hv
  have hx := B.exec
  have hb := B.bytes
  have hr := B.returns
  have hts := atoms_spec (ws := wsX5_ifLearned) B.pre
  have hown : s.vm.findClass RX5 = some m.cls := findClass_of_methodNamed B.named
  have hlocks := B.notSynchronized
  have hinX5 : ∀ w ∈ u_ws RX5 TX5 26, w ∈ wsX5_ifLearned := by decide +kernel
  subst hsz
  have hD := hD0.self (sz := s.heap.size)
  generalize hAe : (va_A ((W_Model cI a S)) s.heap.size) = A at hD ⊢
  have hA : ∀ q : Nat, s.heap.size ≤ q → A q := fun q h => by rw [← hAe]; exact Or.inr h
  have hS : va_S A s.heap s.heap [] := va_S.rf
  have hl := lv_entry ([.ref (a 0), .int v1, .int v2]) (n := 3) (Nat.le_of_ble_eq_true rfl)
  rw [lg_entry_eq]
  generalize (lg_sl ([.ref (a 0), .int v1, .int v2]) ++ List.replicate (3 - (lg_sl ([.ref (a 0), .int v1, .int v2])).length) Slot.unset).toArray = ls at hl ⊢
  have hl : lv_has ls 3 [(0, .ref (a 0)), (1, .int v1), (2, .int v2)] := hl
  have KE : ∀ (H : Heap) (locs : List Loc), va_P (dC, dI) vwCl ((W_Model cI a S)) H → va_D A ((W_Model cI a S)) → va_S A s.heap H locs → W p l e (headSpec wsX5_ifLearned ({ frames := 8, cells := 0, slots := 0, locals := 181 } : Room)).room s m ([.ref (a 0), .int v1, .int v2] : List Value).toArray below meth c H locs 0 0 (MQ below (va_Qi (fun (r' : Int32) (u : S_Model) => rr = r' ∧ Y = u) (fun u : S_Model => jB (dC, dI) [(cI, .int)] A ((W_Model cI a u))) A) ([.ref (a 0), .int v1, .int v2] : List Value).toArray s 0 0 A) (F0 m 0 ls []) := by
    intro H locs hP hD hS
    unfold F_X5_ifLearned at hF
    refine lv_aload_n hx hb dX5_ifLearned_0 rfl (lv_at hl 0 rfl) ?_
    refine lv_iconst (v := (0 : Int32)) hx hb dX5_ifLearned_1 (by decide) ?_
    refine va_put (D := (dC, dI)) (ci := 5) (v := .int (0 : Int32)) (ty := .int) (C := RX5) (T := TX5) (N := 26) hx hb hts hinX5 tyX5 tyX5_ok nmX5 hown hK hP hD hS 0 rfl rfl 5 (by decide) (hts (Cond.fieldLink RX5 49 "LearnedShapesModel" "thrown" "I") (List.mem_of_getElem? (i := 1) rfl)) (fun _ h9 => h9) rfl (by decide +kernel) (rfl) rfl (Nat.le_of_ble_eq_true rfl) dX5_ifLearned_2 (fun H locs hP hD hS => ?_)
    have hP : va_P (dC, dI) vwCl ((W_Model cI a (s_Model_thrown S (0 : Int32)))) H := hP
    have hD : va_D A ((W_Model cI a (s_Model_thrown S (0 : Int32)))) := hD
    refine lv_iload_n hx hb dX5_ifLearned_5 rfl (lv_at hl 1 rfl) ?_
    obtain ⟨r1, h2, hF⟩ := ob1_some hF
    have hPc := hP.sub (ws' := ([] : va_W)) [] rfl
    have hDc := hD.sub (ws' := ([] : va_W)) [] (by decide) rfl
    have hFc := va_free (wc := ([] : va_W)) hD hS hA [] rfl
    refine va_calli (va_runS (As := [.int v1]) (rest := []) ⟨hx, hb, hml, hown, hts⟩ (c_X5_isShape l dC dI cI  H.size _ _ h2) (va_cwS 1 hts gX5_ifLearned_X5_isShape rfl rfl rfl (by decide +kernel) ⟨Nat.le_of_ble_eq_true rfl, Nat.le_of_ble_eq_true rfl⟩) (jPreS hK hPc hDc hN) rfl rfl hl.1 rfl (lv_room (Nat.le_of_ble_eq_true rfl)) dX5_ifLearned_6 ⟨Nat.le_of_ble_eq_true rfl, Nat.le_of_ble_eq_true rfl⟩) hS (fun q _ h => hFc q h) hFc (fun r' u' t H locs ht hvm hw hB hz1 hk1 hS => ?_)
    subst hw
    obtain ⟨hP1, -, hD1⟩ := hB
    rw [ht] at hP1
    obtain ⟨hP, hD⟩ := jJoin (wc := ([] : va_W)) (w1 := ([] : va_W)) (ws' := (W_Model cI a (s_Model_thrown S (0 : Int32)))) hP hD [] [0, 1, 2, 3, 4, 5, 6, 7, 8, 9, 10, 11, 12, 13] [0, 1, 2, 3, 4, 5, 6, 7, 8, 9, 10, 11, 12, 13] rfl rfl (by decide) (by decide) hk1 hFc hP1 hD1 (by decide) rfl
    refine lv_if_ne (tgt := 18) hx hb dX5_ifLearned_9 (by decide) (fun c3 => ?_) (fun c3 => ?_)
    · have hF := F_neg c3 hF
      refine lv_iload_n hx hb dX5_ifLearned_18 rfl (lv_at hl 2 rfl) ?_
      refine lv_iconst (v := (0 : Int32)) hx hb dX5_ifLearned_19 (by decide) ?_
      refine lv_iconst (v := (4 : Int32)) hx hb dX5_ifLearned_20 (by decide) ?_
      obtain ⟨r4, h5, hF⟩ := ob1_some hF
      have hPc := hP.sub (ws' := ([] : va_W)) [] rfl
      have hDc := hD.sub (ws' := ([] : va_W)) [] (by decide) rfl
      have hFc := va_free (wc := ([] : va_W)) hD hS hA [] rfl
      refine va_calli (va_runS (As := [.int v2, .int (0 : Int32), .int (4 : Int32)]) (rest := []) ⟨hx, hb, hml, hown, hts⟩ (c_X5_in l dC dI cI  H.size _ _ _ _ h5) (va_cwS 3 hts gX5_ifLearned_X5_in rfl rfl rfl (by decide +kernel) ⟨Nat.le_of_ble_eq_true rfl, Nat.le_of_ble_eq_true rfl⟩) (jPreS hK hPc hDc hN) rfl rfl hl.1 rfl (lv_room (Nat.le_of_ble_eq_true rfl)) dX5_ifLearned_21 ⟨Nat.le_of_ble_eq_true rfl, Nat.le_of_ble_eq_true rfl⟩) hS (fun q _ h => hFc q h) hFc (fun r' u' t H locs ht hvm hw hB hz1 hk1 hS => ?_)
      subst hw
      obtain ⟨hP1, -, hD1⟩ := hB
      rw [ht] at hP1
      obtain ⟨hP, hD⟩ := jJoin (wc := ([] : va_W)) (w1 := ([] : va_W)) (ws' := (W_Model cI a (s_Model_thrown S (0 : Int32)))) hP hD [] [0, 1, 2, 3, 4, 5, 6, 7, 8, 9, 10, 11, 12, 13] [0, 1, 2, 3, 4, 5, 6, 7, 8, 9, 10, 11, 12, 13] rfl rfl (by decide) (by decide) hk1 hFc hP1 hD1 (by decide) rfl
      refine lv_if_eq (tgt := 36) hx hb dX5_ifLearned_24 (by decide) (fun c6 => ?_) (fun c6 => ?_)
      · have hF := F_pos c6 hF
        refine lv_aload_n hx hb dX5_ifLearned_36 rfl (lv_at hl 0 rfl) ?_
        refine lv_iconst (v := (2 : Int32)) hx hb dX5_ifLearned_37 (by decide) ?_
        obtain ⟨r7, u8, h9, hF⟩ := ob2_some hF
        have hPc : va_P (dC, dI) vwCl ((W_Model cI a (s_Model_thrown S (0 : Int32)))) H := hP
        have hDc : va_D A ((W_Model cI a (s_Model_thrown S (0 : Int32)))) := hD
        have hFc := va_free (wc := (W_Model cI a (s_Model_thrown S (0 : Int32)))) hD hS hA [0, 1, 2, 3, 4, 5, 6, 7, 8, 9, 10, 11, 12, 13] rfl
        refine va_calli (va_runV (As := [.int (2 : Int32)]) (rest := []) ⟨hx, hb, hml, hown, hts⟩ (c_X5_fails l dC dI cI a H.size _ _ _ _ h9) (cwV 1 hts gX5_ifLearned_X5_fails rfl rfl rfl (by decide +kernel) ⟨Nat.le_of_ble_eq_true rfl, Nat.le_of_ble_eq_true rfl⟩) (jPreV hK hPc hDc hN (ci := 5) rfl rfl) rfl rfl hl.1 rfl (lv_room (Nat.le_of_ble_eq_true rfl)) dX5_ifLearned_38 ⟨Nat.le_of_ble_eq_true rfl, Nat.le_of_ble_eq_true rfl⟩) hS (fun q _ h => hFc q h) hFc (fun r' u' t H locs ht hvm hw hB hz1 hk1 hS => ?_)
        obtain ⟨e1, e2⟩ := hw
        subst e1
        subst e2
        obtain ⟨hP1, -, hD1⟩ := hB
        rw [ht] at hP1
        have hP : va_P (dC, dI) vwCl ((W_Model cI a u8)) H := hP1
        have hD : va_D A ((W_Model cI a u8)) := hD1.weaken (fun _ _ _ h => hFc _ h)
        have e50 := Option.some.inj hF
        obtain ⟨e60, e51⟩ := Prod.mk.inj e50
        subst e60
        subst e51
        exact W.iret (v := r7) hx hb hr (fun t ht hW => ⟨⟨r7, u8, rfl, ⟨rfl, rfl⟩, by rw [ht]; exact hP, va_K.moved hW.alike hK, hD⟩, hS.F ht⟩) hS.2.2 dX5_ifLearned_41
      · have hF := F_neg c6 hF
        refine lv_aload_n hx hb dX5_ifLearned_27 rfl (lv_at hl 0 rfl) ?_
        refine lv_iload_n hx hb dX5_ifLearned_28 rfl (lv_at hl 1 rfl) ?_
        refine lv_iload_n hx hb dX5_ifLearned_29 rfl (lv_at hl 2 rfl) ?_
        obtain ⟨r10, u11, h12, hF⟩ := ob2_some hF
        have hPc : va_P (dC, dI) vwCl ((W_Model cI a (s_Model_thrown S (0 : Int32)))) H := hP
        have hDc : va_D A ((W_Model cI a (s_Model_thrown S (0 : Int32)))) := hD
        have hFc := va_free (wc := (W_Model cI a (s_Model_thrown S (0 : Int32)))) hD hS hA [0, 1, 2, 3, 4, 5, 6, 7, 8, 9, 10, 11, 12, 13] rfl
        refine va_calli (va_runV (As := [.int v1, .int v2]) (rest := []) ⟨hx, hb, hml, hown, hts⟩ (c_X5_learnedOf l dC dI cI a H.size _ _ _ _ _ h12) (cwV 2 hts gX5_ifLearned_X5_learnedOf rfl rfl rfl (by decide +kernel) ⟨Nat.le_of_ble_eq_true rfl, Nat.le_of_ble_eq_true rfl⟩) (jPreV hK hPc hDc hN (ci := 5) rfl rfl) rfl rfl hl.1 rfl (lv_room (Nat.le_of_ble_eq_true rfl)) dX5_ifLearned_30 ⟨Nat.le_of_ble_eq_true rfl, Nat.le_of_ble_eq_true rfl⟩) hS (fun q _ h => hFc q h) hFc (fun r' u' t H locs ht hvm hw hB hz1 hk1 hS => ?_)
        obtain ⟨e1, e2⟩ := hw
        subst e1
        subst e2
        obtain ⟨hP1, -, hD1⟩ := hB
        rw [ht] at hP1
        have hP : va_P (dC, dI) vwCl ((W_Model cI a u11)) H := hP1
        have hD : va_D A ((W_Model cI a u11)) := hD1.weaken (fun _ _ _ h => hFc _ h)
        refine lv_goto (tgt := 41) hx hb dX5_ifLearned_33 (by decide) ?_
        have e50 := Option.some.inj hF
        obtain ⟨e60, e51⟩ := Prod.mk.inj e50
        subst e60
        subst e51
        exact W.iret (v := r10) hx hb hr (fun t ht hW => ⟨⟨r10, u11, rfl, ⟨rfl, rfl⟩, by rw [ht]; exact hP, va_K.moved hW.alike hK, hD⟩, hS.F ht⟩) hS.2.2 dX5_ifLearned_41
    · have hF := F_pos c3 hF
      refine lv_aload_n hx hb dX5_ifLearned_12 rfl (lv_at hl 0 rfl) ?_
      refine lv_iconst (v := (1 : Int32)) hx hb dX5_ifLearned_13 (by decide) ?_
      obtain ⟨r13, u14, h15, hF⟩ := ob2_some hF
      have hPc : va_P (dC, dI) vwCl ((W_Model cI a (s_Model_thrown S (0 : Int32)))) H := hP
      have hDc : va_D A ((W_Model cI a (s_Model_thrown S (0 : Int32)))) := hD
      have hFc := va_free (wc := (W_Model cI a (s_Model_thrown S (0 : Int32)))) hD hS hA [0, 1, 2, 3, 4, 5, 6, 7, 8, 9, 10, 11, 12, 13] rfl
      refine va_calli (va_runV (As := [.int (1 : Int32)]) (rest := []) ⟨hx, hb, hml, hown, hts⟩ (c_X5_fails l dC dI cI a H.size _ _ _ _ h15) (cwV 1 hts gX5_ifLearned_X5_fails rfl rfl rfl (by decide +kernel) ⟨Nat.le_of_ble_eq_true rfl, Nat.le_of_ble_eq_true rfl⟩) (jPreV hK hPc hDc hN (ci := 5) rfl rfl) rfl rfl hl.1 rfl (lv_room (Nat.le_of_ble_eq_true rfl)) dX5_ifLearned_14 ⟨Nat.le_of_ble_eq_true rfl, Nat.le_of_ble_eq_true rfl⟩) hS (fun q _ h => hFc q h) hFc (fun r' u' t H locs ht hvm hw hB hz1 hk1 hS => ?_)
      obtain ⟨e1, e2⟩ := hw
      subst e1
      subst e2
      obtain ⟨hP1, -, hD1⟩ := hB
      rw [ht] at hP1
      have hP : va_P (dC, dI) vwCl ((W_Model cI a u14)) H := hP1
      have hD : va_D A ((W_Model cI a u14)) := hD1.weaken (fun _ _ _ h => hFc _ h)
      have e50 := Option.some.inj hF
      obtain ⟨e60, e51⟩ := Prod.mk.inj e50
      subst e60
      subst e51
      exact W.iret (v := r13) hx hb hr (fun t ht hW => ⟨⟨r13, u14, rfl, ⟨rfl, rfl⟩, by rw [ht]; exact hP, va_K.moved hW.alike hK, hD⟩, hS.F ht⟩) hS.2.2 dX5_ifLearned_17
  exact KE _ _ hP hD hS
set_option maxHeartbeats 4000000 in
set_option maxRecDepth 100000 in
theorem c_X5_coversParts (l : Launch) (dC : Nat → ClassId) (dI : Nat → Nat → Nat) (cI : ClassId) (a : Nat → Nat) (sz : Nat) (S : S_Model) (v1 : Int32) (v2 : Int32) (v3 : Int32) (v4 : Int32) (rr : Bool) (hF : F_X5_coversParts S v1 v2 v3 v4 = some rr) : Met l yX5_coversParts wsX5_coversParts ({ frames := 2, cells := 0, slots := 0, locals := 47 } : Room) (va_Pc [.ref (a 0), .int v1, .int v2, .int v3, .int v4] (jPre (dC, dI) [(cI, .int)] sz ((W_Model cI a S)))) (va_Qi (fun (r' : Int32) (_ : Unit) => b2i rr = r') (fun _ : Unit => jB (dC, dI) [(cI, .int)] (va_A ((W_Model cI a S)) sz) ((W_Model cI a S))) (va_A ((W_Model cI a S)) sz)) 0 0 (va_A ((W_Model cI a S)) sz) := by
  refine Met.ofW (cc := cX5_coversParts) (maxL := 8) (ret := (some .boolean)) (by decide) rfl ?_
  intro p e s m args below meth c s₁ B hml hv
  obtain ⟨rfl, hsz, hP, hK, hD0, hN⟩ := hv
  have hx := B.exec
  have hb := B.bytes
  have hr := B.returns
  have hts := atoms_spec (ws := wsX5_coversParts) B.pre
  have hown : s.vm.findClass RX5 = some m.cls := findClass_of_methodNamed B.named
  have hlocks := B.notSynchronized
  subst hsz
  have hD := hD0.self (sz := s.heap.size)
  generalize hAe : (va_A ((W_Model cI a S)) s.heap.size) = A at hD ⊢
  have hA : ∀ q : Nat, s.heap.size ≤ q → A q := fun q h => by rw [← hAe]; exact Or.inr h
  have hS : va_S A s.heap s.heap [] := va_S.rf
  have hl := lv_entry ([.ref (a 0), .int v1, .int v2, .int v3, .int v4]) (n := 8) (Nat.le_of_ble_eq_true rfl)
  rw [lg_entry_eq]
  generalize (lg_sl ([.ref (a 0), .int v1, .int v2, .int v3, .int v4]) ++ List.replicate (8 - (lg_sl ([.ref (a 0), .int v1, .int v2, .int v3, .int v4])).length) Slot.unset).toArray = ls at hl ⊢
  have hl : lv_has ls 8 [(0, .ref (a 0)), (1, .int v1), (2, .int v2), (3, .int v3), (4, .int v4)] := hl
  have K3 : ∀ (n3 : Nat) (x5 : Int32) (H : Heap) (locs : List Loc), F_X5_coversParts_3 v1 v2 v3 v4 S n3 x5 = some rr → va_P (dC, dI) vwCl ((W_Model cI a S)) H → va_D A ((W_Model cI a S)) → va_S A s.heap H locs → ∀ ls : Array Slot, lv_has ls 8 [(0, .ref (a 0)), (1, .int v1), (2, .int v2), (3, .int v3), (4, .int v4), (5, .int x5)] → W p l e (headSpec wsX5_coversParts ({ frames := 2, cells := 0, slots := 0, locals := 47 } : Room)).room s m ([.ref (a 0), .int v1, .int v2, .int v3, .int v4] : List Value).toArray below meth c H locs 0 0 (MQ below (va_Qi (fun (r' : Int32) (_ : Unit) => b2i rr = r') (fun _ : Unit => jB (dC, dI) [(cI, .int)] A ((W_Model cI a S))) A) ([.ref (a 0), .int v1, .int v2, .int v3, .int v4] : List Value).toArray s 0 0 A) (F0 m 3 ls []) := by
    intro n3
    induction n3 with
    | zero => intro x5 H locs hF; exact nomatch hF
    | succ n3 ih3 =>
      intro x5 H locs hF hP hD hS ls hl
      rw [F_X5_coversParts_3_s] at hF
      refine lv_iload hx hb dX5_coversParts_3 (lv_at hl 5 rfl) ?_
      refine lv_bipush (v := (8 : Int32)) hx hb dX5_coversParts_5 (by decide) ?_
      refine lv_icmp_ge (tgt := 71) hx hb dX5_coversParts_7 (by decide) (fun c1 => ?_) (fun c1 => ?_)
      · have hF := F_pos c1 hF
        refine lv_iconst (v := (1 : Int32)) hx hb dX5_coversParts_71 (by decide) ?_
        have e50 := Option.some.inj hF
        subst e50
        exact W.zret (v := (1 : Int32)) hx hb hr (rfl) (fun t ht hW => ⟨⟨(1 : Int32), (), rfl, rfl, by rw [ht]; exact hP, va_K.moved hW.alike hK, hD⟩, hS.F ht⟩) hS.2.2 dX5_coversParts_72
      · have hF := F_neg c1 hF
        refine lv_aload_n hx hb dX5_coversParts_10 rfl (lv_at hl 0 rfl) ?_
        refine lv_iload_n hx hb dX5_coversParts_11 rfl (lv_at hl 1 rfl) ?_
        refine lv_iload_n hx hb dX5_coversParts_12 rfl (lv_at hl 2 rfl) ?_
        refine lv_iload hx hb dX5_coversParts_13 (lv_at hl 5 rfl) ?_
        obtain ⟨r2, h3, hF⟩ := ob1_some hF
        have hPc : va_P (dC, dI) vwCl ((W_Model cI a S)) H := hP
        have hDc : va_D A ((W_Model cI a S)) := hD
        have hFc := va_free (wc := (W_Model cI a S)) hD hS hA [0, 1, 2, 3, 4, 5, 6, 7, 8, 9, 10, 11, 12, 13] rfl
        refine va_calli (va_runV (As := [.int v1, .int v2, .int x5]) (rest := []) ⟨hx, hb, hml, hown, hts⟩ (c_X5_childOf l dC dI cI a H.size _ _ _ _ _ h3) (cwV 3 hts gX5_coversParts_X5_childOf rfl rfl rfl (by decide +kernel) ⟨Nat.le_of_ble_eq_true rfl, Nat.le_of_ble_eq_true rfl⟩) (jPreV hK hPc hDc hN (ci := 5) rfl rfl) rfl rfl hl.1 rfl (lv_room (Nat.le_of_ble_eq_true rfl)) dX5_coversParts_15 ⟨Nat.le_of_ble_eq_true rfl, Nat.le_of_ble_eq_true rfl⟩) hS (fun q _ h => hFc q h) hFc (fun r' u' t H locs ht hvm hw hB hz1 hk1 hS => ?_)
        subst hw
        obtain ⟨hP1, -, hD1⟩ := hB
        rw [ht] at hP1
        have hP : va_P (dC, dI) vwCl ((W_Model cI a S)) H := hP1
        have hD : va_D A ((W_Model cI a S)) := hD1.weaken (fun _ _ _ h => hFc _ h)
        refine lv_istore (lv' := [(6, .int r2), (0, .ref (a 0)), (1, .int v1), (2, .int v2), (3, .int v3), (4, .int v4), (5, .int x5)]) hx hb dX5_coversParts_18 hl (by decide) rfl (fun ls hl => ?_)
        refine lv_aload_n hx hb dX5_coversParts_20 rfl (lv_at hl 1 rfl) ?_
        refine lv_iload_n hx hb dX5_coversParts_21 rfl (lv_at hl 4 rfl) ?_
        refine lv_iload hx hb dX5_coversParts_22 (lv_at hl 5 rfl) ?_
        refine lv_iload hx hb dX5_coversParts_24 (lv_at hl 6 rfl) ?_
        obtain ⟨r4, h5, hF⟩ := ob1_some hF
        have hPc : va_P (dC, dI) vwCl ((W_Model cI a S)) H := hP
        have hDc : va_D A ((W_Model cI a S)) := hD
        have hFc := va_free (wc := (W_Model cI a S)) hD hS hA [0, 1, 2, 3, 4, 5, 6, 7, 8, 9, 10, 11, 12, 13] rfl
        refine va_calli (va_runV (As := [.int v3, .int v4, .int x5]) (rest := []) ⟨hx, hb, hml, hown, hts⟩ (c_X5_childOf l dC dI cI a H.size _ _ _ _ _ h5) (cwV 3 hts gX5_coversParts_X5_childOf rfl rfl rfl (by decide +kernel) ⟨Nat.le_of_ble_eq_true rfl, Nat.le_of_ble_eq_true rfl⟩) (jPreV hK hPc hDc hN (ci := 5) rfl rfl) rfl rfl hl.1 rfl (lv_room (Nat.le_of_ble_eq_true rfl)) dX5_coversParts_26 ⟨Nat.le_of_ble_eq_true rfl, Nat.le_of_ble_eq_true rfl⟩) hS (fun q _ h => hFc q h) hFc (fun r' u' t H locs ht hvm hw hB hz1 hk1 hS => ?_)
        subst hw
        obtain ⟨hP1, -, hD1⟩ := hB
        rw [ht] at hP1
        have hP : va_P (dC, dI) vwCl ((W_Model cI a S)) H := hP1
        have hD : va_D A ((W_Model cI a S)) := hD1.weaken (fun _ _ _ h => hFc _ h)
        refine lv_istore (lv' := [(7, .int r4), (6, .int r2), (0, .ref (a 0)), (1, .int v1), (2, .int v2), (3, .int v3), (4, .int v4), (5, .int x5)]) hx hb dX5_coversParts_29 hl (by decide) rfl (fun ls hl => ?_)
        refine lv_iload hx hb dX5_coversParts_31 (lv_at hl 1 rfl) ?_
        refine lv_iconst (v := (-1 : Int32)) hx hb dX5_coversParts_33 (by decide) ?_
        refine lv_icmp_eq (tgt := 65) hx hb dX5_coversParts_34 (by decide) (fun c6 => ?_) (fun c6 => ?_)
        · have hF := F_pos c6 hF
          refine lv_iinc (v := (x5 + (1 : Int32))) (lv' := [(5, .int (x5 + (1 : Int32))), (7, .int r4), (6, .int r2), (0, .ref (a 0)), (1, .int v1), (2, .int v2), (3, .int v3), (4, .int v4)]) hx hb dX5_coversParts_65 hl (k := 7) rfl rfl (by decide) rfl (fun ls hl => ?_)
          refine lv_goto (tgt := 3) hx hb dX5_coversParts_68 (by decide) ?_
          exact ih3 _ _ _ hF hP hD hS _ (lv_sub hl [3, 4, 5, 6, 7, 0] rfl)
        · have hF := F_neg c6 hF
          refine lv_aload_n hx hb dX5_coversParts_37 rfl (lv_at hl 2 rfl) ?_
          refine lv_iload_n hx hb dX5_coversParts_38 rfl (lv_at hl 3 rfl) ?_
          refine lv_iload hx hb dX5_coversParts_39 (lv_at hl 1 rfl) ?_
          obtain ⟨r7, h8, hF⟩ := ob1_some hF
          have hPc : va_P (dC, dI) vwCl ((W_Model cI a S)) H := hP
          have hDc : va_D A ((W_Model cI a S)) := hD
          have hFc := va_free (wc := (W_Model cI a S)) hD hS hA [0, 1, 2, 3, 4, 5, 6, 7, 8, 9, 10, 11, 12, 13] rfl
          refine va_calli (va_runV (As := [.int v1, .int r2]) (rest := []) ⟨hx, hb, hml, hown, hts⟩ (c_X5_canMiss l dC dI cI a H.size _ _ _ _ h8) (cwV 2 hts gX5_coversParts_X5_canMiss rfl rfl rfl (by decide +kernel) ⟨Nat.le_of_ble_eq_true rfl, Nat.le_of_ble_eq_true rfl⟩) (jPreV hK hPc hDc hN (ci := 5) rfl rfl) rfl rfl hl.1 rfl (lv_room (Nat.le_of_ble_eq_true rfl)) dX5_coversParts_41 ⟨Nat.le_of_ble_eq_true rfl, Nat.le_of_ble_eq_true rfl⟩) hS (fun q _ h => hFc q h) hFc (fun r' u' t H locs ht hvm hw hB hz1 hk1 hS => ?_)
          subst hw
          obtain ⟨hP1, -, hD1⟩ := hB
          rw [ht] at hP1
          have hP : va_P (dC, dI) vwCl ((W_Model cI a S)) H := hP1
          have hD : va_D A ((W_Model cI a S)) := hD1.weaken (fun _ _ _ h => hFc _ h)
          refine lv_if_ne (tgt := 65) hx hb dX5_coversParts_44 (by decide) (fun c9 => ?_) (fun c9 => ?_)
          · have hF := F_neg c9 hF
            refine lv_iinc (v := (x5 + (1 : Int32))) (lv' := [(5, .int (x5 + (1 : Int32))), (7, .int r4), (6, .int r2), (0, .ref (a 0)), (1, .int v1), (2, .int v2), (3, .int v3), (4, .int v4)]) hx hb dX5_coversParts_65 hl (k := 7) rfl rfl (by decide) rfl (fun ls hl => ?_)
            refine lv_goto (tgt := 3) hx hb dX5_coversParts_68 (by decide) ?_
            exact ih3 _ _ _ hF hP hD hS _ (lv_sub hl [3, 4, 5, 6, 7, 0] rfl)
          · have hF := F_pos c9 hF
            refine lv_iload hx hb dX5_coversParts_47 (lv_at hl 0 rfl) ?_
            refine lv_iconst (v := (-1 : Int32)) hx hb dX5_coversParts_49 (by decide) ?_
            refine lv_icmp_eq (tgt := 63) hx hb dX5_coversParts_50 (by decide) (fun c10 => ?_) (fun c10 => ?_)
            · have hF := F_pos c10 hF
              refine lv_iconst (v := (0 : Int32)) hx hb dX5_coversParts_63 (by decide) ?_
              have e50 := Option.some.inj hF
              subst e50
              exact W.zret (v := (0 : Int32)) hx hb hr (rfl) (fun t ht hW => ⟨⟨(0 : Int32), (), rfl, rfl, by rw [ht]; exact hP, va_K.moved hW.alike hK, hD⟩, hS.F ht⟩) hS.2.2 dX5_coversParts_64
            · have hF := F_neg c10 hF
              refine lv_aload_n hx hb dX5_coversParts_53 rfl (lv_at hl 2 rfl) ?_
              refine lv_iload_n hx hb dX5_coversParts_54 rfl (lv_at hl 5 rfl) ?_
              refine lv_iload hx hb dX5_coversParts_55 (lv_at hl 0 rfl) ?_
              obtain ⟨r11, h12, hF⟩ := ob1_some hF
              have hPc : va_P (dC, dI) vwCl ((W_Model cI a S)) H := hP
              have hDc : va_D A ((W_Model cI a S)) := hD
              have hFc := va_free (wc := (W_Model cI a S)) hD hS hA [0, 1, 2, 3, 4, 5, 6, 7, 8, 9, 10, 11, 12, 13] rfl
              refine va_calli (va_runV (As := [.int v3, .int r4]) (rest := []) ⟨hx, hb, hml, hown, hts⟩ (c_X5_canMiss l dC dI cI a H.size _ _ _ _ h12) (cwV 2 hts gX5_coversParts_X5_canMiss rfl rfl rfl (by decide +kernel) ⟨Nat.le_of_ble_eq_true rfl, Nat.le_of_ble_eq_true rfl⟩) (jPreV hK hPc hDc hN (ci := 5) rfl rfl) rfl rfl hl.1 rfl (lv_room (Nat.le_of_ble_eq_true rfl)) dX5_coversParts_57 ⟨Nat.le_of_ble_eq_true rfl, Nat.le_of_ble_eq_true rfl⟩) hS (fun q _ h => hFc q h) hFc (fun r' u' t H locs ht hvm hw hB hz1 hk1 hS => ?_)
              subst hw
              obtain ⟨hP1, -, hD1⟩ := hB
              rw [ht] at hP1
              have hP : va_P (dC, dI) vwCl ((W_Model cI a S)) H := hP1
              have hD : va_D A ((W_Model cI a S)) := hD1.weaken (fun _ _ _ h => hFc _ h)
              refine lv_if_eq (tgt := 65) hx hb dX5_coversParts_60 (by decide) (fun c13 => ?_) (fun c13 => ?_)
              · have hF := F_pos c13 hF
                refine lv_iinc (v := (x5 + (1 : Int32))) (lv' := [(5, .int (x5 + (1 : Int32))), (7, .int r4), (6, .int r2), (0, .ref (a 0)), (1, .int v1), (2, .int v2), (3, .int v3), (4, .int v4)]) hx hb dX5_coversParts_65 hl (k := 7) rfl rfl (by decide) rfl (fun ls hl => ?_)
                refine lv_goto (tgt := 3) hx hb dX5_coversParts_68 (by decide) ?_
                exact ih3 _ _ _ hF hP hD hS _ (lv_sub hl [3, 4, 5, 6, 7, 0] rfl)
              · have hF := F_neg c13 hF
                refine lv_iconst (v := (0 : Int32)) hx hb dX5_coversParts_63 (by decide) ?_
                have e50 := Option.some.inj hF
                subst e50
                exact W.zret (v := (0 : Int32)) hx hb hr (rfl) (fun t ht hW => ⟨⟨(0 : Int32), (), rfl, rfl, by rw [ht]; exact hP, va_K.moved hW.alike hK, hD⟩, hS.F ht⟩) hS.2.2 dX5_coversParts_64
  have KE : ∀ (H : Heap) (locs : List Loc), va_P (dC, dI) vwCl ((W_Model cI a S)) H → va_D A ((W_Model cI a S)) → va_S A s.heap H locs → W p l e (headSpec wsX5_coversParts ({ frames := 2, cells := 0, slots := 0, locals := 47 } : Room)).room s m ([.ref (a 0), .int v1, .int v2, .int v3, .int v4] : List Value).toArray below meth c H locs 0 0 (MQ below (va_Qi (fun (r' : Int32) (_ : Unit) => b2i rr = r') (fun _ : Unit => jB (dC, dI) [(cI, .int)] A ((W_Model cI a S))) A) ([.ref (a 0), .int v1, .int v2, .int v3, .int v4] : List Value).toArray s 0 0 A) (F0 m 0 ls []) := by
    intro H locs hP hD hS
    unfold F_X5_coversParts at hF
    refine lv_iconst (v := (0 : Int32)) hx hb dX5_coversParts_0 (by decide) ?_
    refine lv_istore (lv' := [(5, .int (0 : Int32)), (0, .ref (a 0)), (1, .int v1), (2, .int v2), (3, .int v3), (4, .int v4)]) hx hb dX5_coversParts_1 hl (by decide) rfl (fun ls hl => ?_)
    exact K3 _ _ _ _ hF hP hD hS _ (lv_sub hl [1, 2, 3, 4, 5, 0] rfl)
  exact KE _ _ hP hD hS
set_option maxHeartbeats 4000000 in
set_option maxRecDepth 100000 in
theorem c_X5_coversOf (l : Launch) (dC : Nat → ClassId) (dI : Nat → Nat → Nat) (cI : ClassId) (a : Nat → Nat) (sz : Nat) (S : S_Model) (v1 : Int32) (rr : Int32) (Y : S_Model) (hF : F_X5_coversOf S v1 = some (rr, Y)) : Met l yX5_coversOf wsX5_coversOf ({ frames := 3, cells := 0, slots := 0, locals := 74 } : Room) (va_Pc [.ref (a 0), .int v1] (jPre (dC, dI) [(cI, .int)] sz ((W_Model cI a S)))) (va_Qi (fun (r' : Int32) (u : S_Model) => rr = r' ∧ Y = u) (fun u : S_Model => jB (dC, dI) [(cI, .int)] (va_A ((W_Model cI a S)) sz) ((W_Model cI a u))) (va_A ((W_Model cI a S)) sz)) 0 0 (va_A ((W_Model cI a S)) sz) := by
  refine Met.ofW (cc := cX5_coversOf) (maxL := 7) (ret := (some .int)) (by decide) rfl ?_
  intro p e s m args below meth c s₁ B hml hv
  obtain ⟨rfl, hsz, hP, hK, hD0, hN⟩ := hv
  have hx := B.exec
  have hb := B.bytes
  have hr := B.returns
  have hts := atoms_spec (ws := wsX5_coversOf) B.pre
  have hown : s.vm.findClass RX5 = some m.cls := findClass_of_methodNamed B.named
  have hlocks := B.notSynchronized
  have hinX5 : ∀ w ∈ u_ws RX5 TX5 26, w ∈ wsX5_coversOf := by decide +kernel
  subst hsz
  have hD := hD0.self (sz := s.heap.size)
  generalize hAe : (va_A ((W_Model cI a S)) s.heap.size) = A at hD ⊢
  have hA : ∀ q : Nat, s.heap.size ≤ q → A q := fun q h => by rw [← hAe]; exact Or.inr h
  have hS : va_S A s.heap s.heap [] := va_S.rf
  have hl := lv_entry ([.ref (a 0), .int v1]) (n := 7) (Nat.le_of_ble_eq_true rfl)
  rw [lg_entry_eq]
  generalize (lg_sl ([.ref (a 0), .int v1]) ++ List.replicate (7 - (lg_sl ([.ref (a 0), .int v1])).length) Slot.unset).toArray = ls at hl ⊢
  have hl : lv_has ls 7 [(0, .ref (a 0)), (1, .int v1)] := hl
  have K6 : ∀ (n6 : Nat) (S : S_Model) (x2 : Int32) (x3 : Int32) (H : Heap) (locs : List Loc), F_X5_coversOf_6 v1 n6 S x2 x3 = some (rr, Y) → va_P (dC, dI) vwCl ((W_Model cI a S)) H → va_D A ((W_Model cI a S)) → va_S A s.heap H locs → ∀ ls : Array Slot, lv_has ls 7 [(0, .ref (a 0)), (1, .int v1), (2, .int x2), (3, .int x3)] → W p l e (headSpec wsX5_coversOf ({ frames := 3, cells := 0, slots := 0, locals := 74 } : Room)).room s m ([.ref (a 0), .int v1] : List Value).toArray below meth c H locs 0 0 (MQ below (va_Qi (fun (r' : Int32) (u : S_Model) => rr = r' ∧ Y = u) (fun u : S_Model => jB (dC, dI) [(cI, .int)] A ((W_Model cI a u))) A) ([.ref (a 0), .int v1] : List Value).toArray s 0 0 A) (F0 m 6 ls []) := by
    intro n6
    induction n6 with
    | zero => intro S x2 x3 H locs hF; exact nomatch hF
    | succ n6 ih6 =>
      intro S x2 x3 H locs hF hP hD hS ls hl
      rw [F_X5_coversOf_6_s] at hF
      have K169 : ∀ (S : S_Model) (x2 : Int32) (x3 : Int32) (x5 : Int32) (t0 : Bool) (H : Heap) (locs : List Loc), F_X5_coversOf_169 v1 (F_X5_coversOf_6 v1 n6) S x2 x3 x5 t0 = some (rr, Y) → va_P (dC, dI) vwCl ((W_Model cI a S)) H → va_D A ((W_Model cI a S)) → va_S A s.heap H locs → ∀ ls : Array Slot, lv_has ls 7 [(0, .ref (a 0)), (1, .int v1), (2, .int x2), (3, .int x3), (5, .int x5)] → W p l e (headSpec wsX5_coversOf ({ frames := 3, cells := 0, slots := 0, locals := 74 } : Room)).room s m ([.ref (a 0), .int v1] : List Value).toArray below meth c H locs 0 0 (MQ below (va_Qi (fun (r' : Int32) (u : S_Model) => rr = r' ∧ Y = u) (fun u : S_Model => jB (dC, dI) [(cI, .int)] A ((W_Model cI a u))) A) ([.ref (a 0), .int v1] : List Value).toArray s 0 0 A) (F0 m 169 ls [.int (b2i t0)]) := by
        intro S x2 x3 x5 t0 H locs hF hP hD hS ls hl
        unfold F_X5_coversOf_169 at hF
        refine lv_istore (lv' := [(6, .int (b2i t0)), (0, .ref (a 0)), (1, .int v1), (2, .int x2), (3, .int x3), (5, .int x5)]) hx hb dX5_coversOf_169 hl (by decide) rfl (fun ls hl => ?_)
        refine lv_iload hx hb dX5_coversOf_171 (lv_at hl 0 rfl) ?_
        refine lv_if_ne (tgt := 202) hx hb dX5_coversOf_173 (by decide) (fun c1 => ?_) (fun c1 => ?_)
        · have hF := F_neg c1 hF
          refine lv_aload_n hx hb dX5_coversOf_202 rfl (lv_at hl 1 rfl) ?_
          refine va_get (D := (dC, dI)) (ci := 5) (v := .ref (a 12)) (C := RX5) (T := TX5) (N := 26) hx hb hts hinX5 hown hK hP 0 rfl rfl 20 (by decide) (hts (Cond.fieldLink RX5 43 "LearnedShapesModel" "place" "[I") (List.mem_of_getElem? (i := 2) rfl)) (fun _ h9 => h9) rfl dX5_coversOf_203 ?_
          refine lv_iload_n hx hb dX5_coversOf_206 rfl (lv_at hl 4 rfl) ?_
          refine lv_iload hx hb dX5_coversOf_207 (lv_at hl 0 rfl) ?_
          refine lv_if_eq (tgt := 216) hx hb dX5_coversOf_209 (by decide) (fun c2 => ?_) (fun c2 => ?_)
          · have hF := F_pos c2 hF
            refine lv_iload hx hb dX5_coversOf_216 (lv_at hl 5 rfl) ?_
            obtain ⟨g3, hF⟩ := og_some hF
            refine va_iast (f := (g_Model_place S)) hx hb hK hP hD hS 12 0 rfl rfl (inb_in g3) dX5_coversOf_218 (fun H locs hP hD hS => ?_)
            have hP : va_P (dC, dI) vwCl ((W_Model cI a (s_Model_place S (upd (g_Model_place S) x3.toNatClampNeg x5)))) H := hP
            have hD : va_D A ((W_Model cI a (s_Model_place S (upd (g_Model_place S) x3.toNatClampNeg x5)))) := hD
            refine lv_iinc (v := (x3 + (1 : Int32))) (lv' := [(3, .int (x3 + (1 : Int32))), (6, .int (b2i t0)), (0, .ref (a 0)), (1, .int v1), (2, .int x2), (5, .int x5)]) hx hb dX5_coversOf_219 hl (k := 4) rfl rfl (by decide) rfl (fun ls hl => ?_)
            refine lv_goto (tgt := 6) hx hb dX5_coversOf_222 (by decide) ?_
            exact ih6 _ _ _ _ _ hF hP hD hS _ (lv_sub hl [2, 3, 4, 0] rfl)
          · have hF := F_neg c2 hF
            refine lv_iconst (v := (-1 : Int32)) hx hb dX5_coversOf_212 (by decide) ?_
            refine lv_goto (tgt := 218) hx hb dX5_coversOf_213 (by decide) ?_
            obtain ⟨g4, hF⟩ := og_some hF
            refine va_iast (f := (g_Model_place S)) hx hb hK hP hD hS 12 0 rfl rfl (inb_in g4) dX5_coversOf_218 (fun H locs hP hD hS => ?_)
            have hP : va_P (dC, dI) vwCl ((W_Model cI a (s_Model_place S (upd (g_Model_place S) x3.toNatClampNeg (-1 : Int32))))) H := hP
            have hD : va_D A ((W_Model cI a (s_Model_place S (upd (g_Model_place S) x3.toNatClampNeg (-1 : Int32))))) := hD
            refine lv_iinc (v := (x3 + (1 : Int32))) (lv' := [(3, .int (x3 + (1 : Int32))), (6, .int (b2i t0)), (0, .ref (a 0)), (1, .int v1), (2, .int x2), (5, .int x5)]) hx hb dX5_coversOf_219 hl (k := 4) rfl rfl (by decide) rfl (fun ls hl => ?_)
            refine lv_goto (tgt := 6) hx hb dX5_coversOf_222 (by decide) ?_
            exact ih6 _ _ _ _ _ hF hP hD hS _ (lv_sub hl [2, 3, 4, 0] rfl)
        · have hF := F_pos c1 hF
          refine lv_aload_n hx hb dX5_coversOf_176 rfl (lv_at hl 1 rfl) ?_
          refine lv_iload_n hx hb dX5_coversOf_177 rfl (lv_at hl 3 rfl) ?_
          refine lv_iload_n hx hb dX5_coversOf_178 rfl (lv_at hl 4 rfl) ?_
          refine lv_iconst (v := (0 : Int32)) hx hb dX5_coversOf_179 (by decide) ?_
          obtain ⟨r5, h6, hF⟩ := ob1_some hF
          have hPc : va_P (dC, dI) vwCl ((W_Model cI a S)) H := hP
          have hDc : va_D A ((W_Model cI a S)) := hD
          have hFc := va_free (wc := (W_Model cI a S)) hD hS hA [0, 1, 2, 3, 4, 5, 6, 7, 8, 9, 10, 11, 12, 13] rfl
          refine va_calli (va_runV (As := [.int x2, .int x3, .int (0 : Int32)]) (rest := []) ⟨hx, hb, hml, hown, hts⟩ (c_X5_of l dC dI cI a H.size _ _ _ _ _ h6) (cwV 3 hts gX5_coversOf_X5_of rfl rfl rfl (by decide +kernel) ⟨Nat.le_of_ble_eq_true rfl, Nat.le_of_ble_eq_true rfl⟩) (jPreV hK hPc hDc hN (ci := 5) rfl rfl) rfl rfl hl.1 rfl (lv_room (Nat.le_of_ble_eq_true rfl)) dX5_coversOf_180 ⟨Nat.le_of_ble_eq_true rfl, Nat.le_of_ble_eq_true rfl⟩) hS (fun q _ h => hFc q h) hFc (fun r' u' t H locs ht hvm hw hB hz1 hk1 hS => ?_)
          subst hw
          obtain ⟨hP1, -, hD1⟩ := hB
          rw [ht] at hP1
          have hP : va_P (dC, dI) vwCl ((W_Model cI a S)) H := hP1
          have hD : va_D A ((W_Model cI a S)) := hD1.weaken (fun _ _ _ h => hFc _ h)
          refine lv_bipush (v := (6 : Int32)) hx hb dX5_coversOf_183 (by decide) ?_
          refine lv_icmp_ne (tgt := 202) hx hb dX5_coversOf_185 (by decide) (fun c7 => ?_) (fun c7 => ?_)
          · have hF := F_neg c7 hF
            refine lv_aload_n hx hb dX5_coversOf_202 rfl (lv_at hl 1 rfl) ?_
            refine va_get (D := (dC, dI)) (ci := 5) (v := .ref (a 12)) (C := RX5) (T := TX5) (N := 26) hx hb hts hinX5 hown hK hP 0 rfl rfl 20 (by decide) (hts (Cond.fieldLink RX5 43 "LearnedShapesModel" "place" "[I") (List.mem_of_getElem? (i := 2) rfl)) (fun _ h9 => h9) rfl dX5_coversOf_203 ?_
            refine lv_iload_n hx hb dX5_coversOf_206 rfl (lv_at hl 4 rfl) ?_
            refine lv_iload hx hb dX5_coversOf_207 (lv_at hl 0 rfl) ?_
            refine lv_if_eq (tgt := 216) hx hb dX5_coversOf_209 (by decide) (fun c8 => ?_) (fun c8 => ?_)
            · have hF := F_pos c8 hF
              refine lv_iload hx hb dX5_coversOf_216 (lv_at hl 5 rfl) ?_
              obtain ⟨g9, hF⟩ := og_some hF
              refine va_iast (f := (g_Model_place S)) hx hb hK hP hD hS 12 0 rfl rfl (inb_in g9) dX5_coversOf_218 (fun H locs hP hD hS => ?_)
              have hP : va_P (dC, dI) vwCl ((W_Model cI a (s_Model_place S (upd (g_Model_place S) x3.toNatClampNeg x5)))) H := hP
              have hD : va_D A ((W_Model cI a (s_Model_place S (upd (g_Model_place S) x3.toNatClampNeg x5)))) := hD
              refine lv_iinc (v := (x3 + (1 : Int32))) (lv' := [(3, .int (x3 + (1 : Int32))), (6, .int (b2i t0)), (0, .ref (a 0)), (1, .int v1), (2, .int x2), (5, .int x5)]) hx hb dX5_coversOf_219 hl (k := 4) rfl rfl (by decide) rfl (fun ls hl => ?_)
              refine lv_goto (tgt := 6) hx hb dX5_coversOf_222 (by decide) ?_
              exact ih6 _ _ _ _ _ hF hP hD hS _ (lv_sub hl [2, 3, 4, 0] rfl)
            · have hF := F_neg c8 hF
              refine lv_iconst (v := (-1 : Int32)) hx hb dX5_coversOf_212 (by decide) ?_
              refine lv_goto (tgt := 218) hx hb dX5_coversOf_213 (by decide) ?_
              obtain ⟨g10, hF⟩ := og_some hF
              refine va_iast (f := (g_Model_place S)) hx hb hK hP hD hS 12 0 rfl rfl (inb_in g10) dX5_coversOf_218 (fun H locs hP hD hS => ?_)
              have hP : va_P (dC, dI) vwCl ((W_Model cI a (s_Model_place S (upd (g_Model_place S) x3.toNatClampNeg (-1 : Int32))))) H := hP
              have hD : va_D A ((W_Model cI a (s_Model_place S (upd (g_Model_place S) x3.toNatClampNeg (-1 : Int32))))) := hD
              refine lv_iinc (v := (x3 + (1 : Int32))) (lv' := [(3, .int (x3 + (1 : Int32))), (6, .int (b2i t0)), (0, .ref (a 0)), (1, .int v1), (2, .int x2), (5, .int x5)]) hx hb dX5_coversOf_219 hl (k := 4) rfl rfl (by decide) rfl (fun ls hl => ?_)
              refine lv_goto (tgt := 6) hx hb dX5_coversOf_222 (by decide) ?_
              exact ih6 _ _ _ _ _ hF hP hD hS _ (lv_sub hl [2, 3, 4, 0] rfl)
          · have hF := F_pos c7 hF
            refine lv_aload_n hx hb dX5_coversOf_188 rfl (lv_at hl 1 rfl) ?_
            refine lv_iload_n hx hb dX5_coversOf_189 rfl (lv_at hl 2 rfl) ?_
            refine lv_iload hx hb dX5_coversOf_190 (lv_at hl 5 rfl) ?_
            refine lv_iload_n hx hb dX5_coversOf_192 rfl (lv_at hl 3 rfl) ?_
            refine lv_iload_n hx hb dX5_coversOf_193 rfl (lv_at hl 4 rfl) ?_
            obtain ⟨r11, h12, hF⟩ := ob1_some hF
            have hPc : va_P (dC, dI) vwCl ((W_Model cI a S)) H := hP
            have hDc : va_D A ((W_Model cI a S)) := hD
            have hFc := va_free (wc := (W_Model cI a S)) hD hS hA [0, 1, 2, 3, 4, 5, 6, 7, 8, 9, 10, 11, 12, 13] rfl
            refine va_calli (va_runV (As := [.int v1, .int x5, .int x2, .int x3]) (rest := []) ⟨hx, hb, hml, hown, hts⟩ (c_X5_coversParts l dC dI cI a H.size _ _ _ _ _ _ h12) (cwV 4 hts gX5_coversOf_X5_coversParts rfl rfl rfl (by decide +kernel) ⟨Nat.le_of_ble_eq_true rfl, Nat.le_of_ble_eq_true rfl⟩) (jPreV hK hPc hDc hN (ci := 5) rfl rfl) rfl rfl hl.1 rfl (lv_room (Nat.le_of_ble_eq_true rfl)) dX5_coversOf_194 ⟨Nat.le_of_ble_eq_true rfl, Nat.le_of_ble_eq_true rfl⟩) hS (fun q _ h => hFc q h) hFc (fun r' u' t H locs ht hvm hw hB hz1 hk1 hS => ?_)
            subst hw
            obtain ⟨hP1, -, hD1⟩ := hB
            rw [ht] at hP1
            have hP : va_P (dC, dI) vwCl ((W_Model cI a S)) H := hP1
            have hD : va_D A ((W_Model cI a S)) := hD1.weaken (fun _ _ _ h => hFc _ h)
            refine lv_if_ne (tgt := 202) hx hb dX5_coversOf_197 (by decide) (fun c13 => ?_) (fun c13 => ?_)
            · have hF := F_neg c13 hF
              refine lv_aload_n hx hb dX5_coversOf_202 rfl (lv_at hl 1 rfl) ?_
              refine va_get (D := (dC, dI)) (ci := 5) (v := .ref (a 12)) (C := RX5) (T := TX5) (N := 26) hx hb hts hinX5 hown hK hP 0 rfl rfl 20 (by decide) (hts (Cond.fieldLink RX5 43 "LearnedShapesModel" "place" "[I") (List.mem_of_getElem? (i := 2) rfl)) (fun _ h9 => h9) rfl dX5_coversOf_203 ?_
              refine lv_iload_n hx hb dX5_coversOf_206 rfl (lv_at hl 4 rfl) ?_
              refine lv_iload hx hb dX5_coversOf_207 (lv_at hl 0 rfl) ?_
              refine lv_if_eq (tgt := 216) hx hb dX5_coversOf_209 (by decide) (fun c14 => ?_) (fun c14 => ?_)
              · have hF := F_pos c14 hF
                refine lv_iload hx hb dX5_coversOf_216 (lv_at hl 5 rfl) ?_
                obtain ⟨g15, hF⟩ := og_some hF
                refine va_iast (f := (g_Model_place S)) hx hb hK hP hD hS 12 0 rfl rfl (inb_in g15) dX5_coversOf_218 (fun H locs hP hD hS => ?_)
                have hP : va_P (dC, dI) vwCl ((W_Model cI a (s_Model_place S (upd (g_Model_place S) x3.toNatClampNeg x5)))) H := hP
                have hD : va_D A ((W_Model cI a (s_Model_place S (upd (g_Model_place S) x3.toNatClampNeg x5)))) := hD
                refine lv_iinc (v := (x3 + (1 : Int32))) (lv' := [(3, .int (x3 + (1 : Int32))), (6, .int (b2i t0)), (0, .ref (a 0)), (1, .int v1), (2, .int x2), (5, .int x5)]) hx hb dX5_coversOf_219 hl (k := 4) rfl rfl (by decide) rfl (fun ls hl => ?_)
                refine lv_goto (tgt := 6) hx hb dX5_coversOf_222 (by decide) ?_
                exact ih6 _ _ _ _ _ hF hP hD hS _ (lv_sub hl [2, 3, 4, 0] rfl)
              · have hF := F_neg c14 hF
                refine lv_iconst (v := (-1 : Int32)) hx hb dX5_coversOf_212 (by decide) ?_
                refine lv_goto (tgt := 218) hx hb dX5_coversOf_213 (by decide) ?_
                obtain ⟨g16, hF⟩ := og_some hF
                refine va_iast (f := (g_Model_place S)) hx hb hK hP hD hS 12 0 rfl rfl (inb_in g16) dX5_coversOf_218 (fun H locs hP hD hS => ?_)
                have hP : va_P (dC, dI) vwCl ((W_Model cI a (s_Model_place S (upd (g_Model_place S) x3.toNatClampNeg (-1 : Int32))))) H := hP
                have hD : va_D A ((W_Model cI a (s_Model_place S (upd (g_Model_place S) x3.toNatClampNeg (-1 : Int32))))) := hD
                refine lv_iinc (v := (x3 + (1 : Int32))) (lv' := [(3, .int (x3 + (1 : Int32))), (6, .int (b2i t0)), (0, .ref (a 0)), (1, .int v1), (2, .int x2), (5, .int x5)]) hx hb dX5_coversOf_219 hl (k := 4) rfl rfl (by decide) rfl (fun ls hl => ?_)
                refine lv_goto (tgt := 6) hx hb dX5_coversOf_222 (by decide) ?_
                exact ih6 _ _ _ _ _ hF hP hD hS _ (lv_sub hl [2, 3, 4, 0] rfl)
            · have hF := F_pos c13 hF
              refine lv_iconst (v := (0 : Int32)) hx hb dX5_coversOf_200 (by decide) ?_
              have e50 := Option.some.inj hF
              obtain ⟨e60, e51⟩ := Prod.mk.inj e50
              subst e60
              subst e51
              exact W.iret (v := (0 : Int32)) hx hb hr (fun t ht hW => ⟨⟨(0 : Int32), S, rfl, ⟨rfl, rfl⟩, by rw [ht]; exact hP, va_K.moved hW.alike hK, hD⟩, hS.F ht⟩) hS.2.2 dX5_coversOf_201
      have K94 : ∀ (S : S_Model) (x2 : Int32) (x3 : Int32) (t0 : Int32) (H : Heap) (locs : List Loc), F_X5_coversOf_94 v1 (F_X5_coversOf_6 v1 n6) S x2 x3 t0 = some (rr, Y) → va_P (dC, dI) vwCl ((W_Model cI a S)) H → va_D A ((W_Model cI a S)) → va_S A s.heap H locs → ∀ ls : Array Slot, lv_has ls 7 [(0, .ref (a 0)), (1, .int v1), (2, .int x2), (3, .int x3)] → W p l e (headSpec wsX5_coversOf ({ frames := 3, cells := 0, slots := 0, locals := 74 } : Room)).room s m ([.ref (a 0), .int v1] : List Value).toArray below meth c H locs 0 0 (MQ below (va_Qi (fun (r' : Int32) (u : S_Model) => rr = r' ∧ Y = u) (fun u : S_Model => jB (dC, dI) [(cI, .int)] A ((W_Model cI a u))) A) ([.ref (a 0), .int v1] : List Value).toArray s 0 0 A) (F0 m 94 ls [.int t0]) := by
        intro S x2 x3 t0 H locs hF hP hD hS ls hl
        unfold F_X5_coversOf_94 at hF
        refine lv_istore (lv' := [(5, .int t0), (0, .ref (a 0)), (1, .int v1), (2, .int x2), (3, .int x3)]) hx hb dX5_coversOf_94 hl (by decide) rfl (fun ls hl => ?_)
        refine lv_iload hx hb dX5_coversOf_96 (lv_at hl 0 rfl) ?_
        refine lv_iconst (v := (-1 : Int32)) hx hb dX5_coversOf_98 (by decide) ?_
        refine lv_icmp_eq (tgt := 149) hx hb dX5_coversOf_99 (by decide) (fun c17 => ?_) (fun c17 => ?_)
        · have hF := F_pos c17 hF
          refine lv_iconst (v := (0 : Int32)) hx hb dX5_coversOf_149 (by decide) ?_
          have e50 := Option.some.inj hF
          obtain ⟨e60, e51⟩ := Prod.mk.inj e50
          subst e60
          subst e51
          exact W.iret (v := (0 : Int32)) hx hb hr (fun t ht hW => ⟨⟨(0 : Int32), S, rfl, ⟨rfl, rfl⟩, by rw [ht]; exact hP, va_K.moved hW.alike hK, hD⟩, hS.F ht⟩) hS.2.2 dX5_coversOf_150
        · have hF := F_neg c17 hF
          refine lv_aload_n hx hb dX5_coversOf_102 rfl (lv_at hl 1 rfl) ?_
          refine lv_iload_n hx hb dX5_coversOf_103 rfl (lv_at hl 2 rfl) ?_
          refine lv_iload hx hb dX5_coversOf_104 (lv_at hl 0 rfl) ?_
          refine lv_iconst (v := (0 : Int32)) hx hb dX5_coversOf_106 (by decide) ?_
          obtain ⟨r18, h19, hF⟩ := ob1_some hF
          have hPc : va_P (dC, dI) vwCl ((W_Model cI a S)) H := hP
          have hDc : va_D A ((W_Model cI a S)) := hD
          have hFc := va_free (wc := (W_Model cI a S)) hD hS hA [0, 1, 2, 3, 4, 5, 6, 7, 8, 9, 10, 11, 12, 13] rfl
          refine va_calli (va_runV (As := [.int v1, .int t0, .int (0 : Int32)]) (rest := []) ⟨hx, hb, hml, hown, hts⟩ (c_X5_of l dC dI cI a H.size _ _ _ _ _ h19) (cwV 3 hts gX5_coversOf_X5_of rfl rfl rfl (by decide +kernel) ⟨Nat.le_of_ble_eq_true rfl, Nat.le_of_ble_eq_true rfl⟩) (jPreV hK hPc hDc hN (ci := 5) rfl rfl) rfl rfl hl.1 rfl (lv_room (Nat.le_of_ble_eq_true rfl)) dX5_coversOf_107 ⟨Nat.le_of_ble_eq_true rfl, Nat.le_of_ble_eq_true rfl⟩) hS (fun q _ h => hFc q h) hFc (fun r' u' t H locs ht hvm hw hB hz1 hk1 hS => ?_)
          subst hw
          obtain ⟨hP1, -, hD1⟩ := hB
          rw [ht] at hP1
          have hP : va_P (dC, dI) vwCl ((W_Model cI a S)) H := hP1
          have hD : va_D A ((W_Model cI a S)) := hD1.weaken (fun _ _ _ h => hFc _ h)
          refine lv_aload_n hx hb dX5_coversOf_110 rfl (lv_at hl 1 rfl) ?_
          refine lv_iload_n hx hb dX5_coversOf_111 rfl (lv_at hl 3 rfl) ?_
          refine lv_iload_n hx hb dX5_coversOf_112 rfl (lv_at hl 4 rfl) ?_
          refine lv_iconst (v := (0 : Int32)) hx hb dX5_coversOf_113 (by decide) ?_
          obtain ⟨r20, h21, hF⟩ := ob1_some hF
          have hPc : va_P (dC, dI) vwCl ((W_Model cI a S)) H := hP
          have hDc : va_D A ((W_Model cI a S)) := hD
          have hFc := va_free (wc := (W_Model cI a S)) hD hS hA [0, 1, 2, 3, 4, 5, 6, 7, 8, 9, 10, 11, 12, 13] rfl
          refine va_calli (va_runV (As := [.int x2, .int x3, .int (0 : Int32)]) (rest := [.int r18]) ⟨hx, hb, hml, hown, hts⟩ (c_X5_of l dC dI cI a H.size _ _ _ _ _ h21) (cwV 3 hts gX5_coversOf_X5_of rfl rfl rfl (by decide +kernel) ⟨Nat.le_of_ble_eq_true rfl, Nat.le_of_ble_eq_true rfl⟩) (jPreV hK hPc hDc hN (ci := 5) rfl rfl) rfl rfl hl.1 rfl (lv_room (Nat.le_of_ble_eq_true rfl)) dX5_coversOf_114 ⟨Nat.le_of_ble_eq_true rfl, Nat.le_of_ble_eq_true rfl⟩) hS (fun q _ h => hFc q h) hFc (fun r' u' t H locs ht hvm hw hB hz1 hk1 hS => ?_)
          subst hw
          obtain ⟨hP1, -, hD1⟩ := hB
          rw [ht] at hP1
          have hP : va_P (dC, dI) vwCl ((W_Model cI a S)) H := hP1
          have hD : va_D A ((W_Model cI a S)) := hD1.weaken (fun _ _ _ h => hFc _ h)
          obtain ⟨r22, h23, hF⟩ := ob1_some hF
          have hPc := hP.sub (ws' := ([] : va_W)) [] rfl
          have hDc := hD.sub (ws' := ([] : va_W)) [] (by decide) rfl
          have hFc := va_free (wc := ([] : va_W)) hD hS hA [] rfl
          refine va_calli (va_runS (As := [.int r18, .int r20]) (rest := []) ⟨hx, hb, hml, hown, hts⟩ (c_X5_joined l dC dI cI  H.size _ _ _ h23) (va_cwS 2 hts gX5_coversOf_X5_joined rfl rfl rfl (by decide +kernel) ⟨Nat.le_of_ble_eq_true rfl, Nat.le_of_ble_eq_true rfl⟩) (jPreS hK hPc hDc hN) rfl rfl hl.1 rfl (lv_room (Nat.le_of_ble_eq_true rfl)) dX5_coversOf_117 ⟨Nat.le_of_ble_eq_true rfl, Nat.le_of_ble_eq_true rfl⟩) hS (fun q _ h => hFc q h) hFc (fun r' u' t H locs ht hvm hw hB hz1 hk1 hS => ?_)
          subst hw
          obtain ⟨hP1, -, hD1⟩ := hB
          rw [ht] at hP1
          obtain ⟨hP, hD⟩ := jJoin (wc := ([] : va_W)) (w1 := ([] : va_W)) (ws' := (W_Model cI a S)) hP hD [] [0, 1, 2, 3, 4, 5, 6, 7, 8, 9, 10, 11, 12, 13] [0, 1, 2, 3, 4, 5, 6, 7, 8, 9, 10, 11, 12, 13] rfl rfl (by decide) (by decide) hk1 hFc hP1 hD1 (by decide) rfl
          refine lv_aload_n hx hb dX5_coversOf_120 rfl (lv_at hl 1 rfl) ?_
          refine lv_iload_n hx hb dX5_coversOf_121 rfl (lv_at hl 2 rfl) ?_
          refine lv_iload hx hb dX5_coversOf_122 (lv_at hl 0 rfl) ?_
          refine lv_iconst (v := (0 : Int32)) hx hb dX5_coversOf_124 (by decide) ?_
          obtain ⟨r24, h25, hF⟩ := ob1_some hF
          have hPc : va_P (dC, dI) vwCl ((W_Model cI a S)) H := hP
          have hDc : va_D A ((W_Model cI a S)) := hD
          have hFc := va_free (wc := (W_Model cI a S)) hD hS hA [0, 1, 2, 3, 4, 5, 6, 7, 8, 9, 10, 11, 12, 13] rfl
          refine va_calli (va_runV (As := [.int v1, .int t0, .int (0 : Int32)]) (rest := [.int r22]) ⟨hx, hb, hml, hown, hts⟩ (c_X5_of l dC dI cI a H.size _ _ _ _ _ h25) (cwV 3 hts gX5_coversOf_X5_of rfl rfl rfl (by decide +kernel) ⟨Nat.le_of_ble_eq_true rfl, Nat.le_of_ble_eq_true rfl⟩) (jPreV hK hPc hDc hN (ci := 5) rfl rfl) rfl rfl hl.1 rfl (lv_room (Nat.le_of_ble_eq_true rfl)) dX5_coversOf_125 ⟨Nat.le_of_ble_eq_true rfl, Nat.le_of_ble_eq_true rfl⟩) hS (fun q _ h => hFc q h) hFc (fun r' u' t H locs ht hvm hw hB hz1 hk1 hS => ?_)
          subst hw
          obtain ⟨hP1, -, hD1⟩ := hB
          rw [ht] at hP1
          have hP : va_P (dC, dI) vwCl ((W_Model cI a S)) H := hP1
          have hD : va_D A ((W_Model cI a S)) := hD1.weaken (fun _ _ _ h => hFc _ h)
          refine lv_icmp_ne (tgt := 149) hx hb dX5_coversOf_128 (by decide) (fun c26 => ?_) (fun c26 => ?_)
          · have hF := F_neg c26 hF
            refine lv_iconst (v := (0 : Int32)) hx hb dX5_coversOf_149 (by decide) ?_
            have e50 := Option.some.inj hF
            obtain ⟨e60, e51⟩ := Prod.mk.inj e50
            subst e60
            subst e51
            exact W.iret (v := (0 : Int32)) hx hb hr (fun t ht hW => ⟨⟨(0 : Int32), S, rfl, ⟨rfl, rfl⟩, by rw [ht]; exact hP, va_K.moved hW.alike hK, hD⟩, hS.F ht⟩) hS.2.2 dX5_coversOf_150
          · have hF := F_pos c26 hF
            refine lv_aload_n hx hb dX5_coversOf_131 rfl (lv_at hl 1 rfl) ?_
            refine lv_iload_n hx hb dX5_coversOf_132 rfl (lv_at hl 2 rfl) ?_
            refine lv_iload hx hb dX5_coversOf_133 (lv_at hl 0 rfl) ?_
            refine lv_iconst (v := (4 : Int32)) hx hb dX5_coversOf_135 (by decide) ?_
            obtain ⟨r27, h28, hF⟩ := ob1_some hF
            have hPc : va_P (dC, dI) vwCl ((W_Model cI a S)) H := hP
            have hDc : va_D A ((W_Model cI a S)) := hD
            have hFc := va_free (wc := (W_Model cI a S)) hD hS hA [0, 1, 2, 3, 4, 5, 6, 7, 8, 9, 10, 11, 12, 13] rfl
            refine va_calli (va_runV (As := [.int v1, .int t0, .int (4 : Int32)]) (rest := []) ⟨hx, hb, hml, hown, hts⟩ (c_X5_of l dC dI cI a H.size _ _ _ _ _ h28) (cwV 3 hts gX5_coversOf_X5_of rfl rfl rfl (by decide +kernel) ⟨Nat.le_of_ble_eq_true rfl, Nat.le_of_ble_eq_true rfl⟩) (jPreV hK hPc hDc hN (ci := 5) rfl rfl) rfl rfl hl.1 rfl (lv_room (Nat.le_of_ble_eq_true rfl)) dX5_coversOf_136 ⟨Nat.le_of_ble_eq_true rfl, Nat.le_of_ble_eq_true rfl⟩) hS (fun q _ h => hFc q h) hFc (fun r' u' t H locs ht hvm hw hB hz1 hk1 hS => ?_)
            subst hw
            obtain ⟨hP1, -, hD1⟩ := hB
            rw [ht] at hP1
            have hP : va_P (dC, dI) vwCl ((W_Model cI a S)) H := hP1
            have hD : va_D A ((W_Model cI a S)) := hD1.weaken (fun _ _ _ h => hFc _ h)
            refine lv_aload_n hx hb dX5_coversOf_139 rfl (lv_at hl 1 rfl) ?_
            refine lv_iload_n hx hb dX5_coversOf_140 rfl (lv_at hl 3 rfl) ?_
            refine lv_iload_n hx hb dX5_coversOf_141 rfl (lv_at hl 4 rfl) ?_
            refine lv_iconst (v := (4 : Int32)) hx hb dX5_coversOf_142 (by decide) ?_
            obtain ⟨r29, h30, hF⟩ := ob1_some hF
            have hPc : va_P (dC, dI) vwCl ((W_Model cI a S)) H := hP
            have hDc : va_D A ((W_Model cI a S)) := hD
            have hFc := va_free (wc := (W_Model cI a S)) hD hS hA [0, 1, 2, 3, 4, 5, 6, 7, 8, 9, 10, 11, 12, 13] rfl
            refine va_calli (va_runV (As := [.int x2, .int x3, .int (4 : Int32)]) (rest := [.int r27]) ⟨hx, hb, hml, hown, hts⟩ (c_X5_of l dC dI cI a H.size _ _ _ _ _ h30) (cwV 3 hts gX5_coversOf_X5_of rfl rfl rfl (by decide +kernel) ⟨Nat.le_of_ble_eq_true rfl, Nat.le_of_ble_eq_true rfl⟩) (jPreV hK hPc hDc hN (ci := 5) rfl rfl) rfl rfl hl.1 rfl (lv_room (Nat.le_of_ble_eq_true rfl)) dX5_coversOf_143 ⟨Nat.le_of_ble_eq_true rfl, Nat.le_of_ble_eq_true rfl⟩) hS (fun q _ h => hFc q h) hFc (fun r' u' t H locs ht hvm hw hB hz1 hk1 hS => ?_)
            subst hw
            obtain ⟨hP1, -, hD1⟩ := hB
            rw [ht] at hP1
            have hP : va_P (dC, dI) vwCl ((W_Model cI a S)) H := hP1
            have hD : va_D A ((W_Model cI a S)) := hD1.weaken (fun _ _ _ h => hFc _ h)
            refine lv_icmp_ge (tgt := 151) hx hb dX5_coversOf_146 (by decide) (fun c31 => ?_) (fun c31 => ?_)
            · have hF := F_pos c31 hF
              refine lv_aload_n hx hb dX5_coversOf_151 rfl (lv_at hl 1 rfl) ?_
              refine lv_iload_n hx hb dX5_coversOf_152 rfl (lv_at hl 2 rfl) ?_
              refine lv_iload hx hb dX5_coversOf_153 (lv_at hl 0 rfl) ?_
              refine lv_iconst (v := (0 : Int32)) hx hb dX5_coversOf_155 (by decide) ?_
              obtain ⟨r32, h33, hF⟩ := ob1_some hF
              have hPc : va_P (dC, dI) vwCl ((W_Model cI a S)) H := hP
              have hDc : va_D A ((W_Model cI a S)) := hD
              have hFc := va_free (wc := (W_Model cI a S)) hD hS hA [0, 1, 2, 3, 4, 5, 6, 7, 8, 9, 10, 11, 12, 13] rfl
              refine va_calli (va_runV (As := [.int v1, .int t0, .int (0 : Int32)]) (rest := []) ⟨hx, hb, hml, hown, hts⟩ (c_X5_of l dC dI cI a H.size _ _ _ _ _ h33) (cwV 3 hts gX5_coversOf_X5_of rfl rfl rfl (by decide +kernel) ⟨Nat.le_of_ble_eq_true rfl, Nat.le_of_ble_eq_true rfl⟩) (jPreV hK hPc hDc hN (ci := 5) rfl rfl) rfl rfl hl.1 rfl (lv_room (Nat.le_of_ble_eq_true rfl)) dX5_coversOf_156 ⟨Nat.le_of_ble_eq_true rfl, Nat.le_of_ble_eq_true rfl⟩) hS (fun q _ h => hFc q h) hFc (fun r' u' t H locs ht hvm hw hB hz1 hk1 hS => ?_)
              subst hw
              obtain ⟨hP1, -, hD1⟩ := hB
              rw [ht] at hP1
              have hP : va_P (dC, dI) vwCl ((W_Model cI a S)) H := hP1
              have hD : va_D A ((W_Model cI a S)) := hD1.weaken (fun _ _ _ h => hFc _ h)
              refine lv_bipush (v := (7 : Int32)) hx hb dX5_coversOf_159 (by decide) ?_
              refine lv_icmp_ne (tgt := 168) hx hb dX5_coversOf_161 (by decide) (fun c34 => ?_) (fun c34 => ?_)
              · have hF := F_neg c34 hF
                refine lv_iconst (v := (0 : Int32)) hx hb dX5_coversOf_168 (by decide) ?_
                exact K169 _ _ _ _ _ _ _ hF hP hD hS _ (lv_sub hl [1, 2, 3, 4, 0] rfl)
              · have hF := F_pos c34 hF
                refine lv_iconst (v := (1 : Int32)) hx hb dX5_coversOf_164 (by decide) ?_
                refine lv_goto (tgt := 169) hx hb dX5_coversOf_165 (by decide) ?_
                exact K169 _ _ _ _ _ _ _ hF hP hD hS _ (lv_sub hl [1, 2, 3, 4, 0] rfl)
            · have hF := F_neg c31 hF
              refine lv_iconst (v := (0 : Int32)) hx hb dX5_coversOf_149 (by decide) ?_
              have e50 := Option.some.inj hF
              obtain ⟨e60, e51⟩ := Prod.mk.inj e50
              subst e60
              subst e51
              exact W.iret (v := (0 : Int32)) hx hb hr (fun t ht hW => ⟨⟨(0 : Int32), S, rfl, ⟨rfl, rfl⟩, by rw [ht]; exact hP, va_K.moved hW.alike hK, hD⟩, hS.F ht⟩) hS.2.2 dX5_coversOf_150
      have K57 : ∀ (S : S_Model) (x2 : Int32) (x3 : Int32) (x4 : Int32) (H : Heap) (locs : List Loc), F_X5_coversOf_57 v1 (F_X5_coversOf_6 v1 n6) S x2 x3 x4 = some (rr, Y) → va_P (dC, dI) vwCl ((W_Model cI a S)) H → va_D A ((W_Model cI a S)) → va_S A s.heap H locs → ∀ ls : Array Slot, lv_has ls 7 [(0, .ref (a 0)), (1, .int v1), (2, .int x2), (3, .int x3), (4, .int x4)] → W p l e (headSpec wsX5_coversOf ({ frames := 3, cells := 0, slots := 0, locals := 74 } : Room)).room s m ([.ref (a 0), .int v1] : List Value).toArray below meth c H locs 0 0 (MQ below (va_Qi (fun (r' : Int32) (u : S_Model) => rr = r' ∧ Y = u) (fun u : S_Model => jB (dC, dI) [(cI, .int)] A ((W_Model cI a u))) A) ([.ref (a 0), .int v1] : List Value).toArray s 0 0 A) (F0 m 57 ls []) := by
        intro S x2 x3 x4 H locs hF hP hD hS ls hl
        unfold F_X5_coversOf_57 at hF
        refine lv_iload_n hx hb dX5_coversOf_57 rfl (lv_at hl 3 rfl) ?_
        refine lv_if_le (tgt := 78) hx hb dX5_coversOf_58 (by decide) (fun c35 => ?_) (fun c35 => ?_)
        · have hF := F_pos c35 hF
          refine lv_aload_n hx hb dX5_coversOf_78 rfl (lv_at hl 0 rfl) ?_
          refine va_get (D := (dC, dI)) (ci := 5) (v := .ref (a 1)) (C := RX5) (T := TX5) (N := 26) hx hb hts hinX5 hown hK hP 0 rfl rfl 0 (by decide) (hts (Cond.fieldLink RX5 7 "LearnedShapesModel" "now" "[I") (List.mem_of_getElem? (i := 1) rfl)) (fun _ h9 => h9) rfl dX5_coversOf_79 ?_
          refine lv_iconst (v := (3 : Int32)) hx hb dX5_coversOf_82 (by decide) ?_
          refine lv_iload_n hx hb dX5_coversOf_83 rfl (lv_at hl 1 rfl) ?_
          refine lv_iadd hx hb dX5_coversOf_84 ?_
          obtain ⟨g36, hF⟩ := og_some hF
          refine va_iald (f := (g_Model_now S)) hx hb hK hP 1 0 rfl rfl (inb_in g36) dX5_coversOf_85 ?_
          refine lv_if_le (tgt := 93) hx hb dX5_coversOf_86 (by decide) (fun c37 => ?_) (fun c37 => ?_)
          · have hF := F_pos c37 hF
            refine lv_iconst (v := (-1 : Int32)) hx hb dX5_coversOf_93 (by decide) ?_
            exact K94 _ _ _ _ _ _ hF hP hD hS _ (lv_sub hl [0, 1, 2, 3] rfl)
          · have hF := F_neg c37 hF
            refine lv_iconst (v := (0 : Int32)) hx hb dX5_coversOf_89 (by decide) ?_
            refine lv_goto (tgt := 94) hx hb dX5_coversOf_90 (by decide) ?_
            exact K94 _ _ _ _ _ _ hF hP hD hS _ (lv_sub hl [0, 1, 2, 3] rfl)
        · have hF := F_neg c35 hF
          refine lv_aload_n hx hb dX5_coversOf_61 rfl (lv_at hl 0 rfl) ?_
          refine lv_iload_n hx hb dX5_coversOf_62 rfl (lv_at hl 1 rfl) ?_
          refine lv_iload hx hb dX5_coversOf_63 (lv_at hl 4 rfl) ?_
          refine lv_aload_n hx hb dX5_coversOf_65 rfl (lv_at hl 0 rfl) ?_
          refine lv_iload_n hx hb dX5_coversOf_66 rfl (lv_at hl 2 rfl) ?_
          refine lv_iload_n hx hb dX5_coversOf_67 rfl (lv_at hl 3 rfl) ?_
          refine lv_iconst (v := (2 : Int32)) hx hb dX5_coversOf_68 (by decide) ?_
          obtain ⟨r38, h39, hF⟩ := ob1_some hF
          have hPc : va_P (dC, dI) vwCl ((W_Model cI a S)) H := hP
          have hDc : va_D A ((W_Model cI a S)) := hD
          have hFc := va_free (wc := (W_Model cI a S)) hD hS hA [0, 1, 2, 3, 4, 5, 6, 7, 8, 9, 10, 11, 12, 13] rfl
          refine va_calli (va_runV (As := [.int x2, .int x3, .int (2 : Int32)]) (rest := [.int x4, .int v1, .ref (a 0)]) ⟨hx, hb, hml, hown, hts⟩ (c_X5_of l dC dI cI a H.size _ _ _ _ _ h39) (cwV 3 hts gX5_coversOf_X5_of rfl rfl rfl (by decide +kernel) ⟨Nat.le_of_ble_eq_true rfl, Nat.le_of_ble_eq_true rfl⟩) (jPreV hK hPc hDc hN (ci := 5) rfl rfl) rfl rfl hl.1 rfl (lv_room (Nat.le_of_ble_eq_true rfl)) dX5_coversOf_69 ⟨Nat.le_of_ble_eq_true rfl, Nat.le_of_ble_eq_true rfl⟩) hS (fun q _ h => hFc q h) hFc (fun r' u' t H locs ht hvm hw hB hz1 hk1 hS => ?_)
          subst hw
          obtain ⟨hP1, -, hD1⟩ := hB
          rw [ht] at hP1
          have hP : va_P (dC, dI) vwCl ((W_Model cI a S)) H := hP1
          have hD : va_D A ((W_Model cI a S)) := hD1.weaken (fun _ _ _ h => hFc _ h)
          obtain ⟨r40, h41, hF⟩ := ob1_some hF
          have hPc : va_P (dC, dI) vwCl ((W_Model cI a S)) H := hP
          have hDc : va_D A ((W_Model cI a S)) := hD
          have hFc := va_free (wc := (W_Model cI a S)) hD hS hA [0, 1, 2, 3, 4, 5, 6, 7, 8, 9, 10, 11, 12, 13] rfl
          refine va_calli (va_runV (As := [.int v1, .int x4, .int r38]) (rest := []) ⟨hx, hb, hml, hown, hts⟩ (c_X5_childOf l dC dI cI a H.size _ _ _ _ _ h41) (cwV 3 hts gX5_coversOf_X5_childOf rfl rfl rfl (by decide +kernel) ⟨Nat.le_of_ble_eq_true rfl, Nat.le_of_ble_eq_true rfl⟩) (jPreV hK hPc hDc hN (ci := 5) rfl rfl) rfl rfl hl.1 rfl (lv_room (Nat.le_of_ble_eq_true rfl)) dX5_coversOf_72 ⟨Nat.le_of_ble_eq_true rfl, Nat.le_of_ble_eq_true rfl⟩) hS (fun q _ h => hFc q h) hFc (fun r' u' t H locs ht hvm hw hB hz1 hk1 hS => ?_)
          subst hw
          obtain ⟨hP1, -, hD1⟩ := hB
          rw [ht] at hP1
          have hP : va_P (dC, dI) vwCl ((W_Model cI a S)) H := hP1
          have hD : va_D A ((W_Model cI a S)) := hD1.weaken (fun _ _ _ h => hFc _ h)
          refine lv_goto (tgt := 94) hx hb dX5_coversOf_75 (by decide) ?_
          exact K94 _ _ _ _ _ _ hF hP hD hS _ (lv_sub hl [0, 1, 2, 3] rfl)
      refine lv_iload_n hx hb dX5_coversOf_6 rfl (lv_at hl 3 rfl) ?_
      refine lv_aload_n hx hb dX5_coversOf_7 rfl (lv_at hl 0 rfl) ?_
      refine va_get (D := (dC, dI)) (ci := 5) (v := .ref (a 1)) (C := RX5) (T := TX5) (N := 26) hx hb hts hinX5 hown hK hP 0 rfl rfl 0 (by decide) (hts (Cond.fieldLink RX5 7 "LearnedShapesModel" "now" "[I") (List.mem_of_getElem? (i := 1) rfl)) (fun _ h9 => h9) rfl dX5_coversOf_8 ?_
      refine lv_iconst (v := (3 : Int32)) hx hb dX5_coversOf_11 (by decide) ?_
      refine lv_iload_n hx hb dX5_coversOf_12 rfl (lv_at hl 2 rfl) ?_
      refine lv_iadd hx hb dX5_coversOf_13 ?_
      obtain ⟨g42, hF⟩ := og_some hF
      refine va_iald (f := (g_Model_now S)) hx hb hK hP 1 0 rfl rfl (inb_in g42) dX5_coversOf_14 ?_
      refine lv_icmp_ge (tgt := 225) hx hb dX5_coversOf_15 (by decide) (fun c43 => ?_) (fun c43 => ?_)
      · have hF := F_pos c43 hF
        refine lv_iconst (v := (1 : Int32)) hx hb dX5_coversOf_225 (by decide) ?_
        have e50 := Option.some.inj hF
        obtain ⟨e60, e51⟩ := Prod.mk.inj e50
        subst e60
        subst e51
        exact W.iret (v := (1 : Int32)) hx hb hr (fun t ht hW => ⟨⟨(1 : Int32), S, rfl, ⟨rfl, rfl⟩, by rw [ht]; exact hP, va_K.moved hW.alike hK, hD⟩, hS.F ht⟩) hS.2.2 dX5_coversOf_226
      · have hF := F_neg c43 hF
        refine lv_iload_n hx hb dX5_coversOf_18 rfl (lv_at hl 3 rfl) ?_
        refine lv_if_ne (tgt := 26) hx hb dX5_coversOf_19 (by decide) (fun c44 => ?_) (fun c44 => ?_)
        · have hF := F_neg c44 hF
          refine lv_aload_n hx hb dX5_coversOf_26 rfl (lv_at hl 0 rfl) ?_
          refine va_get (D := (dC, dI)) (ci := 5) (v := .ref (a 12)) (C := RX5) (T := TX5) (N := 26) hx hb hts hinX5 hown hK hP 0 rfl rfl 20 (by decide) (hts (Cond.fieldLink RX5 43 "LearnedShapesModel" "place" "[I") (List.mem_of_getElem? (i := 2) rfl)) (fun _ h9 => h9) rfl dX5_coversOf_27 ?_
          refine lv_aload_n hx hb dX5_coversOf_30 rfl (lv_at hl 0 rfl) ?_
          refine lv_iload_n hx hb dX5_coversOf_31 rfl (lv_at hl 2 rfl) ?_
          refine lv_iload_n hx hb dX5_coversOf_32 rfl (lv_at hl 3 rfl) ?_
          refine lv_iconst (v := (1 : Int32)) hx hb dX5_coversOf_33 (by decide) ?_
          obtain ⟨r45, h46, hF⟩ := ob1_some hF
          have hPc : va_P (dC, dI) vwCl ((W_Model cI a S)) H := hP
          have hDc : va_D A ((W_Model cI a S)) := hD
          have hFc := va_free (wc := (W_Model cI a S)) hD hS hA [0, 1, 2, 3, 4, 5, 6, 7, 8, 9, 10, 11, 12, 13] rfl
          refine va_calli (va_runV (As := [.int x2, .int x3, .int (1 : Int32)]) (rest := [.ref (a 12)]) ⟨hx, hb, hml, hown, hts⟩ (c_X5_of l dC dI cI a H.size _ _ _ _ _ h46) (cwV 3 hts gX5_coversOf_X5_of rfl rfl rfl (by decide +kernel) ⟨Nat.le_of_ble_eq_true rfl, Nat.le_of_ble_eq_true rfl⟩) (jPreV hK hPc hDc hN (ci := 5) rfl rfl) rfl rfl hl.1 rfl (lv_room (Nat.le_of_ble_eq_true rfl)) dX5_coversOf_34 ⟨Nat.le_of_ble_eq_true rfl, Nat.le_of_ble_eq_true rfl⟩) hS (fun q _ h => hFc q h) hFc (fun r' u' t H locs ht hvm hw hB hz1 hk1 hS => ?_)
          subst hw
          obtain ⟨hP1, -, hD1⟩ := hB
          rw [ht] at hP1
          have hP : va_P (dC, dI) vwCl ((W_Model cI a S)) H := hP1
          have hD : va_D A ((W_Model cI a S)) := hD1.weaken (fun _ _ _ h => hFc _ h)
          obtain ⟨g47, hF⟩ := og_some hF
          refine va_iald (f := (g_Model_place S)) hx hb hK hP 12 0 rfl rfl (inb_in g47) dX5_coversOf_37 ?_
          refine lv_istore (lv' := [(4, .int ((g_Model_place S) r45.toNatClampNeg)), (0, .ref (a 0)), (1, .int v1), (2, .int x2), (3, .int x3)]) hx hb dX5_coversOf_38 hl (by decide) rfl (fun ls hl => ?_)
          refine lv_aload_n hx hb dX5_coversOf_40 rfl (lv_at hl 1 rfl) ?_
          refine va_get (D := (dC, dI)) (ci := 5) (v := .ref (a 12)) (C := RX5) (T := TX5) (N := 26) hx hb hts hinX5 hown hK hP 0 rfl rfl 20 (by decide) (hts (Cond.fieldLink RX5 43 "LearnedShapesModel" "place" "[I") (List.mem_of_getElem? (i := 2) rfl)) (fun _ h9 => h9) rfl dX5_coversOf_41 ?_
          refine lv_iload_n hx hb dX5_coversOf_44 rfl (lv_at hl 4 rfl) ?_
          refine lv_iconst (v := (-1 : Int32)) hx hb dX5_coversOf_45 (by decide) ?_
          obtain ⟨g48, hF⟩ := og_some hF
          refine va_iast (f := (g_Model_place S)) hx hb hK hP hD hS 12 0 rfl rfl (inb_in g48) dX5_coversOf_46 (fun H locs hP hD hS => ?_)
          have hP : va_P (dC, dI) vwCl ((W_Model cI a (s_Model_place S (upd (g_Model_place S) x3.toNatClampNeg (-1 : Int32))))) H := hP
          have hD : va_D A ((W_Model cI a (s_Model_place S (upd (g_Model_place S) x3.toNatClampNeg (-1 : Int32))))) := hD
          refine lv_iload_n hx hb dX5_coversOf_47 rfl (lv_at hl 4 rfl) ?_
          refine lv_if_eq (tgt := 57) hx hb dX5_coversOf_48 (by decide) (fun c49 => ?_) (fun c49 => ?_)
          · have hF := F_pos c49 hF
            exact K57 _ _ _ _ _ _ hF hP hD hS _ (lv_sub hl [1, 2, 3, 4, 0] rfl)
          · have hF := F_neg c49 hF
            refine lv_iload hx hb dX5_coversOf_51 (lv_at hl 0 rfl) ?_
            refine lv_iconst (v := (-1 : Int32)) hx hb dX5_coversOf_53 (by decide) ?_
            refine lv_icmp_eq (tgt := 219) hx hb dX5_coversOf_54 (by decide) (fun c50 => ?_) (fun c50 => ?_)
            · have hF := F_pos c50 hF
              refine lv_iinc (v := (x3 + (1 : Int32))) (lv' := [(3, .int (x3 + (1 : Int32))), (4, .int ((g_Model_place S) r45.toNatClampNeg)), (0, .ref (a 0)), (1, .int v1), (2, .int x2)]) hx hb dX5_coversOf_219 hl (k := 4) rfl rfl (by decide) rfl (fun ls hl => ?_)
              refine lv_goto (tgt := 6) hx hb dX5_coversOf_222 (by decide) ?_
              exact ih6 _ _ _ _ _ hF hP hD hS _ (lv_sub hl [2, 3, 4, 0] rfl)
            · have hF := F_neg c50 hF
              exact K57 _ _ _ _ _ _ hF hP hD hS _ (lv_sub hl [1, 2, 3, 4, 0] rfl)
        · have hF := F_pos c44 hF
          refine lv_iconst (v := (-1 : Int32)) hx hb dX5_coversOf_22 (by decide) ?_
          refine lv_goto (tgt := 38) hx hb dX5_coversOf_23 (by decide) ?_
          refine lv_istore (lv' := [(4, .int (-1 : Int32)), (0, .ref (a 0)), (1, .int v1), (2, .int x2), (3, .int x3)]) hx hb dX5_coversOf_38 hl (by decide) rfl (fun ls hl => ?_)
          refine lv_aload_n hx hb dX5_coversOf_40 rfl (lv_at hl 1 rfl) ?_
          refine va_get (D := (dC, dI)) (ci := 5) (v := .ref (a 12)) (C := RX5) (T := TX5) (N := 26) hx hb hts hinX5 hown hK hP 0 rfl rfl 20 (by decide) (hts (Cond.fieldLink RX5 43 "LearnedShapesModel" "place" "[I") (List.mem_of_getElem? (i := 2) rfl)) (fun _ h9 => h9) rfl dX5_coversOf_41 ?_
          refine lv_iload_n hx hb dX5_coversOf_44 rfl (lv_at hl 4 rfl) ?_
          refine lv_iconst (v := (-1 : Int32)) hx hb dX5_coversOf_45 (by decide) ?_
          obtain ⟨g51, hF⟩ := og_some hF
          refine va_iast (f := (g_Model_place S)) hx hb hK hP hD hS 12 0 rfl rfl (inb_in g51) dX5_coversOf_46 (fun H locs hP hD hS => ?_)
          have hP : va_P (dC, dI) vwCl ((W_Model cI a (s_Model_place S (upd (g_Model_place S) x3.toNatClampNeg (-1 : Int32))))) H := hP
          have hD : va_D A ((W_Model cI a (s_Model_place S (upd (g_Model_place S) x3.toNatClampNeg (-1 : Int32))))) := hD
          refine lv_iload_n hx hb dX5_coversOf_47 rfl (lv_at hl 4 rfl) ?_
          refine lv_if_eq (tgt := 57) hx hb dX5_coversOf_48 (by decide) (fun c52 => ?_) (fun c52 => ?_)
          · have hF := F_pos c52 hF
            exact K57 _ _ _ _ _ _ hF hP hD hS _ (lv_sub hl [1, 2, 3, 4, 0] rfl)
          · have hF := F_neg c52 hF
            refine lv_iload hx hb dX5_coversOf_51 (lv_at hl 0 rfl) ?_
            refine lv_iconst (v := (-1 : Int32)) hx hb dX5_coversOf_53 (by decide) ?_
            refine lv_icmp_eq (tgt := 219) hx hb dX5_coversOf_54 (by decide) (fun _ => ?_) (fun c => absurd c (by decide))
            refine lv_iinc (v := (x3 + (1 : Int32))) (lv' := [(3, .int (x3 + (1 : Int32))), (4, .int (-1 : Int32)), (0, .ref (a 0)), (1, .int v1), (2, .int x2)]) hx hb dX5_coversOf_219 hl (k := 4) rfl rfl (by decide) rfl (fun ls hl => ?_)
            refine lv_goto (tgt := 6) hx hb dX5_coversOf_222 (by decide) ?_
            exact ih6 _ _ _ _ _ hF hP hD hS _ (lv_sub hl [2, 3, 4, 0] rfl)
  have KE : ∀ (H : Heap) (locs : List Loc), va_P (dC, dI) vwCl ((W_Model cI a S)) H → va_D A ((W_Model cI a S)) → va_S A s.heap H locs → W p l e (headSpec wsX5_coversOf ({ frames := 3, cells := 0, slots := 0, locals := 74 } : Room)).room s m ([.ref (a 0), .int v1] : List Value).toArray below meth c H locs 0 0 (MQ below (va_Qi (fun (r' : Int32) (u : S_Model) => rr = r' ∧ Y = u) (fun u : S_Model => jB (dC, dI) [(cI, .int)] A ((W_Model cI a u))) A) ([.ref (a 0), .int v1] : List Value).toArray s 0 0 A) (F0 m 0 ls []) := by
    intro H locs hP hD hS
    unfold F_X5_coversOf at hF
    refine lv_iconst (v := (1 : Int32)) hx hb dX5_coversOf_0 (by decide) ?_
    refine lv_iload_n hx hb dX5_coversOf_1 rfl (lv_at hl 1 rfl) ?_
    refine lv_isub hx hb dX5_coversOf_2 ?_
    refine lv_istore_n (lv' := [(2, .int ((1 : Int32) - v1)), (0, .ref (a 0)), (1, .int v1)]) hx hb dX5_coversOf_3 rfl hl (by decide) rfl (fun ls hl => ?_)
    refine lv_iconst (v := (0 : Int32)) hx hb dX5_coversOf_4 (by decide) ?_
    refine lv_istore_n (lv' := [(3, .int (0 : Int32)), (2, .int ((1 : Int32) - v1)), (0, .ref (a 0)), (1, .int v1)]) hx hb dX5_coversOf_5 rfl hl (by decide) rfl (fun ls hl => ?_)
    exact K6 _ _ _ _ _ _ hF hP hD hS _ (lv_sub hl [2, 3, 1, 0] rfl)
  exact KE _ _ hP hD hS
set_option maxHeartbeats 4000000 in
set_option maxRecDepth 100000 in
theorem c_X5_covers (l : Launch) (dC : Nat → ClassId) (dI : Nat → Nat → Nat) (cI : ClassId) (a : Nat → Nat) (sz : Nat) (S : S_Model) (v1 : Int32) (rr : Int32) (Y : S_Model) (hF : F_X5_covers S v1 = some (rr, Y)) : Met l yX5_covers wsX5_covers ({ frames := 4, cells := 0, slots := 0, locals := 100 } : Room) (va_Pc [.ref (a 0), .int v1] (jPre (dC, dI) [(cI, .int)] sz ((W_Model cI a S)))) (va_Qi (fun (r' : Int32) (u : S_Model) => rr = r' ∧ Y = u) (fun u : S_Model => jB (dC, dI) [(cI, .int)] (va_A ((W_Model cI a S)) sz) ((W_Model cI a u))) (va_A ((W_Model cI a S)) sz)) 0 0 (va_A ((W_Model cI a S)) sz) := by
  refine Met.ofW (cc := cX5_covers) (maxL := 2) (ret := (some .int)) (by decide) rfl ?_
  intro p e s m args below meth c s₁ B hml hv
  obtain ⟨rfl, hsz, hP, hK, hD0, hN⟩ := hv
  have hx := B.exec
  have hb := B.bytes
  have hr := B.returns
  have hts := atoms_spec (ws := wsX5_covers) B.pre
  have hown : s.vm.findClass RX5 = some m.cls := findClass_of_methodNamed B.named
  have hlocks := B.notSynchronized
  have hinX5 : ∀ w ∈ u_ws RX5 TX5 26, w ∈ wsX5_covers := by decide +kernel
  subst hsz
  have hD := hD0.self (sz := s.heap.size)
  generalize hAe : (va_A ((W_Model cI a S)) s.heap.size) = A at hD ⊢
  have hA : ∀ q : Nat, s.heap.size ≤ q → A q := fun q h => by rw [← hAe]; exact Or.inr h
  have hS : va_S A s.heap s.heap [] := va_S.rf
  have hl := lv_entry ([.ref (a 0), .int v1]) (n := 2) (Nat.le_of_ble_eq_true rfl)
  rw [lg_entry_eq]
  generalize (lg_sl ([.ref (a 0), .int v1]) ++ List.replicate (2 - (lg_sl ([.ref (a 0), .int v1])).length) Slot.unset).toArray = ls at hl ⊢
  have hl : lv_has ls 2 [(0, .ref (a 0)), (1, .int v1)] := hl
  have KE : ∀ (H : Heap) (locs : List Loc), va_P (dC, dI) vwCl ((W_Model cI a S)) H → va_D A ((W_Model cI a S)) → va_S A s.heap H locs → W p l e (headSpec wsX5_covers ({ frames := 4, cells := 0, slots := 0, locals := 100 } : Room)).room s m ([.ref (a 0), .int v1] : List Value).toArray below meth c H locs 0 0 (MQ below (va_Qi (fun (r' : Int32) (u : S_Model) => rr = r' ∧ Y = u) (fun u : S_Model => jB (dC, dI) [(cI, .int)] A ((W_Model cI a u))) A) ([.ref (a 0), .int v1] : List Value).toArray s 0 0 A) (F0 m 0 ls []) := by
    intro H locs hP hD hS
    unfold F_X5_covers at hF
    refine lv_aload_n hx hb dX5_covers_0 rfl (lv_at hl 0 rfl) ?_
    refine lv_iconst (v := (0 : Int32)) hx hb dX5_covers_1 (by decide) ?_
    refine va_put (D := (dC, dI)) (ci := 5) (v := .int (0 : Int32)) (ty := .int) (C := RX5) (T := TX5) (N := 26) hx hb hts hinX5 tyX5 tyX5_ok nmX5 hown hK hP hD hS 0 rfl rfl 5 (by decide) (hts (Cond.fieldLink RX5 49 "LearnedShapesModel" "thrown" "I") (List.mem_of_getElem? (i := 1) rfl)) (fun _ h9 => h9) rfl (by decide +kernel) (rfl) rfl (Nat.le_of_ble_eq_true rfl) dX5_covers_2 (fun H locs hP hD hS => ?_)
    have hP : va_P (dC, dI) vwCl ((W_Model cI a (s_Model_thrown S (0 : Int32)))) H := hP
    have hD : va_D A ((W_Model cI a (s_Model_thrown S (0 : Int32)))) := hD
    refine lv_iload_n hx hb dX5_covers_5 rfl (lv_at hl 1 rfl) ?_
    obtain ⟨r1, h2, hF⟩ := ob1_some hF
    have hPc := hP.sub (ws' := ([] : va_W)) [] rfl
    have hDc := hD.sub (ws' := ([] : va_W)) [] (by decide) rfl
    have hFc := va_free (wc := ([] : va_W)) hD hS hA [] rfl
    refine va_calli (va_runS (As := [.int v1]) (rest := []) ⟨hx, hb, hml, hown, hts⟩ (c_X5_isShape l dC dI cI  H.size _ _ h2) (va_cwS 1 hts gX5_covers_X5_isShape rfl rfl rfl (by decide +kernel) ⟨Nat.le_of_ble_eq_true rfl, Nat.le_of_ble_eq_true rfl⟩) (jPreS hK hPc hDc hN) rfl rfl hl.1 rfl (lv_room (Nat.le_of_ble_eq_true rfl)) dX5_covers_6 ⟨Nat.le_of_ble_eq_true rfl, Nat.le_of_ble_eq_true rfl⟩) hS (fun q _ h => hFc q h) hFc (fun r' u' t H locs ht hvm hw hB hz1 hk1 hS => ?_)
    subst hw
    obtain ⟨hP1, -, hD1⟩ := hB
    rw [ht] at hP1
    obtain ⟨hP, hD⟩ := jJoin (wc := ([] : va_W)) (w1 := ([] : va_W)) (ws' := (W_Model cI a (s_Model_thrown S (0 : Int32)))) hP hD [] [0, 1, 2, 3, 4, 5, 6, 7, 8, 9, 10, 11, 12, 13] [0, 1, 2, 3, 4, 5, 6, 7, 8, 9, 10, 11, 12, 13] rfl rfl (by decide) (by decide) hk1 hFc hP1 hD1 (by decide) rfl
    refine lv_if_eq (tgt := 20) hx hb dX5_covers_9 (by decide) (fun c3 => ?_) (fun c3 => ?_)
    · have hF := F_pos c3 hF
      refine lv_aload_n hx hb dX5_covers_20 rfl (lv_at hl 0 rfl) ?_
      refine lv_iconst (v := (1 : Int32)) hx hb dX5_covers_21 (by decide) ?_
      obtain ⟨r4, u5, h6, hF⟩ := ob2_some hF
      have hPc : va_P (dC, dI) vwCl ((W_Model cI a (s_Model_thrown S (0 : Int32)))) H := hP
      have hDc : va_D A ((W_Model cI a (s_Model_thrown S (0 : Int32)))) := hD
      have hFc := va_free (wc := (W_Model cI a (s_Model_thrown S (0 : Int32)))) hD hS hA [0, 1, 2, 3, 4, 5, 6, 7, 8, 9, 10, 11, 12, 13] rfl
      refine va_calli (va_runV (As := [.int (1 : Int32)]) (rest := []) ⟨hx, hb, hml, hown, hts⟩ (c_X5_fails l dC dI cI a H.size _ _ _ _ h6) (cwV 1 hts gX5_covers_X5_fails rfl rfl rfl (by decide +kernel) ⟨Nat.le_of_ble_eq_true rfl, Nat.le_of_ble_eq_true rfl⟩) (jPreV hK hPc hDc hN (ci := 5) rfl rfl) rfl rfl hl.1 rfl (lv_room (Nat.le_of_ble_eq_true rfl)) dX5_covers_22 ⟨Nat.le_of_ble_eq_true rfl, Nat.le_of_ble_eq_true rfl⟩) hS (fun q _ h => hFc q h) hFc (fun r' u' t H locs ht hvm hw hB hz1 hk1 hS => ?_)
      obtain ⟨e1, e2⟩ := hw
      subst e1
      subst e2
      obtain ⟨hP1, -, hD1⟩ := hB
      rw [ht] at hP1
      have hP : va_P (dC, dI) vwCl ((W_Model cI a u5)) H := hP1
      have hD : va_D A ((W_Model cI a u5)) := hD1.weaken (fun _ _ _ h => hFc _ h)
      have e50 := Option.some.inj hF
      obtain ⟨e60, e51⟩ := Prod.mk.inj e50
      subst e60
      subst e51
      exact W.iret (v := r4) hx hb hr (fun t ht hW => ⟨⟨r4, u5, rfl, ⟨rfl, rfl⟩, by rw [ht]; exact hP, va_K.moved hW.alike hK, hD⟩, hS.F ht⟩) hS.2.2 dX5_covers_25
    · have hF := F_neg c3 hF
      refine lv_aload_n hx hb dX5_covers_12 rfl (lv_at hl 0 rfl) ?_
      refine lv_iload_n hx hb dX5_covers_13 rfl (lv_at hl 1 rfl) ?_
      obtain ⟨r7, u8, h9, hF⟩ := ob2_some hF
      have hPc : va_P (dC, dI) vwCl ((W_Model cI a (s_Model_thrown S (0 : Int32)))) H := hP
      have hDc : va_D A ((W_Model cI a (s_Model_thrown S (0 : Int32)))) := hD
      have hFc := va_free (wc := (W_Model cI a (s_Model_thrown S (0 : Int32)))) hD hS hA [0, 1, 2, 3, 4, 5, 6, 7, 8, 9, 10, 11, 12, 13] rfl
      refine va_calli (va_runV (As := [.int v1]) (rest := []) ⟨hx, hb, hml, hown, hts⟩ (c_X5_coversOf l dC dI cI a H.size _ _ _ _ h9) (cwV 1 hts gX5_covers_X5_coversOf rfl rfl rfl (by decide +kernel) ⟨Nat.le_of_ble_eq_true rfl, Nat.le_of_ble_eq_true rfl⟩) (jPreV hK hPc hDc hN (ci := 5) rfl rfl) rfl rfl hl.1 rfl (lv_room (Nat.le_of_ble_eq_true rfl)) dX5_covers_14 ⟨Nat.le_of_ble_eq_true rfl, Nat.le_of_ble_eq_true rfl⟩) hS (fun q _ h => hFc q h) hFc (fun r' u' t H locs ht hvm hw hB hz1 hk1 hS => ?_)
      obtain ⟨e1, e2⟩ := hw
      subst e1
      subst e2
      obtain ⟨hP1, -, hD1⟩ := hB
      rw [ht] at hP1
      have hP : va_P (dC, dI) vwCl ((W_Model cI a u8)) H := hP1
      have hD : va_D A ((W_Model cI a u8)) := hD1.weaken (fun _ _ _ h => hFc _ h)
      refine lv_goto (tgt := 25) hx hb dX5_covers_17 (by decide) ?_
      have e50 := Option.some.inj hF
      obtain ⟨e60, e51⟩ := Prod.mk.inj e50
      subst e60
      subst e51
      exact W.iret (v := r7) hx hb hr (fun t ht hW => ⟨⟨r7, u8, rfl, ⟨rfl, rfl⟩, by rw [ht]; exact hP, va_K.moved hW.alike hK, hD⟩, hS.F ht⟩) hS.2.2 dX5_covers_25
  exact KE _ _ hP hD hS
set_option maxHeartbeats 4000000 in
set_option maxRecDepth 100000 in
theorem c_X5_joinedNodes (l : Launch) (dC : Nat → ClassId) (dI : Nat → Nat → Nat) (cI : ClassId) (a : Nat → Nat) (sz : Nat) (S : S_Model)  (rr : Int32) (Y : S_Model) (hF : F_X5_joinedNodes S  = some (rr, Y)) : Met l yX5_joinedNodes wsX5_joinedNodes ({ frames := 3, cells := 0, slots := 0, locals := 76 } : Room) (va_Pc [.ref (a 0)] (jPre (dC, dI) [(cI, .int)] sz ((W_Model cI a S)))) (va_Qi (fun (r' : Int32) (u : S_Model) => rr = r' ∧ Y = u) (fun u : S_Model => jB (dC, dI) [(cI, .int)] (va_A ((W_Model cI a S)) sz) ((W_Model cI a u))) (va_A ((W_Model cI a S)) sz)) 0 0 (va_A ((W_Model cI a S)) sz) := by
  refine Met.ofW (cc := cX5_joinedNodes) (maxL := 1) (ret := (some .int)) (by decide) rfl ?_
  intro p e s m args below meth c s₁ B hml hv
  obtain ⟨rfl, hsz, hP, hK, hD0, hN⟩ := hv
  have hx := B.exec
  have hb := B.bytes
  have hr := B.returns
  have hts := atoms_spec (ws := wsX5_joinedNodes) B.pre
  have hown : s.vm.findClass RX5 = some m.cls := findClass_of_methodNamed B.named
  have hlocks := B.notSynchronized
  subst hsz
  have hD := hD0.self (sz := s.heap.size)
  generalize hAe : (va_A ((W_Model cI a S)) s.heap.size) = A at hD ⊢
  have hA : ∀ q : Nat, s.heap.size ≤ q → A q := fun q h => by rw [← hAe]; exact Or.inr h
  have hS : va_S A s.heap s.heap [] := va_S.rf
  have hl := lv_entry ([.ref (a 0)]) (n := 1) (Nat.le_of_ble_eq_true rfl)
  rw [lg_entry_eq]
  generalize (lg_sl ([.ref (a 0)]) ++ List.replicate (1 - (lg_sl ([.ref (a 0)])).length) Slot.unset).toArray = ls at hl ⊢
  have hl : lv_has ls 1 [(0, .ref (a 0))] := hl
  have KE : ∀ (H : Heap) (locs : List Loc), va_P (dC, dI) vwCl ((W_Model cI a S)) H → va_D A ((W_Model cI a S)) → va_S A s.heap H locs → W p l e (headSpec wsX5_joinedNodes ({ frames := 3, cells := 0, slots := 0, locals := 76 } : Room)).room s m ([.ref (a 0)] : List Value).toArray below meth c H locs 0 0 (MQ below (va_Qi (fun (r' : Int32) (u : S_Model) => rr = r' ∧ Y = u) (fun u : S_Model => jB (dC, dI) [(cI, .int)] A ((W_Model cI a u))) A) ([.ref (a 0)] : List Value).toArray s 0 0 A) (F0 m 0 ls []) := by
    intro H locs hP hD hS
    unfold F_X5_joinedNodes at hF
    refine lv_aload_n hx hb dX5_joinedNodes_0 rfl (lv_at hl 0 rfl) ?_
    refine lv_iconst (v := (0 : Int32)) hx hb dX5_joinedNodes_1 (by decide) ?_
    obtain ⟨u1, h2, hF⟩ := ob1_some hF
    have hPc : va_P (dC, dI) vwCl ((W_Model cI a S)) H := hP
    have hDc : va_D A ((W_Model cI a S)) := hD
    have hFc := va_free (wc := (W_Model cI a S)) hD hS hA [0, 1, 2, 3, 4, 5, 6, 7, 8, 9, 10, 11, 12, 13] rfl
    refine va_callv (va_runV (As := [.int (0 : Int32)]) (rest := []) ⟨hx, hb, hml, hown, hts⟩ (c_X5_joins l dC dI cI a H.size _ _ _ h2) (cwV 1 hts gX5_joinedNodes_X5_joins rfl rfl rfl (by decide +kernel) ⟨Nat.le_of_ble_eq_true rfl, Nat.le_of_ble_eq_true rfl⟩) (jPreV hK hPc hDc hN (ci := 5) rfl rfl) rfl rfl hl.1 rfl (lv_room (Nat.le_of_ble_eq_true rfl)) dX5_joinedNodes_2 ⟨Nat.le_of_ble_eq_true rfl, Nat.le_of_ble_eq_true rfl⟩) hS (fun q _ h => hFc q h) hFc (fun u' t H locs ht hvm hw hB hz1 hk1 hS => ?_)
    subst hw
    obtain ⟨hP1, -, hD1⟩ := hB
    rw [ht] at hP1
    have hP : va_P (dC, dI) vwCl ((W_Model cI a u1)) H := hP1
    have hD : va_D A ((W_Model cI a u1)) := hD1.weaken (fun _ _ _ h => hFc _ h)
    refine lv_aload_n hx hb dX5_joinedNodes_5 rfl (lv_at hl 0 rfl) ?_
    obtain ⟨r3, h4, hF⟩ := ob1_some hF
    have hPc : va_P (dC, dI) vwCl ((W_Model cI a u1)) H := hP
    have hDc : va_D A ((W_Model cI a u1)) := hD
    have hFc := va_free (wc := (W_Model cI a u1)) hD hS hA [0, 1, 2, 3, 4, 5, 6, 7, 8, 9, 10, 11, 12, 13] rfl
    refine va_calli (va_runV (As := []) (rest := []) ⟨hx, hb, hml, hown, hts⟩ (c_X5_nodes l dC dI cI a H.size _ _ h4) (cwV 0 hts gX5_joinedNodes_X5_nodes rfl rfl rfl (by decide +kernel) ⟨Nat.le_of_ble_eq_true rfl, Nat.le_of_ble_eq_true rfl⟩) (jPreV hK hPc hDc hN (ci := 5) rfl rfl) rfl rfl hl.1 rfl (lv_room (Nat.le_of_ble_eq_true rfl)) dX5_joinedNodes_6 ⟨Nat.le_of_ble_eq_true rfl, Nat.le_of_ble_eq_true rfl⟩) hS (fun q _ h => hFc q h) hFc (fun r' u' t H locs ht hvm hw hB hz1 hk1 hS => ?_)
    subst hw
    obtain ⟨hP1, -, hD1⟩ := hB
    rw [ht] at hP1
    have hP : va_P (dC, dI) vwCl ((W_Model cI a u1)) H := hP1
    have hD : va_D A ((W_Model cI a u1)) := hD1.weaken (fun _ _ _ h => hFc _ h)
    have e50 := Option.some.inj hF
    obtain ⟨e60, e51⟩ := Prod.mk.inj e50
    subst e60
    subst e51
    exact W.iret (v := r3) hx hb hr (fun t ht hW => ⟨⟨r3, u1, rfl, ⟨rfl, rfl⟩, by rw [ht]; exact hP, va_K.moved hW.alike hK, hD⟩, hS.F ht⟩) hS.2.2 dX5_joinedNodes_9
  exact KE _ _ hP hD hS
set_option maxHeartbeats 4000000 in
set_option maxRecDepth 100000 in
theorem c_X5_ifJoined (l : Launch) (dC : Nat → ClassId) (dI : Nat → Nat → Nat) (cI : ClassId) (a : Nat → Nat) (sz : Nat) (S : S_Model)  (rr : Int32) (Y : S_Model) (hF : F_X5_ifJoined S  = some (rr, Y)) : Met l yX5_ifJoined wsX5_ifJoined ({ frames := 4, cells := 0, slots := 0, locals := 96 } : Room) (va_Pc [.ref (a 0)] (jPre (dC, dI) [(cI, .int)] sz ((W_Model cI a S)))) (va_Qi (fun (r' : Int32) (u : S_Model) => rr = r' ∧ Y = u) (fun u : S_Model => jB (dC, dI) [(cI, .int)] (va_A ((W_Model cI a S)) sz) ((W_Model cI a u))) (va_A ((W_Model cI a S)) sz)) 0 0 (va_A ((W_Model cI a S)) sz) := by
  refine Met.ofW (cc := cX5_ifJoined) (maxL := 1) (ret := (some .int)) (by decide) rfl ?_
  intro p e s m args below meth c s₁ B hml hv
  obtain ⟨rfl, hsz, hP, hK, hD0, hN⟩ := hv
  have hx := B.exec
  have hb := B.bytes
  have hr := B.returns
  have hts := atoms_spec (ws := wsX5_ifJoined) B.pre
  have hown : s.vm.findClass RX5 = some m.cls := findClass_of_methodNamed B.named
  have hlocks := B.notSynchronized
  have hinX5 : ∀ w ∈ u_ws RX5 TX5 26, w ∈ wsX5_ifJoined := by decide +kernel
  subst hsz
  have hD := hD0.self (sz := s.heap.size)
  generalize hAe : (va_A ((W_Model cI a S)) s.heap.size) = A at hD ⊢
  have hA : ∀ q : Nat, s.heap.size ≤ q → A q := fun q h => by rw [← hAe]; exact Or.inr h
  have hS : va_S A s.heap s.heap [] := va_S.rf
  have hl := lv_entry ([.ref (a 0)]) (n := 1) (Nat.le_of_ble_eq_true rfl)
  rw [lg_entry_eq]
  generalize (lg_sl ([.ref (a 0)]) ++ List.replicate (1 - (lg_sl ([.ref (a 0)])).length) Slot.unset).toArray = ls at hl ⊢
  have hl : lv_has ls 1 [(0, .ref (a 0))] := hl
  have KE : ∀ (H : Heap) (locs : List Loc), va_P (dC, dI) vwCl ((W_Model cI a S)) H → va_D A ((W_Model cI a S)) → va_S A s.heap H locs → W p l e (headSpec wsX5_ifJoined ({ frames := 4, cells := 0, slots := 0, locals := 96 } : Room)).room s m ([.ref (a 0)] : List Value).toArray below meth c H locs 0 0 (MQ below (va_Qi (fun (r' : Int32) (u : S_Model) => rr = r' ∧ Y = u) (fun u : S_Model => jB (dC, dI) [(cI, .int)] A ((W_Model cI a u))) A) ([.ref (a 0)] : List Value).toArray s 0 0 A) (F0 m 0 ls []) := by
    intro H locs hP hD hS
    unfold F_X5_ifJoined at hF
    refine lv_aload_n hx hb dX5_ifJoined_0 rfl (lv_at hl 0 rfl) ?_
    refine lv_iconst (v := (0 : Int32)) hx hb dX5_ifJoined_1 (by decide) ?_
    refine va_put (D := (dC, dI)) (ci := 5) (v := .int (0 : Int32)) (ty := .int) (C := RX5) (T := TX5) (N := 26) hx hb hts hinX5 tyX5 tyX5_ok nmX5 hown hK hP hD hS 0 rfl rfl 5 (by decide) (hts (Cond.fieldLink RX5 49 "LearnedShapesModel" "thrown" "I") (List.mem_of_getElem? (i := 1) rfl)) (fun _ h9 => h9) rfl (by decide +kernel) (rfl) rfl (Nat.le_of_ble_eq_true rfl) dX5_ifJoined_2 (fun H locs hP hD hS => ?_)
    have hP : va_P (dC, dI) vwCl ((W_Model cI a (s_Model_thrown S (0 : Int32)))) H := hP
    have hD : va_D A ((W_Model cI a (s_Model_thrown S (0 : Int32)))) := hD
    refine lv_aload_n hx hb dX5_ifJoined_5 rfl (lv_at hl 0 rfl) ?_
    obtain ⟨r1, u2, h3, hF⟩ := ob2_some hF
    have hPc : va_P (dC, dI) vwCl ((W_Model cI a (s_Model_thrown S (0 : Int32)))) H := hP
    have hDc : va_D A ((W_Model cI a (s_Model_thrown S (0 : Int32)))) := hD
    have hFc := va_free (wc := (W_Model cI a (s_Model_thrown S (0 : Int32)))) hD hS hA [0, 1, 2, 3, 4, 5, 6, 7, 8, 9, 10, 11, 12, 13] rfl
    refine va_calli (va_runV (As := []) (rest := []) ⟨hx, hb, hml, hown, hts⟩ (c_X5_joinedNodes l dC dI cI a H.size _ _ _ h3) (cwV 0 hts gX5_ifJoined_X5_joinedNodes rfl rfl rfl (by decide +kernel) ⟨Nat.le_of_ble_eq_true rfl, Nat.le_of_ble_eq_true rfl⟩) (jPreV hK hPc hDc hN (ci := 5) rfl rfl) rfl rfl hl.1 rfl (lv_room (Nat.le_of_ble_eq_true rfl)) dX5_ifJoined_6 ⟨Nat.le_of_ble_eq_true rfl, Nat.le_of_ble_eq_true rfl⟩) hS (fun q _ h => hFc q h) hFc (fun r' u' t H locs ht hvm hw hB hz1 hk1 hS => ?_)
    obtain ⟨e1, e2⟩ := hw
    subst e1
    subst e2
    obtain ⟨hP1, -, hD1⟩ := hB
    rw [ht] at hP1
    have hP : va_P (dC, dI) vwCl ((W_Model cI a u2)) H := hP1
    have hD : va_D A ((W_Model cI a u2)) := hD1.weaken (fun _ _ _ h => hFc _ h)
    have e50 := Option.some.inj hF
    obtain ⟨e60, e51⟩ := Prod.mk.inj e50
    subst e60
    subst e51
    exact W.iret (v := r1) hx hb hr (fun t ht hW => ⟨⟨r1, u2, rfl, ⟨rfl, rfl⟩, by rw [ht]; exact hP, va_K.moved hW.alike hK, hD⟩, hS.F ht⟩) hS.2.2 dX5_ifJoined_9
  exact KE _ _ hP hD hS
set_option maxHeartbeats 4000000 in
set_option maxRecDepth 100000 in
theorem c_X5_sure (l : Launch) (dC : Nat → ClassId) (dI : Nat → Nat → Nat) (cI : ClassId) (a : Nat → Nat) (sz : Nat) (S : S_Model) (v1 : Int32) (rr : UInt64) (hF : F_X5_sure S v1 = some rr) : Met l yX5_sure wsX5_sure ({ frames := 2, cells := 0, slots := 0, locals := 45 } : Room) (va_Pc [.ref (a 0), .int v1] (jPre (dC, dI) [(cI, .int)] sz ((W_Model cI a S)))) (va_Qd (fun (r' : UInt64) (_ : Unit) => rr = r') (fun _ : Unit => jB (dC, dI) [(cI, .int)] (va_A ((W_Model cI a S)) sz) ((W_Model cI a S))) (va_A ((W_Model cI a S)) sz)) 0 0 (va_A ((W_Model cI a S)) sz) := by
  refine Met.ofW (cc := cX5_sure) (maxL := 4) (ret := (some .double)) (by decide) rfl ?_
  intro p e s m args below meth c s₁ B hml hv
  obtain ⟨rfl, hsz, hP, hK, hD0, hN⟩ := hv
  have hx := B.exec
  have hb := B.bytes
  have hr := B.returns
  have hts := atoms_spec (ws := wsX5_sure) B.pre
  have hown : s.vm.findClass RX5 = some m.cls := findClass_of_methodNamed B.named
  have hlocks := B.notSynchronized
  have hinX5 : ∀ w ∈ u_ws RX5 TX5 26, w ∈ wsX5_sure := by decide +kernel
  subst hsz
  have hD := hD0.self (sz := s.heap.size)
  generalize hAe : (va_A ((W_Model cI a S)) s.heap.size) = A at hD ⊢
  have hA : ∀ q : Nat, s.heap.size ≤ q → A q := fun q h => by rw [← hAe]; exact Or.inr h
  have hS : va_S A s.heap s.heap [] := va_S.rf
  have hl := lv_entry ([.ref (a 0), .int v1]) (n := 4) (Nat.le_of_ble_eq_true rfl)
  rw [lg_entry_eq]
  generalize (lg_sl ([.ref (a 0), .int v1]) ++ List.replicate (4 - (lg_sl ([.ref (a 0), .int v1])).length) Slot.unset).toArray = ls at hl ⊢
  have hl : lv_has ls 4 [(0, .ref (a 0)), (1, .int v1)] := hl
  have K4 : ∀ (n4 : Nat) (x2 : Int32) (x3 : Int32) (H : Heap) (locs : List Loc), F_X5_sure_4 v1 S n4 x2 x3 = some rr → va_P (dC, dI) vwCl ((W_Model cI a S)) H → va_D A ((W_Model cI a S)) → va_S A s.heap H locs → ∀ ls : Array Slot, lv_has ls 4 [(0, .ref (a 0)), (1, .int v1), (2, .int x2), (3, .int x3)] → W p l e (headSpec wsX5_sure ({ frames := 2, cells := 0, slots := 0, locals := 45 } : Room)).room s m ([.ref (a 0), .int v1] : List Value).toArray below meth c H locs 0 0 (MQ below (va_Qd (fun (r' : UInt64) (_ : Unit) => rr = r') (fun _ : Unit => jB (dC, dI) [(cI, .int)] A ((W_Model cI a S))) A) ([.ref (a 0), .int v1] : List Value).toArray s 0 0 A) (F0 m 4 ls []) := by
    intro n4
    induction n4 with
    | zero => intro x2 x3 H locs hF; exact nomatch hF
    | succ n4 ih4 =>
      intro x2 x3 H locs hF hP hD hS ls hl
      rw [F_X5_sure_4_s] at hF
      refine lv_iload_n hx hb dX5_sure_4 rfl (lv_at hl 3 rfl) ?_
      refine lv_aload_n hx hb dX5_sure_5 rfl (lv_at hl 0 rfl) ?_
      refine va_get (D := (dC, dI)) (ci := 5) (v := .ref (a 1)) (C := RX5) (T := TX5) (N := 26) hx hb hts hinX5 hown hK hP 0 rfl rfl 0 (by decide) (hts (Cond.fieldLink RX5 7 "LearnedShapesModel" "now" "[I") (List.mem_of_getElem? (i := 1) rfl)) (fun _ h9 => h9) rfl dX5_sure_6 ?_
      refine lv_iconst (v := (3 : Int32)) hx hb dX5_sure_9 (by decide) ?_
      refine lv_iload_n hx hb dX5_sure_10 rfl (lv_at hl 1 rfl) ?_
      refine lv_iadd hx hb dX5_sure_11 ?_
      obtain ⟨g1, hF⟩ := og_some hF
      refine va_iald (f := (g_Model_now S)) hx hb hK hP 1 0 rfl rfl (inb_in g1) dX5_sure_12 ?_
      refine lv_icmp_ge (tgt := 61) hx hb dX5_sure_13 (by decide) (fun c2 => ?_) (fun c2 => ?_)
      · have hF := F_pos c2 hF
        refine lv_aload_n hx hb dX5_sure_61 rfl (lv_at hl 0 rfl) ?_
        refine va_get (D := (dC, dI)) (ci := 5) (v := .ref (a 1)) (C := RX5) (T := TX5) (N := 26) hx hb hts hinX5 hown hK hP 0 rfl rfl 0 (by decide) (hts (Cond.fieldLink RX5 7 "LearnedShapesModel" "now" "[I") (List.mem_of_getElem? (i := 1) rfl)) (fun _ h9 => h9) rfl dX5_sure_62 ?_
        refine lv_iconst (v := (3 : Int32)) hx hb dX5_sure_65 (by decide) ?_
        refine lv_iload_n hx hb dX5_sure_66 rfl (lv_at hl 1 rfl) ?_
        refine lv_iadd hx hb dX5_sure_67 ?_
        obtain ⟨g3, hF⟩ := og_some hF
        refine va_iald (f := (g_Model_now S)) hx hb hK hP 1 0 rfl rfl (inb_in g3) dX5_sure_68 ?_
        refine lv_if_ne (tgt := 76) hx hb dX5_sure_69 (by decide) (fun c4 => ?_) (fun c4 => ?_)
        · have hF := F_neg c4 hF
          refine lv_iload_n hx hb dX5_sure_76 rfl (lv_at hl 2 rfl) ?_
          refine lv_i2d hx hb dX5_sure_77 ?_
          refine lv_aload_n hx hb dX5_sure_78 rfl (lv_at hl 0 rfl) ?_
          refine va_get (D := (dC, dI)) (ci := 5) (v := .ref (a 1)) (C := RX5) (T := TX5) (N := 26) hx hb hts hinX5 hown hK hP 0 rfl rfl 0 (by decide) (hts (Cond.fieldLink RX5 7 "LearnedShapesModel" "now" "[I") (List.mem_of_getElem? (i := 1) rfl)) (fun _ h9 => h9) rfl dX5_sure_79 ?_
          refine lv_iconst (v := (3 : Int32)) hx hb dX5_sure_82 (by decide) ?_
          refine lv_iload_n hx hb dX5_sure_83 rfl (lv_at hl 1 rfl) ?_
          refine lv_iadd hx hb dX5_sure_84 ?_
          obtain ⟨g5, hF⟩ := og_some hF
          refine va_iald (f := (g_Model_now S)) hx hb hK hP 1 0 rfl rfl (inb_in g5) dX5_sure_85 ?_
          refine lv_i2d hx hb dX5_sure_86 ?_
          obtain ⟨g6, hF⟩ := og_some hF
          refine lv_ddiv hx hb dX5_sure_87 (n64_of g6) ?_
          have e50 := Option.some.inj hF
          subst e50
          exact W.dret (v := (FP.ddiv (FP.i2d x2) (FP.i2d ((g_Model_now S) ((3 : Int32) + v1).toNatClampNeg)))) hx hb hr (fun t ht hW => ⟨⟨(FP.ddiv (FP.i2d x2) (FP.i2d ((g_Model_now S) ((3 : Int32) + v1).toNatClampNeg))), (), rfl, rfl, by rw [ht]; exact hP, va_K.moved hW.alike hK, hD⟩, hS.F ht⟩) hS.2.2 dX5_sure_88
        · have hF := F_pos c4 hF
          refine lv_dconst1 hx hb dX5_sure_72 ?_
          refine lv_goto (tgt := 88) hx hb dX5_sure_73 (by decide) ?_
          have e50 := Option.some.inj hF
          subst e50
          exact W.dret (v := (4607182418800017408 : UInt64)) hx hb hr (fun t ht hW => ⟨⟨(4607182418800017408 : UInt64), (), rfl, rfl, by rw [ht]; exact hP, va_K.moved hW.alike hK, hD⟩, hS.F ht⟩) hS.2.2 dX5_sure_88
      · have hF := F_neg c2 hF
        refine lv_iload_n hx hb dX5_sure_16 rfl (lv_at hl 2 rfl) ?_
        refine lv_aload_n hx hb dX5_sure_17 rfl (lv_at hl 0 rfl) ?_
        refine lv_iload_n hx hb dX5_sure_18 rfl (lv_at hl 1 rfl) ?_
        refine lv_iload_n hx hb dX5_sure_19 rfl (lv_at hl 3 rfl) ?_
        refine lv_iconst (v := (4 : Int32)) hx hb dX5_sure_20 (by decide) ?_
        obtain ⟨r7, h8, hF⟩ := ob1_some hF
        have hPc : va_P (dC, dI) vwCl ((W_Model cI a S)) H := hP
        have hDc : va_D A ((W_Model cI a S)) := hD
        have hFc := va_free (wc := (W_Model cI a S)) hD hS hA [0, 1, 2, 3, 4, 5, 6, 7, 8, 9, 10, 11, 12, 13] rfl
        refine va_calli (va_runV (As := [.int v1, .int x3, .int (4 : Int32)]) (rest := [.int x2]) ⟨hx, hb, hml, hown, hts⟩ (c_X5_of l dC dI cI a H.size _ _ _ _ _ h8) (cwV 3 hts gX5_sure_X5_of rfl rfl rfl (by decide +kernel) ⟨Nat.le_of_ble_eq_true rfl, Nat.le_of_ble_eq_true rfl⟩) (jPreV hK hPc hDc hN (ci := 5) rfl rfl) rfl rfl hl.1 rfl (lv_room (Nat.le_of_ble_eq_true rfl)) dX5_sure_21 ⟨Nat.le_of_ble_eq_true rfl, Nat.le_of_ble_eq_true rfl⟩) hS (fun q _ h => hFc q h) hFc (fun r' u' t H locs ht hvm hw hB hz1 hk1 hS => ?_)
        subst hw
        obtain ⟨hP1, -, hD1⟩ := hB
        rw [ht] at hP1
        have hP : va_P (dC, dI) vwCl ((W_Model cI a S)) H := hP1
        have hD : va_D A ((W_Model cI a S)) := hD1.weaken (fun _ _ _ h => hFc _ h)
        refine lv_if_ne (tgt := 52) hx hb dX5_sure_24 (by decide) (fun c9 => ?_) (fun c9 => ?_)
        · have hF := F_neg c9 hF
          refine lv_iconst (v := (0 : Int32)) hx hb dX5_sure_52 (by decide) ?_
          refine lv_iadd hx hb dX5_sure_53 ?_
          refine lv_istore_n (lv' := [(2, .int (x2 + (0 : Int32))), (0, .ref (a 0)), (1, .int v1), (3, .int x3)]) hx hb dX5_sure_54 rfl hl (by decide) rfl (fun ls hl => ?_)
          refine lv_iinc (v := (x3 + (1 : Int32))) (lv' := [(3, .int (x3 + (1 : Int32))), (2, .int (x2 + (0 : Int32))), (0, .ref (a 0)), (1, .int v1)]) hx hb dX5_sure_55 hl (k := 3) rfl rfl (by decide) rfl (fun ls hl => ?_)
          refine lv_goto (tgt := 4) hx hb dX5_sure_58 (by decide) ?_
          exact ih4 _ _ _ _ hF hP hD hS _ (lv_sub hl [2, 3, 1, 0] rfl)
        · have hF := F_pos c9 hF
          refine lv_aload_n hx hb dX5_sure_27 rfl (lv_at hl 0 rfl) ?_
          refine lv_iload_n hx hb dX5_sure_28 rfl (lv_at hl 1 rfl) ?_
          refine lv_iload_n hx hb dX5_sure_29 rfl (lv_at hl 3 rfl) ?_
          refine lv_iconst (v := (0 : Int32)) hx hb dX5_sure_30 (by decide) ?_
          obtain ⟨r10, h11, hF⟩ := ob1_some hF
          have hPc : va_P (dC, dI) vwCl ((W_Model cI a S)) H := hP
          have hDc : va_D A ((W_Model cI a S)) := hD
          have hFc := va_free (wc := (W_Model cI a S)) hD hS hA [0, 1, 2, 3, 4, 5, 6, 7, 8, 9, 10, 11, 12, 13] rfl
          refine va_calli (va_runV (As := [.int v1, .int x3, .int (0 : Int32)]) (rest := [.int x2]) ⟨hx, hb, hml, hown, hts⟩ (c_X5_of l dC dI cI a H.size _ _ _ _ _ h11) (cwV 3 hts gX5_sure_X5_of rfl rfl rfl (by decide +kernel) ⟨Nat.le_of_ble_eq_true rfl, Nat.le_of_ble_eq_true rfl⟩) (jPreV hK hPc hDc hN (ci := 5) rfl rfl) rfl rfl hl.1 rfl (lv_room (Nat.le_of_ble_eq_true rfl)) dX5_sure_31 ⟨Nat.le_of_ble_eq_true rfl, Nat.le_of_ble_eq_true rfl⟩) hS (fun q _ h => hFc q h) hFc (fun r' u' t H locs ht hvm hw hB hz1 hk1 hS => ?_)
          subst hw
          obtain ⟨hP1, -, hD1⟩ := hB
          rw [ht] at hP1
          have hP : va_P (dC, dI) vwCl ((W_Model cI a S)) H := hP1
          have hD : va_D A ((W_Model cI a S)) := hD1.weaken (fun _ _ _ h => hFc _ h)
          refine lv_bipush (v := (7 : Int32)) hx hb dX5_sure_34 (by decide) ?_
          refine lv_icmp_eq (tgt := 52) hx hb dX5_sure_36 (by decide) (fun c12 => ?_) (fun c12 => ?_)
          · have hF := F_pos c12 hF
            refine lv_iconst (v := (0 : Int32)) hx hb dX5_sure_52 (by decide) ?_
            refine lv_iadd hx hb dX5_sure_53 ?_
            refine lv_istore_n (lv' := [(2, .int (x2 + (0 : Int32))), (0, .ref (a 0)), (1, .int v1), (3, .int x3)]) hx hb dX5_sure_54 rfl hl (by decide) rfl (fun ls hl => ?_)
            refine lv_iinc (v := (x3 + (1 : Int32))) (lv' := [(3, .int (x3 + (1 : Int32))), (2, .int (x2 + (0 : Int32))), (0, .ref (a 0)), (1, .int v1)]) hx hb dX5_sure_55 hl (k := 3) rfl rfl (by decide) rfl (fun ls hl => ?_)
            refine lv_goto (tgt := 4) hx hb dX5_sure_58 (by decide) ?_
            exact ih4 _ _ _ _ hF hP hD hS _ (lv_sub hl [2, 3, 1, 0] rfl)
          · have hF := F_neg c12 hF
            refine lv_aload_n hx hb dX5_sure_39 rfl (lv_at hl 0 rfl) ?_
            refine lv_iload_n hx hb dX5_sure_40 rfl (lv_at hl 1 rfl) ?_
            refine lv_iload_n hx hb dX5_sure_41 rfl (lv_at hl 3 rfl) ?_
            obtain ⟨r13, h14, hF⟩ := ob1_some hF
            have hPc : va_P (dC, dI) vwCl ((W_Model cI a S)) H := hP
            have hDc : va_D A ((W_Model cI a S)) := hD
            have hFc := va_free (wc := (W_Model cI a S)) hD hS hA [0, 1, 2, 3, 4, 5, 6, 7, 8, 9, 10, 11, 12, 13] rfl
            refine va_calli (va_runV (As := [.int v1, .int x3]) (rest := [.int x2]) ⟨hx, hb, hml, hown, hts⟩ (c_X5_canMiss l dC dI cI a H.size _ _ _ _ h14) (cwV 2 hts gX5_sure_X5_canMiss rfl rfl rfl (by decide +kernel) ⟨Nat.le_of_ble_eq_true rfl, Nat.le_of_ble_eq_true rfl⟩) (jPreV hK hPc hDc hN (ci := 5) rfl rfl) rfl rfl hl.1 rfl (lv_room (Nat.le_of_ble_eq_true rfl)) dX5_sure_42 ⟨Nat.le_of_ble_eq_true rfl, Nat.le_of_ble_eq_true rfl⟩) hS (fun q _ h => hFc q h) hFc (fun r' u' t H locs ht hvm hw hB hz1 hk1 hS => ?_)
            subst hw
            obtain ⟨hP1, -, hD1⟩ := hB
            rw [ht] at hP1
            have hP : va_P (dC, dI) vwCl ((W_Model cI a S)) H := hP1
            have hD : va_D A ((W_Model cI a S)) := hD1.weaken (fun _ _ _ h => hFc _ h)
            refine lv_if_ne (tgt := 52) hx hb dX5_sure_45 (by decide) (fun c15 => ?_) (fun c15 => ?_)
            · have hF := F_neg c15 hF
              refine lv_iconst (v := (0 : Int32)) hx hb dX5_sure_52 (by decide) ?_
              refine lv_iadd hx hb dX5_sure_53 ?_
              refine lv_istore_n (lv' := [(2, .int (x2 + (0 : Int32))), (0, .ref (a 0)), (1, .int v1), (3, .int x3)]) hx hb dX5_sure_54 rfl hl (by decide) rfl (fun ls hl => ?_)
              refine lv_iinc (v := (x3 + (1 : Int32))) (lv' := [(3, .int (x3 + (1 : Int32))), (2, .int (x2 + (0 : Int32))), (0, .ref (a 0)), (1, .int v1)]) hx hb dX5_sure_55 hl (k := 3) rfl rfl (by decide) rfl (fun ls hl => ?_)
              refine lv_goto (tgt := 4) hx hb dX5_sure_58 (by decide) ?_
              exact ih4 _ _ _ _ hF hP hD hS _ (lv_sub hl [2, 3, 1, 0] rfl)
            · have hF := F_pos c15 hF
              refine lv_iconst (v := (1 : Int32)) hx hb dX5_sure_48 (by decide) ?_
              refine lv_goto (tgt := 53) hx hb dX5_sure_49 (by decide) ?_
              refine lv_iadd hx hb dX5_sure_53 ?_
              refine lv_istore_n (lv' := [(2, .int (x2 + (1 : Int32))), (0, .ref (a 0)), (1, .int v1), (3, .int x3)]) hx hb dX5_sure_54 rfl hl (by decide) rfl (fun ls hl => ?_)
              refine lv_iinc (v := (x3 + (1 : Int32))) (lv' := [(3, .int (x3 + (1 : Int32))), (2, .int (x2 + (1 : Int32))), (0, .ref (a 0)), (1, .int v1)]) hx hb dX5_sure_55 hl (k := 3) rfl rfl (by decide) rfl (fun ls hl => ?_)
              refine lv_goto (tgt := 4) hx hb dX5_sure_58 (by decide) ?_
              exact ih4 _ _ _ _ hF hP hD hS _ (lv_sub hl [2, 3, 1, 0] rfl)
  have KE : ∀ (H : Heap) (locs : List Loc), va_P (dC, dI) vwCl ((W_Model cI a S)) H → va_D A ((W_Model cI a S)) → va_S A s.heap H locs → W p l e (headSpec wsX5_sure ({ frames := 2, cells := 0, slots := 0, locals := 45 } : Room)).room s m ([.ref (a 0), .int v1] : List Value).toArray below meth c H locs 0 0 (MQ below (va_Qd (fun (r' : UInt64) (_ : Unit) => rr = r') (fun _ : Unit => jB (dC, dI) [(cI, .int)] A ((W_Model cI a S))) A) ([.ref (a 0), .int v1] : List Value).toArray s 0 0 A) (F0 m 0 ls []) := by
    intro H locs hP hD hS
    unfold F_X5_sure at hF
    refine lv_iconst (v := (0 : Int32)) hx hb dX5_sure_0 (by decide) ?_
    refine lv_istore_n (lv' := [(2, .int (0 : Int32)), (0, .ref (a 0)), (1, .int v1)]) hx hb dX5_sure_1 rfl hl (by decide) rfl (fun ls hl => ?_)
    refine lv_iconst (v := (0 : Int32)) hx hb dX5_sure_2 (by decide) ?_
    refine lv_istore_n (lv' := [(3, .int (0 : Int32)), (2, .int (0 : Int32)), (0, .ref (a 0)), (1, .int v1)]) hx hb dX5_sure_3 rfl hl (by decide) rfl (fun ls hl => ?_)
    exact K4 _ _ _ _ _ hF hP hD hS _ (lv_sub hl [2, 3, 1, 0] rfl)
  exact KE _ _ hP hD hS
set_option maxHeartbeats 4000000 in
set_option maxRecDepth 100000 in
theorem c_X5_sureShare (l : Launch) (dC : Nat → ClassId) (dI : Nat → Nat → Nat) (cI : ClassId) (a : Nat → Nat) (sz : Nat) (S : S_Model) (v1 : Int32) (rr : UInt64) (Y : S_Model) (hF : F_X5_sureShare S v1 = some (rr, Y)) : Met l yX5_sureShare wsX5_sureShare ({ frames := 3, cells := 0, slots := 0, locals := 68 } : Room) (va_Pc [.ref (a 0), .int v1] (jPre (dC, dI) [(cI, .int)] sz ((W_Model cI a S)))) (va_Qd (fun (r' : UInt64) (u : S_Model) => rr = r' ∧ Y = u) (fun u : S_Model => jB (dC, dI) [(cI, .int)] (va_A ((W_Model cI a S)) sz) ((W_Model cI a u))) (va_A ((W_Model cI a S)) sz)) 0 0 (va_A ((W_Model cI a S)) sz) := by
  refine Met.ofW (cc := cX5_sureShare) (maxL := 2) (ret := (some .double)) (by decide) rfl ?_
  intro p e s m args below meth c s₁ B hml hv
  obtain ⟨rfl, hsz, hP, hK, hD0, hN⟩ := hv
  have hx := B.exec
  have hb := B.bytes
  have hr := B.returns
  have hts := atoms_spec (ws := wsX5_sureShare) B.pre
  have hown : s.vm.findClass RX5 = some m.cls := findClass_of_methodNamed B.named
  have hlocks := B.notSynchronized
  have hinX5 : ∀ w ∈ u_ws RX5 TX5 26, w ∈ wsX5_sureShare := by decide +kernel
  subst hsz
  have hD := hD0.self (sz := s.heap.size)
  generalize hAe : (va_A ((W_Model cI a S)) s.heap.size) = A at hD ⊢
  have hA : ∀ q : Nat, s.heap.size ≤ q → A q := fun q h => by rw [← hAe]; exact Or.inr h
  have hS : va_S A s.heap s.heap [] := va_S.rf
  have hl := lv_entry ([.ref (a 0), .int v1]) (n := 2) (Nat.le_of_ble_eq_true rfl)
  rw [lg_entry_eq]
  generalize (lg_sl ([.ref (a 0), .int v1]) ++ List.replicate (2 - (lg_sl ([.ref (a 0), .int v1])).length) Slot.unset).toArray = ls at hl ⊢
  have hl : lv_has ls 2 [(0, .ref (a 0)), (1, .int v1)] := hl
  have KE : ∀ (H : Heap) (locs : List Loc), va_P (dC, dI) vwCl ((W_Model cI a S)) H → va_D A ((W_Model cI a S)) → va_S A s.heap H locs → W p l e (headSpec wsX5_sureShare ({ frames := 3, cells := 0, slots := 0, locals := 68 } : Room)).room s m ([.ref (a 0), .int v1] : List Value).toArray below meth c H locs 0 0 (MQ below (va_Qd (fun (r' : UInt64) (u : S_Model) => rr = r' ∧ Y = u) (fun u : S_Model => jB (dC, dI) [(cI, .int)] A ((W_Model cI a u))) A) ([.ref (a 0), .int v1] : List Value).toArray s 0 0 A) (F0 m 0 ls []) := by
    intro H locs hP hD hS
    unfold F_X5_sureShare at hF
    refine lv_aload_n hx hb dX5_sureShare_0 rfl (lv_at hl 0 rfl) ?_
    refine lv_iconst (v := (0 : Int32)) hx hb dX5_sureShare_1 (by decide) ?_
    refine va_put (D := (dC, dI)) (ci := 5) (v := .int (0 : Int32)) (ty := .int) (C := RX5) (T := TX5) (N := 26) hx hb hts hinX5 tyX5 tyX5_ok nmX5 hown hK hP hD hS 0 rfl rfl 5 (by decide) (hts (Cond.fieldLink RX5 49 "LearnedShapesModel" "thrown" "I") (List.mem_of_getElem? (i := 1) rfl)) (fun _ h9 => h9) rfl (by decide +kernel) (rfl) rfl (Nat.le_of_ble_eq_true rfl) dX5_sureShare_2 (fun H locs hP hD hS => ?_)
    have hP : va_P (dC, dI) vwCl ((W_Model cI a (s_Model_thrown S (0 : Int32)))) H := hP
    have hD : va_D A ((W_Model cI a (s_Model_thrown S (0 : Int32)))) := hD
    refine lv_iload_n hx hb dX5_sureShare_5 rfl (lv_at hl 1 rfl) ?_
    obtain ⟨r1, h2, hF⟩ := ob1_some hF
    have hPc := hP.sub (ws' := ([] : va_W)) [] rfl
    have hDc := hD.sub (ws' := ([] : va_W)) [] (by decide) rfl
    have hFc := va_free (wc := ([] : va_W)) hD hS hA [] rfl
    refine va_calli (va_runS (As := [.int v1]) (rest := []) ⟨hx, hb, hml, hown, hts⟩ (c_X5_isShape l dC dI cI  H.size _ _ h2) (va_cwS 1 hts gX5_sureShare_X5_isShape rfl rfl rfl (by decide +kernel) ⟨Nat.le_of_ble_eq_true rfl, Nat.le_of_ble_eq_true rfl⟩) (jPreS hK hPc hDc hN) rfl rfl hl.1 rfl (lv_room (Nat.le_of_ble_eq_true rfl)) dX5_sureShare_6 ⟨Nat.le_of_ble_eq_true rfl, Nat.le_of_ble_eq_true rfl⟩) hS (fun q _ h => hFc q h) hFc (fun r' u' t H locs ht hvm hw hB hz1 hk1 hS => ?_)
    subst hw
    obtain ⟨hP1, -, hD1⟩ := hB
    rw [ht] at hP1
    obtain ⟨hP, hD⟩ := jJoin (wc := ([] : va_W)) (w1 := ([] : va_W)) (ws' := (W_Model cI a (s_Model_thrown S (0 : Int32)))) hP hD [] [0, 1, 2, 3, 4, 5, 6, 7, 8, 9, 10, 11, 12, 13] [0, 1, 2, 3, 4, 5, 6, 7, 8, 9, 10, 11, 12, 13] rfl rfl (by decide) (by decide) hk1 hFc hP1 hD1 (by decide) rfl
    refine lv_if_eq (tgt := 20) hx hb dX5_sureShare_9 (by decide) (fun c3 => ?_) (fun c3 => ?_)
    · have hF := F_pos c3 hF
      refine lv_aload_n hx hb dX5_sureShare_20 rfl (lv_at hl 0 rfl) ?_
      refine lv_iconst (v := (1 : Int32)) hx hb dX5_sureShare_21 (by decide) ?_
      obtain ⟨r4, u5, h6, hF⟩ := ob2_some hF
      have hPc : va_P (dC, dI) vwCl ((W_Model cI a (s_Model_thrown S (0 : Int32)))) H := hP
      have hDc : va_D A ((W_Model cI a (s_Model_thrown S (0 : Int32)))) := hD
      have hFc := va_free (wc := (W_Model cI a (s_Model_thrown S (0 : Int32)))) hD hS hA [0, 1, 2, 3, 4, 5, 6, 7, 8, 9, 10, 11, 12, 13] rfl
      refine va_calli (va_runV (As := [.int (1 : Int32)]) (rest := []) ⟨hx, hb, hml, hown, hts⟩ (c_X5_fails l dC dI cI a H.size _ _ _ _ h6) (cwV 1 hts gX5_sureShare_X5_fails rfl rfl rfl (by decide +kernel) ⟨Nat.le_of_ble_eq_true rfl, Nat.le_of_ble_eq_true rfl⟩) (jPreV hK hPc hDc hN (ci := 5) rfl rfl) rfl rfl hl.1 rfl (lv_room (Nat.le_of_ble_eq_true rfl)) dX5_sureShare_22 ⟨Nat.le_of_ble_eq_true rfl, Nat.le_of_ble_eq_true rfl⟩) hS (fun q _ h => hFc q h) hFc (fun r' u' t H locs ht hvm hw hB hz1 hk1 hS => ?_)
      obtain ⟨e1, e2⟩ := hw
      subst e1
      subst e2
      obtain ⟨hP1, -, hD1⟩ := hB
      rw [ht] at hP1
      have hP : va_P (dC, dI) vwCl ((W_Model cI a u5)) H := hP1
      have hD : va_D A ((W_Model cI a u5)) := hD1.weaken (fun _ _ _ h => hFc _ h)
      refine lv_i2d hx hb dX5_sureShare_25 ?_
      have e50 := Option.some.inj hF
      obtain ⟨e60, e51⟩ := Prod.mk.inj e50
      subst e60
      subst e51
      exact W.dret (v := (FP.i2d r4)) hx hb hr (fun t ht hW => ⟨⟨(FP.i2d r4), u5, rfl, ⟨rfl, rfl⟩, by rw [ht]; exact hP, va_K.moved hW.alike hK, hD⟩, hS.F ht⟩) hS.2.2 dX5_sureShare_26
    · have hF := F_neg c3 hF
      refine lv_aload_n hx hb dX5_sureShare_12 rfl (lv_at hl 0 rfl) ?_
      refine lv_iload_n hx hb dX5_sureShare_13 rfl (lv_at hl 1 rfl) ?_
      obtain ⟨r7, h8, hF⟩ := ob1_some hF
      have hPc : va_P (dC, dI) vwCl ((W_Model cI a (s_Model_thrown S (0 : Int32)))) H := hP
      have hDc : va_D A ((W_Model cI a (s_Model_thrown S (0 : Int32)))) := hD
      have hFc := va_free (wc := (W_Model cI a (s_Model_thrown S (0 : Int32)))) hD hS hA [0, 1, 2, 3, 4, 5, 6, 7, 8, 9, 10, 11, 12, 13] rfl
      refine va_calld (va_runV (As := [.int v1]) (rest := []) ⟨hx, hb, hml, hown, hts⟩ (c_X5_sure l dC dI cI a H.size _ _ _ h8) (cwV 1 hts gX5_sureShare_X5_sure rfl rfl rfl (by decide +kernel) ⟨Nat.le_of_ble_eq_true rfl, Nat.le_of_ble_eq_true rfl⟩) (jPreV hK hPc hDc hN (ci := 5) rfl rfl) rfl rfl hl.1 rfl (lv_room (Nat.le_of_ble_eq_true rfl)) dX5_sureShare_14 ⟨Nat.le_of_ble_eq_true rfl, Nat.le_of_ble_eq_true rfl⟩) hS (fun q _ h => hFc q h) hFc (fun r' u' t H locs ht hvm hw hB hz1 hk1 hS => ?_)
      subst hw
      obtain ⟨hP1, -, hD1⟩ := hB
      rw [ht] at hP1
      have hP : va_P (dC, dI) vwCl ((W_Model cI a (s_Model_thrown S (0 : Int32)))) H := hP1
      have hD : va_D A ((W_Model cI a (s_Model_thrown S (0 : Int32)))) := hD1.weaken (fun _ _ _ h => hFc _ h)
      refine lv_goto (tgt := 26) hx hb dX5_sureShare_17 (by decide) ?_
      have e50 := Option.some.inj hF
      obtain ⟨e60, e51⟩ := Prod.mk.inj e50
      subst e60
      subst e51
      exact W.dret (v := r7) hx hb hr (fun t ht hW => ⟨⟨r7, (s_Model_thrown S (0 : Int32)), rfl, ⟨rfl, rfl⟩, by rw [ht]; exact hP, va_K.moved hW.alike hK, hD⟩, hS.F ht⟩) hS.2.2 dX5_sureShare_26
  exact KE _ _ hP hD hS
set_option maxHeartbeats 4000000 in
set_option maxRecDepth 100000 in
theorem c_X5_digest (l : Launch) (dC : Nat → ClassId) (dI : Nat → Nat → Nat) (cI : ClassId) (a : Nat → Nat) (sz : Nat) (S : S_Model)  (rr : Int64) (Y : S_Model) (hF : F_X5_digest S  = some (rr, Y)) : Met l yX5_digest wsX5_digest ({ frames := 8, cells := 0, slots := 0, locals := 181 } : Room) (va_Pc [.ref (a 0)] (jPre (dC, dI) [(cI, .int)] sz ((W_Model cI a S)))) (va_Ql (fun (r' : Int64) (u : S_Model) => rr = r' ∧ Y = u) (fun u : S_Model => jB (dC, dI) [(cI, .int)] (va_A ((W_Model cI a S)) sz) ((W_Model cI a u))) (va_A ((W_Model cI a S)) sz)) 0 0 (va_A ((W_Model cI a S)) sz) := by
  refine Met.ofW (cc := cX5_digest) (maxL := 6) (ret := (some .long)) (by decide) rfl ?_
  intro p e s m args below meth c s₁ B hml hv
  obtain ⟨rfl, hsz, hP, hK, hD0, hN⟩ := hv
  have hx := B.exec
  have hb := B.bytes
  have hr := B.returns
  have hts := atoms_spec (ws := wsX5_digest) B.pre
  have hown : s.vm.findClass RX5 = some m.cls := findClass_of_methodNamed B.named
  have hlocks := B.notSynchronized
  have hinX5 : ∀ w ∈ u_ws RX5 TX5 26, w ∈ wsX5_digest := by decide +kernel
  subst hsz
  have hD := hD0.self (sz := s.heap.size)
  generalize hAe : (va_A ((W_Model cI a S)) s.heap.size) = A at hD ⊢
  have hA : ∀ q : Nat, s.heap.size ≤ q → A q := fun q h => by rw [← hAe]; exact Or.inr h
  have hS : va_S A s.heap s.heap [] := va_S.rf
  have hl := lv_entry ([.ref (a 0)]) (n := 6) (Nat.le_of_ble_eq_true rfl)
  rw [lg_entry_eq]
  generalize (lg_sl ([.ref (a 0)]) ++ List.replicate (6 - (lg_sl ([.ref (a 0)])).length) Slot.unset).toArray = ls at hl ⊢
  have hl : lv_has ls 6 [(0, .ref (a 0))] := hl
  have K269 : ∀ (n269 : Nat) (S : S_Model) (x1 : Int64) (x3 : Int32) (H : Heap) (locs : List Loc), F_X5_digest_269 n269 S x1 x3 = some (rr, Y) → va_P (dC, dI) vwCl ((W_Model cI a S)) H → va_D A ((W_Model cI a S)) → va_S A s.heap H locs → ∀ ls : Array Slot, lv_has ls 6 [(0, .ref (a 0)), (1, .long x1), (3, .int x3)] → W p l e (headSpec wsX5_digest ({ frames := 8, cells := 0, slots := 0, locals := 181 } : Room)).room s m ([.ref (a 0)] : List Value).toArray below meth c H locs 0 0 (MQ below (va_Ql (fun (r' : Int64) (u : S_Model) => rr = r' ∧ Y = u) (fun u : S_Model => jB (dC, dI) [(cI, .int)] A ((W_Model cI a u))) A) ([.ref (a 0)] : List Value).toArray s 0 0 A) (F0 m 269 ls []) := by
    intro n269
    induction n269 with
    | zero => intro S x1 x3 H locs hF; exact nomatch hF
    | succ n269 ih269 =>
      intro S x1 x3 H locs hF hP hD hS ls hl
      rw [F_X5_digest_269_s] at hF
      refine lv_iload_n hx hb dX5_digest_269 rfl (lv_at hl 2 rfl) ?_
      refine lv_aload_n hx hb dX5_digest_270 rfl (lv_at hl 0 rfl) ?_
      refine va_get (D := (dC, dI)) (ci := 5) (v := .int (g_Model_typed S)) (C := RX5) (T := TX5) (N := 26) hx hb hts hinX5 hown hK hP 0 rfl rfl 4 (by decide) (hts (Cond.fieldLink RX5 71 "LearnedShapesModel" "typed" "I") (List.mem_of_getElem? (i := 5) rfl)) (fun _ h9 => h9) rfl dX5_digest_271 ?_
      refine lv_icmp_ge (tgt := 297) hx hb dX5_digest_274 (by decide) (fun c1 => ?_) (fun c1 => ?_)
      · have hF := F_pos c1 hF
        refine lv_lload_n hx hb dX5_digest_297 rfl (lv_at hl 1 rfl) ?_
        have e50 := Option.some.inj hF
        obtain ⟨e60, e51⟩ := Prod.mk.inj e50
        subst e60
        subst e51
        exact W.lret (v := x1) hx hb hr (fun t ht hW => ⟨⟨x1, S, rfl, ⟨rfl, rfl⟩, by rw [ht]; exact hP, va_K.moved hW.alike hK, hD⟩, hS.F ht⟩) hS.2.2 dX5_digest_298
      · have hF := F_neg c1 hF
        refine lv_ldc2 hx hb hown (hts (Cond.constantLong RX5 250 (31)) (List.mem_of_getElem? (i := 3) rfl)) dX5_digest_277 ?_
        refine lv_lload_n hx hb dX5_digest_280 rfl (lv_at hl 1 rfl) ?_
        refine lv_lmul hx hb dX5_digest_281 ?_
        refine lv_aload_n hx hb dX5_digest_282 rfl (lv_at hl 0 rfl) ?_
        refine va_get (D := (dC, dI)) (ci := 5) (v := .ref (a 3)) (C := RX5) (T := TX5) (N := 26) hx hb hts hinX5 hown hK hP 0 rfl rfl 3 (by decide) (hts (Cond.fieldLink RX5 16 "LearnedShapesModel" "text" "[I") (List.mem_of_getElem? (i := 7) rfl)) (fun _ h9 => h9) rfl dX5_digest_283 ?_
        refine lv_iload_n hx hb dX5_digest_286 rfl (lv_at hl 2 rfl) ?_
        obtain ⟨g2, hF⟩ := og_some hF
        refine va_iald (f := (g_Model_text S)) hx hb hK hP 3 0 rfl rfl (inb_in g2) dX5_digest_287 ?_
        refine lv_i2l (v := ((((g_Model_text S) x3.toNatClampNeg)).toInt64)) hx hb dX5_digest_288 rfl ?_
        refine lv_ladd hx hb dX5_digest_289 ?_
        refine lv_lstore_n (lv' := [(1, .long (((31 : Int64) * x1) + ((((g_Model_text S) x3.toNatClampNeg)).toInt64))), (0, .ref (a 0)), (3, .int x3)]) hx hb dX5_digest_290 rfl hl (by decide) rfl (fun ls hl => ?_)
        refine lv_iinc (v := (x3 + (1 : Int32))) (lv' := [(3, .int (x3 + (1 : Int32))), (1, .long (((31 : Int64) * x1) + ((((g_Model_text S) x3.toNatClampNeg)).toInt64))), (0, .ref (a 0))]) hx hb dX5_digest_291 hl (k := 2) rfl rfl (by decide) rfl (fun ls hl => ?_)
        refine lv_goto (tgt := 269) hx hb dX5_digest_294 (by decide) ?_
        exact ih269 _ _ _ _ _ hF hP hD hS _ (lv_sub hl [2, 1, 0] rfl)
  have K242 : ∀ (n242 : Nat) (S : S_Model) (x1 : Int64) (x3 : Int32) (H : Heap) (locs : List Loc), F_X5_digest_242 n242 S x1 x3 = some (rr, Y) → va_P (dC, dI) vwCl ((W_Model cI a S)) H → va_D A ((W_Model cI a S)) → va_S A s.heap H locs → ∀ ls : Array Slot, lv_has ls 6 [(0, .ref (a 0)), (1, .long x1), (3, .int x3)] → W p l e (headSpec wsX5_digest ({ frames := 8, cells := 0, slots := 0, locals := 181 } : Room)).room s m ([.ref (a 0)] : List Value).toArray below meth c H locs 0 0 (MQ below (va_Ql (fun (r' : Int64) (u : S_Model) => rr = r' ∧ Y = u) (fun u : S_Model => jB (dC, dI) [(cI, .int)] A ((W_Model cI a u))) A) ([.ref (a 0)] : List Value).toArray s 0 0 A) (F0 m 242 ls []) := by
    intro n242
    induction n242 with
    | zero => intro S x1 x3 H locs hF; exact nomatch hF
    | succ n242 ih242 =>
      intro S x1 x3 H locs hF hP hD hS ls hl
      rw [F_X5_digest_242_s] at hF
      refine lv_iload_n hx hb dX5_digest_242 rfl (lv_at hl 2 rfl) ?_
      refine lv_bipush (v := (9 : Int32)) hx hb dX5_digest_243 (by decide) ?_
      refine lv_icmp_ge (tgt := 267) hx hb dX5_digest_245 (by decide) (fun c3 => ?_) (fun c3 => ?_)
      · have hF := F_pos c3 hF
        refine lv_iconst (v := (0 : Int32)) hx hb dX5_digest_267 (by decide) ?_
        refine lv_istore_n (lv' := [(3, .int (0 : Int32)), (0, .ref (a 0)), (1, .long x1)]) hx hb dX5_digest_268 rfl hl (by decide) rfl (fun ls hl => ?_)
        exact K269 _ _ _ _ _ _ hF hP hD hS _ (lv_sub hl [1, 2, 0] rfl)
      · have hF := F_neg c3 hF
        refine lv_ldc2 hx hb hown (hts (Cond.constantLong RX5 250 (31)) (List.mem_of_getElem? (i := 3) rfl)) dX5_digest_248 ?_
        refine lv_lload_n hx hb dX5_digest_251 rfl (lv_at hl 1 rfl) ?_
        refine lv_lmul hx hb dX5_digest_252 ?_
        refine lv_aload_n hx hb dX5_digest_253 rfl (lv_at hl 0 rfl) ?_
        refine lv_iload_n hx hb dX5_digest_254 rfl (lv_at hl 2 rfl) ?_
        obtain ⟨r4, u5, h6, hF⟩ := ob2_some hF
        have hPc : va_P (dC, dI) vwCl ((W_Model cI a S)) H := hP
        have hDc : va_D A ((W_Model cI a S)) := hD
        have hFc := va_free (wc := (W_Model cI a S)) hD hS hA [0, 1, 2, 3, 4, 5, 6, 7, 8, 9, 10, 11, 12, 13] rfl
        refine va_calli (va_runV (As := [.int x3]) (rest := [.long ((31 : Int64) * x1)]) ⟨hx, hb, hml, hown, hts⟩ (c_X5_ofDocument l dC dI cI a H.size _ _ _ _ h6) (cwV 1 hts gX5_digest_X5_ofDocument rfl rfl rfl (by decide +kernel) ⟨Nat.le_of_ble_eq_true rfl, Nat.le_of_ble_eq_true rfl⟩) (jPreV hK hPc hDc hN (ci := 5) rfl rfl) rfl rfl hl.1 rfl (lv_room (Nat.le_of_ble_eq_true rfl)) dX5_digest_255 ⟨Nat.le_of_ble_eq_true rfl, Nat.le_of_ble_eq_true rfl⟩) hS (fun q _ h => hFc q h) hFc (fun r' u' t H locs ht hvm hw hB hz1 hk1 hS => ?_)
        obtain ⟨e1, e2⟩ := hw
        subst e1
        subst e2
        obtain ⟨hP1, -, hD1⟩ := hB
        rw [ht] at hP1
        have hP : va_P (dC, dI) vwCl ((W_Model cI a u5)) H := hP1
        have hD : va_D A ((W_Model cI a u5)) := hD1.weaken (fun _ _ _ h => hFc _ h)
        refine lv_i2l (v := ((r4).toInt64)) hx hb dX5_digest_258 rfl ?_
        refine lv_ladd hx hb dX5_digest_259 ?_
        refine lv_lstore_n (lv' := [(1, .long (((31 : Int64) * x1) + ((r4).toInt64))), (0, .ref (a 0)), (3, .int x3)]) hx hb dX5_digest_260 rfl hl (by decide) rfl (fun ls hl => ?_)
        refine lv_iinc (v := (x3 + (1 : Int32))) (lv' := [(3, .int (x3 + (1 : Int32))), (1, .long (((31 : Int64) * x1) + ((r4).toInt64))), (0, .ref (a 0))]) hx hb dX5_digest_261 hl (k := 2) rfl rfl (by decide) rfl (fun ls hl => ?_)
        refine lv_goto (tgt := 242) hx hb dX5_digest_264 (by decide) ?_
        exact ih242 _ _ _ _ _ hF hP hD hS _ (lv_sub hl [2, 1, 0] rfl)
  have K45 : ∀ (n45 : Nat) (S : S_Model) (x1 : Int64) (x3 : Int32) (H : Heap) (locs : List Loc), F_X5_digest_45 n45 S x1 x3 = some (rr, Y) → va_P (dC, dI) vwCl ((W_Model cI a S)) H → va_D A ((W_Model cI a S)) → va_S A s.heap H locs → ∀ ls : Array Slot, lv_has ls 6 [(0, .ref (a 0)), (1, .long x1), (3, .int x3)] → W p l e (headSpec wsX5_digest ({ frames := 8, cells := 0, slots := 0, locals := 181 } : Room)).room s m ([.ref (a 0)] : List Value).toArray below meth c H locs 0 0 (MQ below (va_Ql (fun (r' : Int64) (u : S_Model) => rr = r' ∧ Y = u) (fun u : S_Model => jB (dC, dI) [(cI, .int)] A ((W_Model cI a u))) A) ([.ref (a 0)] : List Value).toArray s 0 0 A) (F0 m 45 ls []) := by
    intro n45
    induction n45 with
    | zero => intro S x1 x3 H locs hF; exact nomatch hF
    | succ n45 ih45 =>
      intro S x1 x3 H locs hF hP hD hS ls hl
      rw [F_X5_digest_45_s] at hF
      have K53 : ∀ (n53 : Nat) (S : S_Model) (x1 : Int64) (x3 : Int32) (x4 : Int32) (H : Heap) (locs : List Loc), F_X5_digest_53 (F_X5_digest_45 n45) n53 S x1 x3 x4 = some (rr, Y) → va_P (dC, dI) vwCl ((W_Model cI a S)) H → va_D A ((W_Model cI a S)) → va_S A s.heap H locs → ∀ ls : Array Slot, lv_has ls 6 [(0, .ref (a 0)), (1, .long x1), (3, .int x3), (4, .int x4)] → W p l e (headSpec wsX5_digest ({ frames := 8, cells := 0, slots := 0, locals := 181 } : Room)).room s m ([.ref (a 0)] : List Value).toArray below meth c H locs 0 0 (MQ below (va_Ql (fun (r' : Int64) (u : S_Model) => rr = r' ∧ Y = u) (fun u : S_Model => jB (dC, dI) [(cI, .int)] A ((W_Model cI a u))) A) ([.ref (a 0)] : List Value).toArray s 0 0 A) (F0 m 53 ls []) := by
        intro n53
        induction n53 with
        | zero => intro S x1 x3 x4 H locs hF; exact nomatch hF
        | succ n53 ih53 =>
          intro S x1 x3 x4 H locs hF hP hD hS ls hl
          rw [F_X5_digest_53_s] at hF
          have K84 : ∀ (n84 : Nat) (S : S_Model) (x1 : Int64) (x3 : Int32) (x4 : Int32) (H : Heap) (locs : List Loc), F_X5_digest_84 (F_X5_digest_45 n45) (F_X5_digest_53 (F_X5_digest_45 n45) n53) n84 S x1 x3 x4 = some (rr, Y) → va_P (dC, dI) vwCl ((W_Model cI a S)) H → va_D A ((W_Model cI a S)) → va_S A s.heap H locs → ∀ ls : Array Slot, lv_has ls 6 [(0, .ref (a 0)), (1, .long x1), (3, .int x3), (4, .int x4)] → W p l e (headSpec wsX5_digest ({ frames := 8, cells := 0, slots := 0, locals := 181 } : Room)).room s m ([.ref (a 0)] : List Value).toArray below meth c H locs 0 0 (MQ below (va_Ql (fun (r' : Int64) (u : S_Model) => rr = r' ∧ Y = u) (fun u : S_Model => jB (dC, dI) [(cI, .int)] A ((W_Model cI a u))) A) ([.ref (a 0)] : List Value).toArray s 0 0 A) (F0 m 84 ls []) := by
            intro n84
            induction n84 with
            | zero => intro S x1 x3 x4 H locs hF; exact nomatch hF
            | succ n84 ih84 =>
              intro S x1 x3 x4 H locs hF hP hD hS ls hl
              rw [F_X5_digest_84_s] at hF
              have K139 : ∀ (n139 : Nat) (S : S_Model) (x1 : Int64) (x3 : Int32) (x4 : Int32) (H : Heap) (locs : List Loc), F_X5_digest_139 (F_X5_digest_45 n45) (F_X5_digest_53 (F_X5_digest_45 n45) n53) (F_X5_digest_84 (F_X5_digest_45 n45) (F_X5_digest_53 (F_X5_digest_45 n45) n53) n84) n139 S x1 x3 x4 = some (rr, Y) → va_P (dC, dI) vwCl ((W_Model cI a S)) H → va_D A ((W_Model cI a S)) → va_S A s.heap H locs → ∀ ls : Array Slot, lv_has ls 6 [(0, .ref (a 0)), (1, .long x1), (3, .int x3), (4, .int x4)] → W p l e (headSpec wsX5_digest ({ frames := 8, cells := 0, slots := 0, locals := 181 } : Room)).room s m ([.ref (a 0)] : List Value).toArray below meth c H locs 0 0 (MQ below (va_Ql (fun (r' : Int64) (u : S_Model) => rr = r' ∧ Y = u) (fun u : S_Model => jB (dC, dI) [(cI, .int)] A ((W_Model cI a u))) A) ([.ref (a 0)] : List Value).toArray s 0 0 A) (F0 m 139 ls []) := by
                intro n139
                induction n139 with
                | zero => intro S x1 x3 x4 H locs hF; exact nomatch hF
                | succ n139 ih139 =>
                  intro S x1 x3 x4 H locs hF hP hD hS ls hl
                  rw [F_X5_digest_139_s] at hF
                  have K169 : ∀ (n169 : Nat) (S : S_Model) (x1 : Int64) (x3 : Int32) (x4 : Int32) (H : Heap) (locs : List Loc), F_X5_digest_169 (F_X5_digest_45 n45) (F_X5_digest_53 (F_X5_digest_45 n45) n53) (F_X5_digest_84 (F_X5_digest_45 n45) (F_X5_digest_53 (F_X5_digest_45 n45) n53) n84) (F_X5_digest_139 (F_X5_digest_45 n45) (F_X5_digest_53 (F_X5_digest_45 n45) n53) (F_X5_digest_84 (F_X5_digest_45 n45) (F_X5_digest_53 (F_X5_digest_45 n45) n53) n84) n139) n169 S x1 x3 x4 = some (rr, Y) → va_P (dC, dI) vwCl ((W_Model cI a S)) H → va_D A ((W_Model cI a S)) → va_S A s.heap H locs → ∀ ls : Array Slot, lv_has ls 6 [(0, .ref (a 0)), (1, .long x1), (3, .int x3), (4, .int x4)] → W p l e (headSpec wsX5_digest ({ frames := 8, cells := 0, slots := 0, locals := 181 } : Room)).room s m ([.ref (a 0)] : List Value).toArray below meth c H locs 0 0 (MQ below (va_Ql (fun (r' : Int64) (u : S_Model) => rr = r' ∧ Y = u) (fun u : S_Model => jB (dC, dI) [(cI, .int)] A ((W_Model cI a u))) A) ([.ref (a 0)] : List Value).toArray s 0 0 A) (F0 m 169 ls []) := by
                    intro n169
                    induction n169 with
                    | zero => intro S x1 x3 x4 H locs hF; exact nomatch hF
                    | succ n169 ih169 =>
                      intro S x1 x3 x4 H locs hF hP hD hS ls hl
                      rw [F_X5_digest_169_s] at hF
                      refine lv_iload hx hb dX5_digest_169 (lv_at hl 3 rfl) ?_
                      refine lv_iconst (v := (5 : Int32)) hx hb dX5_digest_171 (by decide) ?_
                      refine lv_icmp_ge (tgt := 196) hx hb dX5_digest_172 (by decide) (fun c7 => ?_) (fun c7 => ?_)
                      · have hF := F_pos c7 hF
                        refine lv_ldc2 hx hb hown (hts (Cond.constantLong RX5 250 (31)) (List.mem_of_getElem? (i := 3) rfl)) dX5_digest_196 ?_
                        refine lv_ldc2 hx hb hown (hts (Cond.constantLong RX5 250 (31)) (List.mem_of_getElem? (i := 3) rfl)) dX5_digest_199 ?_
                        refine lv_lload_n hx hb dX5_digest_202 rfl (lv_at hl 1 rfl) ?_
                        refine lv_lmul hx hb dX5_digest_203 ?_
                        refine lv_aload_n hx hb dX5_digest_204 rfl (lv_at hl 0 rfl) ?_
                        refine lv_iload_n hx hb dX5_digest_205 rfl (lv_at hl 2 rfl) ?_
                        obtain ⟨r8, u9, h10, hF⟩ := ob2_some hF
                        have hPc : va_P (dC, dI) vwCl ((W_Model cI a S)) H := hP
                        have hDc : va_D A ((W_Model cI a S)) := hD
                        have hFc := va_free (wc := (W_Model cI a S)) hD hS hA [0, 1, 2, 3, 4, 5, 6, 7, 8, 9, 10, 11, 12, 13] rfl
                        refine va_calli (va_runV (As := [.int x3]) (rest := [.long ((31 : Int64) * x1), .long (31 : Int64)]) ⟨hx, hb, hml, hown, hts⟩ (c_X5_coversOf l dC dI cI a H.size _ _ _ _ h10) (cwV 1 hts gX5_digest_X5_coversOf rfl rfl rfl (by decide +kernel) ⟨Nat.le_of_ble_eq_true rfl, Nat.le_of_ble_eq_true rfl⟩) (jPreV hK hPc hDc hN (ci := 5) rfl rfl) rfl rfl hl.1 rfl (lv_room (Nat.le_of_ble_eq_true rfl)) dX5_digest_206 ⟨Nat.le_of_ble_eq_true rfl, Nat.le_of_ble_eq_true rfl⟩) hS (fun q _ h => hFc q h) hFc (fun r' u' t H locs ht hvm hw hB hz1 hk1 hS => ?_)
                        obtain ⟨e1, e2⟩ := hw
                        subst e1
                        subst e2
                        obtain ⟨hP1, -, hD1⟩ := hB
                        rw [ht] at hP1
                        have hP : va_P (dC, dI) vwCl ((W_Model cI a u9)) H := hP1
                        have hD : va_D A ((W_Model cI a u9)) := hD1.weaken (fun _ _ _ h => hFc _ h)
                        refine lv_i2l (v := ((r8).toInt64)) hx hb dX5_digest_209 rfl ?_
                        refine lv_ladd hx hb dX5_digest_210 ?_
                        refine lv_lmul hx hb dX5_digest_211 ?_
                        refine lv_aload_n hx hb dX5_digest_212 rfl (lv_at hl 0 rfl) ?_
                        refine lv_iload_n hx hb dX5_digest_213 rfl (lv_at hl 2 rfl) ?_
                        obtain ⟨r11, h12, hF⟩ := ob1_some hF
                        have hPc : va_P (dC, dI) vwCl ((W_Model cI a u9)) H := hP
                        have hDc : va_D A ((W_Model cI a u9)) := hD
                        have hFc := va_free (wc := (W_Model cI a u9)) hD hS hA [0, 1, 2, 3, 4, 5, 6, 7, 8, 9, 10, 11, 12, 13] rfl
                        refine va_calld (va_runV (As := [.int x3]) (rest := [.long ((31 : Int64) * (((31 : Int64) * x1) + ((r8).toInt64)))]) ⟨hx, hb, hml, hown, hts⟩ (c_X5_sure l dC dI cI a H.size _ _ _ h12) (cwV 1 hts gX5_digest_X5_sure rfl rfl rfl (by decide +kernel) ⟨Nat.le_of_ble_eq_true rfl, Nat.le_of_ble_eq_true rfl⟩) (jPreV hK hPc hDc hN (ci := 5) rfl rfl) rfl rfl hl.1 rfl (lv_room (Nat.le_of_ble_eq_true rfl)) dX5_digest_214 ⟨Nat.le_of_ble_eq_true rfl, Nat.le_of_ble_eq_true rfl⟩) hS (fun q _ h => hFc q h) hFc (fun r' u' t H locs ht hvm hw hB hz1 hk1 hS => ?_)
                        subst hw
                        obtain ⟨hP1, -, hD1⟩ := hB
                        rw [ht] at hP1
                        have hP : va_P (dC, dI) vwCl ((W_Model cI a u9)) H := hP1
                        have hD : va_D A ((W_Model cI a u9)) := hD1.weaken (fun _ _ _ h => hFc _ h)
                        obtain ⟨r13, h14, hF⟩ := ob1_some hF
                        have hPc := hP.sub (ws' := ([] : va_W)) [] rfl
                        have hDc := hD.sub (ws' := ([] : va_W)) [] (by decide) rfl
                        have hFc := va_free (wc := ([] : va_W)) hD hS hA [] rfl
                        refine va_calll (va_runS (As := [.double r11]) (rest := [.long ((31 : Int64) * (((31 : Int64) * x1) + ((r8).toInt64)))]) ⟨hx, hb, hml, hown, hts⟩ (c_Jxe99ae_doubleToLongBits_ccdee l dC dI cI  H.size _ _ h14) (va_cwS 1 hts gX5_digest_Jxe99ae_doubleToLongBits_ccdee rfl rfl rfl (by decide +kernel) ⟨Nat.le_of_ble_eq_true rfl, Nat.le_of_ble_eq_true rfl⟩) (jPreS hK hPc hDc hN) rfl rfl hl.1 rfl (lv_room (Nat.le_of_ble_eq_true rfl)) dX5_digest_217 ⟨Nat.le_of_ble_eq_true rfl, Nat.le_of_ble_eq_true rfl⟩) hS (fun q _ h => hFc q h) hFc (fun r' u' t H locs ht hvm hw hB hz1 hk1 hS => ?_)
                        subst hw
                        obtain ⟨hP1, -, hD1⟩ := hB
                        rw [ht] at hP1
                        obtain ⟨hP, hD⟩ := jJoin (wc := ([] : va_W)) (w1 := ([] : va_W)) (ws' := (W_Model cI a u9)) hP hD [] [0, 1, 2, 3, 4, 5, 6, 7, 8, 9, 10, 11, 12, 13] [0, 1, 2, 3, 4, 5, 6, 7, 8, 9, 10, 11, 12, 13] rfl rfl (by decide) (by decide) hk1 hFc hP1 hD1 (by decide) rfl
                        refine lv_ladd hx hb dX5_digest_220 ?_
                        refine lv_lstore_n (lv' := [(1, .long (((31 : Int64) * (((31 : Int64) * x1) + ((r8).toInt64))) + r13)), (0, .ref (a 0)), (3, .int x3), (4, .int x4)]) hx hb dX5_digest_221 rfl hl (by decide) rfl (fun ls hl => ?_)
                        refine lv_iinc (v := (x3 + (1 : Int32))) (lv' := [(3, .int (x3 + (1 : Int32))), (1, .long (((31 : Int64) * (((31 : Int64) * x1) + ((r8).toInt64))) + r13)), (0, .ref (a 0)), (4, .int x4)]) hx hb dX5_digest_222 hl (k := 2) rfl rfl (by decide) rfl (fun ls hl => ?_)
                        refine lv_goto (tgt := 45) hx hb dX5_digest_225 (by decide) ?_
                        exact ih45 _ _ _ _ _ hF hP hD hS _ (lv_sub hl [2, 1, 0] rfl)
                      · have hF := F_neg c7 hF
                        refine lv_ldc2 hx hb hown (hts (Cond.constantLong RX5 250 (31)) (List.mem_of_getElem? (i := 3) rfl)) dX5_digest_175 ?_
                        refine lv_lload_n hx hb dX5_digest_178 rfl (lv_at hl 1 rfl) ?_
                        refine lv_lmul hx hb dX5_digest_179 ?_
                        refine lv_aload_n hx hb dX5_digest_180 rfl (lv_at hl 0 rfl) ?_
                        refine lv_iload_n hx hb dX5_digest_181 rfl (lv_at hl 2 rfl) ?_
                        refine lv_iload hx hb dX5_digest_182 (lv_at hl 3 rfl) ?_
                        obtain ⟨r15, u16, h17, hF⟩ := ob2_some hF
                        have hPc : va_P (dC, dI) vwCl ((W_Model cI a S)) H := hP
                        have hDc : va_D A ((W_Model cI a S)) := hD
                        have hFc := va_free (wc := (W_Model cI a S)) hD hS hA [0, 1, 2, 3, 4, 5, 6, 7, 8, 9, 10, 11, 12, 13] rfl
                        refine va_calli (va_runV (As := [.int x3, .int x4]) (rest := [.long ((31 : Int64) * x1)]) ⟨hx, hb, hml, hown, hts⟩ (c_X5_learnedOf l dC dI cI a H.size _ _ _ _ _ h17) (cwV 2 hts gX5_digest_X5_learnedOf rfl rfl rfl (by decide +kernel) ⟨Nat.le_of_ble_eq_true rfl, Nat.le_of_ble_eq_true rfl⟩) (jPreV hK hPc hDc hN (ci := 5) rfl rfl) rfl rfl hl.1 rfl (lv_room (Nat.le_of_ble_eq_true rfl)) dX5_digest_184 ⟨Nat.le_of_ble_eq_true rfl, Nat.le_of_ble_eq_true rfl⟩) hS (fun q _ h => hFc q h) hFc (fun r' u' t H locs ht hvm hw hB hz1 hk1 hS => ?_)
                        obtain ⟨e1, e2⟩ := hw
                        subst e1
                        subst e2
                        obtain ⟨hP1, -, hD1⟩ := hB
                        rw [ht] at hP1
                        have hP : va_P (dC, dI) vwCl ((W_Model cI a u16)) H := hP1
                        have hD : va_D A ((W_Model cI a u16)) := hD1.weaken (fun _ _ _ h => hFc _ h)
                        refine lv_i2l (v := ((r15).toInt64)) hx hb dX5_digest_187 rfl ?_
                        refine lv_ladd hx hb dX5_digest_188 ?_
                        refine lv_lstore_n (lv' := [(1, .long (((31 : Int64) * x1) + ((r15).toInt64))), (0, .ref (a 0)), (3, .int x3), (4, .int x4)]) hx hb dX5_digest_189 rfl hl (by decide) rfl (fun ls hl => ?_)
                        refine lv_iinc (v := (x4 + (1 : Int32))) (lv' := [(4, .int (x4 + (1 : Int32))), (1, .long (((31 : Int64) * x1) + ((r15).toInt64))), (0, .ref (a 0)), (3, .int x3)]) hx hb dX5_digest_190 hl (k := 3) rfl rfl (by decide) rfl (fun ls hl => ?_)
                        refine lv_goto (tgt := 169) hx hb dX5_digest_193 (by decide) ?_
                        exact ih169 _ _ _ _ _ _ hF hP hD hS _ (lv_sub hl [2, 1, 3, 0] rfl)
                  refine lv_iload hx hb dX5_digest_139 (lv_at hl 3 rfl) ?_
                  refine lv_iconst (v := (3 : Int32)) hx hb dX5_digest_141 (by decide) ?_
                  refine lv_icmp_ge (tgt := 166) hx hb dX5_digest_142 (by decide) (fun c18 => ?_) (fun c18 => ?_)
                  · have hF := F_pos c18 hF
                    refine lv_iconst (v := (0 : Int32)) hx hb dX5_digest_166 (by decide) ?_
                    refine lv_istore (lv' := [(4, .int (0 : Int32)), (0, .ref (a 0)), (1, .long x1), (3, .int x3)]) hx hb dX5_digest_167 hl (by decide) rfl (fun ls hl => ?_)
                    exact K169 _ _ _ _ _ _ _ hF hP hD hS _ (lv_sub hl [1, 2, 3, 0] rfl)
                  · have hF := F_neg c18 hF
                    refine lv_ldc2 hx hb hown (hts (Cond.constantLong RX5 250 (31)) (List.mem_of_getElem? (i := 3) rfl)) dX5_digest_145 ?_
                    refine lv_lload_n hx hb dX5_digest_148 rfl (lv_at hl 1 rfl) ?_
                    refine lv_lmul hx hb dX5_digest_149 ?_
                    refine lv_aload_n hx hb dX5_digest_150 rfl (lv_at hl 0 rfl) ?_
                    refine lv_iload_n hx hb dX5_digest_151 rfl (lv_at hl 2 rfl) ?_
                    refine lv_iload hx hb dX5_digest_152 (lv_at hl 3 rfl) ?_
                    obtain ⟨r19, u20, h21, hF⟩ := ob2_some hF
                    have hPc : va_P (dC, dI) vwCl ((W_Model cI a S)) H := hP
                    have hDc : va_D A ((W_Model cI a S)) := hD
                    have hFc := va_free (wc := (W_Model cI a S)) hD hS hA [0, 1, 2, 3, 4, 5, 6, 7, 8, 9, 10, 11, 12, 13] rfl
                    refine va_calli (va_runV (As := [.int x3, .int x4]) (rest := [.long ((31 : Int64) * x1)]) ⟨hx, hb, hml, hown, hts⟩ (c_X5_fitOf l dC dI cI a H.size _ _ _ _ _ h21) (cwV 2 hts gX5_digest_X5_fitOf rfl rfl rfl (by decide +kernel) ⟨Nat.le_of_ble_eq_true rfl, Nat.le_of_ble_eq_true rfl⟩) (jPreV hK hPc hDc hN (ci := 5) rfl rfl) rfl rfl hl.1 rfl (lv_room (Nat.le_of_ble_eq_true rfl)) dX5_digest_154 ⟨Nat.le_of_ble_eq_true rfl, Nat.le_of_ble_eq_true rfl⟩) hS (fun q _ h => hFc q h) hFc (fun r' u' t H locs ht hvm hw hB hz1 hk1 hS => ?_)
                    obtain ⟨e1, e2⟩ := hw
                    subst e1
                    subst e2
                    obtain ⟨hP1, -, hD1⟩ := hB
                    rw [ht] at hP1
                    have hP : va_P (dC, dI) vwCl ((W_Model cI a u20)) H := hP1
                    have hD : va_D A ((W_Model cI a u20)) := hD1.weaken (fun _ _ _ h => hFc _ h)
                    refine lv_i2l (v := ((r19).toInt64)) hx hb dX5_digest_157 rfl ?_
                    refine lv_ladd hx hb dX5_digest_158 ?_
                    refine lv_lstore_n (lv' := [(1, .long (((31 : Int64) * x1) + ((r19).toInt64))), (0, .ref (a 0)), (3, .int x3), (4, .int x4)]) hx hb dX5_digest_159 rfl hl (by decide) rfl (fun ls hl => ?_)
                    refine lv_iinc (v := (x4 + (1 : Int32))) (lv' := [(4, .int (x4 + (1 : Int32))), (1, .long (((31 : Int64) * x1) + ((r19).toInt64))), (0, .ref (a 0)), (3, .int x3)]) hx hb dX5_digest_160 hl (k := 3) rfl rfl (by decide) rfl (fun ls hl => ?_)
                    refine lv_goto (tgt := 139) hx hb dX5_digest_163 (by decide) ?_
                    exact ih139 _ _ _ _ _ _ hF hP hD hS _ (lv_sub hl [2, 1, 3, 0] rfl)
              have K100 : ∀ (n100 : Nat) (S : S_Model) (x1 : Int64) (x3 : Int32) (x4 : Int32) (x5 : Int32) (H : Heap) (locs : List Loc), F_X5_digest_100 (F_X5_digest_45 n45) (F_X5_digest_53 (F_X5_digest_45 n45) n53) (F_X5_digest_84 (F_X5_digest_45 n45) (F_X5_digest_53 (F_X5_digest_45 n45) n53) n84) n100 S x1 x3 x4 x5 = some (rr, Y) → va_P (dC, dI) vwCl ((W_Model cI a S)) H → va_D A ((W_Model cI a S)) → va_S A s.heap H locs → ∀ ls : Array Slot, lv_has ls 6 [(0, .ref (a 0)), (1, .long x1), (3, .int x3), (4, .int x4), (5, .int x5)] → W p l e (headSpec wsX5_digest ({ frames := 8, cells := 0, slots := 0, locals := 181 } : Room)).room s m ([.ref (a 0)] : List Value).toArray below meth c H locs 0 0 (MQ below (va_Ql (fun (r' : Int64) (u : S_Model) => rr = r' ∧ Y = u) (fun u : S_Model => jB (dC, dI) [(cI, .int)] A ((W_Model cI a u))) A) ([.ref (a 0)] : List Value).toArray s 0 0 A) (F0 m 100 ls []) := by
                intro n100
                induction n100 with
                | zero => intro S x1 x3 x4 x5 H locs hF; exact nomatch hF
                | succ n100 ih100 =>
                  intro S x1 x3 x4 x5 H locs hF hP hD hS ls hl
                  rw [F_X5_digest_100_s] at hF
                  refine lv_iload hx hb dX5_digest_100 (lv_at hl 4 rfl) ?_
                  refine lv_bipush (v := (10 : Int32)) hx hb dX5_digest_102 (by decide) ?_
                  refine lv_icmp_ge (tgt := 130) hx hb dX5_digest_104 (by decide) (fun c22 => ?_) (fun c22 => ?_)
                  · have hF := F_pos c22 hF
                    refine lv_iinc (v := (x4 + (1 : Int32))) (lv' := [(4, .int (x4 + (1 : Int32))), (0, .ref (a 0)), (1, .long x1), (3, .int x3), (5, .int x5)]) hx hb dX5_digest_130 hl (k := 3) rfl rfl (by decide) rfl (fun ls hl => ?_)
                    refine lv_goto (tgt := 84) hx hb dX5_digest_133 (by decide) ?_
                    exact ih84 _ _ _ _ _ _ hF hP hD hS _ (lv_sub hl [1, 2, 3, 0] rfl)
                  · have hF := F_neg c22 hF
                    refine lv_ldc2 hx hb hown (hts (Cond.constantLong RX5 250 (31)) (List.mem_of_getElem? (i := 3) rfl)) dX5_digest_107 ?_
                    refine lv_lload_n hx hb dX5_digest_110 rfl (lv_at hl 1 rfl) ?_
                    refine lv_lmul hx hb dX5_digest_111 ?_
                    refine lv_aload_n hx hb dX5_digest_112 rfl (lv_at hl 0 rfl) ?_
                    refine lv_iload_n hx hb dX5_digest_113 rfl (lv_at hl 2 rfl) ?_
                    refine lv_iload hx hb dX5_digest_114 (lv_at hl 3 rfl) ?_
                    refine lv_iload hx hb dX5_digest_116 (lv_at hl 4 rfl) ?_
                    obtain ⟨r23, h24, hF⟩ := ob1_some hF
                    have hPc : va_P (dC, dI) vwCl ((W_Model cI a S)) H := hP
                    have hDc : va_D A ((W_Model cI a S)) := hD
                    have hFc := va_free (wc := (W_Model cI a S)) hD hS hA [0, 1, 2, 3, 4, 5, 6, 7, 8, 9, 10, 11, 12, 13] rfl
                    refine va_calli (va_runV (As := [.int x3, .int x4, .int x5]) (rest := [.long ((31 : Int64) * x1)]) ⟨hx, hb, hml, hown, hts⟩ (c_X5_ofNode l dC dI cI a H.size _ _ _ _ _ h24) (cwV 3 hts gX5_digest_X5_ofNode rfl rfl rfl (by decide +kernel) ⟨Nat.le_of_ble_eq_true rfl, Nat.le_of_ble_eq_true rfl⟩) (jPreV hK hPc hDc hN (ci := 5) rfl rfl) rfl rfl hl.1 rfl (lv_room (Nat.le_of_ble_eq_true rfl)) dX5_digest_118 ⟨Nat.le_of_ble_eq_true rfl, Nat.le_of_ble_eq_true rfl⟩) hS (fun q _ h => hFc q h) hFc (fun r' u' t H locs ht hvm hw hB hz1 hk1 hS => ?_)
                    subst hw
                    obtain ⟨hP1, -, hD1⟩ := hB
                    rw [ht] at hP1
                    have hP : va_P (dC, dI) vwCl ((W_Model cI a S)) H := hP1
                    have hD : va_D A ((W_Model cI a S)) := hD1.weaken (fun _ _ _ h => hFc _ h)
                    refine lv_i2l (v := ((r23).toInt64)) hx hb dX5_digest_121 rfl ?_
                    refine lv_ladd hx hb dX5_digest_122 ?_
                    refine lv_lstore_n (lv' := [(1, .long (((31 : Int64) * x1) + ((r23).toInt64))), (0, .ref (a 0)), (3, .int x3), (4, .int x4), (5, .int x5)]) hx hb dX5_digest_123 rfl hl (by decide) rfl (fun ls hl => ?_)
                    refine lv_iinc (v := (x5 + (1 : Int32))) (lv' := [(5, .int (x5 + (1 : Int32))), (1, .long (((31 : Int64) * x1) + ((r23).toInt64))), (0, .ref (a 0)), (3, .int x3), (4, .int x4)]) hx hb dX5_digest_124 hl (k := 4) rfl rfl (by decide) rfl (fun ls hl => ?_)
                    refine lv_goto (tgt := 100) hx hb dX5_digest_127 (by decide) ?_
                    exact ih100 _ _ _ _ _ _ _ hF hP hD hS _ (lv_sub hl [2, 1, 3, 4, 0] rfl)
              refine lv_iload hx hb dX5_digest_84 (lv_at hl 3 rfl) ?_
              refine lv_aload_n hx hb dX5_digest_86 rfl (lv_at hl 0 rfl) ?_
              refine va_get (D := (dC, dI)) (ci := 5) (v := .ref (a 1)) (C := RX5) (T := TX5) (N := 26) hx hb hts hinX5 hown hK hP 0 rfl rfl 0 (by decide) (hts (Cond.fieldLink RX5 7 "LearnedShapesModel" "now" "[I") (List.mem_of_getElem? (i := 4) rfl)) (fun _ h9 => h9) rfl dX5_digest_87 ?_
              refine lv_iconst (v := (3 : Int32)) hx hb dX5_digest_90 (by decide) ?_
              refine lv_iload_n hx hb dX5_digest_91 rfl (lv_at hl 2 rfl) ?_
              refine lv_iadd hx hb dX5_digest_92 ?_
              obtain ⟨g25, hF⟩ := og_some hF
              refine va_iald (f := (g_Model_now S)) hx hb hK hP 1 0 rfl rfl (inb_in g25) dX5_digest_93 ?_
              refine lv_icmp_ge (tgt := 136) hx hb dX5_digest_94 (by decide) (fun c26 => ?_) (fun c26 => ?_)
              · have hF := F_pos c26 hF
                refine lv_iconst (v := (0 : Int32)) hx hb dX5_digest_136 (by decide) ?_
                refine lv_istore (lv' := [(4, .int (0 : Int32)), (0, .ref (a 0)), (1, .long x1), (3, .int x3)]) hx hb dX5_digest_137 hl (by decide) rfl (fun ls hl => ?_)
                exact K139 _ _ _ _ _ _ _ hF hP hD hS _ (lv_sub hl [1, 2, 3, 0] rfl)
              · have hF := F_neg c26 hF
                refine lv_iconst (v := (0 : Int32)) hx hb dX5_digest_97 (by decide) ?_
                refine lv_istore (lv' := [(5, .int (0 : Int32)), (0, .ref (a 0)), (1, .long x1), (3, .int x3), (4, .int x4)]) hx hb dX5_digest_98 hl (by decide) rfl (fun ls hl => ?_)
                exact K100 _ _ _ _ _ _ _ _ hF hP hD hS _ (lv_sub hl [1, 2, 3, 4, 0] rfl)
          refine lv_iload hx hb dX5_digest_53 (lv_at hl 3 rfl) ?_
          refine lv_bipush (v := (6 : Int32)) hx hb dX5_digest_55 (by decide) ?_
          refine lv_icmp_ge (tgt := 81) hx hb dX5_digest_57 (by decide) (fun c27 => ?_) (fun c27 => ?_)
          · have hF := F_pos c27 hF
            refine lv_iconst (v := (0 : Int32)) hx hb dX5_digest_81 (by decide) ?_
            refine lv_istore (lv' := [(4, .int (0 : Int32)), (0, .ref (a 0)), (1, .long x1), (3, .int x3)]) hx hb dX5_digest_82 hl (by decide) rfl (fun ls hl => ?_)
            exact K84 _ _ _ _ _ _ _ hF hP hD hS _ (lv_sub hl [1, 2, 3, 0] rfl)
          · have hF := F_neg c27 hF
            refine lv_ldc2 hx hb hown (hts (Cond.constantLong RX5 250 (31)) (List.mem_of_getElem? (i := 3) rfl)) dX5_digest_60 ?_
            refine lv_lload_n hx hb dX5_digest_63 rfl (lv_at hl 1 rfl) ?_
            refine lv_lmul hx hb dX5_digest_64 ?_
            refine lv_aload_n hx hb dX5_digest_65 rfl (lv_at hl 0 rfl) ?_
            refine lv_iload_n hx hb dX5_digest_66 rfl (lv_at hl 2 rfl) ?_
            refine lv_iload hx hb dX5_digest_67 (lv_at hl 3 rfl) ?_
            obtain ⟨r28, h29, hF⟩ := ob1_some hF
            have hPc : va_P (dC, dI) vwCl ((W_Model cI a S)) H := hP
            have hDc : va_D A ((W_Model cI a S)) := hD
            have hFc := va_free (wc := (W_Model cI a S)) hD hS hA [0, 1, 2, 3, 4, 5, 6, 7, 8, 9, 10, 11, 12, 13] rfl
            refine va_calli (va_runV (As := [.int x3, .int x4]) (rest := [.long ((31 : Int64) * x1)]) ⟨hx, hb, hml, hown, hts⟩ (c_X5_ofShape l dC dI cI a H.size _ _ _ _ h29) (cwV 2 hts gX5_digest_X5_ofShape rfl rfl rfl (by decide +kernel) ⟨Nat.le_of_ble_eq_true rfl, Nat.le_of_ble_eq_true rfl⟩) (jPreV hK hPc hDc hN (ci := 5) rfl rfl) rfl rfl hl.1 rfl (lv_room (Nat.le_of_ble_eq_true rfl)) dX5_digest_69 ⟨Nat.le_of_ble_eq_true rfl, Nat.le_of_ble_eq_true rfl⟩) hS (fun q _ h => hFc q h) hFc (fun r' u' t H locs ht hvm hw hB hz1 hk1 hS => ?_)
            subst hw
            obtain ⟨hP1, -, hD1⟩ := hB
            rw [ht] at hP1
            have hP : va_P (dC, dI) vwCl ((W_Model cI a S)) H := hP1
            have hD : va_D A ((W_Model cI a S)) := hD1.weaken (fun _ _ _ h => hFc _ h)
            refine lv_i2l (v := ((r28).toInt64)) hx hb dX5_digest_72 rfl ?_
            refine lv_ladd hx hb dX5_digest_73 ?_
            refine lv_lstore_n (lv' := [(1, .long (((31 : Int64) * x1) + ((r28).toInt64))), (0, .ref (a 0)), (3, .int x3), (4, .int x4)]) hx hb dX5_digest_74 rfl hl (by decide) rfl (fun ls hl => ?_)
            refine lv_iinc (v := (x4 + (1 : Int32))) (lv' := [(4, .int (x4 + (1 : Int32))), (1, .long (((31 : Int64) * x1) + ((r28).toInt64))), (0, .ref (a 0)), (3, .int x3)]) hx hb dX5_digest_75 hl (k := 3) rfl rfl (by decide) rfl (fun ls hl => ?_)
            refine lv_goto (tgt := 53) hx hb dX5_digest_78 (by decide) ?_
            exact ih53 _ _ _ _ _ _ hF hP hD hS _ (lv_sub hl [2, 1, 3, 0] rfl)
      refine lv_iload_n hx hb dX5_digest_45 rfl (lv_at hl 2 rfl) ?_
      refine lv_iconst (v := (2 : Int32)) hx hb dX5_digest_46 (by decide) ?_
      refine lv_icmp_ge (tgt := 228) hx hb dX5_digest_47 (by decide) (fun c30 => ?_) (fun c30 => ?_)
      · have hF := F_pos c30 hF
        refine lv_ldc2 hx hb hown (hts (Cond.constantLong RX5 250 (31)) (List.mem_of_getElem? (i := 3) rfl)) dX5_digest_228 ?_
        refine lv_lload_n hx hb dX5_digest_231 rfl (lv_at hl 1 rfl) ?_
        refine lv_lmul hx hb dX5_digest_232 ?_
        refine lv_aload_n hx hb dX5_digest_233 rfl (lv_at hl 0 rfl) ?_
        obtain ⟨r31, u32, h33, hF⟩ := ob2_some hF
        have hPc : va_P (dC, dI) vwCl ((W_Model cI a S)) H := hP
        have hDc : va_D A ((W_Model cI a S)) := hD
        have hFc := va_free (wc := (W_Model cI a S)) hD hS hA [0, 1, 2, 3, 4, 5, 6, 7, 8, 9, 10, 11, 12, 13] rfl
        refine va_calli (va_runV (As := []) (rest := [.long ((31 : Int64) * x1)]) ⟨hx, hb, hml, hown, hts⟩ (c_X5_joinedNodes l dC dI cI a H.size _ _ _ h33) (cwV 0 hts gX5_digest_X5_joinedNodes rfl rfl rfl (by decide +kernel) ⟨Nat.le_of_ble_eq_true rfl, Nat.le_of_ble_eq_true rfl⟩) (jPreV hK hPc hDc hN (ci := 5) rfl rfl) rfl rfl hl.1 rfl (lv_room (Nat.le_of_ble_eq_true rfl)) dX5_digest_234 ⟨Nat.le_of_ble_eq_true rfl, Nat.le_of_ble_eq_true rfl⟩) hS (fun q _ h => hFc q h) hFc (fun r' u' t H locs ht hvm hw hB hz1 hk1 hS => ?_)
        obtain ⟨e1, e2⟩ := hw
        subst e1
        subst e2
        obtain ⟨hP1, -, hD1⟩ := hB
        rw [ht] at hP1
        have hP : va_P (dC, dI) vwCl ((W_Model cI a u32)) H := hP1
        have hD : va_D A ((W_Model cI a u32)) := hD1.weaken (fun _ _ _ h => hFc _ h)
        refine lv_i2l (v := ((r31).toInt64)) hx hb dX5_digest_237 rfl ?_
        refine lv_ladd hx hb dX5_digest_238 ?_
        refine lv_lstore_n (lv' := [(1, .long (((31 : Int64) * x1) + ((r31).toInt64))), (0, .ref (a 0)), (3, .int x3)]) hx hb dX5_digest_239 rfl hl (by decide) rfl (fun ls hl => ?_)
        refine lv_iconst (v := (0 : Int32)) hx hb dX5_digest_240 (by decide) ?_
        refine lv_istore_n (lv' := [(3, .int (0 : Int32)), (1, .long (((31 : Int64) * x1) + ((r31).toInt64))), (0, .ref (a 0))]) hx hb dX5_digest_241 rfl hl (by decide) rfl (fun ls hl => ?_)
        exact K242 _ _ _ _ _ _ hF hP hD hS _ (lv_sub hl [2, 1, 0] rfl)
      · have hF := F_neg c30 hF
        refine lv_iconst (v := (0 : Int32)) hx hb dX5_digest_50 (by decide) ?_
        refine lv_istore (lv' := [(4, .int (0 : Int32)), (0, .ref (a 0)), (1, .long x1), (3, .int x3)]) hx hb dX5_digest_51 hl (by decide) rfl (fun ls hl => ?_)
        exact K53 _ _ _ _ _ _ _ hF hP hD hS _ (lv_sub hl [1, 2, 3, 0] rfl)
  have KE : ∀ (H : Heap) (locs : List Loc), va_P (dC, dI) vwCl ((W_Model cI a S)) H → va_D A ((W_Model cI a S)) → va_S A s.heap H locs → W p l e (headSpec wsX5_digest ({ frames := 8, cells := 0, slots := 0, locals := 181 } : Room)).room s m ([.ref (a 0)] : List Value).toArray below meth c H locs 0 0 (MQ below (va_Ql (fun (r' : Int64) (u : S_Model) => rr = r' ∧ Y = u) (fun u : S_Model => jB (dC, dI) [(cI, .int)] A ((W_Model cI a u))) A) ([.ref (a 0)] : List Value).toArray s 0 0 A) (F0 m 0 ls []) := by
    intro H locs hP hD hS
    unfold F_X5_digest at hF
    refine lv_aload_n hx hb dX5_digest_0 rfl (lv_at hl 0 rfl) ?_
    refine lv_iconst (v := (0 : Int32)) hx hb dX5_digest_1 (by decide) ?_
    refine va_put (D := (dC, dI)) (ci := 5) (v := .int (0 : Int32)) (ty := .int) (C := RX5) (T := TX5) (N := 26) hx hb hts hinX5 tyX5 tyX5_ok nmX5 hown hK hP hD hS 0 rfl rfl 5 (by decide) (hts (Cond.fieldLink RX5 49 "LearnedShapesModel" "thrown" "I") (List.mem_of_getElem? (i := 1) rfl)) (fun _ h9 => h9) rfl (by decide +kernel) (rfl) rfl (Nat.le_of_ble_eq_true rfl) dX5_digest_2 (fun H locs hP hD hS => ?_)
    have hP : va_P (dC, dI) vwCl ((W_Model cI a (s_Model_thrown S (0 : Int32)))) H := hP
    have hD : va_D A ((W_Model cI a (s_Model_thrown S (0 : Int32)))) := hD
    refine lv_ldc2 hx hb hown (hts (Cond.constantLong RX5 248 (2707)) (List.mem_of_getElem? (i := 2) rfl)) dX5_digest_5 ?_
    refine lv_lstore_n (lv' := [(1, .long (2707 : Int64)), (0, .ref (a 0))]) hx hb dX5_digest_8 rfl hl (by decide) rfl (fun ls hl => ?_)
    refine lv_ldc2 hx hb hown (hts (Cond.constantLong RX5 250 (31)) (List.mem_of_getElem? (i := 3) rfl)) dX5_digest_9 ?_
    refine lv_ldc2 hx hb hown (hts (Cond.constantLong RX5 250 (31)) (List.mem_of_getElem? (i := 3) rfl)) dX5_digest_12 ?_
    refine lv_ldc2 hx hb hown (hts (Cond.constantLong RX5 250 (31)) (List.mem_of_getElem? (i := 3) rfl)) dX5_digest_15 ?_
    refine lv_lload_n hx hb dX5_digest_18 rfl (lv_at hl 0 rfl) ?_
    refine lv_lmul hx hb dX5_digest_19 ?_
    refine lv_aload_n hx hb dX5_digest_20 rfl (lv_at hl 1 rfl) ?_
    refine va_get (D := (dC, dI)) (ci := 5) (v := .ref (a 1)) (C := RX5) (T := TX5) (N := 26) hx hb hts hinX5 hown hK hP 0 rfl rfl 0 (by decide) (hts (Cond.fieldLink RX5 7 "LearnedShapesModel" "now" "[I") (List.mem_of_getElem? (i := 4) rfl)) (fun _ h9 => h9) rfl dX5_digest_21 ?_
    refine lv_iconst (v := (0 : Int32)) hx hb dX5_digest_24 (by decide) ?_
    obtain ⟨g34, hF⟩ := og_some hF
    refine va_iald (f := (g_Model_now S)) hx hb hK hP 1 0 rfl rfl (inb_in g34) dX5_digest_25 ?_
    refine lv_i2l (v := ((((g_Model_now S) (0 : Int32).toNatClampNeg)).toInt64)) hx hb dX5_digest_26 rfl ?_
    refine lv_ladd hx hb dX5_digest_27 ?_
    refine lv_lmul hx hb dX5_digest_28 ?_
    refine lv_aload_n hx hb dX5_digest_29 rfl (lv_at hl 1 rfl) ?_
    refine va_get (D := (dC, dI)) (ci := 5) (v := .int (g_Model_typed S)) (C := RX5) (T := TX5) (N := 26) hx hb hts hinX5 hown hK hP 0 rfl rfl 4 (by decide) (hts (Cond.fieldLink RX5 71 "LearnedShapesModel" "typed" "I") (List.mem_of_getElem? (i := 5) rfl)) (fun _ h9 => h9) rfl dX5_digest_30 ?_
    refine lv_i2l (v := (((g_Model_typed S)).toInt64)) hx hb dX5_digest_33 rfl ?_
    refine lv_ladd hx hb dX5_digest_34 ?_
    refine lv_lmul hx hb dX5_digest_35 ?_
    refine lv_aload_n hx hb dX5_digest_36 rfl (lv_at hl 1 rfl) ?_
    refine va_get (D := (dC, dI)) (ci := 5) (v := .int (g_Model_kept S)) (C := RX5) (T := TX5) (N := 26) hx hb hts hinX5 hown hK hP 0 rfl rfl 2 (by decide) (hts (Cond.fieldLink RX5 61 "LearnedShapesModel" "kept" "I") (List.mem_of_getElem? (i := 6) rfl)) (fun _ h9 => h9) rfl dX5_digest_37 ?_
    refine lv_i2l (v := (((g_Model_kept S)).toInt64)) hx hb dX5_digest_40 rfl ?_
    refine lv_ladd hx hb dX5_digest_41 ?_
    refine lv_lstore_n (lv' := [(1, .long (((31 : Int64) * (((31 : Int64) * (((31 : Int64) * (2707 : Int64)) + ((((g_Model_now S) (0 : Int32).toNatClampNeg)).toInt64))) + (((g_Model_typed S)).toInt64))) + (((g_Model_kept S)).toInt64))), (0, .ref (a 0))]) hx hb dX5_digest_42 rfl hl (by decide) rfl (fun ls hl => ?_)
    refine lv_iconst (v := (0 : Int32)) hx hb dX5_digest_43 (by decide) ?_
    refine lv_istore_n (lv' := [(3, .int (0 : Int32)), (1, .long (((31 : Int64) * (((31 : Int64) * (((31 : Int64) * (2707 : Int64)) + ((((g_Model_now S) (0 : Int32).toNatClampNeg)).toInt64))) + (((g_Model_typed S)).toInt64))) + (((g_Model_kept S)).toInt64))), (0, .ref (a 0))]) hx hb dX5_digest_44 rfl hl (by decide) rfl (fun ls hl => ?_)
    exact K45 _ _ _ _ _ _ hF hP hD hS _ (lv_sub hl [2, 1, 0] rfl)
  exact KE _ _ hP hD hS
