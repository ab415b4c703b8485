set_option maxHeartbeats 4000000 in
set_option maxRecDepth 100000 in
theorem c_X5_thrown (l : Launch) (dC : Nat → ClassId) (dI : Nat → Nat → Nat) (cI : ClassId) (a : Nat → Nat) (sz : Nat) (S : S_Model)  (rr : Int32) (hF : F_X5_thrown S  = some rr) : Met l yX5_thrown wsX5_thrown ({ frames := 0, cells := 0, slots := 0, locals := 0 } : Room) (va_Pc [.ref (a 0)] (jPre (dC, dI) [(cI, .int)] sz ((W_Model cI a S)))) (va_Qi (fun (r' : Int32) (_ : Unit) => rr = r') (fun _ : Unit => jB (dC, dI) [(cI, .int)] (va_A ((W_Model cI a S)) sz) ((W_Model cI a S))) (va_A ((W_Model cI a S)) sz)) 0 0 (va_A ((W_Model cI a S)) sz) := by
  refine Met.ofW (cc := cX5_thrown) (maxL := 1) (ret := (some .int)) (by decide) rfl ?_
  intro p e s m args below meth c s₁ B hml hv
  obtain ⟨rfl, hsz, hP, hK, hD0, hN⟩ := hv
  have hx := B.exec
  have hb := B.bytes
  have hr := B.returns
  have hts := atoms_spec (ws := wsX5_thrown) B.pre
  have hown : s.vm.findClass RX5 = some m.cls := findClass_of_methodNamed B.named
  have hlocks := B.notSynchronized
  have hinX5 : ∀ w ∈ u_ws RX5 TX5 26, w ∈ wsX5_thrown := by decide +kernel
  subst hsz
  have hD := hD0.self (sz := s.heap.size)
  generalize hAe : (va_A ((W_Model cI a S)) s.heap.size) = A at hD ⊢
  have hA : ∀ q : Nat, s.heap.size ≤ q → A q := fun q h => by rw [← hAe]; exact Or.inr h
  have hS : va_S A s.heap s.heap [] := va_S.rf
  have hl := lv_entry ([.ref (a 0)]) (n := 1) (Nat.le_of_ble_eq_true rfl)
  rw [lg_entry_eq]
  generalize (lg_sl ([.ref (a 0)]) ++ List.replicate (1 - (lg_sl ([.ref (a 0)])).length) Slot.unset).toArray = ls at hl ⊢
  have hl : lv_has ls 1 [(0, .ref (a 0))] := hl
  have KE : ∀ (H : Heap) (locs : List Loc), va_P (dC, dI) vwCl ((W_Model cI a S)) H → va_D A ((W_Model cI a S)) → va_S A s.heap H locs → W p l e (headSpec wsX5_thrown ({ frames := 0, cells := 0, slots := 0, locals := 0 } : Room)).room s m ([.ref (a 0)] : List Value).toArray below meth c H locs 0 0 (MQ below (va_Qi (fun (r' : Int32) (_ : Unit) => rr = r') (fun _ : Unit => jB (dC, dI) [(cI, .int)] A ((W_Model cI a S))) A) ([.ref (a 0)] : List Value).toArray s 0 0 A) (F0 m 0 ls []) := by
    intro H locs hP hD hS
    unfold F_X5_thrown at hF
    refine lv_aload_n hx hb dX5_thrown_0 rfl (lv_at hl 0 rfl) ?_
    refine wg_thrown (v := .int (g_Model_thrown S)) hx hb hts hinX5 hown hK hP rfl (hts (Cond.fieldLink RX5 49 "LearnedShapesModel" "thrown" "I") (List.mem_of_getElem? (i := 1) rfl)) dX5_thrown_1 ?_
    have e50 := Option.some.inj hF
    subst e50
    exact W.iret (v := (g_Model_thrown S)) hx hb hr (fun t ht hW => ⟨⟨(g_Model_thrown S), (), rfl, rfl, by rw [ht]; exact hP, va_K.moved hW.alike hK, hD⟩, hS.F ht⟩) hS.2.2 dX5_thrown_4
  exact KE _ _ hP hD hS
set_option maxHeartbeats 4000000 in
set_option maxRecDepth 100000 in
theorem c_X5_fails (l : Launch) (dC : Nat → ClassId) (dI : Nat → Nat → Nat) (cI : ClassId) (a : Nat → Nat) (sz : Nat) (S : S_Model) (v1 : Int32) (rr : Int32) (Y : S_Model) (hF : F_X5_fails S v1 = some (rr, Y)) : Met l yX5_fails wsX5_fails ({ frames := 0, cells := 0, slots := 0, locals := 0 } : Room) (va_Pc [.ref (a 0), .int v1] (jPre (dC, dI) [(cI, .int)] sz ((W_Model cI a S)))) (va_Qi (fun (r' : Int32) (u : S_Model) => rr = r' ∧ Y = u) (fun u : S_Model => jB (dC, dI) [(cI, .int)] (va_A ((W_Model cI a S)) sz) ((W_Model cI a u))) (va_A ((W_Model cI a S)) sz)) 0 0 (va_A ((W_Model cI a S)) sz) := by
  refine Met.ofW (cc := cX5_fails) (maxL := 2) (ret := (some .int)) (by decide) rfl ?_
  intro p e s m args below meth c s₁ B hml hv
  obtain ⟨rfl, hsz, hP, hK, hD0, hN⟩ := hv
  have hx := B.exec
  have hb := B.bytes
  have hr := B.returns
  have hts := atoms_spec (ws := wsX5_fails) B.pre
  have hown : s.vm.findClass RX5 = some m.cls := findClass_of_methodNamed B.named
  have hlocks := B.notSynchronized
  have hinX5 : ∀ w ∈ u_ws RX5 TX5 26, w ∈ wsX5_fails := by decide +kernel
  subst hsz
  have hD := hD0.self (sz := s.heap.size)
  generalize hAe : (va_A ((W_Model cI a S)) s.heap.size) = A at hD ⊢
  have hA : ∀ q : Nat, s.heap.size ≤ q → A q := fun q h => by rw [← hAe]; exact Or.inr h
  have hS : va_S A s.heap s.heap [] := va_S.rf
  have hl := lv_entry ([.ref (a 0), .int v1]) (n := 2) (Nat.le_of_ble_eq_true rfl)
  rw [lg_entry_eq]
  generalize (lg_sl ([.ref (a 0), .int v1]) ++ List.replicate (2 - (lg_sl ([.ref (a 0), .int v1])).length) Slot.unset).toArray = ls at hl ⊢
  have hl : lv_has ls 2 [(0, .ref (a 0)), (1, .int v1)] := hl
  have KE : ∀ (H : Heap) (locs : List Loc), va_P (dC, dI) vwCl ((W_Model cI a S)) H → va_D A ((W_Model cI a S)) → va_S A s.heap H locs → W p l e (headSpec wsX5_fails ({ frames := 0, cells := 0, slots := 0, locals := 0 } : Room)).room s m ([.ref (a 0), .int v1] : List Value).toArray below meth c H locs 0 0 (MQ below (va_Qi (fun (r' : Int32) (u : S_Model) => rr = r' ∧ Y = u) (fun u : S_Model => jB (dC, dI) [(cI, .int)] A ((W_Model cI a u))) A) ([.ref (a 0), .int v1] : List Value).toArray s 0 0 A) (F0 m 0 ls []) := by
    intro H locs hP hD hS
    unfold F_X5_fails at hF
    refine lv_aload_n hx hb dX5_fails_0 rfl (lv_at hl 0 rfl) ?_
    refine lv_iload_n hx hb dX5_fails_1 rfl (lv_at hl 1 rfl) ?_
    refine wp_thrown (v := v1) hx hb hts hinX5 hown hK hP hD hS (hts (Cond.fieldLink RX5 49 "LearnedShapesModel" "thrown" "I") (List.mem_of_getElem? (i := 1) rfl)) (rfl) (rfl) dX5_fails_2 (fun H locs hP hD hS => ?_)
    refine lv_iconst (v := (0 : Int32)) hx hb dX5_fails_5 (by decide) ?_
    have e50 := Option.some.inj hF
    obtain ⟨e60, e51⟩ := Prod.mk.inj e50
    subst e60
    subst e51
    exact W.iret (v := (0 : Int32)) hx hb hr (fun t ht hW => ⟨⟨(0 : Int32), (s_Model_thrown S v1), rfl, ⟨rfl, rfl⟩, by rw [ht]; exact hP, va_K.moved hW.alike hK, hD⟩, hS.F ht⟩) hS.2.2 dX5_fails_6
  exact KE _ _ hP hD hS
set_option maxHeartbeats 4000000 in
set_option maxRecDepth 100000 in
theorem c_X5_in (l : Launch) (dC : Nat → ClassId) (dI : Nat → Nat → Nat) (cI : ClassId) (sz : Nat)  (v1 : Int32) (v2 : Int32) (v3 : Int32) (rr : Bool) (hF : F_X5_in  v1 v2 v3 = some rr) : Met l yX5_in wsX5_in ({ frames := 0, cells := 0, slots := 0, locals := 0 } : Room) (va_Pc [.int v1, .int v2, .int v3] (jPre (dC, dI) [(cI, .int)] sz (([] : va_W)))) (va_Qi (fun (r' : Int32) (_ : Unit) => b2i rr = r') (fun _ : Unit => jB (dC, dI) [(cI, .int)] (va_A (([] : va_W)) sz) (([] : va_W))) (va_A (([] : va_W)) sz)) 0 0 (va_A (([] : va_W)) sz) := by
  refine Met.ofW (cc := cX5_in) (maxL := 3) (ret := (some .boolean)) (by decide) rfl ?_
  intro p e s m args below meth c s₁ B hml hv
  obtain ⟨rfl, hsz, hP, hK, hD0, hN⟩ := hv
  have hx := B.exec
  have hb := B.bytes
  have hr := B.returns
  have hts := atoms_spec (ws := wsX5_in) B.pre
  have hown : s.vm.findClass RX5 = some m.cls := findClass_of_methodNamed B.named
  have hlocks := B.notSynchronized
  subst hsz
  have hD := hD0.self (sz := s.heap.size)
  generalize hAe : (va_A (([] : va_W)) s.heap.size) = A at hD ⊢
  have hA : ∀ q : Nat, s.heap.size ≤ q → A q := fun q h => by rw [← hAe]; exact Or.inr h
  have hS : va_S A s.heap s.heap [] := va_S.rf
  have hl := lv_entry ([.int v1, .int v2, .int v3]) (n := 3) (Nat.le_of_ble_eq_true rfl)
  rw [lg_entry_eq]
  generalize (lg_sl ([.int v1, .int v2, .int v3]) ++ List.replicate (3 - (lg_sl ([.int v1, .int v2, .int v3])).length) Slot.unset).toArray = ls at hl ⊢
  have hl : lv_has ls 3 [(0, .int v1), (1, .int v2), (2, .int v3)] := hl
  have KE : ∀ (H : Heap) (locs : List Loc), va_P (dC, dI) vwCl (([] : va_W)) H → va_D A (([] : va_W)) → va_S A s.heap H locs → W p l e (headSpec wsX5_in ({ frames := 0, cells := 0, slots := 0, locals := 0 } : Room)).room s m ([.int v1, .int v2, .int v3] : List Value).toArray below meth c H locs 0 0 (MQ below (va_Qi (fun (r' : Int32) (_ : Unit) => b2i rr = r') (fun _ : Unit => jB (dC, dI) [(cI, .int)] A (([] : va_W))) A) ([.int v1, .int v2, .int v3] : List Value).toArray s 0 0 A) (F0 m 0 ls []) := by
    intro H locs hP hD hS
    unfold F_X5_in at hF
    refine lv_iload_n hx hb dX5_in_0 rfl (lv_at hl 0 rfl) ?_
    refine lv_iload_n hx hb dX5_in_1 rfl (lv_at hl 1 rfl) ?_
    refine lv_icmp_lt (tgt := 14) hx hb dX5_in_2 (by decide) (fun c1 => ?_) (fun c1 => ?_)
    · have hF := F_pos c1 hF
      refine lv_iconst (v := (0 : Int32)) hx hb dX5_in_14 (by decide) ?_
      have e50 := Option.some.inj hF
      subst e50
      exact W.zret (v := (0 : Int32)) hx hb hr (rfl) (fun t ht hW => ⟨⟨(0 : Int32), (), rfl, rfl, by rw [ht]; exact hP, va_K.moved hW.alike hK, hD⟩, hS.F ht⟩) hS.2.2 dX5_in_15
    · have hF := F_neg c1 hF
      refine lv_iload_n hx hb dX5_in_5 rfl (lv_at hl 0 rfl) ?_
      refine lv_iload_n hx hb dX5_in_6 rfl (lv_at hl 2 rfl) ?_
      refine lv_icmp_gt (tgt := 14) hx hb dX5_in_7 (by decide) (fun c2 => ?_) (fun c2 => ?_)
      · have hF := F_pos c2 hF
        refine lv_iconst (v := (0 : Int32)) hx hb dX5_in_14 (by decide) ?_
        have e50 := Option.some.inj hF
        subst e50
        exact W.zret (v := (0 : Int32)) hx hb hr (rfl) (fun t ht hW => ⟨⟨(0 : Int32), (), rfl, rfl, by rw [ht]; exact hP, va_K.moved hW.alike hK, hD⟩, hS.F ht⟩) hS.2.2 dX5_in_15
      · have hF := F_neg c2 hF
        refine lv_iconst (v := (1 : Int32)) hx hb dX5_in_10 (by decide) ?_
        refine lv_goto (tgt := 15) hx hb dX5_in_11 (by decide) ?_
        have e50 := Option.some.inj hF
        subst e50
        exact W.zret (v := (1 : Int32)) hx hb hr (rfl) (fun t ht hW => ⟨⟨(1 : Int32), (), rfl, rfl, by rw [ht]; exact hP, va_K.moved hW.alike hK, hD⟩, hS.F ht⟩) hS.2.2 dX5_in_15
  exact KE _ _ hP hD hS
set_option maxHeartbeats 4000000 in
set_option maxRecDepth 100000 in
theorem c_X5_isShape (l : Launch) (dC : Nat → ClassId) (dI : Nat → Nat → Nat) (cI : ClassId) (sz : Nat)  (v1 : Int32) (rr : Bool) (hF : F_X5_isShape  v1 = some rr) : Met l yX5_isShape wsX5_isShape ({ frames := 1, cells := 0, slots := 0, locals := 22 } : Room) (va_Pc [.int v1] (jPre (dC, dI) [(cI, .int)] sz (([] : va_W)))) (va_Qi (fun (r' : Int32) (_ : Unit) => b2i rr = r') (fun _ : Unit => jB (dC, dI) [(cI, .int)] (va_A (([] : va_W)) sz) (([] : va_W))) (va_A (([] : va_W)) sz)) 0 0 (va_A (([] : va_W)) sz) := by
  refine Met.ofW (cc := cX5_isShape) (maxL := 1) (ret := (some .boolean)) (by decide) rfl ?_
  intro p e s m args below meth c s₁ B hml hv
  obtain ⟨rfl, hsz, hP, hK, hD0, hN⟩ := hv
  have hx := B.exec
  have hb := B.bytes
  have hr := B.returns
  have hts := atoms_spec (ws := wsX5_isShape) B.pre
  have hown : s.vm.findClass RX5 = some m.cls := findClass_of_methodNamed B.named
  have hlocks := B.notSynchronized
  subst hsz
  have hD := hD0.self (sz := s.heap.size)
  generalize hAe : (va_A (([] : va_W)) s.heap.size) = A at hD ⊢
  have hA : ∀ q : Nat, s.heap.size ≤ q → A q := fun q h => by rw [← hAe]; exact Or.inr h
  have hS : va_S A s.heap s.heap [] := va_S.rf
  have hl := lv_entry ([.int v1]) (n := 1) (Nat.le_of_ble_eq_true rfl)
  rw [lg_entry_eq]
  generalize (lg_sl ([.int v1]) ++ List.replicate (1 - (lg_sl ([.int v1])).length) Slot.unset).toArray = ls at hl ⊢
  have hl : lv_has ls 1 [(0, .int v1)] := hl
  have KE : ∀ (H : Heap) (locs : List Loc), va_P (dC, dI) vwCl (([] : va_W)) H → va_D A (([] : va_W)) → va_S A s.heap H locs → W p l e (headSpec wsX5_isShape ({ frames := 1, cells := 0, slots := 0, locals := 22 } : Room)).room s m ([.int v1] : List Value).toArray below meth c H locs 0 0 (MQ below (va_Qi (fun (r' : Int32) (_ : Unit) => b2i rr = r') (fun _ : Unit => jB (dC, dI) [(cI, .int)] A (([] : va_W))) A) ([.int v1] : List Value).toArray s 0 0 A) (F0 m 0 ls []) := by
    intro H locs hP hD hS
    unfold F_X5_isShape at hF
    refine lv_iload_n hx hb dX5_isShape_0 rfl (lv_at hl 0 rfl) ?_
    refine lv_iconst (v := (0 : Int32)) hx hb dX5_isShape_1 (by decide) ?_
    refine lv_iconst (v := (1 : Int32)) hx hb dX5_isShape_2 (by decide) ?_
    obtain ⟨r1, h2, hF⟩ := ob1_some hF
    have hPc : va_P (dC, dI) vwCl (([] : va_W)) H := hP
    have hDc : va_D A (([] : va_W)) := hD
    have hFc := jFreeW (ws := ([] : va_W)) hD hS hA
    refine va_calli (va_runS (As := [.int v1, .int (0 : Int32), .int (1 : Int32)]) (rest := []) ⟨hx, hb, hml, hown, hts⟩ (c_X5_in l dC dI cI  H.size _ _ _ _ h2) (va_cwS 3 hts gX5_isShape_X5_in rfl rfl rfl (by decide +kernel) ⟨Nat.le_of_ble_eq_true rfl, Nat.le_of_ble_eq_true rfl⟩) (jPreS hK hPc hDc hN) rfl rfl hl.1 rfl (lv_room (Nat.le_of_ble_eq_true rfl)) dX5_isShape_3 ⟨Nat.le_of_ble_eq_true rfl, Nat.le_of_ble_eq_true rfl⟩) hS (fun q _ h => hFc q h) hFc (fun r' u' t H locs ht hvm hw hB hz1 hk1 hS => ?_)
    subst hw
    obtain ⟨hP1, -, hD1⟩ := hB
    rw [ht] at hP1
    have hP : va_P (dC, dI) vwCl (([] : va_W)) H := hP1
    have hD : va_D A (([] : va_W)) := hD1.weaken (fun _ _ _ h => hFc _ h)
    have e50 := Option.some.inj hF
    subst e50
    exact W.zret (v := (b2i r1)) hx hb hr (nb2i _) (fun t ht hW => ⟨⟨(b2i r1), (), rfl, rfl, by rw [ht]; exact hP, va_K.moved hW.alike hK, hD⟩, hS.F ht⟩) hS.2.2 dX5_isShape_6
  exact KE _ _ hP hD hS
set_option maxHeartbeats 4000000 in
set_option maxRecDepth 100000 in
theorem c_X5_isNode (l : Launch) (dC : Nat → ClassId) (dI : Nat → Nat → Nat) (cI : ClassId) (a : Nat → Nat) (sz : Nat) (S : S_Model) (v1 : Int32) (v2 : Int32) (rr : Bool) (hF : F_X5_isNode S v1 v2 = some rr) : Met l yX5_isNode wsX5_isNode ({ frames := 2, cells := 0, slots := 0, locals := 42 } : Room) (va_Pc [.ref (a 0), .int v1, .int v2] (jPre (dC, dI) [(cI, .int)] sz ((W_Model cI a S)))) (va_Qi (fun (r' : Int32) (_ : Unit) => b2i rr = r') (fun _ : Unit => jB (dC, dI) [(cI, .int)] (va_A ((W_Model cI a S)) sz) ((W_Model cI a S))) (va_A ((W_Model cI a S)) sz)) 0 0 (va_A ((W_Model cI a S)) sz) := by
  refine Met.ofW (cc := cX5_isNode) (maxL := 3) (ret := (some .boolean)) (by decide) rfl ?_
  intro p e s m args below meth c s₁ B hml hv
  obtain ⟨rfl, hsz, hP, hK, hD0, hN⟩ := hv
  have hx := B.exec
  have hb := B.bytes
  have hr := B.returns
  have hts := atoms_spec (ws := wsX5_isNode) B.pre
  have hown : s.vm.findClass RX5 = some m.cls := findClass_of_methodNamed B.named
  have hlocks := B.notSynchronized
  have hinX5 : ∀ w ∈ u_ws RX5 TX5 26, w ∈ wsX5_isNode := by decide +kernel
  subst hsz
  have hD := hD0.self (sz := s.heap.size)
  generalize hAe : (va_A ((W_Model cI a S)) s.heap.size) = A at hD ⊢
  have hA : ∀ q : Nat, s.heap.size ≤ q → A q := fun q h => by rw [← hAe]; exact Or.inr h
  have hS : va_S A s.heap s.heap [] := va_S.rf
  have hl := lv_entry ([.ref (a 0), .int v1, .int v2]) (n := 3) (Nat.le_of_ble_eq_true rfl)
  rw [lg_entry_eq]
  generalize (lg_sl ([.ref (a 0), .int v1, .int v2]) ++ List.replicate (3 - (lg_sl ([.ref (a 0), .int v1, .int v2])).length) Slot.unset).toArray = ls at hl ⊢
  have hl : lv_has ls 3 [(0, .ref (a 0)), (1, .int v1), (2, .int v2)] := hl
  have KE : ∀ (H : Heap) (locs : List Loc), va_P (dC, dI) vwCl ((W_Model cI a S)) H → va_D A ((W_Model cI a S)) → va_S A s.heap H locs → W p l e (headSpec wsX5_isNode ({ frames := 2, cells := 0, slots := 0, locals := 42 } : Room)).room s m ([.ref (a 0), .int v1, .int v2] : List Value).toArray below meth c H locs 0 0 (MQ below (va_Qi (fun (r' : Int32) (_ : Unit) => b2i rr = r') (fun _ : Unit => jB (dC, dI) [(cI, .int)] A ((W_Model cI a S))) A) ([.ref (a 0), .int v1, .int v2] : List Value).toArray s 0 0 A) (F0 m 0 ls []) := by
    intro H locs hP hD hS
    unfold F_X5_isNode at hF
    refine lv_iload_n hx hb dX5_isNode_0 rfl (lv_at hl 1 rfl) ?_
    obtain ⟨r1, h2, hF⟩ := ob1_some hF
    have hPc : va_P (dC, dI) vwCl ([] : va_W) H := fun k q h => by simp at h
    have hDc : va_D A ([] : va_W) := ⟨fun i j p q h => by simp at h, fun k q h => by simp at h⟩
    have hFc := jFreeW (ws := []) hDc hS hA
    refine va_calli (va_runS (As := [.int v1]) (rest := []) ⟨hx, hb, hml, hown, hts⟩ (c_X5_isShape l dC dI cI  H.size _ _ h2) (va_cwS 1 hts gX5_isNode_X5_isShape rfl rfl rfl (by decide +kernel) ⟨Nat.le_of_ble_eq_true rfl, Nat.le_of_ble_eq_true rfl⟩) (jPreS hK hPc hDc hN) rfl rfl hl.1 rfl (lv_room (Nat.le_of_ble_eq_true rfl)) dX5_isNode_1 ⟨Nat.le_of_ble_eq_true rfl, Nat.le_of_ble_eq_true rfl⟩) hS (fun q _ h => hFc q h) hFc (fun r' u' t H locs ht hvm hw hB hz1 hk1 hS => ?_)
    subst hw
    obtain ⟨hP1, -, hD1⟩ := hB
    rw [ht] at hP1
    have hP : va_P (dC, dI) vwCl ((W_Model cI a S)) H := jNone hP hk1
    refine lv_if_eq (tgt := 29) hx hb dX5_isNode_4 (by decide) (fun c3 => ?_) (fun c3 => ?_)
    · have hF := F_pos c3 hF
      refine lv_iconst (v := (0 : Int32)) hx hb dX5_isNode_29 (by decide) ?_
      have e50 := Option.some.inj hF
      subst e50
      exact W.zret (v := (0 : Int32)) hx hb hr (rfl) (fun t ht hW => ⟨⟨(0 : Int32), (), rfl, rfl, by rw [ht]; exact hP, va_K.moved hW.alike hK, hD⟩, hS.F ht⟩) hS.2.2 dX5_isNode_30
    · have hF := F_neg c3 hF
      refine lv_iload_n hx hb dX5_isNode_7 rfl (lv_at hl 2 rfl) ?_
      refine lv_iconst (v := (0 : Int32)) hx hb dX5_isNode_8 (by decide) ?_
      refine lv_aload_n hx hb dX5_isNode_9 rfl (lv_at hl 0 rfl) ?_
      refine wg_now (v := .ref (a 1)) hx hb hts hinX5 hown hK hP rfl (hts (Cond.fieldLink RX5 7 "LearnedShapesModel" "now" "[I") (List.mem_of_getElem? (i := 1) rfl)) dX5_isNode_10 ?_
      refine lv_iconst (v := (3 : Int32)) hx hb dX5_isNode_13 (by decide) ?_
      refine lv_iload_n hx hb dX5_isNode_14 rfl (lv_at hl 1 rfl) ?_
      refine lv_iadd hx hb dX5_isNode_15 ?_
      obtain ⟨g4, hF⟩ := og_some hF
      refine wl_now (f := (g_Model_now S)) hx hb hK hP rfl (inb_in g4) dX5_isNode_16 ?_
      refine lv_iconst (v := (1 : Int32)) hx hb dX5_isNode_17 (by decide) ?_
      refine lv_isub hx hb dX5_isNode_18 ?_
      obtain ⟨r5, h6, hF⟩ := ob1_some hF
      have hPc : va_P (dC, dI) vwCl ([] : va_W) H := fun k q h => by simp at h
      have hDc : va_D A ([] : va_W) := ⟨fun i j p q h => by simp at h, fun k q h => by simp at h⟩
      have hFc := jFreeW (ws := []) hDc hS hA
      refine va_calli (va_runS (As := [.int v2, .int (0 : Int32), .int (((g_Model_now S) ((3 : Int32) + v1).toNatClampNeg) - (1 : Int32))]) (rest := []) ⟨hx, hb, hml, hown, hts⟩ (c_X5_in l dC dI cI  H.size _ _ _ _ h6) (va_cwS 3 hts gX5_isNode_X5_in rfl rfl rfl (by decide +kernel) ⟨Nat.le_of_ble_eq_true rfl, Nat.le_of_ble_eq_true rfl⟩) (jPreS hK hPc hDc hN) rfl rfl hl.1 rfl (lv_room (Nat.le_of_ble_eq_true rfl)) dX5_isNode_19 ⟨Nat.le_of_ble_eq_true rfl, Nat.le_of_ble_eq_true rfl⟩) hS (fun q _ h => hFc q h) hFc (fun r' u' t H locs ht hvm hw hB hz1 hk1 hS => ?_)
      subst hw
      obtain ⟨hP1, -, hD1⟩ := hB
      rw [ht] at hP1
      have hP : va_P (dC, dI) vwCl ((W_Model cI a S)) H := jNone hP hk1
      refine lv_if_eq (tgt := 29) hx hb dX5_isNode_22 (by decide) (fun c7 => ?_) (fun c7 => ?_)
      · have hF := F_pos c7 hF
        refine lv_iconst (v := (0 : Int32)) hx hb dX5_isNode_29 (by decide) ?_
        have e50 := Option.some.inj hF
        subst e50
        exact W.zret (v := (0 : Int32)) hx hb hr (rfl) (fun t ht hW => ⟨⟨(0 : Int32), (), rfl, rfl, by rw [ht]; exact hP, va_K.moved hW.alike hK, hD⟩, hS.F ht⟩) hS.2.2 dX5_isNode_30
      · have hF := F_neg c7 hF
        refine lv_iconst (v := (1 : Int32)) hx hb dX5_isNode_25 (by decide) ?_
        refine lv_goto (tgt := 30) hx hb dX5_isNode_26 (by decide) ?_
        have e50 := Option.some.inj hF
        subst e50
        exact W.zret (v := (1 : Int32)) hx hb hr (rfl) (fun t ht hW => ⟨⟨(1 : Int32), (), rfl, rfl, by rw [ht]; exact hP, va_K.moved hW.alike hK, hD⟩, hS.F ht⟩) hS.2.2 dX5_isNode_30
  exact KE _ _ hP hD hS
set_option maxHeartbeats 4000000 in
set_option maxRecDepth 100000 in
theorem c_X5_of (l : Launch) (dC : Nat → ClassId) (dI : Nat → Nat → Nat) (cI : ClassId) (a : Nat → Nat) (sz : Nat) (S : S_Model) (v1 : Int32) (v2 : Int32) (v3 : Int32) (rr : Int32) (hF : F_X5_of S v1 v2 v3 = some rr) : Met l yX5_of wsX5_of ({ frames := 0, cells := 0, slots := 0, locals := 0 } : Room) (va_Pc [.ref (a 0), .int v1, .int v2, .int v3] (jPre (dC, dI) [(cI, .int)] sz ((W_Model cI a S)))) (va_Qi (fun (r' : Int32) (_ : Unit) => rr = r') (fun _ : Unit => jB (dC, dI) [(cI, .int)] (va_A ((W_Model cI a S)) sz) ((W_Model cI a S))) (va_A ((W_Model cI a S)) sz)) 0 0 (va_A ((W_Model cI a S)) sz) := by
  refine Met.ofW (cc := cX5_of) (maxL := 4) (ret := (some .int)) (by decide) rfl ?_
  intro p e s m args below meth c s₁ B hml hv
  obtain ⟨rfl, hsz, hP, hK, hD0, hN⟩ := hv
  have hx := B.exec
  have hb := B.bytes
  have hr := B.returns
  have hts := atoms_spec (ws := wsX5_of) B.pre
  have hown : s.vm.findClass RX5 = some m.cls := findClass_of_methodNamed B.named
  have hlocks := B.notSynchronized
  have hinX5 : ∀ w ∈ u_ws RX5 TX5 26, w ∈ wsX5_of := by decide +kernel
  subst hsz
  have hD := hD0.self (sz := s.heap.size)
  generalize hAe : (va_A ((W_Model cI a S)) s.heap.size) = A at hD ⊢
  have hA : ∀ q : Nat, s.heap.size ≤ q → A q := fun q h => by rw [← hAe]; exact Or.inr h
  have hS : va_S A s.heap s.heap [] := va_S.rf
  have hl := lv_entry ([.ref (a 0), .int v1, .int v2, .int v3]) (n := 4) (Nat.le_of_ble_eq_true rfl)
  rw [lg_entry_eq]
  generalize (lg_sl ([.ref (a 0), .int v1, .int v2, .int v3]) ++ List.replicate (4 - (lg_sl ([.ref (a 0), .int v1, .int v2, .int v3])).length) Slot.unset).toArray = ls at hl ⊢
  have hl : lv_has ls 4 [(0, .ref (a 0)), (1, .int v1), (2, .int v2), (3, .int v3)] := hl
  have KE : ∀ (H : Heap) (locs : List Loc), va_P (dC, dI) vwCl ((W_Model cI a S)) H → va_D A ((W_Model cI a S)) → va_S A s.heap H locs → W p l e (headSpec wsX5_of ({ frames := 0, cells := 0, slots := 0, locals := 0 } : Room)).room s m ([.ref (a 0), .int v1, .int v2, .int v3] : List Value).toArray below meth c H locs 0 0 (MQ below (va_Qi (fun (r' : Int32) (_ : Unit) => rr = r') (fun _ : Unit => jB (dC, dI) [(cI, .int)] A ((W_Model cI a S))) A) ([.ref (a 0), .int v1, .int v2, .int v3] : List Value).toArray s 0 0 A) (F0 m 0 ls []) := by
    intro H locs hP hD hS
    unfold F_X5_of at hF
    refine lv_aload_n hx hb dX5_of_0 rfl (lv_at hl 0 rfl) ?_
    refine wg_now (v := .ref (a 1)) hx hb hts hinX5 hown hK hP rfl (hts (Cond.fieldLink RX5 7 "LearnedShapesModel" "now" "[I") (List.mem_of_getElem? (i := 1) rfl)) dX5_of_1 ?_
    refine lv_iconst (v := (5 : Int32)) hx hb dX5_of_4 (by decide) ?_
    refine lv_sipush (v := (210 : Int32)) hx hb dX5_of_5 (by decide) ?_
    refine lv_iload_n hx hb dX5_of_8 rfl (lv_at hl 1 rfl) ?_
    refine lv_imul hx hb dX5_of_9 ?_
    refine lv_iadd hx hb dX5_of_10 ?_
    refine lv_bipush (v := (7 : Int32)) hx hb dX5_of_11 (by decide) ?_
    refine lv_iload_n hx hb dX5_of_13 rfl (lv_at hl 2 rfl) ?_
    refine lv_imul hx hb dX5_of_14 ?_
    refine lv_iadd hx hb dX5_of_15 ?_
    refine lv_iload_n hx hb dX5_of_16 rfl (lv_at hl 3 rfl) ?_
    refine lv_iadd hx hb dX5_of_17 ?_
    obtain ⟨g1, hF⟩ := og_some hF
    refine wl_now (f := (g_Model_now S)) hx hb hK hP rfl (inb_in g1) dX5_of_18 ?_
    have e50 := Option.some.inj hF
    subst e50
    exact W.iret (v := ((g_Model_now S) ((((5 : Int32) + ((210 : Int32) * v1)) + ((7 : Int32) * v2)) + v3).toNatClampNeg)) hx hb hr (fun t ht hW => ⟨⟨((g_Model_now S) ((((5 : Int32) + ((210 : Int32) * v1)) + ((7 : Int32) * v2)) + v3).toNatClampNeg), (), rfl, rfl, by rw [ht]; exact hP, va_K.moved hW.alike hK, hD⟩, hS.F ht⟩) hS.2.2 dX5_of_19
  exact KE _ _ hP hD hS
set_option maxHeartbeats 4000000 in
set_option maxRecDepth 100000 in
theorem c_X5_saves (l : Launch) (dC : Nat → ClassId) (dI : Nat → Nat → Nat) (cI : ClassId) (a : Nat → Nat) (sz : Nat) (S : S_Model)  (Y : S_Model) (hF : F_X5_saves S  = some Y) : Met l yX5_saves wsX5_saves ({ frames := 0, cells := 0, slots := 0, locals := 0 } : Room) (va_Pc [.ref (a 0)] (jPre (dC, dI) [(cI, .int)] sz ((W_Model cI a S)))) (va_Qv (fun u : S_Model => Y = u) (fun u : S_Model => jB (dC, dI) [(cI, .int)] (va_A ((W_Model cI a S)) sz) ((W_Model cI a u))) (va_A ((W_Model cI a S)) sz)) 0 0 (va_A ((W_Model cI a S)) sz) := by
  refine Met.ofW (cc := cX5_saves) (maxL := 2) (ret := none) (by decide) rfl ?_
  intro p e s m args below meth c s₁ B hml hv
  obtain ⟨rfl, hsz, hP, hK, hD0, hN⟩ := hv
  have hx := B.exec
  have hb := B.bytes
  have hr := B.returns
  have hts := atoms_spec (ws := wsX5_saves) B.pre
  have hown : s.vm.findClass RX5 = some m.cls := findClass_of_methodNamed B.named
  have hlocks := B.notSynchronized
  have hinX5 : ∀ w ∈ u_ws RX5 TX5 26, w ∈ wsX5_saves := by decide +kernel
  subst hsz
  have hD := hD0.self (sz := s.heap.size)
  generalize hAe : (va_A ((W_Model cI a S)) s.heap.size) = A at hD ⊢
  have hA : ∀ q : Nat, s.heap.size ≤ q → A q := fun q h => by rw [← hAe]; exact Or.inr h
  have hS : va_S A s.heap s.heap [] := va_S.rf
  have hl := lv_entry ([.ref (a 0)]) (n := 2) (Nat.le_of_ble_eq_true rfl)
  rw [lg_entry_eq]
  generalize (lg_sl ([.ref (a 0)]) ++ List.replicate (2 - (lg_sl ([.ref (a 0)])).length) Slot.unset).toArray = ls at hl ⊢
  have hl : lv_has ls 2 [(0, .ref (a 0))] := hl
  have K52 : ∀ (n52 : Nat) (S : S_Model) (x1 : Int32) (H : Heap) (locs : List Loc), F_X5_saves_52 n52 S x1 = some Y → va_P (dC, dI) vwCl ((W_Model cI a S)) H → va_D A ((W_Model cI a S)) → va_S A s.heap H locs → ∀ ls : Array Slot, lv_has ls 2 [(0, .ref (a 0)), (1, .int x1)] → W p l e (headSpec wsX5_saves ({ frames := 0, cells := 0, slots := 0, locals := 0 } : Room)).room s m ([.ref (a 0)] : List Value).toArray below meth c H locs 0 0 (MQ below (va_Qv (fun u : S_Model => Y = u) (fun u : S_Model => jB (dC, dI) [(cI, .int)] A ((W_Model cI a u))) A) ([.ref (a 0)] : List Value).toArray s 0 0 A) (F0 m 52 ls []) := by
    intro n52
    induction n52 with
    | zero => intro S x1 H locs hF; exact nomatch hF
    | succ n52 ih52 =>
      intro S x1 H locs hF hP hD hS ls hl
      rw [F_X5_saves_52_s] at hF
      refine lv_iload_n hx hb dX5_saves_52 rfl (lv_at hl 1 rfl) ?_
      refine lv_sipush (v := (425 : Int32)) hx hb dX5_saves_53 (by decide) ?_
      refine lv_icmp_ge (tgt := 86) hx hb dX5_saves_56 (by decide) (fun c1 => ?_) (fun c1 => ?_)
      · have hF := F_pos c1 hF
        refine lv_aload_n hx hb dX5_saves_86 rfl (lv_at hl 0 rfl) ?_
        refine lv_dup hx hb dX5_saves_87 rfl ?_
        refine wg_kept (v := .int (g_Model_kept S)) hx hb hts hinX5 hown hK hP rfl (hts (Cond.fieldLink RX5 61 "LearnedShapesModel" "kept" "I") (List.mem_of_getElem? (i := 1) rfl)) dX5_saves_88 ?_
        refine lv_iconst (v := (1 : Int32)) hx hb dX5_saves_91 (by decide) ?_
        refine lv_iadd hx hb dX5_saves_92 ?_
        refine wp_kept (v := ((g_Model_kept S) + (1 : Int32))) hx hb hts hinX5 hown hK hP hD hS (hts (Cond.fieldLink RX5 61 "LearnedShapesModel" "kept" "I") (List.mem_of_getElem? (i := 1) rfl)) (rfl) (rfl) dX5_saves_93 (fun H locs hP hD hS => ?_)
        have e50 := Option.some.inj hF
        subst e50
        exact W.vret hx hb hr (fun t ht hW => ⟨⟨(s_Model_kept S ((g_Model_kept S) + (1 : Int32))), rfl, rfl, by rw [ht]; exact hP, va_K.moved hW.alike hK, hD⟩, hS.F ht⟩) hS.2.2 dX5_saves_96
      · have hF := F_neg c1 hF
        refine lv_aload_n hx hb dX5_saves_59 rfl (lv_at hl 0 rfl) ?_
        refine wg_past (v := .ref (a 2)) hx hb hts hinX5 hown hK hP rfl (hts (Cond.fieldLink RX5 13 "LearnedShapesModel" "past" "[I") (List.mem_of_getElem? (i := 2) rfl)) dX5_saves_60 ?_
        refine lv_sipush (v := (425 : Int32)) hx hb dX5_saves_63 (by decide) ?_
        refine lv_aload_n hx hb dX5_saves_66 rfl (lv_at hl 0 rfl) ?_
        refine wg_kept (v := .int (g_Model_kept S)) hx hb hts hinX5 hown hK hP rfl (hts (Cond.fieldLink RX5 61 "LearnedShapesModel" "kept" "I") (List.mem_of_getElem? (i := 1) rfl)) dX5_saves_67 ?_
        refine lv_imul hx hb dX5_saves_70 ?_
        refine lv_iload_n hx hb dX5_saves_71 rfl (lv_at hl 1 rfl) ?_
        refine lv_iadd hx hb dX5_saves_72 ?_
        refine lv_aload_n hx hb dX5_saves_73 rfl (lv_at hl 0 rfl) ?_
        refine wg_now (v := .ref (a 1)) hx hb hts hinX5 hown hK hP rfl (hts (Cond.fieldLink RX5 7 "LearnedShapesModel" "now" "[I") (List.mem_of_getElem? (i := 3) rfl)) dX5_saves_74 ?_
        refine lv_iload_n hx hb dX5_saves_77 rfl (lv_at hl 1 rfl) ?_
        obtain ⟨g2, hF⟩ := og_some hF
        refine wl_now (f := (g_Model_now S)) hx hb hK hP rfl (inb_in g2) dX5_saves_78 ?_
        obtain ⟨g3, hF⟩ := og_some hF
        refine ws_past (f := (g_Model_past S)) hx hb hK hP hD hS rfl (inb_in g3) dX5_saves_79 (fun H locs hP hD hS => ?_)
        refine lv_iinc (v := (x1 + (1 : Int32))) (lv' := [(1, .int (x1 + (1 : Int32))), (0, .ref (a 0))]) hx hb dX5_saves_80 hl (k := 1) rfl rfl (by decide) rfl (fun ls hl => ?_)
        refine lv_goto (tgt := 52) hx hb dX5_saves_83 (by decide) ?_
        exact ih52 _ _ _ _ hF hP hD hS _ (lv_sub hl [1, 0] rfl)
  have K11 : ∀ (n11 : Nat) (S : S_Model) (x1 : Int32) (H : Heap) (locs : List Loc), F_X5_saves_11 n11 S x1 = some Y → va_P (dC, dI) vwCl ((W_Model cI a S)) H → va_D A ((W_Model cI a S)) → va_S A s.heap H locs → ∀ ls : Array Slot, lv_has ls 2 [(0, .ref (a 0)), (1, .int x1)] → W p l e (headSpec wsX5_saves ({ frames := 0, cells := 0, slots := 0, locals := 0 } : Room)).room s m ([.ref (a 0)] : List Value).toArray below meth c H locs 0 0 (MQ below (va_Qv (fun u : S_Model => Y = u) (fun u : S_Model => jB (dC, dI) [(cI, .int)] A ((W_Model cI a u))) A) ([.ref (a 0)] : List Value).toArray s 0 0 A) (F0 m 11 ls []) := by
    intro n11
    induction n11 with
    | zero => intro S x1 H locs hF; exact nomatch hF
    | succ n11 ih11 =>
      intro S x1 H locs hF hP hD hS ls hl
      rw [F_X5_saves_11_s] at hF
      refine lv_iload_n hx hb dX5_saves_11 rfl (lv_at hl 1 rfl) ?_
      refine lv_sipush (v := (2125 : Int32)) hx hb dX5_saves_12 (by decide) ?_
      refine lv_icmp_ge (tgt := 40) hx hb dX5_saves_15 (by decide) (fun c4 => ?_) (fun c4 => ?_)
      · have hF := F_pos c4 hF
        refine lv_aload_n hx hb dX5_saves_40 rfl (lv_at hl 0 rfl) ?_
        refine lv_dup hx hb dX5_saves_41 rfl ?_
        refine wg_kept (v := .int (g_Model_kept S)) hx hb hts hinX5 hown hK hP rfl (hts (Cond.fieldLink RX5 61 "LearnedShapesModel" "kept" "I") (List.mem_of_getElem? (i := 1) rfl)) dX5_saves_42 ?_
        refine lv_iconst (v := (1 : Int32)) hx hb dX5_saves_45 (by decide) ?_
        refine lv_isub hx hb dX5_saves_46 ?_
        refine wp_kept (v := ((g_Model_kept S) - (1 : Int32))) hx hb hts hinX5 hown hK hP hD hS (hts (Cond.fieldLink RX5 61 "LearnedShapesModel" "kept" "I") (List.mem_of_getElem? (i := 1) rfl)) (rfl) (rfl) dX5_saves_47 (fun H locs hP hD hS => ?_)
        refine lv_iconst (v := (0 : Int32)) hx hb dX5_saves_50 (by decide) ?_
        refine lv_istore_n (lv' := [(1, .int (0 : Int32)), (0, .ref (a 0))]) hx hb dX5_saves_51 rfl hl (by decide) rfl (fun ls hl => ?_)
        exact K52 _ _ _ _ _ hF hP hD hS _ (lv_sub hl [1, 0] rfl)
      · have hF := F_neg c4 hF
        refine lv_aload_n hx hb dX5_saves_18 rfl (lv_at hl 0 rfl) ?_
        refine wg_past (v := .ref (a 2)) hx hb hts hinX5 hown hK hP rfl (hts (Cond.fieldLink RX5 13 "LearnedShapesModel" "past" "[I") (List.mem_of_getElem? (i := 2) rfl)) dX5_saves_19 ?_
        refine lv_iload_n hx hb dX5_saves_22 rfl (lv_at hl 1 rfl) ?_
        refine lv_aload_n hx hb dX5_saves_23 rfl (lv_at hl 0 rfl) ?_
        refine wg_past (v := .ref (a 2)) hx hb hts hinX5 hown hK hP rfl (hts (Cond.fieldLink RX5 13 "LearnedShapesModel" "past" "[I") (List.mem_of_getElem? (i := 2) rfl)) dX5_saves_24 ?_
        refine lv_iload_n hx hb dX5_saves_27 rfl (lv_at hl 1 rfl) ?_
        refine lv_sipush (v := (425 : Int32)) hx hb dX5_saves_28 (by decide) ?_
        refine lv_iadd hx hb dX5_saves_31 ?_
        obtain ⟨g5, hF⟩ := og_some hF
        refine wl_past (f := (g_Model_past S)) hx hb hK hP rfl (inb_in g5) dX5_saves_32 ?_
        obtain ⟨g6, hF⟩ := og_some hF
        refine ws_past (f := (g_Model_past S)) hx hb hK hP hD hS rfl (inb_in g6) dX5_saves_33 (fun H locs hP hD hS => ?_)
        refine lv_iinc (v := (x1 + (1 : Int32))) (lv' := [(1, .int (x1 + (1 : Int32))), (0, .ref (a 0))]) hx hb dX5_saves_34 hl (k := 1) rfl rfl (by decide) rfl (fun ls hl => ?_)
        refine lv_goto (tgt := 11) hx hb dX5_saves_37 (by decide) ?_
        exact ih11 _ _ _ _ hF hP hD hS _ (lv_sub hl [1, 0] rfl)
  have KE : ∀ (H : Heap) (locs : List Loc), va_P (dC, dI) vwCl ((W_Model cI a S)) H → va_D A ((W_Model cI a S)) → va_S A s.heap H locs → W p l e (headSpec wsX5_saves ({ frames := 0, cells := 0, slots := 0, locals := 0 } : Room)).room s m ([.ref (a 0)] : List Value).toArray below meth c H locs 0 0 (MQ below (va_Qv (fun u : S_Model => Y = u) (fun u : S_Model => jB (dC, dI) [(cI, .int)] A ((W_Model cI a u))) A) ([.ref (a 0)] : List Value).toArray s 0 0 A) (F0 m 0 ls []) := by
    intro H locs hP hD hS
    unfold F_X5_saves at hF
    refine lv_aload_n hx hb dX5_saves_0 rfl (lv_at hl 0 rfl) ?_
    refine wg_kept (v := .int (g_Model_kept S)) hx hb hts hinX5 hown hK hP rfl (hts (Cond.fieldLink RX5 61 "LearnedShapesModel" "kept" "I") (List.mem_of_getElem? (i := 1) rfl)) dX5_saves_1 ?_
    refine lv_bipush (v := (6 : Int32)) hx hb dX5_saves_4 (by decide) ?_
    refine lv_icmp_ne (tgt := 50) hx hb dX5_saves_6 (by decide) (fun c7 => ?_) (fun c7 => ?_)
    · have hF := F_neg c7 hF
      refine lv_iconst (v := (0 : Int32)) hx hb dX5_saves_50 (by decide) ?_
      refine lv_istore_n (lv' := [(1, .int (0 : Int32)), (0, .ref (a 0))]) hx hb dX5_saves_51 rfl hl (by decide) rfl (fun ls hl => ?_)
      exact K52 _ _ _ _ _ hF hP hD hS _ (lv_sub hl [1, 0] rfl)
    · have hF := F_pos c7 hF
      refine lv_iconst (v := (0 : Int32)) hx hb dX5_saves_9 (by decide) ?_
      refine lv_istore_n (lv' := [(1, .int (0 : Int32)), (0, .ref (a 0))]) hx hb dX5_saves_10 rfl hl (by decide) rfl (fun ls hl => ?_)
      exact K11 _ _ _ _ _ hF hP hD hS _ (lv_sub hl [1, 0] rfl)
  exact KE _ _ hP hD hS
set_option maxHeartbeats 4000000 in
set_option maxRecDepth 100000 in
theorem c_X5_undo (l : Launch) (dC : Nat → ClassId) (dI : Nat → Nat → Nat) (cI : ClassId) (a : Nat → Nat) (sz : Nat) (S : S_Model)  (rr : Int32) (Y : S_Model) (hF : F_X5_undo S  = some (rr, Y)) : Met l yX5_undo wsX5_undo ({ frames := 1, cells := 0, slots := 0, locals := 21 } : Room) (va_Pc [.ref (a 0)] (jPre (dC, dI) [(cI, .int)] sz ((W_Model cI a S)))) (va_Qi (fun (r' : Int32) (u : S_Model) => rr = r' ∧ Y = u) (fun u : S_Model => jB (dC, dI) [(cI, .int)] (va_A ((W_Model cI a S)) sz) ((W_Model cI a u))) (va_A ((W_Model cI a S)) sz)) 0 0 (va_A ((W_Model cI a S)) sz) := by
  refine Met.ofW (cc := cX5_undo) (maxL := 2) (ret := (some .int)) (by decide) rfl ?_
  intro p e s m args below meth c s₁ B hml hv
  obtain ⟨rfl, hsz, hP, hK, hD0, hN⟩ := hv
  have hx := B.exec
  have hb := B.bytes
  have hr := B.returns
  have hts := atoms_spec (ws := wsX5_undo) B.pre
  have hown : s.vm.findClass RX5 = some m.cls := findClass_of_methodNamed B.named
  have hlocks := B.notSynchronized
  have hinX5 : ∀ w ∈ u_ws RX5 TX5 26, w ∈ wsX5_undo := by decide +kernel
  subst hsz
  have hD := hD0.self (sz := s.heap.size)
  generalize hAe : (va_A ((W_Model cI a S)) s.heap.size) = A at hD ⊢
  have hA : ∀ q : Nat, s.heap.size ≤ q → A q := fun q h => by rw [← hAe]; exact Or.inr h
  have hS : va_S A s.heap s.heap [] := va_S.rf
  have hl := lv_entry ([.ref (a 0)]) (n := 2) (Nat.le_of_ble_eq_true rfl)
  rw [lg_entry_eq]
  generalize (lg_sl ([.ref (a 0)]) ++ List.replicate (2 - (lg_sl ([.ref (a 0)])).length) Slot.unset).toArray = ls at hl ⊢
  have hl : lv_has ls 2 [(0, .ref (a 0))] := hl
  have K30 : ∀ (n30 : Nat) (S : S_Model) (x1 : Int32) (H : Heap) (locs : List Loc), F_X5_undo_30 n30 S x1 = some (rr, Y) → va_P (dC, dI) vwCl ((W_Model cI a S)) H → va_D A ((W_Model cI a S)) → va_S A s.heap H locs → ∀ ls : Array Slot, lv_has ls 2 [(0, .ref (a 0)), (1, .int x1)] → W p l e (headSpec wsX5_undo ({ frames := 1, cells := 0, slots := 0, locals := 21 } : Room)).room s m ([.ref (a 0)] : List Value).toArray below meth c H locs 0 0 (MQ below (va_Qi (fun (r' : Int32) (u : S_Model) => rr = r' ∧ Y = u) (fun u : S_Model => jB (dC, dI) [(cI, .int)] A ((W_Model cI a u))) A) ([.ref (a 0)] : List Value).toArray s 0 0 A) (F0 m 30 ls []) := by
    intro n30
    induction n30 with
    | zero => intro S x1 H locs hF; exact nomatch hF
    | succ n30 ih30 =>
      intro S x1 H locs hF hP hD hS ls hl
      rw [F_X5_undo_30_s] at hF
      refine lv_iload_n hx hb dX5_undo_30 rfl (lv_at hl 1 rfl) ?_
      refine lv_sipush (v := (425 : Int32)) hx hb dX5_undo_31 (by decide) ?_
      refine lv_icmp_ge (tgt := 64) hx hb dX5_undo_34 (by decide) (fun c1 => ?_) (fun c1 => ?_)
      · have hF := F_pos c1 hF
        refine lv_aload_n hx hb dX5_undo_64 rfl (lv_at hl 0 rfl) ?_
        refine wg_kept (v := .int (g_Model_kept S)) hx hb hts hinX5 hown hK hP rfl (hts (Cond.fieldLink RX5 61 "LearnedShapesModel" "kept" "I") (List.mem_of_getElem? (i := 2) rfl)) dX5_undo_65 ?_
        have e50 := Option.some.inj hF
        obtain ⟨e60, e51⟩ := Prod.mk.inj e50
        subst e60
        subst e51
        exact W.iret (v := (g_Model_kept S)) hx hb hr (fun t ht hW => ⟨⟨(g_Model_kept S), S, rfl, ⟨rfl, rfl⟩, by rw [ht]; exact hP, va_K.moved hW.alike hK, hD⟩, hS.F ht⟩) hS.2.2 dX5_undo_68
      · have hF := F_neg c1 hF
        refine lv_aload_n hx hb dX5_undo_37 rfl (lv_at hl 0 rfl) ?_
        refine wg_now (v := .ref (a 1)) hx hb hts hinX5 hown hK hP rfl (hts (Cond.fieldLink RX5 7 "LearnedShapesModel" "now" "[I") (List.mem_of_getElem? (i := 3) rfl)) dX5_undo_38 ?_
        refine lv_iload_n hx hb dX5_undo_41 rfl (lv_at hl 1 rfl) ?_
        refine lv_aload_n hx hb dX5_undo_42 rfl (lv_at hl 0 rfl) ?_
        refine wg_past (v := .ref (a 2)) hx hb hts hinX5 hown hK hP rfl (hts (Cond.fieldLink RX5 13 "LearnedShapesModel" "past" "[I") (List.mem_of_getElem? (i := 4) rfl)) dX5_undo_43 ?_
        refine lv_sipush (v := (425 : Int32)) hx hb dX5_undo_46 (by decide) ?_
        refine lv_aload_n hx hb dX5_undo_49 rfl (lv_at hl 0 rfl) ?_
        refine wg_kept (v := .int (g_Model_kept S)) hx hb hts hinX5 hown hK hP rfl (hts (Cond.fieldLink RX5 61 "LearnedShapesModel" "kept" "I") (List.mem_of_getElem? (i := 2) rfl)) dX5_undo_50 ?_
        refine lv_imul hx hb dX5_undo_53 ?_
        refine lv_iload_n hx hb dX5_undo_54 rfl (lv_at hl 1 rfl) ?_
        refine lv_iadd hx hb dX5_undo_55 ?_
        obtain ⟨g2, hF⟩ := og_some hF
        refine wl_past (f := (g_Model_past S)) hx hb hK hP rfl (inb_in g2) dX5_undo_56 ?_
        obtain ⟨g3, hF⟩ := og_some hF
        refine ws_now (f := (g_Model_now S)) hx hb hK hP hD hS rfl (inb_in g3) dX5_undo_57 (fun H locs hP hD hS => ?_)
        refine lv_iinc (v := (x1 + (1 : Int32))) (lv' := [(1, .int (x1 + (1 : Int32))), (0, .ref (a 0))]) hx hb dX5_undo_58 hl (k := 1) rfl rfl (by decide) rfl (fun ls hl => ?_)
        refine lv_goto (tgt := 30) hx hb dX5_undo_61 (by decide) ?_
        exact ih30 _ _ _ _ hF hP hD hS _ (lv_sub hl [1, 0] rfl)
  have KE : ∀ (H : Heap) (locs : List Loc), va_P (dC, dI) vwCl ((W_Model cI a S)) H → va_D A ((W_Model cI a S)) → va_S A s.heap H locs → W p l e (headSpec wsX5_undo ({ frames := 1, cells := 0, slots := 0, locals := 21 } : Room)).room s m ([.ref (a 0)] : List Value).toArray below meth c H locs 0 0 (MQ below (va_Qi (fun (r' : Int32) (u : S_Model) => rr = r' ∧ Y = u) (fun u : S_Model => jB (dC, dI) [(cI, .int)] A ((W_Model cI a u))) A) ([.ref (a 0)] : List Value).toArray s 0 0 A) (F0 m 0 ls []) := by
    intro H locs hP hD hS
    unfold F_X5_undo at hF
    refine lv_aload_n hx hb dX5_undo_0 rfl (lv_at hl 0 rfl) ?_
    refine lv_iconst (v := (0 : Int32)) hx hb dX5_undo_1 (by decide) ?_
    refine wp_thrown (v := (0 : Int32)) hx hb hts hinX5 hown hK hP hD hS (hts (Cond.fieldLink RX5 49 "LearnedShapesModel" "thrown" "I") (List.mem_of_getElem? (i := 1) rfl)) (rfl) (rfl) dX5_undo_2 (fun H locs hP hD hS => ?_)
    refine lv_aload_n hx hb dX5_undo_5 rfl (lv_at hl 0 rfl) ?_
    refine wg_kept (v := .int (g_Model_kept S)) hx hb hts hinX5 hown hK hP rfl (hts (Cond.fieldLink RX5 61 "LearnedShapesModel" "kept" "I") (List.mem_of_getElem? (i := 2) rfl)) dX5_undo_6 ?_
    refine lv_if_ne (tgt := 18) hx hb dX5_undo_9 (by decide) (fun c4 => ?_) (fun c4 => ?_)
    · have hF := F_neg c4 hF
      refine lv_aload_n hx hb dX5_undo_18 rfl (lv_at hl 0 rfl) ?_
      refine lv_dup hx hb dX5_undo_19 rfl ?_
      refine wg_kept (v := .int (g_Model_kept S)) hx hb hts hinX5 hown hK hP rfl (hts (Cond.fieldLink RX5 61 "LearnedShapesModel" "kept" "I") (List.mem_of_getElem? (i := 2) rfl)) dX5_undo_20 ?_
      refine lv_iconst (v := (1 : Int32)) hx hb dX5_undo_23 (by decide) ?_
      refine lv_isub hx hb dX5_undo_24 ?_
      refine wp_kept (v := ((g_Model_kept S) - (1 : Int32))) hx hb hts hinX5 hown hK hP hD hS (hts (Cond.fieldLink RX5 61 "LearnedShapesModel" "kept" "I") (List.mem_of_getElem? (i := 2) rfl)) (rfl) (rfl) dX5_undo_25 (fun H locs hP hD hS => ?_)
      refine lv_iconst (v := (0 : Int32)) hx hb dX5_undo_28 (by decide) ?_
      refine lv_istore_n (lv' := [(1, .int (0 : Int32)), (0, .ref (a 0))]) hx hb dX5_undo_29 rfl hl (by decide) rfl (fun ls hl => ?_)
      exact K30 _ _ _ _ _ hF hP hD hS _ (lv_sub hl [1, 0] rfl)
    · have hF := F_pos c4 hF
      refine lv_aload_n hx hb dX5_undo_12 rfl (lv_at hl 0 rfl) ?_
      refine lv_iconst (v := (1 : Int32)) hx hb dX5_undo_13 (by decide) ?_
      obtain ⟨r5, u6, h7, hF⟩ := ob2_some hF
      have hPc : va_P (dC, dI) vwCl ((W_Model cI a (s_Model_thrown S (0 : Int32)))) H := hP
      have hDc : va_D A ((W_Model cI a (s_Model_thrown S (0 : Int32)))) := hD
      have hFc := jFreeW (ws := (W_Model cI a (s_Model_thrown S (0 : Int32)))) hD hS hA
      refine va_calli (va_runV (As := [.int (1 : Int32)]) (rest := []) ⟨hx, hb, hml, hown, hts⟩ (c_X5_fails l dC dI cI a H.size _ _ _ _ h7) (cwV 1 hts gX5_undo_X5_fails rfl rfl rfl (by decide +kernel) ⟨Nat.le_of_ble_eq_true rfl, Nat.le_of_ble_eq_true rfl⟩) (jPreV hK hPc hDc hN (ci := 5) rfl rfl) rfl rfl hl.1 rfl (lv_room (Nat.le_of_ble_eq_true rfl)) dX5_undo_14 ⟨Nat.le_of_ble_eq_true rfl, Nat.le_of_ble_eq_true rfl⟩) hS (fun q _ h => hFc q h) hFc (fun r' u' t H locs ht hvm hw hB hz1 hk1 hS => ?_)
      obtain ⟨e1, e2⟩ := hw
      subst e1
      subst e2
      obtain ⟨hP1, -, hD1⟩ := hB
      rw [ht] at hP1
      have hP : va_P (dC, dI) vwCl ((W_Model cI a u6)) H := hP1
      have hD : va_D A ((W_Model cI a u6)) := hD1.weaken (fun _ _ _ h => hFc _ h)
      have e50 := Option.some.inj hF
      obtain ⟨e60, e51⟩ := Prod.mk.inj e50
      subst e60
      subst e51
      exact W.iret (v := r5) hx hb hr (fun t ht hW => ⟨⟨r5, u6, rfl, ⟨rfl, rfl⟩, by rw [ht]; exact hP, va_K.moved hW.alike hK, hD⟩, hS.F ht⟩) hS.2.2 dX5_undo_17
  exact KE _ _ hP hD hS
set_option maxHeartbeats 4000000 in
set_option maxRecDepth 100000 in
theorem c_X5_isAt (l : Launch) (dC : Nat → ClassId) (dI : Nat → Nat → Nat) (cI : ClassId) (a : Nat → Nat) (sz : Nat) (S : S_Model) (v1 : Int32) (v2 : Int32) (rr : Bool) (hF : F_X5_isAt S v1 v2 = some rr) : Met l yX5_isAt wsX5_isAt ({ frames := 1, cells := 0, slots := 0, locals := 22 } : Room) (va_Pc [.ref (a 0), .int v1, .int v2] (jPre (dC, dI) [(cI, .int)] sz ((W_Model cI a S)))) (va_Qi (fun (r' : Int32) (_ : Unit) => b2i rr = r') (fun _ : Unit => jB (dC, dI) [(cI, .int)] (va_A ((W_Model cI a S)) sz) ((W_Model cI a S))) (va_A ((W_Model cI a S)) sz)) 0 0 (va_A ((W_Model cI a S)) sz) := by
  refine Met.ofW (cc := cX5_isAt) (maxL := 3) (ret := (some .boolean)) (by decide) rfl ?_
  intro p e s m args below meth c s₁ B hml hv
  obtain ⟨rfl, hsz, hP, hK, hD0, hN⟩ := hv
  have hx := B.exec
  have hb := B.bytes
  have hr := B.returns
  have hts := atoms_spec (ws := wsX5_isAt) B.pre
  have hown : s.vm.findClass RX5 = some m.cls := findClass_of_methodNamed B.named
  have hlocks := B.notSynchronized
  have hinX5 : ∀ w ∈ u_ws RX5 TX5 26, w ∈ wsX5_isAt := by decide +kernel
  subst hsz
  have hD := hD0.self (sz := s.heap.size)
  generalize hAe : (va_A ((W_Model cI a S)) s.heap.size) = A at hD ⊢
  have hA : ∀ q : Nat, s.heap.size ≤ q → A q := fun q h => by rw [← hAe]; exact Or.inr h
  have hS : va_S A s.heap s.heap [] := va_S.rf
  have hl := lv_entry ([.ref (a 0), .int v1, .int v2]) (n := 3) (Nat.le_of_ble_eq_true rfl)
  rw [lg_entry_eq]
  generalize (lg_sl ([.ref (a 0), .int v1, .int v2]) ++ List.replicate (3 - (lg_sl ([.ref (a 0), .int v1, .int v2])).length) Slot.unset).toArray = ls at hl ⊢
  have hl : lv_has ls 3 [(0, .ref (a 0)), (1, .int v1), (2, .int v2)] := hl
  have KE : ∀ (H : Heap) (locs : List Loc), va_P (dC, dI) vwCl ((W_Model cI a S)) H → va_D A ((W_Model cI a S)) → va_S A s.heap H locs → W p l e (headSpec wsX5_isAt ({ frames := 1, cells := 0, slots := 0, locals := 22 } : Room)).room s m ([.ref (a 0), .int v1, .int v2] : List Value).toArray below meth c H locs 0 0 (MQ below (va_Qi (fun (r' : Int32) (_ : Unit) => b2i rr = r') (fun _ : Unit => jB (dC, dI) [(cI, .int)] A ((W_Model cI a S))) A) ([.ref (a 0), .int v1, .int v2] : List Value).toArray s 0 0 A) (F0 m 0 ls []) := by
    intro H locs hP hD hS
    unfold F_X5_isAt at hF
    refine lv_aload_n hx hb dX5_isAt_0 rfl (lv_at hl 0 rfl) ?_
    refine wg_at (v := .int (g_Model_at S)) hx hb hts hinX5 hown hK hP rfl (hts (Cond.fieldLink RX5 68 "LearnedShapesModel" "at" "I") (List.mem_of_getElem? (i := 1) rfl)) dX5_isAt_1 ?_
    refine lv_aload_n hx hb dX5_isAt_4 rfl (lv_at hl 0 rfl) ?_
    refine wg_typed (v := .int (g_Model_typed S)) hx hb hts hinX5 hown hK hP rfl (hts (Cond.fieldLink RX5 71 "LearnedShapesModel" "typed" "I") (List.mem_of_getElem? (i := 2) rfl)) dX5_isAt_5 ?_
    refine lv_icmp_ge (tgt := 32) hx hb dX5_isAt_8 (by decide) (fun c1 => ?_) (fun c1 => ?_)
    · have hF := F_pos c1 hF
      refine lv_iconst (v := (0 : Int32)) hx hb dX5_isAt_32 (by decide) ?_
      have e50 := Option.some.inj hF
      subst e50
      exact W.zret (v := (0 : Int32)) hx hb hr (rfl) (fun t ht hW => ⟨⟨(0 : Int32), (), rfl, rfl, by rw [ht]; exact hP, va_K.moved hW.alike hK, hD⟩, hS.F ht⟩) hS.2.2 dX5_isAt_33
    · have hF := F_neg c1 hF
      refine lv_aload_n hx hb dX5_isAt_11 rfl (lv_at hl 0 rfl) ?_
      refine wg_text (v := .ref (a 3)) hx hb hts hinX5 hown hK hP rfl (hts (Cond.fieldLink RX5 16 "LearnedShapesModel" "text" "[I") (List.mem_of_getElem? (i := 3) rfl)) dX5_isAt_12 ?_
      refine lv_aload_n hx hb dX5_isAt_15 rfl (lv_at hl 0 rfl) ?_
      refine wg_at (v := .int (g_Model_at S)) hx hb hts hinX5 hown hK hP rfl (hts (Cond.fieldLink RX5 68 "LearnedShapesModel" "at" "I") (List.mem_of_getElem? (i := 1) rfl)) dX5_isAt_16 ?_
      obtain ⟨g2, hF⟩ := og_some hF
      refine wl_text (f := (g_Model_text S)) hx hb hK hP rfl (inb_in g2) dX5_isAt_19 ?_
      refine lv_iload_n hx hb dX5_isAt_20 rfl (lv_at hl 1 rfl) ?_
      refine lv_iload_n hx hb dX5_isAt_21 rfl (lv_at hl 2 rfl) ?_
      obtain ⟨r3, h4, hF⟩ := ob1_some hF
      have hPc : va_P (dC, dI) vwCl ([] : va_W) H := fun k q h => by simp at h
      have hDc : va_D A ([] : va_W) := ⟨fun i j p q h => by simp at h, fun k q h => by simp at h⟩
      have hFc := jFreeW (ws := []) hDc hS hA
      refine va_calli (va_runS (As := [.int ((g_Model_text S) (g_Model_at S).toNatClampNeg), .int v1, .int v2]) (rest := []) ⟨hx, hb, hml, hown, hts⟩ (c_X5_in l dC dI cI  H.size _ _ _ _ h4) (va_cwS 3 hts gX5_isAt_X5_in rfl rfl rfl (by decide +kernel) ⟨Nat.le_of_ble_eq_true rfl, Nat.le_of_ble_eq_true rfl⟩) (jPreS hK hPc hDc hN) rfl rfl hl.1 rfl (lv_room (Nat.le_of_ble_eq_true rfl)) dX5_isAt_22 ⟨Nat.le_of_ble_eq_true rfl, Nat.le_of_ble_eq_true rfl⟩) hS (fun q _ h => hFc q h) hFc (fun r' u' t H locs ht hvm hw hB hz1 hk1 hS => ?_)
      subst hw
      obtain ⟨hP1, -, hD1⟩ := hB
      rw [ht] at hP1
      have hP : va_P (dC, dI) vwCl ((W_Model cI a S)) H := jNone hP hk1
      refine lv_if_eq (tgt := 32) hx hb dX5_isAt_25 (by decide) (fun c5 => ?_) (fun c5 => ?_)
      · have hF := F_pos c5 hF
        refine lv_iconst (v := (0 : Int32)) hx hb dX5_isAt_32 (by decide) ?_
        have e50 := Option.some.inj hF
        subst e50
        exact W.zret (v := (0 : Int32)) hx hb hr (rfl) (fun t ht hW => ⟨⟨(0 : Int32), (), rfl, rfl, by rw [ht]; exact hP, va_K.moved hW.alike hK, hD⟩, hS.F ht⟩) hS.2.2 dX5_isAt_33
      · have hF := F_neg c5 hF
        refine lv_iconst (v := (1 : Int32)) hx hb dX5_isAt_28 (by decide) ?_
        refine lv_goto (tgt := 33) hx hb dX5_isAt_29 (by decide) ?_
        have e50 := Option.some.inj hF
        subst e50
        exact W.zret (v := (1 : Int32)) hx hb hr (rfl) (fun t ht hW => ⟨⟨(1 : Int32), (), rfl, rfl, by rw [ht]; exact hP, va_K.moved hW.alike hK, hD⟩, hS.F ht⟩) hS.2.2 dX5_isAt_33
  exact KE _ _ hP hD hS
set_option maxHeartbeats 4000000 in
set_option maxRecDepth 100000 in
theorem c_X5_stops (l : Launch) (dC : Nat → ClassId) (dI : Nat → Nat → Nat) (cI : ClassId) (a : Nat → Nat) (sz : Nat) (S : S_Model)  (rr : Bool) (Y : S_Model) (hF : F_X5_stops S  = some (rr, Y)) : Met l yX5_stops wsX5_stops ({ frames := 0, cells := 0, slots := 0, locals := 0 } : Room) (va_Pc [.ref (a 0)] (jPre (dC, dI) [(cI, .int)] sz ((W_Model cI a S)))) (va_Qi (fun (r' : Int32) (u : S_Model) => b2i rr = r' ∧ Y = u) (fun u : S_Model => jB (dC, dI) [(cI, .int)] (va_A ((W_Model cI a S)) sz) ((W_Model cI a u))) (va_A ((W_Model cI a S)) sz)) 0 0 (va_A ((W_Model cI a S)) sz) := by
  refine Met.ofW (cc := cX5_stops) (maxL := 1) (ret := (some .boolean)) (by decide) rfl ?_
  intro p e s m args below meth c s₁ B hml hv
  obtain ⟨rfl, hsz, hP, hK, hD0, hN⟩ := hv
  have hx := B.exec
  have hb := B.bytes
  have hr := B.returns
  have hts := atoms_spec (ws := wsX5_stops) B.pre
  have hown : s.vm.findClass RX5 = some m.cls := findClass_of_methodNamed B.named
  have hlocks := B.notSynchronized
  have hinX5 : ∀ w ∈ u_ws RX5 TX5 26, w ∈ wsX5_stops := by decide +kernel
  subst hsz
  have hD := hD0.self (sz := s.heap.size)
  generalize hAe : (va_A ((W_Model cI a S)) s.heap.size) = A at hD ⊢
  have hA : ∀ q : Nat, s.heap.size ≤ q → A q := fun q h => by rw [← hAe]; exact Or.inr h
  have hS : va_S A s.heap s.heap [] := va_S.rf
  have hl := lv_entry ([.ref (a 0)]) (n := 1) (Nat.le_of_ble_eq_true rfl)
  rw [lg_entry_eq]
  generalize (lg_sl ([.ref (a 0)]) ++ List.replicate (1 - (lg_sl ([.ref (a 0)])).length) Slot.unset).toArray = ls at hl ⊢
  have hl : lv_has ls 1 [(0, .ref (a 0))] := hl
  have KE : ∀ (H : Heap) (locs : List Loc), va_P (dC, dI) vwCl ((W_Model cI a S)) H → va_D A ((W_Model cI a S)) → va_S A s.heap H locs → W p l e (headSpec wsX5_stops ({ frames := 0, cells := 0, slots := 0, locals := 0 } : Room)).room s m ([.ref (a 0)] : List Value).toArray below meth c H locs 0 0 (MQ below (va_Qi (fun (r' : Int32) (u : S_Model) => b2i rr = r' ∧ Y = u) (fun u : S_Model => jB (dC, dI) [(cI, .int)] A ((W_Model cI a u))) A) ([.ref (a 0)] : List Value).toArray s 0 0 A) (F0 m 0 ls []) := by
    intro H locs hP hD hS
    unfold F_X5_stops at hF
    refine lv_aload_n hx hb dX5_stops_0 rfl (lv_at hl 0 rfl) ?_
    refine lv_aload_n hx hb dX5_stops_1 rfl (lv_at hl 0 rfl) ?_
    refine wg_at (v := .int (g_Model_at S)) hx hb hts hinX5 hown hK hP rfl (hts (Cond.fieldLink RX5 68 "LearnedShapesModel" "at" "I") (List.mem_of_getElem? (i := 1) rfl)) dX5_stops_2 ?_
    refine lv_aload_n hx hb dX5_stops_5 rfl (lv_at hl 0 rfl) ?_
    refine wg_typed (v := .int (g_Model_typed S)) hx hb hts hinX5 hown hK hP rfl (hts (Cond.fieldLink RX5 71 "LearnedShapesModel" "typed" "I") (List.mem_of_getElem? (i := 2) rfl)) dX5_stops_6 ?_
    refine lv_icmp_ge (tgt := 16) hx hb dX5_stops_9 (by decide) (fun c1 => ?_) (fun c1 => ?_)
    · have hF := F_pos c1 hF
      refine lv_iconst (v := (0 : Int32)) hx hb dX5_stops_16 (by decide) ?_
      refine wp_isFault (v := (0 : Int32)) hx hb hts hinX5 hown hK hP hD hS (hts (Cond.fieldLink RX5 74 "LearnedShapesModel" "isFault" "Z") (List.mem_of_getElem? (i := 3) rfl)) (rfl) (rfl) dX5_stops_17 (fun H locs hP hD hS => ?_)
      refine lv_iconst (v := (0 : Int32)) hx hb dX5_stops_20 (by decide) ?_
      have e50 := Option.some.inj hF
      obtain ⟨e60, e51⟩ := Prod.mk.inj e50
      subst e60
      subst e51
      exact W.zret (v := (0 : Int32)) hx hb hr (rfl) (fun t ht hW => ⟨⟨(0 : Int32), (s_Model_isFault S (0 : Int32)), rfl, ⟨rfl, rfl⟩, by rw [ht]; exact hP, va_K.moved hW.alike hK, hD⟩, hS.F ht⟩) hS.2.2 dX5_stops_21
    · have hF := F_neg c1 hF
      refine lv_iconst (v := (1 : Int32)) hx hb dX5_stops_12 (by decide) ?_
      refine lv_goto (tgt := 17) hx hb dX5_stops_13 (by decide) ?_
      refine wp_isFault (v := (1 : Int32)) hx hb hts hinX5 hown hK hP hD hS (hts (Cond.fieldLink RX5 74 "LearnedShapesModel" "isFault" "Z") (List.mem_of_getElem? (i := 3) rfl)) (rfl) (rfl) dX5_stops_17 (fun H locs hP hD hS => ?_)
      refine lv_iconst (v := (0 : Int32)) hx hb dX5_stops_20 (by decide) ?_
      have e50 := Option.some.inj hF
      obtain ⟨e60, e51⟩ := Prod.mk.inj e50
      subst e60
      subst e51
      exact W.zret (v := (0 : Int32)) hx hb hr (rfl) (fun t ht hW => ⟨⟨(0 : Int32), (s_Model_isFault S (1 : Int32)), rfl, ⟨rfl, rfl⟩, by rw [ht]; exact hP, va_K.moved hW.alike hK, hD⟩, hS.F ht⟩) hS.2.2 dX5_stops_21
  exact KE _ _ hP hD hS
set_option maxHeartbeats 4000000 in
set_option maxRecDepth 100000 in
theorem c_X5_isSign (l : Launch) (dC : Nat → ClassId) (dI : Nat → Nat → Nat) (cI : ClassId) (a : Nat → Nat) (sz : Nat) (S : S_Model) (v1 : Int32) (rr : Bool) (Y : S_Model) (hF : F_X5_isSign S v1 = some (rr, Y)) : Met l yX5_isSign wsX5_isSign ({ frames := 2, cells := 0, slots := 0, locals := 44 } : Room) (va_Pc [.ref (a 0), .int v1] (jPre (dC, dI) [(cI, .int)] sz ((W_Model cI a S)))) (va_Qi (fun (r' : Int32) (u : S_Model) => b2i rr = r' ∧ Y = u) (fun u : S_Model => jB (dC, dI) [(cI, .int)] (va_A ((W_Model cI a S)) sz) ((W_Model cI a u))) (va_A ((W_Model cI a S)) sz)) 0 0 (va_A ((W_Model cI a S)) sz) := by
  refine Met.ofW (cc := cX5_isSign) (maxL := 3) (ret := (some .boolean)) (by decide) rfl ?_
  intro p e s m args below meth c s₁ B hml hv
  obtain ⟨rfl, hsz, hP, hK, hD0, hN⟩ := hv
  have hx := B.exec
  have hb := B.bytes
  have hr := B.returns
  have hts := atoms_spec (ws := wsX5_isSign) B.pre
  have hown : s.vm.findClass RX5 = some m.cls := findClass_of_methodNamed B.named
  have hlocks := B.notSynchronized
  have hinX5 : ∀ w ∈ u_ws RX5 TX5 26, w ∈ wsX5_isSign := by decide +kernel
  subst hsz
  have hD := hD0.self (sz := s.heap.size)
  generalize hAe : (va_A ((W_Model cI a S)) s.heap.size) = A at hD ⊢
  have hA : ∀ q : Nat, s.heap.size ≤ q → A q := fun q h => by rw [← hAe]; exact Or.inr h
  have hS : va_S A s.heap s.heap [] := va_S.rf
  have hl := lv_entry ([.ref (a 0), .int v1]) (n := 3) (Nat.le_of_ble_eq_true rfl)
  rw [lg_entry_eq]
  generalize (lg_sl ([.ref (a 0), .int v1]) ++ List.replicate (3 - (lg_sl ([.ref (a 0), .int v1])).length) Slot.unset).toArray = ls at hl ⊢
  have hl : lv_has ls 3 [(0, .ref (a 0)), (1, .int v1)] := hl
  have KE : ∀ (H : Heap) (locs : List Loc), va_P (dC, dI) vwCl ((W_Model cI a S)) H → va_D A ((W_Model cI a S)) → va_S A s.heap H locs → W p l e (headSpec wsX5_isSign ({ frames := 2, cells := 0, slots := 0, locals := 44 } : Room)).room s m ([.ref (a 0), .int v1] : List Value).toArray below meth c H locs 0 0 (MQ below (va_Qi (fun (r' : Int32) (u : S_Model) => b2i rr = r' ∧ Y = u) (fun u : S_Model => jB (dC, dI) [(cI, .int)] A ((W_Model cI a u))) A) ([.ref (a 0), .int v1] : List Value).toArray s 0 0 A) (F0 m 0 ls []) := by
    intro H locs hP hD hS
    unfold F_X5_isSign at hF
    refine lv_aload_n hx hb dX5_isSign_0 rfl (lv_at hl 0 rfl) ?_
    refine lv_iload_n hx hb dX5_isSign_1 rfl (lv_at hl 1 rfl) ?_
    refine lv_iload_n hx hb dX5_isSign_2 rfl (lv_at hl 1 rfl) ?_
    obtain ⟨r1, h2, hF⟩ := ob1_some hF
    have hPc : va_P (dC, dI) vwCl ((W_Model cI a S)) H := hP
    have hDc : va_D A ((W_Model cI a S)) := hD
    have hFc := jFreeW (ws := (W_Model cI a S)) hD hS hA
    refine va_calli (va_runV (As := [.int v1, .int v1]) (rest := []) ⟨hx, hb, hml, hown, hts⟩ (c_X5_isAt l dC dI cI a H.size _ _ _ _ h2) (cwV 2 hts gX5_isSign_X5_isAt rfl rfl rfl (by decide +kernel) ⟨Nat.le_of_ble_eq_true rfl, Nat.le_of_ble_eq_true rfl⟩) (jPreV hK hPc hDc hN (ci := 5) rfl rfl) rfl rfl hl.1 rfl (lv_room (Nat.le_of_ble_eq_true rfl)) dX5_isSign_3 ⟨Nat.le_of_ble_eq_true rfl, Nat.le_of_ble_eq_true rfl⟩) hS (fun q _ h => hFc q h) hFc (fun r' u' t H locs ht hvm hw hB hz1 hk1 hS => ?_)
    subst hw
    obtain ⟨hP1, -, hD1⟩ := hB
    rw [ht] at hP1
    have hP : va_P (dC, dI) vwCl ((W_Model cI a S)) H := hP1
    have hD : va_D A ((W_Model cI a S)) := hD1.weaken (fun _ _ _ h => hFc _ h)
    refine lv_istore_n (lv' := [(2, .int (b2i r1)), (0, .ref (a 0)), (1, .int v1)]) hx hb dX5_isSign_6 rfl hl (by decide) rfl (fun ls hl => ?_)
    refine lv_aload_n hx hb dX5_isSign_7 rfl (lv_at hl 1 rfl) ?_
    refine lv_dup hx hb dX5_isSign_8 rfl ?_
    refine wg_at (v := .int (g_Model_at S)) hx hb hts hinX5 hown hK hP rfl (hts (Cond.fieldLink RX5 68 "LearnedShapesModel" "at" "I") (List.mem_of_getElem? (i := 1) rfl)) dX5_isSign_9 ?_
    refine lv_iload_n hx hb dX5_isSign_12 rfl (lv_at hl 0 rfl) ?_
    refine lv_if_eq (tgt := 20) hx hb dX5_isSign_13 (by decide) (fun c3 => ?_) (fun c3 => ?_)
    · have hF := F_pos c3 hF
      refine lv_iconst (v := (0 : Int32)) hx hb dX5_isSign_20 (by decide) ?_
      refine lv_iadd hx hb dX5_isSign_21 ?_
      refine wp_at (v := ((g_Model_at S) + (0 : Int32))) hx hb hts hinX5 hown hK hP hD hS (hts (Cond.fieldLink RX5 68 "LearnedShapesModel" "at" "I") (List.mem_of_getElem? (i := 1) rfl)) (rfl) (rfl) dX5_isSign_22 (fun H locs hP hD hS => ?_)
      refine lv_iload_n hx hb dX5_isSign_25 rfl (lv_at hl 0 rfl) ?_
      have e50 := Option.some.inj hF
      obtain ⟨e60, e51⟩ := Prod.mk.inj e50
      subst e60
      subst e51
      exact W.zret (v := (b2i r1)) hx hb hr (nb2i _) (fun t ht hW => ⟨⟨(b2i r1), (s_Model_at S ((g_Model_at S) + (0 : Int32))), rfl, ⟨rfl, rfl⟩, by rw [ht]; exact hP, va_K.moved hW.alike hK, hD⟩, hS.F ht⟩) hS.2.2 dX5_isSign_26
    · have hF := F_neg c3 hF
      refine lv_iconst (v := (1 : Int32)) hx hb dX5_isSign_16 (by decide) ?_
      refine lv_goto (tgt := 21) hx hb dX5_isSign_17 (by decide) ?_
      refine lv_iadd hx hb dX5_isSign_21 ?_
      refine wp_at (v := ((g_Model_at S) + (1 : Int32))) hx hb hts hinX5 hown hK hP hD hS (hts (Cond.fieldLink RX5 68 "LearnedShapesModel" "at" "I") (List.mem_of_getElem? (i := 1) rfl)) (rfl) (rfl) dX5_isSign_22 (fun H locs hP hD hS => ?_)
      refine lv_iload_n hx hb dX5_isSign_25 rfl (lv_at hl 0 rfl) ?_
      have e50 := Option.some.inj hF
      obtain ⟨e60, e51⟩ := Prod.mk.inj e50
      subst e60
      subst e51
      exact W.zret (v := (b2i r1)) hx hb hr (nb2i _) (fun t ht hW => ⟨⟨(b2i r1), (s_Model_at S ((g_Model_at S) + (1 : Int32))), rfl, ⟨rfl, rfl⟩, by rw [ht]; exact hP, va_K.moved hW.alike hK, hD⟩, hS.F ht⟩) hS.2.2 dX5_isSign_26
  exact KE _ _ hP hD hS
set_option maxHeartbeats 4000000 in
set_option maxRecDepth 100000 in
theorem c_X5_comes (l : Launch) (dC : Nat → ClassId) (dI : Nat → Nat → Nat) (cI : ClassId) (a : Nat → Nat) (sz : Nat) (S : S_Model) (v1 : Int32) (v2 : Int32) (v3 : Int32) (Y : S_Model) (hF : F_X5_comes S v1 v2 v3 = some Y) : Met l yX5_comes wsX5_comes ({ frames := 0, cells := 0, slots := 0, locals := 0 } : Room) (va_Pc [.ref (a 0), .int v1, .int v2, .int v3] (jPre (dC, dI) [(cI, .int)] sz ((W_Model cI a S)))) (va_Qv (fun u : S_Model => Y = u) (fun u : S_Model => jB (dC, dI) [(cI, .int)] (va_A ((W_Model cI a S)) sz) ((W_Model cI a u))) (va_A ((W_Model cI a S)) sz)) 0 0 (va_A ((W_Model cI a S)) sz) := by
  refine Met.ofW (cc := cX5_comes) (maxL := 4) (ret := none) (by decide) rfl ?_
  intro p e s m args below meth c s₁ B hml hv
  obtain ⟨rfl, hsz, hP, hK, hD0, hN⟩ := hv
  have hx := B.exec
  have hb := B.bytes
  have hr := B.returns
  have hts := atoms_spec (ws := wsX5_comes) B.pre
  have hown : s.vm.findClass RX5 = some m.cls := findClass_of_methodNamed B.named
  have hlocks := B.notSynchronized
  have hinX5 : ∀ w ∈ u_ws RX5 TX5 26, w ∈ wsX5_comes := by decide +kernel
  subst hsz
  have hD := hD0.self (sz := s.heap.size)
  generalize hAe : (va_A ((W_Model cI a S)) s.heap.size) = A at hD ⊢
  have hA : ∀ q : Nat, s.heap.size ≤ q → A q := fun q h => by rw [← hAe]; exact Or.inr h
  have hS : va_S A s.heap s.heap [] := va_S.rf
  have hl := lv_entry ([.ref (a 0), .int v1, .int v2, .int v3]) (n := 4) (Nat.le_of_ble_eq_true rfl)
  rw [lg_entry_eq]
  generalize (lg_sl ([.ref (a 0), .int v1, .int v2, .int v3]) ++ List.replicate (4 - (lg_sl ([.ref (a 0), .int v1, .int v2, .int v3])).length) Slot.unset).toArray = ls at hl ⊢
  have hl : lv_has ls 4 [(0, .ref (a 0)), (1, .int v1), (2, .int v2), (3, .int v3)] := hl
  have K40 : ∀ (S : S_Model) (t1 : Int32) (t2 : Int32) (H : Heap) (locs : List Loc), F_X5_comes_40 v2 v3 S t1 t2 = some Y → va_P (dC, dI) vwCl ((W_Model cI a S)) H → va_D A ((W_Model cI a S)) → va_S A s.heap H locs → ∀ ls : Array Slot, lv_has ls 4 [(0, .ref (a 0)), (2, .int v2), (3, .int v3)] → W p l e (headSpec wsX5_comes ({ frames := 0, cells := 0, slots := 0, locals := 0 } : Room)).room s m ([.ref (a 0), .int v1, .int v2, .int v3] : List Value).toArray below meth c H locs 0 0 (MQ below (va_Qv (fun u : S_Model => Y = u) (fun u : S_Model => jB (dC, dI) [(cI, .int)] A ((W_Model cI a u))) A) ([.ref (a 0), .int v1, .int v2, .int v3] : List Value).toArray s 0 0 A) (F0 m 40 ls [.int t2, .int t1, .ref (a 5)]) := by
    intro S t1 t2 H locs hF hP hD hS ls hl
    unfold F_X5_comes_40 at hF
    obtain ⟨g1, hF⟩ := og_some hF
    refine ws_above (f := (g_Model_above S)) hx hb hK hP hD hS rfl (inb_in g1) dX5_comes_40 (fun H locs hP hD hS => ?_)
    refine lv_aload_n hx hb dX5_comes_41 rfl (lv_at hl 0 rfl) ?_
    refine wg_letters (v := .ref (a 6)) hx hb hts hinX5 hown hK hP rfl (hts (Cond.fieldLink RX5 25 "LearnedShapesModel" "letters" "[I") (List.mem_of_getElem? (i := 6) rfl)) dX5_comes_42 ?_
    refine lv_aload_n hx hb dX5_comes_45 rfl (lv_at hl 0 rfl) ?_
    refine wg_valued (v := .int (g_Model_valued S)) hx hb hts hinX5 hown hK hP rfl (hts (Cond.fieldLink RX5 82 "LearnedShapesModel" "valued" "I") (List.mem_of_getElem? (i := 2) rfl)) dX5_comes_46 ?_
    refine lv_iload_n hx hb dX5_comes_49 rfl (lv_at hl 1 rfl) ?_
    obtain ⟨g2, hF⟩ := og_some hF
    refine ws_letters (f := (g_Model_letters S)) hx hb hK hP hD hS rfl (inb_in g2) dX5_comes_50 (fun H locs hP hD hS => ?_)
    refine lv_aload_n hx hb dX5_comes_51 rfl (lv_at hl 0 rfl) ?_
    refine wg_begins (v := .ref (a 7)) hx hb hts hinX5 hown hK hP rfl (hts (Cond.fieldLink RX5 28 "LearnedShapesModel" "begins" "[I") (List.mem_of_getElem? (i := 7) rfl)) dX5_comes_52 ?_
    refine lv_aload_n hx hb dX5_comes_55 rfl (lv_at hl 0 rfl) ?_
    refine wg_valued (v := .int (g_Model_valued S)) hx hb hts hinX5 hown hK hP rfl (hts (Cond.fieldLink RX5 82 "LearnedShapesModel" "valued" "I") (List.mem_of_getElem? (i := 2) rfl)) dX5_comes_56 ?_
    refine lv_iload_n hx hb dX5_comes_59 rfl (lv_at hl 2 rfl) ?_
    obtain ⟨g3, hF⟩ := og_some hF
    refine ws_begins (f := (g_Model_begins S)) hx hb hK hP hD hS rfl (inb_in g3) dX5_comes_60 (fun H locs hP hD hS => ?_)
    refine lv_aload_n hx hb dX5_comes_61 rfl (lv_at hl 0 rfl) ?_
    refine wg_used (v := .ref (a 9)) hx hb hts hinX5 hown hK hP rfl (hts (Cond.fieldLink RX5 34 "LearnedShapesModel" "used" "[I") (List.mem_of_getElem? (i := 8) rfl)) dX5_comes_62 ?_
    refine lv_aload_n hx hb dX5_comes_65 rfl (lv_at hl 0 rfl) ?_
    refine wg_valued (v := .int (g_Model_valued S)) hx hb hts hinX5 hown hK hP rfl (hts (Cond.fieldLink RX5 82 "LearnedShapesModel" "valued" "I") (List.mem_of_getElem? (i := 2) rfl)) dX5_comes_66 ?_
    refine lv_iconst (v := (0 : Int32)) hx hb dX5_comes_69 (by decide) ?_
    obtain ⟨g4, hF⟩ := og_some hF
    refine ws_used (f := (g_Model_used S)) hx hb hK hP hD hS rfl (inb_in g4) dX5_comes_70 (fun H locs hP hD hS => ?_)
    refine lv_aload_n hx hb dX5_comes_71 rfl (lv_at hl 0 rfl) ?_
    refine lv_dup hx hb dX5_comes_72 rfl ?_
    refine wg_valued (v := .int (g_Model_valued S)) hx hb hts hinX5 hown hK hP rfl (hts (Cond.fieldLink RX5 82 "LearnedShapesModel" "valued" "I") (List.mem_of_getElem? (i := 2) rfl)) dX5_comes_73 ?_
    refine lv_iconst (v := (1 : Int32)) hx hb dX5_comes_76 (by decide) ?_
    refine lv_iadd hx hb dX5_comes_77 ?_
    refine wp_valued (v := ((g_Model_valued S) + (1 : Int32))) hx hb hts hinX5 hown hK hP hD hS (hts (Cond.fieldLink RX5 82 "LearnedShapesModel" "valued" "I") (List.mem_of_getElem? (i := 2) rfl)) (rfl) (rfl) dX5_comes_78 (fun H locs hP hD hS => ?_)
    have e50 := Option.some.inj hF
    subst e50
    exact W.vret hx hb hr (fun t ht hW => ⟨⟨(s_Model_valued (s_Model_used (s_Model_begins (s_Model_letters (s_Model_above S (upd (g_Model_above S) t1.toNatClampNeg t2)) (upd (g_Model_letters S) (g_Model_valued S).toNatClampNeg v2)) (upd (g_Model_begins S) (g_Model_valued S).toNatClampNeg v3)) (upd (g_Model_used S) (g_Model_valued S).toNatClampNeg (0 : Int32))) ((g_Model_valued S) + (1 : Int32))), rfl, rfl, by rw [ht]; exact hP, va_K.moved hW.alike hK, hD⟩, hS.F ht⟩) hS.2.2 dX5_comes_81
  have KE : ∀ (H : Heap) (locs : List Loc), va_P (dC, dI) vwCl ((W_Model cI a S)) H → va_D A ((W_Model cI a S)) → va_S A s.heap H locs → W p l e (headSpec wsX5_comes ({ frames := 0, cells := 0, slots := 0, locals := 0 } : Room)).room s m ([.ref (a 0), .int v1, .int v2, .int v3] : List Value).toArray below meth c H locs 0 0 (MQ below (va_Qv (fun u : S_Model => Y = u) (fun u : S_Model => jB (dC, dI) [(cI, .int)] A ((W_Model cI a u))) A) ([.ref (a 0), .int v1, .int v2, .int v3] : List Value).toArray s 0 0 A) (F0 m 0 ls []) := by
    intro H locs hP hD hS
    unfold F_X5_comes at hF
    refine lv_aload_n hx hb dX5_comes_0 rfl (lv_at hl 0 rfl) ?_
    refine wg_kinds (v := .ref (a 4)) hx hb hts hinX5 hown hK hP rfl (hts (Cond.fieldLink RX5 19 "LearnedShapesModel" "kinds" "[I") (List.mem_of_getElem? (i := 1) rfl)) dX5_comes_1 ?_
    refine lv_aload_n hx hb dX5_comes_4 rfl (lv_at hl 0 rfl) ?_
    refine wg_valued (v := .int (g_Model_valued S)) hx hb hts hinX5 hown hK hP rfl (hts (Cond.fieldLink RX5 82 "LearnedShapesModel" "valued" "I") (List.mem_of_getElem? (i := 2) rfl)) dX5_comes_5 ?_
    refine lv_iload_n hx hb dX5_comes_8 rfl (lv_at hl 1 rfl) ?_
    obtain ⟨g5, hF⟩ := og_some hF
    refine ws_kinds (f := (g_Model_kinds S)) hx hb hK hP hD hS rfl (inb_in g5) dX5_comes_9 (fun H locs hP hD hS => ?_)
    refine lv_aload_n hx hb dX5_comes_10 rfl (lv_at hl 0 rfl) ?_
    refine wg_above (v := .ref (a 5)) hx hb hts hinX5 hown hK hP rfl (hts (Cond.fieldLink RX5 22 "LearnedShapesModel" "above" "[I") (List.mem_of_getElem? (i := 3) rfl)) dX5_comes_11 ?_
    refine lv_aload_n hx hb dX5_comes_14 rfl (lv_at hl 0 rfl) ?_
    refine wg_valued (v := .int (g_Model_valued S)) hx hb hts hinX5 hown hK hP rfl (hts (Cond.fieldLink RX5 82 "LearnedShapesModel" "valued" "I") (List.mem_of_getElem? (i := 2) rfl)) dX5_comes_15 ?_
    refine lv_aload_n hx hb dX5_comes_18 rfl (lv_at hl 0 rfl) ?_
    refine wg_deep (v := .int (g_Model_deep S)) hx hb hts hinX5 hown hK hP rfl (hts (Cond.fieldLink RX5 85 "LearnedShapesModel" "deep" "I") (List.mem_of_getElem? (i := 4) rfl)) dX5_comes_19 ?_
    refine lv_if_ne (tgt := 29) hx hb dX5_comes_22 (by decide) (fun c6 => ?_) (fun c6 => ?_)
    · have hF := F_neg c6 hF
      refine lv_aload_n hx hb dX5_comes_29 rfl (lv_at hl 0 rfl) ?_
      refine wg_open (v := .ref (a 10)) hx hb hts hinX5 hown hK hP rfl (hts (Cond.fieldLink RX5 37 "LearnedShapesModel" "open" "[I") (List.mem_of_getElem? (i := 5) rfl)) dX5_comes_30 ?_
      refine lv_aload_n hx hb dX5_comes_33 rfl (lv_at hl 0 rfl) ?_
      refine wg_deep (v := .int (g_Model_deep S)) hx hb hts hinX5 hown hK hP rfl (hts (Cond.fieldLink RX5 85 "LearnedShapesModel" "deep" "I") (List.mem_of_getElem? (i := 4) rfl)) dX5_comes_34 ?_
      refine lv_iconst (v := (1 : Int32)) hx hb dX5_comes_37 (by decide) ?_
      refine lv_isub hx hb dX5_comes_38 ?_
      obtain ⟨g7, hF⟩ := og_some hF
      refine wl_open (f := (g_Model_open S)) hx hb hK hP rfl (inb_in g7) dX5_comes_39 ?_
      exact K40 _ _ _ _ _ hF hP hD hS _ (lv_sub hl [0, 2, 3] rfl)
    · have hF := F_pos c6 hF
      refine lv_iconst (v := (-1 : Int32)) hx hb dX5_comes_25 (by decide) ?_
      refine lv_goto (tgt := 40) hx hb dX5_comes_26 (by decide) ?_
      exact K40 _ _ _ _ _ hF hP hD hS _ (lv_sub hl [0, 2, 3] rfl)
  exact KE _ _ hP hD hS
set_option maxHeartbeats 4000000 in
set_option maxRecDepth 100000 in
theorem c_X5_isNumber (l : Launch) (dC : Nat → ClassId) (dI : Nat → Nat → Nat) (cI : ClassId) (a : Nat → Nat) (sz : Nat) (S : S_Model) (v1 : Int32) (rr : Bool) (Y : S_Model) (hF : F_X5_isNumber S v1 = some (rr, Y)) : Met l yX5_isNumber wsX5_isNumber ({ frames := 3, cells := 0, slots := 0, locals := 66 } : Room) (va_Pc [.ref (a 0), .int v1] (jPre (dC, dI) [(cI, .int)] sz ((W_Model cI a S)))) (va_Qi (fun (r' : Int32) (u : S_Model) => b2i rr = r' ∧ Y = u) (fun u : S_Model => jB (dC, dI) [(cI, .int)] (va_A ((W_Model cI a S)) sz) ((W_Model cI a u))) (va_A ((W_Model cI a S)) sz)) 0 0 (va_A ((W_Model cI a S)) sz) := by
  refine Met.ofW (cc := cX5_isNumber) (maxL := 6) (ret := (some .boolean)) (by decide) rfl ?_
  intro p e s m args below meth c s₁ B hml hv
  obtain ⟨rfl, hsz, hP, hK, hD0, hN⟩ := hv
  have hx := B.exec
  have hb := B.bytes
  have hr := B.returns
  have hts := atoms_spec (ws := wsX5_isNumber) B.pre
  have hown : s.vm.findClass RX5 = some m.cls := findClass_of_methodNamed B.named
  have hlocks := B.notSynchronized
  have hinX5 : ∀ w ∈ u_ws RX5 TX5 26, w ∈ wsX5_isNumber := by decide +kernel
  subst hsz
  have hD := hD0.self (sz := s.heap.size)
  generalize hAe : (va_A ((W_Model cI a S)) s.heap.size) = A at hD ⊢
  have hA : ∀ q : Nat, s.heap.size ≤ q → A q := fun q h => by rw [← hAe]; exact Or.inr h
  have hS : va_S A s.heap s.heap [] := va_S.rf
  have hl := lv_entry ([.ref (a 0), .int v1]) (n := 6) (Nat.le_of_ble_eq_true rfl)
  rw [lg_entry_eq]
  generalize (lg_sl ([.ref (a 0), .int v1]) ++ List.replicate (6 - (lg_sl ([.ref (a 0), .int v1])).length) Slot.unset).toArray = ls at hl ⊢
  have hl : lv_has ls 6 [(0, .ref (a 0)), (1, .int v1)] := hl
  have K114 : ∀ (S : S_Model) (x2 : Int32) (H : Heap) (locs : List Loc), F_X5_isNumber_114 v1 S x2 = some (rr, Y) → va_P (dC, dI) vwCl ((W_Model cI a S)) H → va_D A ((W_Model cI a S)) → va_S A s.heap H locs → ∀ ls : Array Slot, lv_has ls 6 [(0, .ref (a 0)), (1, .int v1), (2, .int x2)] → W p l e (headSpec wsX5_isNumber ({ frames := 3, cells := 0, slots := 0, locals := 66 } : Room)).room s m ([.ref (a 0), .int v1] : List Value).toArray below meth c H locs 0 0 (MQ below (va_Qi (fun (r' : Int32) (u : S_Model) => b2i rr = r' ∧ Y = u) (fun u : S_Model => jB (dC, dI) [(cI, .int)] A ((W_Model cI a u))) A) ([.ref (a 0), .int v1] : List Value).toArray s 0 0 A) (F0 m 114 ls []) := by
    intro S x2 H locs hF hP hD hS ls hl
    unfold F_X5_isNumber_114 at hF
    refine lv_aload_n hx hb dX5_isNumber_114 rfl (lv_at hl 0 rfl) ?_
    refine lv_bipush (v := (46 : Int32)) hx hb dX5_isNumber_115 (by decide) ?_
    obtain ⟨r1, u2, h3, hF⟩ := ob2_some hF
    have hPc : va_P (dC, dI) vwCl ((W_Model cI a S)) H := hP
    have hDc : va_D A ((W_Model cI a S)) := hD
    have hFc := jFreeW (ws := (W_Model cI a S)) hD hS hA
    refine va_calli (va_runV (As := [.int (46 : Int32)]) (rest := []) ⟨hx, hb, hml, hown, hts⟩ (c_X5_isSign l dC dI cI a H.size _ _ _ _ h3) (cwV 1 hts gX5_isNumber_X5_isSign rfl rfl rfl (by decide +kernel) ⟨Nat.le_of_ble_eq_true rfl, Nat.le_of_ble_eq_true rfl⟩) (jPreV hK hPc hDc hN (ci := 5) rfl rfl) rfl rfl hl.1 rfl (lv_room (Nat.le_of_ble_eq_true rfl)) dX5_isNumber_117 ⟨Nat.le_of_ble_eq_true rfl, Nat.le_of_ble_eq_true rfl⟩) hS (fun q _ h => hFc q h) hFc (fun r' u' t H locs ht hvm hw hB hz1 hk1 hS => ?_)
    obtain ⟨e1, e2⟩ := hw
    subst e1
    subst e2
    obtain ⟨hP1, -, hD1⟩ := hB
    rw [ht] at hP1
    have hP : va_P (dC, dI) vwCl ((W_Model cI a u2)) H := hP1
    have hD : va_D A ((W_Model cI a u2)) := hD1.weaken (fun _ _ _ h => hFc _ h)
    refine lv_istore (lv' := [(5, .int (b2i r1)), (0, .ref (a 0)), (1, .int v1), (2, .int x2)]) hx hb dX5_isNumber_120 hl (by decide) rfl (fun ls hl => ?_)
    refine lv_iload hx hb dX5_isNumber_122 (lv_at hl 0 rfl) ?_
    refine lv_if_eq (tgt := 178) hx hb dX5_isNumber_124 (by decide) (fun c4 => ?_) (fun c4 => ?_)
    · have hF := F_pos c4 hF
      refine lv_aload_n hx hb dX5_isNumber_178 rfl (lv_at hl 1 rfl) ?_
      refine lv_iload hx hb dX5_isNumber_179 (lv_at hl 0 rfl) ?_
      refine lv_if_eq (tgt := 188) hx hb dX5_isNumber_181 (by decide) (fun c5 => ?_) (fun c5 => ?_)
      · have hF := F_pos c5 hF
        refine lv_iconst (v := (2 : Int32)) hx hb dX5_isNumber_188 (by decide) ?_
        refine lv_iload_n hx hb dX5_isNumber_189 rfl (lv_at hl 2 rfl) ?_
        refine lv_iload_n hx hb dX5_isNumber_190 rfl (lv_at hl 3 rfl) ?_
        obtain ⟨u6, h7, hF⟩ := ob1_some hF
        have hPc : va_P (dC, dI) vwCl ((W_Model cI a u2)) H := hP
        have hDc : va_D A ((W_Model cI a u2)) := hD
        have hFc := jFreeW (ws := (W_Model cI a u2)) hD hS hA
        refine va_callv (va_runV (As := [.int (2 : Int32), .int v1, .int x2]) (rest := []) ⟨hx, hb, hml, hown, hts⟩ (c_X5_comes l dC dI cI a H.size _ _ _ _ _ h7) (cwV 3 hts gX5_isNumber_X5_comes rfl rfl rfl (by decide +kernel) ⟨Nat.le_of_ble_eq_true rfl, Nat.le_of_ble_eq_true rfl⟩) (jPreV hK hPc hDc hN (ci := 5) rfl rfl) rfl rfl hl.1 rfl (lv_room (Nat.le_of_ble_eq_true rfl)) dX5_isNumber_191 ⟨Nat.le_of_ble_eq_true rfl, Nat.le_of_ble_eq_true rfl⟩) hS (fun q _ h => hFc q h) hFc (fun u' t H locs ht hvm hw hB hz1 hk1 hS => ?_)
        subst hw
        obtain ⟨hP1, -, hD1⟩ := hB
        rw [ht] at hP1
        have hP : va_P (dC, dI) vwCl ((W_Model cI a u6)) H := hP1
        have hD : va_D A ((W_Model cI a u6)) := hD1.weaken (fun _ _ _ h => hFc _ h)
        refine lv_iconst (v := (1 : Int32)) hx hb dX5_isNumber_194 (by decide) ?_
        have e50 := Option.some.inj hF
        obtain ⟨e60, e51⟩ := Prod.mk.inj e50
        subst e60
        subst e51
        exact W.zret (v := (1 : Int32)) hx hb hr (rfl) (fun t ht hW => ⟨⟨(1 : Int32), u6, rfl, ⟨rfl, rfl⟩, by rw [ht]; exact hP, va_K.moved hW.alike hK, hD⟩, hS.F ht⟩) hS.2.2 dX5_isNumber_195
      · have hF := F_neg c5 hF
        refine lv_iconst (v := (3 : Int32)) hx hb dX5_isNumber_184 (by decide) ?_
        refine lv_goto (tgt := 189) hx hb dX5_isNumber_185 (by decide) ?_
        refine lv_iload_n hx hb dX5_isNumber_189 rfl (lv_at hl 2 rfl) ?_
        refine lv_iload_n hx hb dX5_isNumber_190 rfl (lv_at hl 3 rfl) ?_
        obtain ⟨u8, h9, hF⟩ := ob1_some hF
        have hPc : va_P (dC, dI) vwCl ((W_Model cI a u2)) H := hP
        have hDc : va_D A ((W_Model cI a u2)) := hD
        have hFc := jFreeW (ws := (W_Model cI a u2)) hD hS hA
        refine va_callv (va_runV (As := [.int (3 : Int32), .int v1, .int x2]) (rest := []) ⟨hx, hb, hml, hown, hts⟩ (c_X5_comes l dC dI cI a H.size _ _ _ _ _ h9) (cwV 3 hts gX5_isNumber_X5_comes rfl rfl rfl (by decide +kernel) ⟨Nat.le_of_ble_eq_true rfl, Nat.le_of_ble_eq_true rfl⟩) (jPreV hK hPc hDc hN (ci := 5) rfl rfl) rfl rfl hl.1 rfl (lv_room (Nat.le_of_ble_eq_true rfl)) dX5_isNumber_191 ⟨Nat.le_of_ble_eq_true rfl, Nat.le_of_ble_eq_true rfl⟩) hS (fun q _ h => hFc q h) hFc (fun u' t H locs ht hvm hw hB hz1 hk1 hS => ?_)
        subst hw
        obtain ⟨hP1, -, hD1⟩ := hB
        rw [ht] at hP1
        have hP : va_P (dC, dI) vwCl ((W_Model cI a u8)) H := hP1
        have hD : va_D A ((W_Model cI a u8)) := hD1.weaken (fun _ _ _ h => hFc _ h)
        refine lv_iconst (v := (1 : Int32)) hx hb dX5_isNumber_194 (by decide) ?_
        have e50 := Option.some.inj hF
        obtain ⟨e60, e51⟩ := Prod.mk.inj e50
        subst e60
        subst e51
        exact W.zret (v := (1 : Int32)) hx hb hr (rfl) (fun t ht hW => ⟨⟨(1 : Int32), u8, rfl, ⟨rfl, rfl⟩, by rw [ht]; exact hP, va_K.moved hW.alike hK, hD⟩, hS.F ht⟩) hS.2.2 dX5_isNumber_195
    · have hF := F_neg c4 hF
      refine lv_aload_n hx hb dX5_isNumber_127 rfl (lv_at hl 1 rfl) ?_
      refine lv_bipush (v := (48 : Int32)) hx hb dX5_isNumber_128 (by decide) ?_
      refine lv_bipush (v := (57 : Int32)) hx hb dX5_isNumber_130 (by decide) ?_
      obtain ⟨r10, h11, hF⟩ := ob1_some hF
      have hPc : va_P (dC, dI) vwCl ((W_Model cI a u2)) H := hP
      have hDc : va_D A ((W_Model cI a u2)) := hD
      have hFc := jFreeW (ws := (W_Model cI a u2)) hD hS hA
      refine va_calli (va_runV (As := [.int (48 : Int32), .int (57 : Int32)]) (rest := []) ⟨hx, hb, hml, hown, hts⟩ (c_X5_isAt l dC dI cI a H.size _ _ _ _ h11) (cwV 2 hts gX5_isNumber_X5_isAt rfl rfl rfl (by decide +kernel) ⟨Nat.le_of_ble_eq_true rfl, Nat.le_of_ble_eq_true rfl⟩) (jPreV hK hPc hDc hN (ci := 5) rfl rfl) rfl rfl hl.1 rfl (lv_room (Nat.le_of_ble_eq_true rfl)) dX5_isNumber_132 ⟨Nat.le_of_ble_eq_true rfl, Nat.le_of_ble_eq_true rfl⟩) hS (fun q _ h => hFc q h) hFc (fun r' u' t H locs ht hvm hw hB hz1 hk1 hS => ?_)
      subst hw
      obtain ⟨hP1, -, hD1⟩ := hB
      rw [ht] at hP1
      have hP : va_P (dC, dI) vwCl ((W_Model cI a u2)) H := hP1
      have hD : va_D A ((W_Model cI a u2)) := hD1.weaken (fun _ _ _ h => hFc _ h)
      refine lv_if_ne (tgt := 143) hx hb dX5_isNumber_135 (by decide) (fun c12 => ?_) (fun c12 => ?_)
      · have hF := F_neg c12 hF
        refine lv_aload_n hx hb dX5_isNumber_143 rfl (lv_at hl 1 rfl) ?_
        refine lv_dup hx hb dX5_isNumber_144 rfl ?_
        refine wg_at (v := .int (g_Model_at u2)) hx hb hts hinX5 hown hK hP rfl (hts (Cond.fieldLink RX5 68 "LearnedShapesModel" "at" "I") (List.mem_of_getElem? (i := 1) rfl)) dX5_isNumber_145 ?_
        refine lv_iconst (v := (1 : Int32)) hx hb dX5_isNumber_148 (by decide) ?_
        refine lv_iadd hx hb dX5_isNumber_149 ?_
        refine wp_at (v := ((g_Model_at u2) + (1 : Int32))) hx hb hts hinX5 hown hK hP hD hS (hts (Cond.fieldLink RX5 68 "LearnedShapesModel" "at" "I") (List.mem_of_getElem? (i := 1) rfl)) (rfl) (rfl) dX5_isNumber_150 (fun H locs hP hD hS => ?_)
        refine lv_aload_n hx hb dX5_isNumber_153 rfl (lv_at hl 1 rfl) ?_
        refine lv_dup hx hb dX5_isNumber_154 rfl ?_
        refine wg_at (v := .int ((g_Model_at u2) + (1 : Int32))) hx hb hts hinX5 hown hK hP rfl (hts (Cond.fieldLink RX5 68 "LearnedShapesModel" "at" "I") (List.mem_of_getElem? (i := 1) rfl)) dX5_isNumber_155 ?_
        refine lv_aload_n hx hb dX5_isNumber_158 rfl (lv_at hl 1 rfl) ?_
        refine lv_bipush (v := (48 : Int32)) hx hb dX5_isNumber_159 (by decide) ?_
        refine lv_bipush (v := (57 : Int32)) hx hb dX5_isNumber_161 (by decide) ?_
        obtain ⟨r13, h14, hF⟩ := ob1_some hF
        have hPc : va_P (dC, dI) vwCl ((W_Model cI a (s_Model_at u2 ((g_Model_at u2) + (1 : Int32))))) H := hP
        have hDc : va_D A ((W_Model cI a (s_Model_at u2 ((g_Model_at u2) + (1 : Int32))))) := hD
        have hFc := jFreeW (ws := (W_Model cI a (s_Model_at u2 ((g_Model_at u2) + (1 : Int32))))) hD hS hA
        refine va_calli (va_runV (As := [.int (48 : Int32), .int (57 : Int32)]) (rest := [.int ((g_Model_at u2) + (1 : Int32)), .ref (a 0)]) ⟨hx, hb, hml, hown, hts⟩ (c_X5_isAt l dC dI cI a H.size _ _ _ _ h14) (cwV 2 hts gX5_isNumber_X5_isAt rfl rfl rfl (by decide +kernel) ⟨Nat.le_of_ble_eq_true rfl, Nat.le_of_ble_eq_true rfl⟩) (jPreV hK hPc hDc hN (ci := 5) rfl rfl) rfl rfl hl.1 rfl (lv_room (Nat.le_of_ble_eq_true rfl)) dX5_isNumber_163 ⟨Nat.le_of_ble_eq_true rfl, Nat.le_of_ble_eq_true rfl⟩) hS (fun q _ h => hFc q h) hFc (fun r' u' t H locs ht hvm hw hB hz1 hk1 hS => ?_)
        subst hw
        obtain ⟨hP1, -, hD1⟩ := hB
        rw [ht] at hP1
        have hP : va_P (dC, dI) vwCl ((W_Model cI a (s_Model_at u2 ((g_Model_at u2) + (1 : Int32))))) H := hP1
        have hD : va_D A ((W_Model cI a (s_Model_at u2 ((g_Model_at u2) + (1 : Int32))))) := hD1.weaken (fun _ _ _ h => hFc _ h)
        refine lv_if_eq (tgt := 173) hx hb dX5_isNumber_166 (by decide) (fun c15 => ?_) (fun c15 => ?_)
        · have hF := F_pos c15 hF
          refine lv_iconst (v := (0 : Int32)) hx hb dX5_isNumber_173 (by decide) ?_
          refine lv_iadd hx hb dX5_isNumber_174 ?_
          refine wp_at (v := (((g_Model_at u2) + (1 : Int32)) + (0 : Int32))) hx hb hts hinX5 hown hK hP hD hS (hts (Cond.fieldLink RX5 68 "LearnedShapesModel" "at" "I") (List.mem_of_getElem? (i := 1) rfl)) (rfl) (rfl) dX5_isNumber_175 (fun H locs hP hD hS => ?_)
          have hP : va_P (dC, dI) vwCl ((W_Model cI a (s_Model_at u2 (((g_Model_at u2) + (1 : Int32)) + (0 : Int32))))) H := hP
          have hD : va_D A ((W_Model cI a (s_Model_at u2 (((g_Model_at u2) + (1 : Int32)) + (0 : Int32))))) := hD
          refine lv_aload_n hx hb dX5_isNumber_178 rfl (lv_at hl 1 rfl) ?_
          refine lv_iload hx hb dX5_isNumber_179 (lv_at hl 0 rfl) ?_
          refine lv_if_eq (tgt := 188) hx hb dX5_isNumber_181 (by decide) (fun c16 => ?_) (fun c16 => ?_)
          · have hF := F_pos c16 hF
            refine lv_iconst (v := (2 : Int32)) hx hb dX5_isNumber_188 (by decide) ?_
            refine lv_iload_n hx hb dX5_isNumber_189 rfl (lv_at hl 2 rfl) ?_
            refine lv_iload_n hx hb dX5_isNumber_190 rfl (lv_at hl 3 rfl) ?_
            obtain ⟨u17, h18, hF⟩ := ob1_some hF
            have hPc : va_P (dC, dI) vwCl ((W_Model cI a (s_Model_at u2 (((g_Model_at u2) + (1 : Int32)) + (0 : Int32))))) H := hP
            have hDc : va_D A ((W_Model cI a (s_Model_at u2 (((g_Model_at u2) + (1 : Int32)) + (0 : Int32))))) := hD
            have hFc := jFreeW (ws := (W_Model cI a (s_Model_at u2 (((g_Model_at u2) + (1 : Int32)) + (0 : Int32))))) hD hS hA
            refine va_callv (va_runV (As := [.int (2 : Int32), .int v1, .int x2]) (rest := []) ⟨hx, hb, hml, hown, hts⟩ (c_X5_comes l dC dI cI a H.size _ _ _ _ _ h18) (cwV 3 hts gX5_isNumber_X5_comes rfl rfl rfl (by decide +kernel) ⟨Nat.le_of_ble_eq_true rfl, Nat.le_of_ble_eq_true rfl⟩) (jPreV hK hPc hDc hN (ci := 5) rfl rfl) rfl rfl hl.1 rfl (lv_room (Nat.le_of_ble_eq_true rfl)) dX5_isNumber_191 ⟨Nat.le_of_ble_eq_true rfl, Nat.le_of_ble_eq_true rfl⟩) hS (fun q _ h => hFc q h) hFc (fun u' t H locs ht hvm hw hB hz1 hk1 hS => ?_)
            subst hw
            obtain ⟨hP1, -, hD1⟩ := hB
            rw [ht] at hP1
            have hP : va_P (dC, dI) vwCl ((W_Model cI a u17)) H := hP1
            have hD : va_D A ((W_Model cI a u17)) := hD1.weaken (fun _ _ _ h => hFc _ h)
            refine lv_iconst (v := (1 : Int32)) hx hb dX5_isNumber_194 (by decide) ?_
            have e50 := Option.some.inj hF
            obtain ⟨e60, e51⟩ := Prod.mk.inj e50
            subst e60
            subst e51
            exact W.zret (v := (1 : Int32)) hx hb hr (rfl) (fun t ht hW => ⟨⟨(1 : Int32), u17, rfl, ⟨rfl, rfl⟩, by rw [ht]; exact hP, va_K.moved hW.alike hK, hD⟩, hS.F ht⟩) hS.2.2 dX5_isNumber_195
          · have hF := F_neg c16 hF
            refine lv_iconst (v := (3 : Int32)) hx hb dX5_isNumber_184 (by decide) ?_
            refine lv_goto (tgt := 189) hx hb dX5_isNumber_185 (by decide) ?_
            refine lv_iload_n hx hb dX5_isNumber_189 rfl (lv_at hl 2 rfl) ?_
            refine lv_iload_n hx hb dX5_isNumber_190 rfl (lv_at hl 3 rfl) ?_
            obtain ⟨u19, h20, hF⟩ := ob1_some hF
            have hPc : va_P (dC, dI) vwCl ((W_Model cI a (s_Model_at u2 (((g_Model_at u2) + (1 : Int32)) + (0 : Int32))))) H := hP
            have hDc : va_D A ((W_Model cI a (s_Model_at u2 (((g_Model_at u2) + (1 : Int32)) + (0 : Int32))))) := hD
            have hFc := jFreeW (ws := (W_Model cI a (s_Model_at u2 (((g_Model_at u2) + (1 : Int32)) + (0 : Int32))))) hD hS hA
            refine va_callv (va_runV (As := [.int (3 : Int32), .int v1, .int x2]) (rest := []) ⟨hx, hb, hml, hown, hts⟩ (c_X5_comes l dC dI cI a H.size _ _ _ _ _ h20) (cwV 3 hts gX5_isNumber_X5_comes rfl rfl rfl (by decide +kernel) ⟨Nat.le_of_ble_eq_true rfl, Nat.le_of_ble_eq_true rfl⟩) (jPreV hK hPc hDc hN (ci := 5) rfl rfl) rfl rfl hl.1 rfl (lv_room (Nat.le_of_ble_eq_true rfl)) dX5_isNumber_191 ⟨Nat.le_of_ble_eq_true rfl, Nat.le_of_ble_eq_true rfl⟩) hS (fun q _ h => hFc q h) hFc (fun u' t H locs ht hvm hw hB hz1 hk1 hS => ?_)
            subst hw
            obtain ⟨hP1, -, hD1⟩ := hB
            rw [ht] at hP1
            have hP : va_P (dC, dI) vwCl ((W_Model cI a u19)) H := hP1
            have hD : va_D A ((W_Model cI a u19)) := hD1.weaken (fun _ _ _ h => hFc _ h)
            refine lv_iconst (v := (1 : Int32)) hx hb dX5_isNumber_194 (by decide) ?_
            have e50 := Option.some.inj hF
            obtain ⟨e60, e51⟩ := Prod.mk.inj e50
            subst e60
            subst e51
            exact W.zret (v := (1 : Int32)) hx hb hr (rfl) (fun t ht hW => ⟨⟨(1 : Int32), u19, rfl, ⟨rfl, rfl⟩, by rw [ht]; exact hP, va_K.moved hW.alike hK, hD⟩, hS.F ht⟩) hS.2.2 dX5_isNumber_195
        · have hF := F_neg c15 hF
          refine lv_iconst (v := (1 : Int32)) hx hb dX5_isNumber_169 (by decide) ?_
          refine lv_goto (tgt := 174) hx hb dX5_isNumber_170 (by decide) ?_
          refine lv_iadd hx hb dX5_isNumber_174 ?_
          refine wp_at (v := (((g_Model_at u2) + (1 : Int32)) + (1 : Int32))) hx hb hts hinX5 hown hK hP hD hS (hts (Cond.fieldLink RX5 68 "LearnedShapesModel" "at" "I") (List.mem_of_getElem? (i := 1) rfl)) (rfl) (rfl) dX5_isNumber_175 (fun H locs hP hD hS => ?_)
          have hP : va_P (dC, dI) vwCl ((W_Model cI a (s_Model_at u2 (((g_Model_at u2) + (1 : Int32)) + (1 : Int32))))) H := hP
          have hD : va_D A ((W_Model cI a (s_Model_at u2 (((g_Model_at u2) + (1 : Int32)) + (1 : Int32))))) := hD
          refine lv_aload_n hx hb dX5_isNumber_178 rfl (lv_at hl 1 rfl) ?_
          refine lv_iload hx hb dX5_isNumber_179 (lv_at hl 0 rfl) ?_
          refine lv_if_eq (tgt := 188) hx hb dX5_isNumber_181 (by decide) (fun c21 => ?_) (fun c21 => ?_)
          · have hF := F_pos c21 hF
            refine lv_iconst (v := (2 : Int32)) hx hb dX5_isNumber_188 (by decide) ?_
            refine lv_iload_n hx hb dX5_isNumber_189 rfl (lv_at hl 2 rfl) ?_
            refine lv_iload_n hx hb dX5_isNumber_190 rfl (lv_at hl 3 rfl) ?_
            obtain ⟨u22, h23, hF⟩ := ob1_some hF
            have hPc : va_P (dC, dI) vwCl ((W_Model cI a (s_Model_at u2 (((g_Model_at u2) + (1 : Int32)) + (1 : Int32))))) H := hP
            have hDc : va_D A ((W_Model cI a (s_Model_at u2 (((g_Model_at u2) + (1 : Int32)) + (1 : Int32))))) := hD
            have hFc := jFreeW (ws := (W_Model cI a (s_Model_at u2 (((g_Model_at u2) + (1 : Int32)) + (1 : Int32))))) hD hS hA
            refine va_callv (va_runV (As := [.int (2 : Int32), .int v1, .int x2]) (rest := []) ⟨hx, hb, hml, hown, hts⟩ (c_X5_comes l dC dI cI a H.size _ _ _ _ _ h23) (cwV 3 hts gX5_isNumber_X5_comes rfl rfl rfl (by decide +kernel) ⟨Nat.le_of_ble_eq_true rfl, Nat.le_of_ble_eq_true rfl⟩) (jPreV hK hPc hDc hN (ci := 5) rfl rfl) rfl rfl hl.1 rfl (lv_room (Nat.le_of_ble_eq_true rfl)) dX5_isNumber_191 ⟨Nat.le_of_ble_eq_true rfl, Nat.le_of_ble_eq_true rfl⟩) hS (fun q _ h => hFc q h) hFc (fun u' t H locs ht hvm hw hB hz1 hk1 hS => ?_)
            subst hw
            obtain ⟨hP1, -, hD1⟩ := hB
            rw [ht] at hP1
            have hP : va_P (dC, dI) vwCl ((W_Model cI a u22)) H := hP1
            have hD : va_D A ((W_Model cI a u22)) := hD1.weaken (fun _ _ _ h => hFc _ h)
            refine lv_iconst (v := (1 : Int32)) hx hb dX5_isNumber_194 (by decide) ?_
            have e50 := Option.some.inj hF
            obtain ⟨e60, e51⟩ := Prod.mk.inj e50
            subst e60
            subst e51
            exact W.zret (v := (1 : Int32)) hx hb hr (rfl) (fun t ht hW => ⟨⟨(1 : Int32), u22, rfl, ⟨rfl, rfl⟩, by rw [ht]; exact hP, va_K.moved hW.alike hK, hD⟩, hS.F ht⟩) hS.2.2 dX5_isNumber_195
          · have hF := F_neg c21 hF
            refine lv_iconst (v := (3 : Int32)) hx hb dX5_isNumber_184 (by decide) ?_
            refine lv_goto (tgt := 189) hx hb dX5_isNumber_185 (by decide) ?_
            refine lv_iload_n hx hb dX5_isNumber_189 rfl (lv_at hl 2 rfl) ?_
            refine lv_iload_n hx hb dX5_isNumber_190 rfl (lv_at hl 3 rfl) ?_
            obtain ⟨u24, h25, hF⟩ := ob1_some hF
            have hPc : va_P (dC, dI) vwCl ((W_Model cI a (s_Model_at u2 (((g_Model_at u2) + (1 : Int32)) + (1 : Int32))))) H := hP
            have hDc : va_D A ((W_Model cI a (s_Model_at u2 (((g_Model_at u2) + (1 : Int32)) + (1 : Int32))))) := hD
            have hFc := jFreeW (ws := (W_Model cI a (s_Model_at u2 (((g_Model_at u2) + (1 : Int32)) + (1 : Int32))))) hD hS hA
            refine va_callv (va_runV (As := [.int (3 : Int32), .int v1, .int x2]) (rest := []) ⟨hx, hb, hml, hown, hts⟩ (c_X5_comes l dC dI cI a H.size _ _ _ _ _ h25) (cwV 3 hts gX5_isNumber_X5_comes rfl rfl rfl (by decide +kernel) ⟨Nat.le_of_ble_eq_true rfl, Nat.le_of_ble_eq_true rfl⟩) (jPreV hK hPc hDc hN (ci := 5) rfl rfl) rfl rfl hl.1 rfl (lv_room (Nat.le_of_ble_eq_true rfl)) dX5_isNumber_191 ⟨Nat.le_of_ble_eq_true rfl, Nat.le_of_ble_eq_true rfl⟩) hS (fun q _ h => hFc q h) hFc (fun u' t H locs ht hvm hw hB hz1 hk1 hS => ?_)
            subst hw
            obtain ⟨hP1, -, hD1⟩ := hB
            rw [ht] at hP1
            have hP : va_P (dC, dI) vwCl ((W_Model cI a u24)) H := hP1
            have hD : va_D A ((W_Model cI a u24)) := hD1.weaken (fun _ _ _ h => hFc _ h)
            refine lv_iconst (v := (1 : Int32)) hx hb dX5_isNumber_194 (by decide) ?_
            have e50 := Option.some.inj hF
            obtain ⟨e60, e51⟩ := Prod.mk.inj e50
            subst e60
            subst e51
            exact W.zret (v := (1 : Int32)) hx hb hr (rfl) (fun t ht hW => ⟨⟨(1 : Int32), u24, rfl, ⟨rfl, rfl⟩, by rw [ht]; exact hP, va_K.moved hW.alike hK, hD⟩, hS.F ht⟩) hS.2.2 dX5_isNumber_195
      · have hF := F_pos c12 hF
        refine lv_aload_n hx hb dX5_isNumber_138 rfl (lv_at hl 1 rfl) ?_
        obtain ⟨r26, u27, h28, hF⟩ := ob2_some hF
        have hPc : va_P (dC, dI) vwCl ((W_Model cI a u2)) H := hP
        have hDc : va_D A ((W_Model cI a u2)) := hD
        have hFc := jFreeW (ws := (W_Model cI a u2)) hD hS hA
        refine va_calli (va_runV (As := []) (rest := []) ⟨hx, hb, hml, hown, hts⟩ (c_X5_stops l dC dI cI a H.size _ _ _ h28) (cwV 0 hts gX5_isNumber_X5_stops rfl rfl rfl (by decide +kernel) ⟨Nat.le_of_ble_eq_true rfl, Nat.le_of_ble_eq_true rfl⟩) (jPreV hK hPc hDc hN (ci := 5) rfl rfl) rfl rfl hl.1 rfl (lv_room (Nat.le_of_ble_eq_true rfl)) dX5_isNumber_139 ⟨Nat.le_of_ble_eq_true rfl, Nat.le_of_ble_eq_true rfl⟩) hS (fun q _ h => hFc q h) hFc (fun r' u' t H locs ht hvm hw hB hz1 hk1 hS => ?_)
        obtain ⟨e1, e2⟩ := hw
        subst e1
        subst e2
        obtain ⟨hP1, -, hD1⟩ := hB
        rw [ht] at hP1
        have hP : va_P (dC, dI) vwCl ((W_Model cI a u27)) H := hP1
        have hD : va_D A ((W_Model cI a u27)) := hD1.weaken (fun _ _ _ h => hFc _ h)
        have e50 := Option.some.inj hF
        obtain ⟨e60, e51⟩ := Prod.mk.inj e50
        subst e60
        subst e51
        exact W.zret (v := (b2i r26)) hx hb hr (nb2i _) (fun t ht hW => ⟨⟨(b2i r26), u27, rfl, ⟨rfl, rfl⟩, by rw [ht]; exact hP, va_K.moved hW.alike hK, hD⟩, hS.F ht⟩) hS.2.2 dX5_isNumber_142
  have K51 : ∀ (n51 : Nat) (S : S_Model) (x2 : Int32) (x3 : Bool) (x4 : Bool) (x5 : Int32) (H : Heap) (locs : List Loc), F_X5_isNumber_51 v1 n51 S x2 x3 x4 x5 = some (rr, Y) → va_P (dC, dI) vwCl ((W_Model cI a S)) H → va_D A ((W_Model cI a S)) → va_S A s.heap H locs → ∀ ls : Array Slot, lv_has ls 6 [(0, .ref (a 0)), (1, .int v1), (2, .int x2), (3, .int (b2i x3)), (4, .int (b2i x4)), (5, .int x5)] → W p l e (headSpec wsX5_isNumber ({ frames := 3, cells := 0, slots := 0, locals := 66 } : Room)).room s m ([.ref (a 0), .int v1] : List Value).toArray below meth c H locs 0 0 (MQ below (va_Qi (fun (r' : Int32) (u : S_Model) => b2i rr = r' ∧ Y = u) (fun u : S_Model => jB (dC, dI) [(cI, .int)] A ((W_Model cI a u))) A) ([.ref (a 0), .int v1] : List Value).toArray s 0 0 A) (F0 m 51 ls []) := by
    intro n51
    induction n51 with
    | zero => intro S x2 x3 x4 x5 H locs hF; exact nomatch hF
    | succ n51 ih51 =>
      intro S x2 x3 x4 x5 H locs hF hP hD hS ls hl
      rw [F_X5_isNumber_51_s] at hF
      refine lv_iload hx hb dX5_isNumber_51 (lv_at hl 5 rfl) ?_
      refine lv_iconst (v := (4 : Int32)) hx hb dX5_isNumber_53 (by decide) ?_
      refine lv_icmp_ge (tgt := 89) hx hb dX5_isNumber_54 (by decide) (fun c29 => ?_) (fun c29 => ?_)
      · have hF := F_pos c29 hF
        refine lv_iload hx hb dX5_isNumber_89 (lv_at hl 4 rfl) ?_
        refine lv_if_eq (tgt := 114) hx hb dX5_isNumber_91 (by decide) (fun c30 => ?_) (fun c30 => ?_)
        · have hF := F_pos c30 hF
          exact K114 _ _ _ _ hF hP hD hS _ (lv_sub hl [0, 1, 2] rfl)
        · have hF := F_neg c30 hF
          refine lv_iload_n hx hb dX5_isNumber_94 rfl (lv_at hl 3 rfl) ?_
          refine lv_if_eq (tgt := 114) hx hb dX5_isNumber_95 (by decide) (fun c31 => ?_) (fun c31 => ?_)
          · have hF := F_pos c31 hF
            exact K114 _ _ _ _ hF hP hD hS _ (lv_sub hl [0, 1, 2] rfl)
          · have hF := F_neg c31 hF
            refine lv_aload_n hx hb dX5_isNumber_98 rfl (lv_at hl 0 rfl) ?_
            refine lv_bipush (v := (46 : Int32)) hx hb dX5_isNumber_99 (by decide) ?_
            refine lv_bipush (v := (46 : Int32)) hx hb dX5_isNumber_101 (by decide) ?_
            obtain ⟨r32, h33, hF⟩ := ob1_some hF
            have hPc : va_P (dC, dI) vwCl ((W_Model cI a S)) H := hP
            have hDc : va_D A ((W_Model cI a S)) := hD
            have hFc := jFreeW (ws := (W_Model cI a S)) hD hS hA
            refine va_calli (va_runV (As := [.int (46 : Int32), .int (46 : Int32)]) (rest := []) ⟨hx, hb, hml, hown, hts⟩ (c_X5_isAt l dC dI cI a H.size _ _ _ _ h33) (cwV 2 hts gX5_isNumber_X5_isAt rfl rfl rfl (by decide +kernel) ⟨Nat.le_of_ble_eq_true rfl, Nat.le_of_ble_eq_true rfl⟩) (jPreV hK hPc hDc hN (ci := 5) rfl rfl) rfl rfl hl.1 rfl (lv_room (Nat.le_of_ble_eq_true rfl)) dX5_isNumber_103 ⟨Nat.le_of_ble_eq_true rfl, Nat.le_of_ble_eq_true rfl⟩) hS (fun q _ h => hFc q h) hFc (fun r' u' t H locs ht hvm hw hB hz1 hk1 hS => ?_)
            subst hw
            obtain ⟨hP1, -, hD1⟩ := hB
            rw [ht] at hP1
            have hP : va_P (dC, dI) vwCl ((W_Model cI a S)) H := hP1
            have hD : va_D A ((W_Model cI a S)) := hD1.weaken (fun _ _ _ h => hFc _ h)
            refine lv_if_ne (tgt := 114) hx hb dX5_isNumber_106 (by decide) (fun c34 => ?_) (fun c34 => ?_)
            · have hF := F_neg c34 hF
              exact K114 _ _ _ _ hF hP hD hS _ (lv_sub hl [0, 1, 2] rfl)
            · have hF := F_pos c34 hF
              refine lv_aload_n hx hb dX5_isNumber_109 rfl (lv_at hl 0 rfl) ?_
              obtain ⟨r35, u36, h37, hF⟩ := ob2_some hF
              have hPc : va_P (dC, dI) vwCl ((W_Model cI a S)) H := hP
              have hDc : va_D A ((W_Model cI a S)) := hD
              have hFc := jFreeW (ws := (W_Model cI a S)) hD hS hA
              refine va_calli (va_runV (As := []) (rest := []) ⟨hx, hb, hml, hown, hts⟩ (c_X5_stops l dC dI cI a H.size _ _ _ h37) (cwV 0 hts gX5_isNumber_X5_stops rfl rfl rfl (by decide +kernel) ⟨Nat.le_of_ble_eq_true rfl, Nat.le_of_ble_eq_true rfl⟩) (jPreV hK hPc hDc hN (ci := 5) rfl rfl) rfl rfl hl.1 rfl (lv_room (Nat.le_of_ble_eq_true rfl)) dX5_isNumber_110 ⟨Nat.le_of_ble_eq_true rfl, Nat.le_of_ble_eq_true rfl⟩) hS (fun q _ h => hFc q h) hFc (fun r' u' t H locs ht hvm hw hB hz1 hk1 hS => ?_)
              obtain ⟨e1, e2⟩ := hw
              subst e1
              subst e2
              obtain ⟨hP1, -, hD1⟩ := hB
              rw [ht] at hP1
              have hP : va_P (dC, dI) vwCl ((W_Model cI a u36)) H := hP1
              have hD : va_D A ((W_Model cI a u36)) := hD1.weaken (fun _ _ _ h => hFc _ h)
              have e50 := Option.some.inj hF
              obtain ⟨e60, e51⟩ := Prod.mk.inj e50
              subst e60
              subst e51
              exact W.zret (v := (b2i r35)) hx hb hr (nb2i _) (fun t ht hW => ⟨⟨(b2i r35), u36, rfl, ⟨rfl, rfl⟩, by rw [ht]; exact hP, va_K.moved hW.alike hK, hD⟩, hS.F ht⟩) hS.2.2 dX5_isNumber_113
      · have hF := F_neg c29 hF
        refine lv_iload hx hb dX5_isNumber_57 (lv_at hl 4 rfl) ?_
        refine lv_if_ne (tgt := 89) hx hb dX5_isNumber_59 (by decide) (fun c38 => ?_) (fun c38 => ?_)
        · have hF := F_neg c38 hF
          refine lv_iload hx hb dX5_isNumber_89 (lv_at hl 4 rfl) ?_
          refine lv_if_eq (tgt := 114) hx hb dX5_isNumber_91 (by decide) (fun c39 => ?_) (fun c39 => ?_)
          · have hF := F_pos c39 hF
            exact K114 _ _ _ _ hF hP hD hS _ (lv_sub hl [0, 1, 2] rfl)
          · have hF := F_neg c39 hF
            refine lv_iload_n hx hb dX5_isNumber_94 rfl (lv_at hl 3 rfl) ?_
            refine lv_if_eq (tgt := 114) hx hb dX5_isNumber_95 (by decide) (fun c40 => ?_) (fun c40 => ?_)
            · have hF := F_pos c40 hF
              exact K114 _ _ _ _ hF hP hD hS _ (lv_sub hl [0, 1, 2] rfl)
            · have hF := F_neg c40 hF
              refine lv_aload_n hx hb dX5_isNumber_98 rfl (lv_at hl 0 rfl) ?_
              refine lv_bipush (v := (46 : Int32)) hx hb dX5_isNumber_99 (by decide) ?_
              refine lv_bipush (v := (46 : Int32)) hx hb dX5_isNumber_101 (by decide) ?_
              obtain ⟨r41, h42, hF⟩ := ob1_some hF
              have hPc : va_P (dC, dI) vwCl ((W_Model cI a S)) H := hP
              have hDc : va_D A ((W_Model cI a S)) := hD
              have hFc := jFreeW (ws := (W_Model cI a S)) hD hS hA
              refine va_calli (va_runV (As := [.int (46 : Int32), .int (46 : Int32)]) (rest := []) ⟨hx, hb, hml, hown, hts⟩ (c_X5_isAt l dC dI cI a H.size _ _ _ _ h42) (cwV 2 hts gX5_isNumber_X5_isAt rfl rfl rfl (by decide +kernel) ⟨Nat.le_of_ble_eq_true rfl, Nat.le_of_ble_eq_true rfl⟩) (jPreV hK hPc hDc hN (ci := 5) rfl rfl) rfl rfl hl.1 rfl (lv_room (Nat.le_of_ble_eq_true rfl)) dX5_isNumber_103 ⟨Nat.le_of_ble_eq_true rfl, Nat.le_of_ble_eq_true rfl⟩) hS (fun q _ h => hFc q h) hFc (fun r' u' t H locs ht hvm hw hB hz1 hk1 hS => ?_)
              subst hw
              obtain ⟨hP1, -, hD1⟩ := hB
              rw [ht] at hP1
              have hP : va_P (dC, dI) vwCl ((W_Model cI a S)) H := hP1
              have hD : va_D A ((W_Model cI a S)) := hD1.weaken (fun _ _ _ h => hFc _ h)
              refine lv_if_ne (tgt := 114) hx hb dX5_isNumber_106 (by decide) (fun c43 => ?_) (fun c43 => ?_)
              · have hF := F_neg c43 hF
                exact K114 _ _ _ _ hF hP hD hS _ (lv_sub hl [0, 1, 2] rfl)
              · have hF := F_pos c43 hF
                refine lv_aload_n hx hb dX5_isNumber_109 rfl (lv_at hl 0 rfl) ?_
                obtain ⟨r44, u45, h46, hF⟩ := ob2_some hF
                have hPc : va_P (dC, dI) vwCl ((W_Model cI a S)) H := hP
                have hDc : va_D A ((W_Model cI a S)) := hD
                have hFc := jFreeW (ws := (W_Model cI a S)) hD hS hA
                refine va_calli (va_runV (As := []) (rest := []) ⟨hx, hb, hml, hown, hts⟩ (c_X5_stops l dC dI cI a H.size _ _ _ h46) (cwV 0 hts gX5_isNumber_X5_stops rfl rfl rfl (by decide +kernel) ⟨Nat.le_of_ble_eq_true rfl, Nat.le_of_ble_eq_true rfl⟩) (jPreV hK hPc hDc hN (ci := 5) rfl rfl) rfl rfl hl.1 rfl (lv_room (Nat.le_of_ble_eq_true rfl)) dX5_isNumber_110 ⟨Nat.le_of_ble_eq_true rfl, Nat.le_of_ble_eq_true rfl⟩) hS (fun q _ h => hFc q h) hFc (fun r' u' t H locs ht hvm hw hB hz1 hk1 hS => ?_)
                obtain ⟨e1, e2⟩ := hw
                subst e1
                subst e2
                obtain ⟨hP1, -, hD1⟩ := hB
                rw [ht] at hP1
                have hP : va_P (dC, dI) vwCl ((W_Model cI a u45)) H := hP1
                have hD : va_D A ((W_Model cI a u45)) := hD1.weaken (fun _ _ _ h => hFc _ h)
                have e50 := Option.some.inj hF
                obtain ⟨e60, e51⟩ := Prod.mk.inj e50
                subst e60
                subst e51
                exact W.zret (v := (b2i r44)) hx hb hr (nb2i _) (fun t ht hW => ⟨⟨(b2i r44), u45, rfl, ⟨rfl, rfl⟩, by rw [ht]; exact hP, va_K.moved hW.alike hK, hD⟩, hS.F ht⟩) hS.2.2 dX5_isNumber_113
        · have hF := F_pos c38 hF
          refine lv_aload_n hx hb dX5_isNumber_62 rfl (lv_at hl 0 rfl) ?_
          refine lv_bipush (v := (48 : Int32)) hx hb dX5_isNumber_63 (by decide) ?_
          refine lv_bipush (v := (57 : Int32)) hx hb dX5_isNumber_65 (by decide) ?_
          obtain ⟨r47, h48, hF⟩ := ob1_some hF
          have hPc : va_P (dC, dI) vwCl ((W_Model cI a S)) H := hP
          have hDc : va_D A ((W_Model cI a S)) := hD
          have hFc := jFreeW (ws := (W_Model cI a S)) hD hS hA
          refine va_calli (va_runV (As := [.int (48 : Int32), .int (57 : Int32)]) (rest := []) ⟨hx, hb, hml, hown, hts⟩ (c_X5_isAt l dC dI cI a H.size _ _ _ _ h48) (cwV 2 hts gX5_isNumber_X5_isAt rfl rfl rfl (by decide +kernel) ⟨Nat.le_of_ble_eq_true rfl, Nat.le_of_ble_eq_true rfl⟩) (jPreV hK hPc hDc hN (ci := 5) rfl rfl) rfl rfl hl.1 rfl (lv_room (Nat.le_of_ble_eq_true rfl)) dX5_isNumber_67 ⟨Nat.le_of_ble_eq_true rfl, Nat.le_of_ble_eq_true rfl⟩) hS (fun q _ h => hFc q h) hFc (fun r' u' t H locs ht hvm hw hB hz1 hk1 hS => ?_)
          subst hw
          obtain ⟨hP1, -, hD1⟩ := hB
          rw [ht] at hP1
          have hP : va_P (dC, dI) vwCl ((W_Model cI a S)) H := hP1
          have hD : va_D A ((W_Model cI a S)) := hD1.weaken (fun _ _ _ h => hFc _ h)
          refine lv_if_eq (tgt := 89) hx hb dX5_isNumber_70 (by decide) (fun c49 => ?_) (fun c49 => ?_)
          · have hF := F_pos c49 hF
            refine lv_iload hx hb dX5_isNumber_89 (lv_at hl 4 rfl) ?_
            refine lv_if_eq (tgt := 114) hx hb dX5_isNumber_91 (by decide) (fun c50 => ?_) (fun c50 => ?_)
            · have hF := F_pos c50 hF
              exact K114 _ _ _ _ hF hP hD hS _ (lv_sub hl [0, 1, 2] rfl)
            · have hF := F_neg c50 hF
              refine lv_iload_n hx hb dX5_isNumber_94 rfl (lv_at hl 3 rfl) ?_
              refine lv_if_eq (tgt := 114) hx hb dX5_isNumber_95 (by decide) (fun c51 => ?_) (fun c51 => ?_)
              · have hF := F_pos c51 hF
                exact K114 _ _ _ _ hF hP hD hS _ (lv_sub hl [0, 1, 2] rfl)
              · have hF := F_neg c51 hF
                refine lv_aload_n hx hb dX5_isNumber_98 rfl (lv_at hl 0 rfl) ?_
                refine lv_bipush (v := (46 : Int32)) hx hb dX5_isNumber_99 (by decide) ?_
                refine lv_bipush (v := (46 : Int32)) hx hb dX5_isNumber_101 (by decide) ?_
                obtain ⟨r52, h53, hF⟩ := ob1_some hF
                have hPc : va_P (dC, dI) vwCl ((W_Model cI a S)) H := hP
                have hDc : va_D A ((W_Model cI a S)) := hD
                have hFc := jFreeW (ws := (W_Model cI a S)) hD hS hA
                refine va_calli (va_runV (As := [.int (46 : Int32), .int (46 : Int32)]) (rest := []) ⟨hx, hb, hml, hown, hts⟩ (c_X5_isAt l dC dI cI a H.size _ _ _ _ h53) (cwV 2 hts gX5_isNumber_X5_isAt rfl rfl rfl (by decide +kernel) ⟨Nat.le_of_ble_eq_true rfl, Nat.le_of_ble_eq_true rfl⟩) (jPreV hK hPc hDc hN (ci := 5) rfl rfl) rfl rfl hl.1 rfl (lv_room (Nat.le_of_ble_eq_true rfl)) dX5_isNumber_103 ⟨Nat.le_of_ble_eq_true rfl, Nat.le_of_ble_eq_true rfl⟩) hS (fun q _ h => hFc q h) hFc (fun r' u' t H locs ht hvm hw hB hz1 hk1 hS => ?_)
                subst hw
                obtain ⟨hP1, -, hD1⟩ := hB
                rw [ht] at hP1
                have hP : va_P (dC, dI) vwCl ((W_Model cI a S)) H := hP1
                have hD : va_D A ((W_Model cI a S)) := hD1.weaken (fun _ _ _ h => hFc _ h)
                refine lv_if_ne (tgt := 114) hx hb dX5_isNumber_106 (by decide) (fun c54 => ?_) (fun c54 => ?_)
                · have hF := F_neg c54 hF
                  exact K114 _ _ _ _ hF hP hD hS _ (lv_sub hl [0, 1, 2] rfl)
                · have hF := F_pos c54 hF
                  refine lv_aload_n hx hb dX5_isNumber_109 rfl (lv_at hl 0 rfl) ?_
                  obtain ⟨r55, u56, h57, hF⟩ := ob2_some hF
                  have hPc : va_P (dC, dI) vwCl ((W_Model cI a S)) H := hP
                  have hDc : va_D A ((W_Model cI a S)) := hD
                  have hFc := jFreeW (ws := (W_Model cI a S)) hD hS hA
                  refine va_calli (va_runV (As := []) (rest := []) ⟨hx, hb, hml, hown, hts⟩ (c_X5_stops l dC dI cI a H.size _ _ _ h57) (cwV 0 hts gX5_isNumber_X5_stops rfl rfl rfl (by decide +kernel) ⟨Nat.le_of_ble_eq_true rfl, Nat.le_of_ble_eq_true rfl⟩) (jPreV hK hPc hDc hN (ci := 5) rfl rfl) rfl rfl hl.1 rfl (lv_room (Nat.le_of_ble_eq_true rfl)) dX5_isNumber_110 ⟨Nat.le_of_ble_eq_true rfl, Nat.le_of_ble_eq_true rfl⟩) hS (fun q _ h => hFc q h) hFc (fun r' u' t H locs ht hvm hw hB hz1 hk1 hS => ?_)
                  obtain ⟨e1, e2⟩ := hw
                  subst e1
                  subst e2
                  obtain ⟨hP1, -, hD1⟩ := hB
                  rw [ht] at hP1
                  have hP : va_P (dC, dI) vwCl ((W_Model cI a u56)) H := hP1
                  have hD : va_D A ((W_Model cI a u56)) := hD1.weaken (fun _ _ _ h => hFc _ h)
                  have e50 := Option.some.inj hF
                  obtain ⟨e60, e51⟩ := Prod.mk.inj e50
                  subst e60
                  subst e51
                  exact W.zret (v := (b2i r55)) hx hb hr (nb2i _) (fun t ht hW => ⟨⟨(b2i r55), u56, rfl, ⟨rfl, rfl⟩, by rw [ht]; exact hP, va_K.moved hW.alike hK, hD⟩, hS.F ht⟩) hS.2.2 dX5_isNumber_113
          · have hF := F_neg c49 hF
            refine lv_aload_n hx hb dX5_isNumber_73 rfl (lv_at hl 0 rfl) ?_
            refine lv_dup hx hb dX5_isNumber_74 rfl ?_
            refine wg_at (v := .int (g_Model_at S)) hx hb hts hinX5 hown hK hP rfl (hts (Cond.fieldLink RX5 68 "LearnedShapesModel" "at" "I") (List.mem_of_getElem? (i := 1) rfl)) dX5_isNumber_75 ?_
            refine lv_iconst (v := (1 : Int32)) hx hb dX5_isNumber_78 (by decide) ?_
            refine lv_iadd hx hb dX5_isNumber_79 ?_
            refine wp_at (v := ((g_Model_at S) + (1 : Int32))) hx hb hts hinX5 hown hK hP hD hS (hts (Cond.fieldLink RX5 68 "LearnedShapesModel" "at" "I") (List.mem_of_getElem? (i := 1) rfl)) (rfl) (rfl) dX5_isNumber_80 (fun H locs hP hD hS => ?_)
            refine lv_iinc (v := (x5 + (1 : Int32))) (lv' := [(5, .int (x5 + (1 : Int32))), (0, .ref (a 0)), (1, .int v1), (2, .int x2), (3, .int (b2i x3)), (4, .int (b2i x4))]) hx hb dX5_isNumber_83 hl (k := 5) rfl rfl (by decide) rfl (fun ls hl => ?_)
            refine lv_goto (tgt := 51) hx hb dX5_isNumber_86 (by decide) ?_
            exact ih51 _ _ _ _ _ _ _ hF hP hD hS _ (lv_sub hl [1, 2, 3, 4, 5, 0] rfl)
  have KE : ∀ (H : Heap) (locs : List Loc), va_P (dC, dI) vwCl ((W_Model cI a S)) H → va_D A ((W_Model cI a S)) → va_S A s.heap H locs → W p l e (headSpec wsX5_isNumber ({ frames := 3, cells := 0, slots := 0, locals := 66 } : Room)).room s m ([.ref (a 0), .int v1] : List Value).toArray below meth c H locs 0 0 (MQ below (va_Qi (fun (r' : Int32) (u : S_Model) => b2i rr = r' ∧ Y = u) (fun u : S_Model => jB (dC, dI) [(cI, .int)] A ((W_Model cI a u))) A) ([.ref (a 0), .int v1] : List Value).toArray s 0 0 A) (F0 m 0 ls []) := by
    intro H locs hP hD hS
    unfold F_X5_isNumber at hF
    refine lv_aload_n hx hb dX5_isNumber_0 rfl (lv_at hl 0 rfl) ?_
    refine wg_at (v := .int (g_Model_at S)) hx hb hts hinX5 hown hK hP rfl (hts (Cond.fieldLink RX5 68 "LearnedShapesModel" "at" "I") (List.mem_of_getElem? (i := 1) rfl)) dX5_isNumber_1 ?_
    refine lv_istore_n (lv' := [(2, .int (g_Model_at S)), (0, .ref (a 0)), (1, .int v1)]) hx hb dX5_isNumber_4 rfl hl (by decide) rfl (fun ls hl => ?_)
    refine lv_aload_n hx hb dX5_isNumber_5 rfl (lv_at hl 1 rfl) ?_
    refine lv_bipush (v := (45 : Int32)) hx hb dX5_isNumber_6 (by decide) ?_
    obtain ⟨r58, u59, h60, hF⟩ := ob2_some hF
    have hPc : va_P (dC, dI) vwCl ((W_Model cI a S)) H := hP
    have hDc : va_D A ((W_Model cI a S)) := hD
    have hFc := jFreeW (ws := (W_Model cI a S)) hD hS hA
    refine va_calli (va_runV (As := [.int (45 : Int32)]) (rest := []) ⟨hx, hb, hml, hown, hts⟩ (c_X5_isSign l dC dI cI a H.size _ _ _ _ h60) (cwV 1 hts gX5_isNumber_X5_isSign rfl rfl rfl (by decide +kernel) ⟨Nat.le_of_ble_eq_true rfl, Nat.le_of_ble_eq_true rfl⟩) (jPreV hK hPc hDc hN (ci := 5) rfl rfl) rfl rfl hl.1 rfl (lv_room (Nat.le_of_ble_eq_true rfl)) dX5_isNumber_8 ⟨Nat.le_of_ble_eq_true rfl, Nat.le_of_ble_eq_true rfl⟩) hS (fun q _ h => hFc q h) hFc (fun r' u' t H locs ht hvm hw hB hz1 hk1 hS => ?_)
    obtain ⟨e1, e2⟩ := hw
    subst e1
    subst e2
    obtain ⟨hP1, -, hD1⟩ := hB
    rw [ht] at hP1
    have hP : va_P (dC, dI) vwCl ((W_Model cI a u59)) H := hP1
    have hD : va_D A ((W_Model cI a u59)) := hD1.weaken (fun _ _ _ h => hFc _ h)
    refine lv_istore_n (lv' := [(3, .int (b2i r58)), (2, .int (g_Model_at S)), (0, .ref (a 0)), (1, .int v1)]) hx hb dX5_isNumber_11 rfl hl (by decide) rfl (fun ls hl => ?_)
    refine lv_aload_n hx hb dX5_isNumber_12 rfl (lv_at hl 2 rfl) ?_
    refine lv_bipush (v := (48 : Int32)) hx hb dX5_isNumber_13 (by decide) ?_
    refine lv_bipush (v := (57 : Int32)) hx hb dX5_isNumber_15 (by decide) ?_
    obtain ⟨r61, h62, hF⟩ := ob1_some hF
    have hPc : va_P (dC, dI) vwCl ((W_Model cI a u59)) H := hP
    have hDc : va_D A ((W_Model cI a u59)) := hD
    have hFc := jFreeW (ws := (W_Model cI a u59)) hD hS hA
    refine va_calli (va_runV (As := [.int (48 : Int32), .int (57 : Int32)]) (rest := []) ⟨hx, hb, hml, hown, hts⟩ (c_X5_isAt l dC dI cI a H.size _ _ _ _ h62) (cwV 2 hts gX5_isNumber_X5_isAt rfl rfl rfl (by decide +kernel) ⟨Nat.le_of_ble_eq_true rfl, Nat.le_of_ble_eq_true rfl⟩) (jPreV hK hPc hDc hN (ci := 5) rfl rfl) rfl rfl hl.1 rfl (lv_room (Nat.le_of_ble_eq_true rfl)) dX5_isNumber_17 ⟨Nat.le_of_ble_eq_true rfl, Nat.le_of_ble_eq_true rfl⟩) hS (fun q _ h => hFc q h) hFc (fun r' u' t H locs ht hvm hw hB hz1 hk1 hS => ?_)
    subst hw
    obtain ⟨hP1, -, hD1⟩ := hB
    rw [ht] at hP1
    have hP : va_P (dC, dI) vwCl ((W_Model cI a u59)) H := hP1
    have hD : va_D A ((W_Model cI a u59)) := hD1.weaken (fun _ _ _ h => hFc _ h)
    refine lv_if_ne (tgt := 28) hx hb dX5_isNumber_20 (by decide) (fun c63 => ?_) (fun c63 => ?_)
    · have hF := F_neg c63 hF
      refine lv_aload_n hx hb dX5_isNumber_28 rfl (lv_at hl 2 rfl) ?_
      refine lv_bipush (v := (48 : Int32)) hx hb dX5_isNumber_29 (by decide) ?_
      refine lv_bipush (v := (48 : Int32)) hx hb dX5_isNumber_31 (by decide) ?_
      obtain ⟨r64, h65, hF⟩ := ob1_some hF
      have hPc : va_P (dC, dI) vwCl ((W_Model cI a u59)) H := hP
      have hDc : va_D A ((W_Model cI a u59)) := hD
      have hFc := jFreeW (ws := (W_Model cI a u59)) hD hS hA
      refine va_calli (va_runV (As := [.int (48 : Int32), .int (48 : Int32)]) (rest := []) ⟨hx, hb, hml, hown, hts⟩ (c_X5_isAt l dC dI cI a H.size _ _ _ _ h65) (cwV 2 hts gX5_isNumber_X5_isAt rfl rfl rfl (by decide +kernel) ⟨Nat.le_of_ble_eq_true rfl, Nat.le_of_ble_eq_true rfl⟩) (jPreV hK hPc hDc hN (ci := 5) rfl rfl) rfl rfl hl.1 rfl (lv_room (Nat.le_of_ble_eq_true rfl)) dX5_isNumber_33 ⟨Nat.le_of_ble_eq_true rfl, Nat.le_of_ble_eq_true rfl⟩) hS (fun q _ h => hFc q h) hFc (fun r' u' t H locs ht hvm hw hB hz1 hk1 hS => ?_)
      subst hw
      obtain ⟨hP1, -, hD1⟩ := hB
      rw [ht] at hP1
      have hP : va_P (dC, dI) vwCl ((W_Model cI a u59)) H := hP1
      have hD : va_D A ((W_Model cI a u59)) := hD1.weaken (fun _ _ _ h => hFc _ h)
      refine lv_istore (lv' := [(4, .int (b2i r64)), (3, .int (b2i r58)), (2, .int (g_Model_at S)), (0, .ref (a 0)), (1, .int v1)]) hx hb dX5_isNumber_36 hl (by decide) rfl (fun ls hl => ?_)
      refine lv_aload_n hx hb dX5_isNumber_38 rfl (lv_at hl 3 rfl) ?_
      refine lv_dup hx hb dX5_isNumber_39 rfl ?_
      refine wg_at (v := .int (g_Model_at u59)) hx hb hts hinX5 hown hK hP rfl (hts (Cond.fieldLink RX5 68 "LearnedShapesModel" "at" "I") (List.mem_of_getElem? (i := 1) rfl)) dX5_isNumber_40 ?_
      refine lv_iconst (v := (1 : Int32)) hx hb dX5_isNumber_43 (by decide) ?_
      refine lv_iadd hx hb dX5_isNumber_44 ?_
      refine wp_at (v := ((g_Model_at u59) + (1 : Int32))) hx hb hts hinX5 hown hK hP hD hS (hts (Cond.fieldLink RX5 68 "LearnedShapesModel" "at" "I") (List.mem_of_getElem? (i := 1) rfl)) (rfl) (rfl) dX5_isNumber_45 (fun H locs hP hD hS => ?_)
      refine lv_iconst (v := (1 : Int32)) hx hb dX5_isNumber_48 (by decide) ?_
      refine lv_istore (lv' := [(5, .int (1 : Int32)), (4, .int (b2i r64)), (3, .int (b2i r58)), (2, .int (g_Model_at S)), (0, .ref (a 0)), (1, .int v1)]) hx hb dX5_isNumber_49 hl (by decide) rfl (fun ls hl => ?_)
      exact K51 _ _ _ _ _ _ _ _ hF hP hD hS _ (lv_sub hl [4, 5, 3, 2, 1, 0] rfl)
    · have hF := F_pos c63 hF
      refine lv_aload_n hx hb dX5_isNumber_23 rfl (lv_at hl 2 rfl) ?_
      obtain ⟨r66, u67, h68, hF⟩ := ob2_some hF
      have hPc : va_P (dC, dI) vwCl ((W_Model cI a u59)) H := hP
      have hDc : va_D A ((W_Model cI a u59)) := hD
      have hFc := jFreeW (ws := (W_Model cI a u59)) hD hS hA
      refine va_calli (va_runV (As := []) (rest := []) ⟨hx, hb, hml, hown, hts⟩ (c_X5_stops l dC dI cI a H.size _ _ _ h68) (cwV 0 hts gX5_isNumber_X5_stops rfl rfl rfl (by decide +kernel) ⟨Nat.le_of_ble_eq_true rfl, Nat.le_of_ble_eq_true rfl⟩) (jPreV hK hPc hDc hN (ci := 5) rfl rfl) rfl rfl hl.1 rfl (lv_room (Nat.le_of_ble_eq_true rfl)) dX5_isNumber_24 ⟨Nat.le_of_ble_eq_true rfl, Nat.le_of_ble_eq_true rfl⟩) hS (fun q _ h => hFc q h) hFc (fun r' u' t H locs ht hvm hw hB hz1 hk1 hS => ?_)
      obtain ⟨e1, e2⟩ := hw
      subst e1
      subst e2
      obtain ⟨hP1, -, hD1⟩ := hB
      rw [ht] at hP1
      have hP : va_P (dC, dI) vwCl ((W_Model cI a u67)) H := hP1
      have hD : va_D A ((W_Model cI a u67)) := hD1.weaken (fun _ _ _ h => hFc _ h)
      have e50 := Option.some.inj hF
      obtain ⟨e60, e51⟩ := Prod.mk.inj e50
      subst e60
      subst e51
      exact W.zret (v := (b2i r66)) hx hb hr (nb2i _) (fun t ht hW => ⟨⟨(b2i r66), u67, rfl, ⟨rfl, rfl⟩, by rw [ht]; exact hP, va_K.moved hW.alike hK, hD⟩, hS.F ht⟩) hS.2.2 dX5_isNumber_27
  exact KE _ _ hP hD hS
set_option maxHeartbeats 4000000 in
set_option maxRecDepth 100000 in
theorem c_X5_isWord (l : Launch) (dC : Nat → ClassId) (dI : Nat → Nat → Nat) (cI : ClassId) (a : Nat → Nat) (sz : Nat) (S : S_Model) (v1 : Int32) (rr : Bool) (Y : S_Model) (hF : F_X5_isWord S v1 = some (rr, Y)) : Met l yX5_isWord wsX5_isWord ({ frames := 3, cells := 0, slots := 0, locals := 66 } : Room) (va_Pc [.ref (a 0), .int v1] (jPre (dC, dI) [(cI, .int)] sz ((W_Model cI a S)))) (va_Qi (fun (r' : Int32) (u : S_Model) => b2i rr = r' ∧ Y = u) (fun u : S_Model => jB (dC, dI) [(cI, .int)] (va_A ((W_Model cI a S)) sz) ((W_Model cI a u))) (va_A ((W_Model cI a S)) sz)) 0 0 (va_A ((W_Model cI a S)) sz) := by
  refine Met.ofW (cc := cX5_isWord) (maxL := 4) (ret := (some .boolean)) (by decide) rfl ?_
  intro p e s m args below meth c s₁ B hml hv
  obtain ⟨rfl, hsz, hP, hK, hD0, hN⟩ := hv
  have hx := B.exec
  have hb := B.bytes
  have hr := B.returns
  have hts := atoms_spec (ws := wsX5_isWord) B.pre
  have hown : s.vm.findClass RX5 = some m.cls := findClass_of_methodNamed B.named
  have hlocks := B.notSynchronized
  have hinX5 : ∀ w ∈ u_ws RX5 TX5 26, w ∈ wsX5_isWord := by decide +kernel
  subst hsz
  have hD := hD0.self (sz := s.heap.size)
  generalize hAe : (va_A ((W_Model cI a S)) s.heap.size) = A at hD ⊢
  have hA : ∀ q : Nat, s.heap.size ≤ q → A q := fun q h => by rw [← hAe]; exact Or.inr h
  have hS : va_S A s.heap s.heap [] := va_S.rf
  have hl := lv_entry ([.ref (a 0), .int v1]) (n := 4) (Nat.le_of_ble_eq_true rfl)
  rw [lg_entry_eq]
  generalize (lg_sl ([.ref (a 0), .int v1]) ++ List.replicate (4 - (lg_sl ([.ref (a 0), .int v1])).length) Slot.unset).toArray = ls at hl ⊢
  have hl : lv_has ls 4 [(0, .ref (a 0)), (1, .int v1)] := hl
  have K65 : ∀ (S : S_Model) (x2 : Int32) (H : Heap) (locs : List Loc), F_X5_isWord_65 v1 S x2 = some (rr, Y) → va_P (dC, dI) vwCl ((W_Model cI a S)) H → va_D A ((W_Model cI a S)) → va_S A s.heap H locs → ∀ ls : Array Slot, lv_has ls 4 [(0, .ref (a 0)), (1, .int v1), (2, .int x2)] → W p l e (headSpec wsX5_isWord ({ frames := 3, cells := 0, slots := 0, locals := 66 } : Room)).room s m ([.ref (a 0), .int v1] : List Value).toArray below meth c H locs 0 0 (MQ below (va_Qi (fun (r' : Int32) (u : S_Model) => b2i rr = r' ∧ Y = u) (fun u : S_Model => jB (dC, dI) [(cI, .int)] A ((W_Model cI a u))) A) ([.ref (a 0), .int v1] : List Value).toArray s 0 0 A) (F0 m 65 ls []) := by
    intro S x2 H locs hF hP hD hS ls hl
    unfold F_X5_isWord_65 at hF
    refine lv_aload_n hx hb dX5_isWord_65 rfl (lv_at hl 0 rfl) ?_
    refine lv_bipush (v := (39 : Int32)) hx hb dX5_isWord_66 (by decide) ?_
    obtain ⟨r1, u2, h3, hF⟩ := ob2_some hF
    have hPc : va_P (dC, dI) vwCl ((W_Model cI a S)) H := hP
    have hDc : va_D A ((W_Model cI a S)) := hD
    have hFc := jFreeW (ws := (W_Model cI a S)) hD hS hA
    refine va_calli (va_runV (As := [.int (39 : Int32)]) (rest := []) ⟨hx, hb, hml, hown, hts⟩ (c_X5_isSign l dC dI cI a H.size _ _ _ _ h3) (cwV 1 hts gX5_isWord_X5_isSign rfl rfl rfl (by decide +kernel) ⟨Nat.le_of_ble_eq_true rfl, Nat.le_of_ble_eq_true rfl⟩) (jPreV hK hPc hDc hN (ci := 5) rfl rfl) rfl rfl hl.1 rfl (lv_room (Nat.le_of_ble_eq_true rfl)) dX5_isWord_68 ⟨Nat.le_of_ble_eq_true rfl, Nat.le_of_ble_eq_true rfl⟩) hS (fun q _ h => hFc q h) hFc (fun r' u' t H locs ht hvm hw hB hz1 hk1 hS => ?_)
    obtain ⟨e1, e2⟩ := hw
    subst e1
    subst e2
    obtain ⟨hP1, -, hD1⟩ := hB
    rw [ht] at hP1
    have hP : va_P (dC, dI) vwCl ((W_Model cI a u2)) H := hP1
    have hD : va_D A ((W_Model cI a u2)) := hD1.weaken (fun _ _ _ h => hFc _ h)
    refine lv_if_ne (tgt := 79) hx hb dX5_isWord_71 (by decide) (fun c4 => ?_) (fun c4 => ?_)
    · have hF := F_neg c4 hF
      refine lv_aload_n hx hb dX5_isWord_79 rfl (lv_at hl 0 rfl) ?_
      refine lv_iconst (v := (4 : Int32)) hx hb dX5_isWord_80 (by decide) ?_
      refine lv_iload_n hx hb dX5_isWord_81 rfl (lv_at hl 1 rfl) ?_
      refine lv_iload_n hx hb dX5_isWord_82 rfl (lv_at hl 2 rfl) ?_
      obtain ⟨u5, h6, hF⟩ := ob1_some hF
      have hPc : va_P (dC, dI) vwCl ((W_Model cI a u2)) H := hP
      have hDc : va_D A ((W_Model cI a u2)) := hD
      have hFc := jFreeW (ws := (W_Model cI a u2)) hD hS hA
      refine va_callv (va_runV (As := [.int (4 : Int32), .int v1, .int x2]) (rest := []) ⟨hx, hb, hml, hown, hts⟩ (c_X5_comes l dC dI cI a H.size _ _ _ _ _ h6) (cwV 3 hts gX5_isWord_X5_comes rfl rfl rfl (by decide +kernel) ⟨Nat.le_of_ble_eq_true rfl, Nat.le_of_ble_eq_true rfl⟩) (jPreV hK hPc hDc hN (ci := 5) rfl rfl) rfl rfl hl.1 rfl (lv_room (Nat.le_of_ble_eq_true rfl)) dX5_isWord_83 ⟨Nat.le_of_ble_eq_true rfl, Nat.le_of_ble_eq_true rfl⟩) hS (fun q _ h => hFc q h) hFc (fun u' t H locs ht hvm hw hB hz1 hk1 hS => ?_)
      subst hw
      obtain ⟨hP1, -, hD1⟩ := hB
      rw [ht] at hP1
      have hP : va_P (dC, dI) vwCl ((W_Model cI a u5)) H := hP1
      have hD : va_D A ((W_Model cI a u5)) := hD1.weaken (fun _ _ _ h => hFc _ h)
      refine lv_iconst (v := (1 : Int32)) hx hb dX5_isWord_86 (by decide) ?_
      have e50 := Option.some.inj hF
      obtain ⟨e60, e51⟩ := Prod.mk.inj e50
      subst e60
      subst e51
      exact W.zret (v := (1 : Int32)) hx hb hr (rfl) (fun t ht hW => ⟨⟨(1 : Int32), u5, rfl, ⟨rfl, rfl⟩, by rw [ht]; exact hP, va_K.moved hW.alike hK, hD⟩, hS.F ht⟩) hS.2.2 dX5_isWord_87
    · have hF := F_pos c4 hF
      refine lv_aload_n hx hb dX5_isWord_74 rfl (lv_at hl 0 rfl) ?_
      obtain ⟨r7, u8, h9, hF⟩ := ob2_some hF
      have hPc : va_P (dC, dI) vwCl ((W_Model cI a u2)) H := hP
      have hDc : va_D A ((W_Model cI a u2)) := hD
      have hFc := jFreeW (ws := (W_Model cI a u2)) hD hS hA
      refine va_calli (va_runV (As := []) (rest := []) ⟨hx, hb, hml, hown, hts⟩ (c_X5_stops l dC dI cI a H.size _ _ _ h9) (cwV 0 hts gX5_isWord_X5_stops rfl rfl rfl (by decide +kernel) ⟨Nat.le_of_ble_eq_true rfl, Nat.le_of_ble_eq_true rfl⟩) (jPreV hK hPc hDc hN (ci := 5) rfl rfl) rfl rfl hl.1 rfl (lv_room (Nat.le_of_ble_eq_true rfl)) dX5_isWord_75 ⟨Nat.le_of_ble_eq_true rfl, Nat.le_of_ble_eq_true rfl⟩) hS (fun q _ h => hFc q h) hFc (fun r' u' t H locs ht hvm hw hB hz1 hk1 hS => ?_)
      obtain ⟨e1, e2⟩ := hw
      subst e1
      subst e2
      obtain ⟨hP1, -, hD1⟩ := hB
      rw [ht] at hP1
      have hP : va_P (dC, dI) vwCl ((W_Model cI a u8)) H := hP1
      have hD : va_D A ((W_Model cI a u8)) := hD1.weaken (fun _ _ _ h => hFc _ h)
      have e50 := Option.some.inj hF
      obtain ⟨e60, e51⟩ := Prod.mk.inj e50
      subst e60
      subst e51
      exact W.zret (v := (b2i r7)) hx hb hr (nb2i _) (fun t ht hW => ⟨⟨(b2i r7), u8, rfl, ⟨rfl, rfl⟩, by rw [ht]; exact hP, va_K.moved hW.alike hK, hD⟩, hS.F ht⟩) hS.2.2 dX5_isWord_78
  have K33 : ∀ (n33 : Nat) (S : S_Model) (x2 : Int32) (x3 : Int32) (H : Heap) (locs : List Loc), F_X5_isWord_33 v1 n33 S x2 x3 = some (rr, Y) → va_P (dC, dI) vwCl ((W_Model cI a S)) H → va_D A ((W_Model cI a S)) → va_S A s.heap H locs → ∀ ls : Array Slot, lv_has ls 4 [(0, .ref (a 0)), (1, .int v1), (2, .int x2), (3, .int x3)] → W p l e (headSpec wsX5_isWord ({ frames := 3, cells := 0, slots := 0, locals := 66 } : Room)).room s m ([.ref (a 0), .int v1] : List Value).toArray below meth c H locs 0 0 (MQ below (va_Qi (fun (r' : Int32) (u : S_Model) => b2i rr = r' ∧ Y = u) (fun u : S_Model => jB (dC, dI) [(cI, .int)] A ((W_Model cI a u))) A) ([.ref (a 0), .int v1] : List Value).toArray s 0 0 A) (F0 m 33 ls []) := by
    intro n33
    induction n33 with
    | zero => intro S x2 x3 H locs hF; exact nomatch hF
    | succ n33 ih33 =>
      intro S x2 x3 H locs hF hP hD hS ls hl
      rw [F_X5_isWord_33_s] at hF
      refine lv_iload_n hx hb dX5_isWord_33 rfl (lv_at hl 3 rfl) ?_
      refine lv_iconst (v := (5 : Int32)) hx hb dX5_isWord_34 (by decide) ?_
      refine lv_icmp_ge (tgt := 65) hx hb dX5_isWord_35 (by decide) (fun c10 => ?_) (fun c10 => ?_)
      · have hF := F_pos c10 hF
        exact K65 _ _ _ _ hF hP hD hS _ (lv_sub hl [0, 1, 2] rfl)
      · have hF := F_neg c10 hF
        refine lv_aload_n hx hb dX5_isWord_38 rfl (lv_at hl 0 rfl) ?_
        refine lv_bipush (v := (97 : Int32)) hx hb dX5_isWord_39 (by decide) ?_
        refine lv_bipush (v := (122 : Int32)) hx hb dX5_isWord_41 (by decide) ?_
        obtain ⟨r11, h12, hF⟩ := ob1_some hF
        have hPc : va_P (dC, dI) vwCl ((W_Model cI a S)) H := hP
        have hDc : va_D A ((W_Model cI a S)) := hD
        have hFc := jFreeW (ws := (W_Model cI a S)) hD hS hA
        refine va_calli (va_runV (As := [.int (97 : Int32), .int (122 : Int32)]) (rest := []) ⟨hx, hb, hml, hown, hts⟩ (c_X5_isAt l dC dI cI a H.size _ _ _ _ h12) (cwV 2 hts gX5_isWord_X5_isAt rfl rfl rfl (by decide +kernel) ⟨Nat.le_of_ble_eq_true rfl, Nat.le_of_ble_eq_true rfl⟩) (jPreV hK hPc hDc hN (ci := 5) rfl rfl) rfl rfl hl.1 rfl (lv_room (Nat.le_of_ble_eq_true rfl)) dX5_isWord_43 ⟨Nat.le_of_ble_eq_true rfl, Nat.le_of_ble_eq_true rfl⟩) hS (fun q _ h => hFc q h) hFc (fun r' u' t H locs ht hvm hw hB hz1 hk1 hS => ?_)
        subst hw
        obtain ⟨hP1, -, hD1⟩ := hB
        rw [ht] at hP1
        have hP : va_P (dC, dI) vwCl ((W_Model cI a S)) H := hP1
        have hD : va_D A ((W_Model cI a S)) := hD1.weaken (fun _ _ _ h => hFc _ h)
        refine lv_if_eq (tgt := 65) hx hb dX5_isWord_46 (by decide) (fun c13 => ?_) (fun c13 => ?_)
        · have hF := F_pos c13 hF
          exact K65 _ _ _ _ hF hP hD hS _ (lv_sub hl [0, 1, 2] rfl)
        · have hF := F_neg c13 hF
          refine lv_aload_n hx hb dX5_isWord_49 rfl (lv_at hl 0 rfl) ?_
          refine lv_dup hx hb dX5_isWord_50 rfl ?_
          refine wg_at (v := .int (g_Model_at S)) hx hb hts hinX5 hown hK hP rfl (hts (Cond.fieldLink RX5 68 "LearnedShapesModel" "at" "I") (List.mem_of_getElem? (i := 1) rfl)) dX5_isWord_51 ?_
          refine lv_iconst (v := (1 : Int32)) hx hb dX5_isWord_54 (by decide) ?_
          refine lv_iadd hx hb dX5_isWord_55 ?_
          refine wp_at (v := ((g_Model_at S) + (1 : Int32))) hx hb hts hinX5 hown hK hP hD hS (hts (Cond.fieldLink RX5 68 "LearnedShapesModel" "at" "I") (List.mem_of_getElem? (i := 1) rfl)) (rfl) (rfl) dX5_isWord_56 (fun H locs hP hD hS => ?_)
          refine lv_iinc (v := (x3 + (1 : Int32))) (lv' := [(3, .int (x3 + (1 : Int32))), (0, .ref (a 0)), (1, .int v1), (2, .int x2)]) hx hb dX5_isWord_59 hl (k := 3) rfl rfl (by decide) rfl (fun ls hl => ?_)
          refine lv_goto (tgt := 33) hx hb dX5_isWord_62 (by decide) ?_
          exact ih33 _ _ _ _ _ hF hP hD hS _ (lv_sub hl [1, 2, 3, 0] rfl)
  have KE : ∀ (H : Heap) (locs : List Loc), va_P (dC, dI) vwCl ((W_Model cI a S)) H → va_D A ((W_Model cI a S)) → va_S A s.heap H locs → W p l e (headSpec wsX5_isWord ({ frames := 3, cells := 0, slots := 0, locals := 66 } : Room)).room s m ([.ref (a 0), .int v1] : List Value).toArray below meth c H locs 0 0 (MQ below (va_Qi (fun (r' : Int32) (u : S_Model) => b2i rr = r' ∧ Y = u) (fun u : S_Model => jB (dC, dI) [(cI, .int)] A ((W_Model cI a u))) A) ([.ref (a 0), .int v1] : List Value).toArray s 0 0 A) (F0 m 0 ls []) := by
    intro H locs hP hD hS
    unfold F_X5_isWord at hF
    refine lv_aload_n hx hb dX5_isWord_0 rfl (lv_at hl 0 rfl) ?_
    refine wg_at (v := .int (g_Model_at S)) hx hb hts hinX5 hown hK hP rfl (hts (Cond.fieldLink RX5 68 "LearnedShapesModel" "at" "I") (List.mem_of_getElem? (i := 1) rfl)) dX5_isWord_1 ?_
    refine lv_istore_n (lv' := [(2, .int (g_Model_at S)), (0, .ref (a 0)), (1, .int v1)]) hx hb dX5_isWord_4 rfl hl (by decide) rfl (fun ls hl => ?_)
    refine lv_aload_n hx hb dX5_isWord_5 rfl (lv_at hl 1 rfl) ?_
    refine lv_dup hx hb dX5_isWord_6 rfl ?_
    refine wg_at (v := .int (g_Model_at S)) hx hb hts hinX5 hown hK hP rfl (hts (Cond.fieldLink RX5 68 "LearnedShapesModel" "at" "I") (List.mem_of_getElem? (i := 1) rfl)) dX5_isWord_7 ?_
    refine lv_iconst (v := (1 : Int32)) hx hb dX5_isWord_10 (by decide) ?_
    refine lv_iadd hx hb dX5_isWord_11 ?_
    refine wp_at (v := ((g_Model_at S) + (1 : Int32))) hx hb hts hinX5 hown hK hP hD hS (hts (Cond.fieldLink RX5 68 "LearnedShapesModel" "at" "I") (List.mem_of_getElem? (i := 1) rfl)) (rfl) (rfl) dX5_isWord_12 (fun H locs hP hD hS => ?_)
    refine lv_aload_n hx hb dX5_isWord_15 rfl (lv_at hl 1 rfl) ?_
    refine lv_bipush (v := (97 : Int32)) hx hb dX5_isWord_16 (by decide) ?_
    refine lv_bipush (v := (122 : Int32)) hx hb dX5_isWord_18 (by decide) ?_
    obtain ⟨r14, h15, hF⟩ := ob1_some hF
    have hPc : va_P (dC, dI) vwCl ((W_Model cI a (s_Model_at S ((g_Model_at S) + (1 : Int32))))) H := hP
    have hDc : va_D A ((W_Model cI a (s_Model_at S ((g_Model_at S) + (1 : Int32))))) := hD
    have hFc := jFreeW (ws := (W_Model cI a (s_Model_at S ((g_Model_at S) + (1 : Int32))))) hD hS hA
    refine va_calli (va_runV (As := [.int (97 : Int32), .int (122 : Int32)]) (rest := []) ⟨hx, hb, hml, hown, hts⟩ (c_X5_isAt l dC dI cI a H.size _ _ _ _ h15) (cwV 2 hts gX5_isWord_X5_isAt rfl rfl rfl (by decide +kernel) ⟨Nat.le_of_ble_eq_true rfl, Nat.le_of_ble_eq_true rfl⟩) (jPreV hK hPc hDc hN (ci := 5) rfl rfl) rfl rfl hl.1 rfl (lv_room (Nat.le_of_ble_eq_true rfl)) dX5_isWord_20 ⟨Nat.le_of_ble_eq_true rfl, Nat.le_of_ble_eq_true rfl⟩) hS (fun q _ h => hFc q h) hFc (fun r' u' t H locs ht hvm hw hB hz1 hk1 hS => ?_)
    subst hw
    obtain ⟨hP1, -, hD1⟩ := hB
    rw [ht] at hP1
    have hP : va_P (dC, dI) vwCl ((W_Model cI a (s_Model_at S ((g_Model_at S) + (1 : Int32))))) H := hP1
    have hD : va_D A ((W_Model cI a (s_Model_at S ((g_Model_at S) + (1 : Int32))))) := hD1.weaken (fun _ _ _ h => hFc _ h)
    refine lv_if_ne (tgt := 31) hx hb dX5_isWord_23 (by decide) (fun c16 => ?_) (fun c16 => ?_)
    · have hF := F_neg c16 hF
      refine lv_iconst (v := (0 : Int32)) hx hb dX5_isWord_31 (by decide) ?_
      refine lv_istore_n (lv' := [(3, .int (0 : Int32)), (2, .int (g_Model_at S)), (0, .ref (a 0)), (1, .int v1)]) hx hb dX5_isWord_32 rfl hl (by decide) rfl (fun ls hl => ?_)
      exact K33 _ _ _ _ _ _ hF hP hD hS _ (lv_sub hl [2, 3, 1, 0] rfl)
    · have hF := F_pos c16 hF
      refine lv_aload_n hx hb dX5_isWord_26 rfl (lv_at hl 1 rfl) ?_
      obtain ⟨r17, u18, h19, hF⟩ := ob2_some hF
      have hPc : va_P (dC, dI) vwCl ((W_Model cI a (s_Model_at S ((g_Model_at S) + (1 : Int32))))) H := hP
      have hDc : va_D A ((W_Model cI a (s_Model_at S ((g_Model_at S) + (1 : Int32))))) := hD
      have hFc := jFreeW (ws := (W_Model cI a (s_Model_at S ((g_Model_at S) + (1 : Int32))))) hD hS hA
      refine va_calli (va_runV (As := []) (rest := []) ⟨hx, hb, hml, hown, hts⟩ (c_X5_stops l dC dI cI a H.size _ _ _ h19) (cwV 0 hts gX5_isWord_X5_stops rfl rfl rfl (by decide +kernel) ⟨Nat.le_of_ble_eq_true rfl, Nat.le_of_ble_eq_true rfl⟩) (jPreV hK hPc hDc hN (ci := 5) rfl rfl) rfl rfl hl.1 rfl (lv_room (Nat.le_of_ble_eq_true rfl)) dX5_isWord_27 ⟨Nat.le_of_ble_eq_true rfl, Nat.le_of_ble_eq_true rfl⟩) hS (fun q _ h => hFc q h) hFc (fun r' u' t H locs ht hvm hw hB hz1 hk1 hS => ?_)
      obtain ⟨e1, e2⟩ := hw
      subst e1
      subst e2
      obtain ⟨hP1, -, hD1⟩ := hB
      rw [ht] at hP1
      have hP : va_P (dC, dI) vwCl ((W_Model cI a u18)) H := hP1
      have hD : va_D A ((W_Model cI a u18)) := hD1.weaken (fun _ _ _ h => hFc _ h)
      have e50 := Option.some.inj hF
      obtain ⟨e60, e51⟩ := Prod.mk.inj e50
      subst e60
      subst e51
      exact W.zret (v := (b2i r17)) hx hb hr (nb2i _) (fun t ht hW => ⟨⟨(b2i r17), u18, rfl, ⟨rfl, rfl⟩, by rw [ht]; exact hP, va_K.moved hW.alike hK, hD⟩, hS.F ht⟩) hS.2.2 dX5_isWord_30
  exact KE _ _ hP hD hS
set_option maxHeartbeats 4000000 in
set_option maxRecDepth 100000 in
theorem c_X5_opens (l : Launch) (dC : Nat → ClassId) (dI : Nat → Nat → Nat) (cI : ClassId) (a : Nat → Nat) (sz : Nat) (S : S_Model) (v1 : Int32) (v2 : Int32) (rr : Bool) (Y : S_Model) (hF : F_X5_opens S v1 v2 = some (rr, Y)) : Met l yX5_opens wsX5_opens ({ frames := 1, cells := 0, slots := 0, locals := 23 } : Room) (va_Pc [.ref (a 0), .int v1, .int v2] (jPre (dC, dI) [(cI, .int)] sz ((W_Model cI a S)))) (va_Qi (fun (r' : Int32) (u : S_Model) => b2i rr = r' ∧ Y = u) (fun u : S_Model => jB (dC, dI) [(cI, .int)] (va_A ((W_Model cI a S)) sz) ((W_Model cI a u))) (va_A ((W_Model cI a S)) sz)) 0 0 (va_A ((W_Model cI a S)) sz) := by
  refine Met.ofW (cc := cX5_opens) (maxL := 3) (ret := (some .boolean)) (by decide) rfl ?_
  intro p e s m args below meth c s₁ B hml hv
  obtain ⟨rfl, hsz, hP, hK, hD0, hN⟩ := hv
  have hx := B.exec
  have hb := B.bytes
  have hr := B.returns
  have hts := atoms_spec (ws := wsX5_opens) B.pre
  have hown : s.vm.findClass RX5 = some m.cls := findClass_of_methodNamed B.named
  have hlocks := B.notSynchronized
  have hinX5 : ∀ w ∈ u_ws RX5 TX5 26, w ∈ wsX5_opens := by decide +kernel
  subst hsz
  have hD := hD0.self (sz := s.heap.size)
  generalize hAe : (va_A ((W_Model cI a S)) s.heap.size) = A at hD ⊢
  have hA : ∀ q : Nat, s.heap.size ≤ q → A q := fun q h => by rw [← hAe]; exact Or.inr h
  have hS : va_S A s.heap s.heap [] := va_S.rf
  have hl := lv_entry ([.ref (a 0), .int v1, .int v2]) (n := 3) (Nat.le_of_ble_eq_true rfl)
  rw [lg_entry_eq]
  generalize (lg_sl ([.ref (a 0), .int v1, .int v2]) ++ List.replicate (3 - (lg_sl ([.ref (a 0), .int v1, .int v2])).length) Slot.unset).toArray = ls at hl ⊢
  have hl : lv_has ls 3 [(0, .ref (a 0)), (1, .int v1), (2, .int v2)] := hl
  have KE : ∀ (H : Heap) (locs : List Loc), va_P (dC, dI) vwCl ((W_Model cI a S)) H → va_D A ((W_Model cI a S)) → va_S A s.heap H locs → W p l e (headSpec wsX5_opens ({ frames := 1, cells := 0, slots := 0, locals := 23 } : Room)).room s m ([.ref (a 0), .int v1, .int v2] : List Value).toArray below meth c H locs 0 0 (MQ below (va_Qi (fun (r' : Int32) (u : S_Model) => b2i rr = r' ∧ Y = u) (fun u : S_Model => jB (dC, dI) [(cI, .int)] A ((W_Model cI a u))) A) ([.ref (a 0), .int v1, .int v2] : List Value).toArray s 0 0 A) (F0 m 0 ls []) := by
    intro H locs hP hD hS
    unfold F_X5_opens at hF
    refine lv_aload_n hx hb dX5_opens_0 rfl (lv_at hl 0 rfl) ?_
    refine wg_deep (v := .int (g_Model_deep S)) hx hb hts hinX5 hown hK hP rfl (hts (Cond.fieldLink RX5 85 "LearnedShapesModel" "deep" "I") (List.mem_of_getElem? (i := 1) rfl)) dX5_opens_1 ?_
    refine lv_iconst (v := (4 : Int32)) hx hb dX5_opens_4 (by decide) ?_
    refine lv_icmp_ne (tgt := 13) hx hb dX5_opens_5 (by decide) (fun c1 => ?_) (fun c1 => ?_)
    · have hF := F_neg c1 hF
      refine lv_aload_n hx hb dX5_opens_13 rfl (lv_at hl 0 rfl) ?_
      refine lv_iload_n hx hb dX5_opens_14 rfl (lv_at hl 1 rfl) ?_
      refine lv_iload_n hx hb dX5_opens_15 rfl (lv_at hl 2 rfl) ?_
      refine lv_aload_n hx hb dX5_opens_16 rfl (lv_at hl 0 rfl) ?_
      refine wg_at (v := .int (g_Model_at S)) hx hb hts hinX5 hown hK hP rfl (hts (Cond.fieldLink RX5 68 "LearnedShapesModel" "at" "I") (List.mem_of_getElem? (i := 2) rfl)) dX5_opens_17 ?_
      obtain ⟨u2, h3, hF⟩ := ob1_some hF
      have hPc : va_P (dC, dI) vwCl ((W_Model cI a S)) H := hP
      have hDc : va_D A ((W_Model cI a S)) := hD
      have hFc := jFreeW (ws := (W_Model cI a S)) hD hS hA
      refine va_callv (va_runV (As := [.int v1, .int v2, .int (g_Model_at S)]) (rest := []) ⟨hx, hb, hml, hown, hts⟩ (c_X5_comes l dC dI cI a H.size _ _ _ _ _ h3) (cwV 3 hts gX5_opens_X5_comes rfl rfl rfl (by decide +kernel) ⟨Nat.le_of_ble_eq_true rfl, Nat.le_of_ble_eq_true rfl⟩) (jPreV hK hPc hDc hN (ci := 5) rfl rfl) rfl rfl hl.1 rfl (lv_room (Nat.le_of_ble_eq_true rfl)) dX5_opens_20 ⟨Nat.le_of_ble_eq_true rfl, Nat.le_of_ble_eq_true rfl⟩) hS (fun q _ h => hFc q h) hFc (fun u' t H locs ht hvm hw hB hz1 hk1 hS => ?_)
      subst hw
      obtain ⟨hP1, -, hD1⟩ := hB
      rw [ht] at hP1
      have hP : va_P (dC, dI) vwCl ((W_Model cI a u2)) H := hP1
      have hD : va_D A ((W_Model cI a u2)) := hD1.weaken (fun _ _ _ h => hFc _ h)
      refine lv_aload_n hx hb dX5_opens_23 rfl (lv_at hl 0 rfl) ?_
      refine lv_dup hx hb dX5_opens_24 rfl ?_
      refine wg_at (v := .int (g_Model_at u2)) hx hb hts hinX5 hown hK hP rfl (hts (Cond.fieldLink RX5 68 "LearnedShapesModel" "at" "I") (List.mem_of_getElem? (i := 2) rfl)) dX5_opens_25 ?_
      refine lv_iconst (v := (1 : Int32)) hx hb dX5_opens_28 (by decide) ?_
      refine lv_iadd hx hb dX5_opens_29 ?_
      refine wp_at (v := ((g_Model_at u2) + (1 : Int32))) hx hb hts hinX5 hown hK hP hD hS (hts (Cond.fieldLink RX5 68 "LearnedShapesModel" "at" "I") (List.mem_of_getElem? (i := 2) rfl)) (rfl) (rfl) dX5_opens_30 (fun H locs hP hD hS => ?_)
      refine lv_aload_n hx hb dX5_opens_33 rfl (lv_at hl 0 rfl) ?_
      refine wg_open (v := .ref (a 10)) hx hb hts hinX5 hown hK hP rfl (hts (Cond.fieldLink RX5 37 "LearnedShapesModel" "open" "[I") (List.mem_of_getElem? (i := 3) rfl)) dX5_opens_34 ?_
      refine lv_aload_n hx hb dX5_opens_37 rfl (lv_at hl 0 rfl) ?_
      refine wg_deep (v := .int (g_Model_deep u2)) hx hb hts hinX5 hown hK hP rfl (hts (Cond.fieldLink RX5 85 "LearnedShapesModel" "deep" "I") (List.mem_of_getElem? (i := 1) rfl)) dX5_opens_38 ?_
      refine lv_aload_n hx hb dX5_opens_41 rfl (lv_at hl 0 rfl) ?_
      refine wg_valued (v := .int (g_Model_valued u2)) hx hb hts hinX5 hown hK hP rfl (hts (Cond.fieldLink RX5 82 "LearnedShapesModel" "valued" "I") (List.mem_of_getElem? (i := 4) rfl)) dX5_opens_42 ?_
      refine lv_iconst (v := (1 : Int32)) hx hb dX5_opens_45 (by decide) ?_
      refine lv_isub hx hb dX5_opens_46 ?_
      obtain ⟨g4, hF⟩ := og_some hF
      refine ws_open (f := (g_Model_open u2)) hx hb hK hP hD hS rfl (inb_in g4) dX5_opens_47 (fun H locs hP hD hS => ?_)
      refine lv_aload_n hx hb dX5_opens_48 rfl (lv_at hl 0 rfl) ?_
      refine lv_dup hx hb dX5_opens_49 rfl ?_
      refine wg_deep (v := .int (g_Model_deep u2)) hx hb hts hinX5 hown hK hP rfl (hts (Cond.fieldLink RX5 85 "LearnedShapesModel" "deep" "I") (List.mem_of_getElem? (i := 1) rfl)) dX5_opens_50 ?_
      refine lv_iconst (v := (1 : Int32)) hx hb dX5_opens_53 (by decide) ?_
      refine lv_iadd hx hb dX5_opens_54 ?_
      refine wp_deep (v := ((g_Model_deep u2) + (1 : Int32))) hx hb hts hinX5 hown hK hP hD hS (hts (Cond.fieldLink RX5 85 "LearnedShapesModel" "deep" "I") (List.mem_of_getElem? (i := 1) rfl)) (rfl) (rfl) dX5_opens_55 (fun H locs hP hD hS => ?_)
      refine lv_aload_n hx hb dX5_opens_58 rfl (lv_at hl 0 rfl) ?_
      refine lv_aload_n hx hb dX5_opens_59 rfl (lv_at hl 0 rfl) ?_
      refine wg_deep (v := .int ((g_Model_deep u2) + (1 : Int32))) hx hb hts hinX5 hown hK hP rfl (hts (Cond.fieldLink RX5 85 "LearnedShapesModel" "deep" "I") (List.mem_of_getElem? (i := 1) rfl)) dX5_opens_60 ?_
      refine lv_aload_n hx hb dX5_opens_63 rfl (lv_at hl 0 rfl) ?_
      refine wg_deepest (v := .int (g_Model_deepest u2)) hx hb hts hinX5 hown hK hP rfl (hts (Cond.fieldLink RX5 99 "LearnedShapesModel" "deepest" "I") (List.mem_of_getElem? (i := 5) rfl)) dX5_opens_64 ?_
      refine lv_icmp_le (tgt := 77) hx hb dX5_opens_67 (by decide) (fun c5 => ?_) (fun c5 => ?_)
      · have hF := F_pos c5 hF
        refine lv_aload_n hx hb dX5_opens_77 rfl (lv_at hl 0 rfl) ?_
        refine wg_deepest (v := .int (g_Model_deepest u2)) hx hb hts hinX5 hown hK hP rfl (hts (Cond.fieldLink RX5 99 "LearnedShapesModel" "deepest" "I") (List.mem_of_getElem? (i := 5) rfl)) dX5_opens_78 ?_
        refine wp_deepest (v := (g_Model_deepest u2)) hx hb hts hinX5 hown hK hP hD hS (hts (Cond.fieldLink RX5 99 "LearnedShapesModel" "deepest" "I") (List.mem_of_getElem? (i := 5) rfl)) (rfl) (rfl) dX5_opens_81 (fun H locs hP hD hS => ?_)
        refine lv_iconst (v := (1 : Int32)) hx hb dX5_opens_84 (by decide) ?_
        have e50 := Option.some.inj hF
        obtain ⟨e60, e51⟩ := Prod.mk.inj e50
        subst e60
        subst e51
        exact W.zret (v := (1 : Int32)) hx hb hr (rfl) (fun t ht hW => ⟨⟨(1 : Int32), (s_Model_deep (s_Model_open (s_Model_at u2 ((g_Model_at u2) + (1 : Int32))) (upd (g_Model_open u2) (g_Model_deep u2).toNatClampNeg ((g_Model_valued u2) - (1 : Int32)))) ((g_Model_deep u2) + (1 : Int32))), rfl, ⟨rfl, rfl⟩, by rw [ht]; exact hP, va_K.moved hW.alike hK, hD⟩, hS.F ht⟩) hS.2.2 dX5_opens_85
      · have hF := F_neg c5 hF
        refine lv_aload_n hx hb dX5_opens_70 rfl (lv_at hl 0 rfl) ?_
        refine wg_deep (v := .int ((g_Model_deep u2) + (1 : Int32))) hx hb hts hinX5 hown hK hP rfl (hts (Cond.fieldLink RX5 85 "LearnedShapesModel" "deep" "I") (List.mem_of_getElem? (i := 1) rfl)) dX5_opens_71 ?_
        refine lv_goto (tgt := 81) hx hb dX5_opens_74 (by decide) ?_
        refine wp_deepest (v := ((g_Model_deep u2) + (1 : Int32))) hx hb hts hinX5 hown hK hP hD hS (hts (Cond.fieldLink RX5 99 "LearnedShapesModel" "deepest" "I") (List.mem_of_getElem? (i := 5) rfl)) (rfl) (rfl) dX5_opens_81 (fun H locs hP hD hS => ?_)
        refine lv_iconst (v := (1 : Int32)) hx hb dX5_opens_84 (by decide) ?_
        have e50 := Option.some.inj hF
        obtain ⟨e60, e51⟩ := Prod.mk.inj e50
        subst e60
        subst e51
        exact W.zret (v := (1 : Int32)) hx hb hr (rfl) (fun t ht hW => ⟨⟨(1 : Int32), (s_Model_deepest (s_Model_deep (s_Model_open (s_Model_at u2 ((g_Model_at u2) + (1 : Int32))) (upd (g_Model_open u2) (g_Model_deep u2).toNatClampNeg ((g_Model_valued u2) - (1 : Int32)))) ((g_Model_deep u2) + (1 : Int32))) ((g_Model_deep u2) + (1 : Int32))), rfl, ⟨rfl, rfl⟩, by rw [ht]; exact hP, va_K.moved hW.alike hK, hD⟩, hS.F ht⟩) hS.2.2 dX5_opens_85
    · have hF := F_pos c1 hF
      refine lv_aload_n hx hb dX5_opens_8 rfl (lv_at hl 0 rfl) ?_
      obtain ⟨r6, u7, h8, hF⟩ := ob2_some hF
      have hPc : va_P (dC, dI) vwCl ((W_Model cI a S)) H := hP
      have hDc : va_D A ((W_Model cI a S)) := hD
      have hFc := jFreeW (ws := (W_Model cI a S)) hD hS hA
      refine va_calli (va_runV (As := []) (rest := []) ⟨hx, hb, hml, hown, hts⟩ (c_X5_stops l dC dI cI a H.size _ _ _ h8) (cwV 0 hts gX5_opens_X5_stops rfl rfl rfl (by decide +kernel) ⟨Nat.le_of_ble_eq_true rfl, Nat.le_of_ble_eq_true rfl⟩) (jPreV hK hPc hDc hN (ci := 5) rfl rfl) rfl rfl hl.1 rfl (lv_room (Nat.le_of_ble_eq_true rfl)) dX5_opens_9 ⟨Nat.le_of_ble_eq_true rfl, Nat.le_of_ble_eq_true rfl⟩) hS (fun q _ h => hFc q h) hFc (fun r' u' t H locs ht hvm hw hB hz1 hk1 hS => ?_)
      obtain ⟨e1, e2⟩ := hw
      subst e1
      subst e2
      obtain ⟨hP1, -, hD1⟩ := hB
      rw [ht] at hP1
      have hP : va_P (dC, dI) vwCl ((W_Model cI a u7)) H := hP1
      have hD : va_D A ((W_Model cI a u7)) := hD1.weaken (fun _ _ _ h => hFc _ h)
      have e50 := Option.some.inj hF
      obtain ⟨e60, e51⟩ := Prod.mk.inj e50
      subst e60
      subst e51
      exact W.zret (v := (b2i r6)) hx hb hr (nb2i _) (fun t ht hW => ⟨⟨(b2i r6), u7, rfl, ⟨rfl, rfl⟩, by rw [ht]; exact hP, va_K.moved hW.alike hK, hD⟩, hS.F ht⟩) hS.2.2 dX5_opens_12
  exact KE _ _ hP hD hS
set_option maxHeartbeats 4000000 in
set_option maxRecDepth 100000 in
theorem c_X5_isValue (l : Launch) (dC : Nat → ClassId) (dI : Nat → Nat → Nat) (cI : ClassId) (a : Nat → Nat) (sz : Nat) (S : S_Model) (v1 : Int32) (rr : Bool) (Y : S_Model) (hF : F_X5_isValue S v1 = some (rr, Y)) : Met l yX5_isValue wsX5_isValue ({ frames := 4, cells := 0, slots := 0, locals := 91 } : Room) (va_Pc [.ref (a 0), .int v1] (jPre (dC, dI) [(cI, .int)] sz ((W_Model cI a S)))) (va_Qi (fun (r' : Int32) (u : S_Model) => b2i rr = r' ∧ Y = u) (fun u : S_Model => jB (dC, dI) [(cI, .int)] (va_A ((W_Model cI a S)) sz) ((W_Model cI a u))) (va_A ((W_Model cI a S)) sz)) 0 0 (va_A ((W_Model cI a S)) sz) := by
  refine Met.ofW (cc := cX5_isValue) (maxL := 3) (ret := (some .boolean)) (by decide) rfl ?_
  intro p e s m args below meth c s₁ B hml hv
  obtain ⟨rfl, hsz, hP, hK, hD0, hN⟩ := hv
  have hx := B.exec
  have hb := B.bytes
  have hr := B.returns
  have hts := atoms_spec (ws := wsX5_isValue) B.pre
  have hown : s.vm.findClass RX5 = some m.cls := findClass_of_methodNamed B.named
  have hlocks := B.notSynchronized
  have hinX5 : ∀ w ∈ u_ws RX5 TX5 26, w ∈ wsX5_isValue := by decide +kernel
  subst hsz
  have hD := hD0.self (sz := s.heap.size)
  generalize hAe : (va_A ((W_Model cI a S)) s.heap.size) = A at hD ⊢
  have hA : ∀ q : Nat, s.heap.size ≤ q → A q := fun q h => by rw [← hAe]; exact Or.inr h
  have hS : va_S A s.heap s.heap [] := va_S.rf
  have hl := lv_entry ([.ref (a 0), .int v1]) (n := 3) (Nat.le_of_ble_eq_true rfl)
  rw [lg_entry_eq]
  generalize (lg_sl ([.ref (a 0), .int v1]) ++ List.replicate (3 - (lg_sl ([.ref (a 0), .int v1])).length) Slot.unset).toArray = ls at hl ⊢
  have hl : lv_has ls 3 [(0, .ref (a 0)), (1, .int v1)] := hl
  have K24 : ∀ (S : S_Model) (t0 : Int32) (H : Heap) (locs : List Loc), F_X5_isValue_24 v1 S t0 = some (rr, Y) → va_P (dC, dI) vwCl ((W_Model cI a S)) H → va_D A ((W_Model cI a S)) → va_S A s.heap H locs → ∀ ls : Array Slot, lv_has ls 3 [(0, .ref (a 0)), (1, .int v1)] → W p l e (headSpec wsX5_isValue ({ frames := 4, cells := 0, slots := 0, locals := 91 } : Room)).room s m ([.ref (a 0), .int v1] : List Value).toArray below meth c H locs 0 0 (MQ below (va_Qi (fun (r' : Int32) (u : S_Model) => b2i rr = r' ∧ Y = u) (fun u : S_Model => jB (dC, dI) [(cI, .int)] A ((W_Model cI a u))) A) ([.ref (a 0), .int v1] : List Value).toArray s 0 0 A) (F0 m 24 ls [.int t0]) := by
    intro S t0 H locs hF hP hD hS ls hl
    unfold F_X5_isValue_24 at hF
    refine lv_istore_n (lv' := [(2, .int t0), (0, .ref (a 0)), (1, .int v1)]) hx hb dX5_isValue_24 rfl hl (by decide) rfl (fun ls hl => ?_)
    refine lv_iload_n hx hb dX5_isValue_25 rfl (lv_at hl 0 rfl) ?_
    by_cases c1 : t0 = (39 : Int32)
    · have hF := F_pos c1 hF
      refine lv_lookup (tgt := 116) hx hb dX5_isValue_26 (by decide) (by rw [c1] <;> rfl) (by decide) ?_
      refine lv_aload_n hx hb dX5_isValue_116 rfl (lv_at hl 1 rfl) ?_
      refine lv_iload_n hx hb dX5_isValue_117 rfl (lv_at hl 2 rfl) ?_
      obtain ⟨r2, u3, h4, hF⟩ := ob2_some hF
      have hPc : va_P (dC, dI) vwCl ((W_Model cI a S)) H := hP
      have hDc : va_D A ((W_Model cI a S)) := hD
      have hFc := jFreeW (ws := (W_Model cI a S)) hD hS hA
      refine va_calli (va_runV (As := [.int v1]) (rest := []) ⟨hx, hb, hml, hown, hts⟩ (c_X5_isWord l dC dI cI a H.size _ _ _ _ h4) (cwV 1 hts gX5_isValue_X5_isWord rfl rfl rfl (by decide +kernel) ⟨Nat.le_of_ble_eq_true rfl, Nat.le_of_ble_eq_true rfl⟩) (jPreV hK hPc hDc hN (ci := 5) rfl rfl) rfl rfl hl.1 rfl (lv_room (Nat.le_of_ble_eq_true rfl)) dX5_isValue_118 ⟨Nat.le_of_ble_eq_true rfl, Nat.le_of_ble_eq_true rfl⟩) hS (fun q _ h => hFc q h) hFc (fun r' u' t H locs ht hvm hw hB hz1 hk1 hS => ?_)
      obtain ⟨e1, e2⟩ := hw
      subst e1
      subst e2
      obtain ⟨hP1, -, hD1⟩ := hB
      rw [ht] at hP1
      have hP : va_P (dC, dI) vwCl ((W_Model cI a u3)) H := hP1
      have hD : va_D A ((W_Model cI a u3)) := hD1.weaken (fun _ _ _ h => hFc _ h)
      have e50 := Option.some.inj hF
      obtain ⟨e60, e51⟩ := Prod.mk.inj e50
      subst e60
      subst e51
      exact W.zret (v := (b2i r2)) hx hb hr (nb2i _) (fun t ht hW => ⟨⟨(b2i r2), u3, rfl, ⟨rfl, rfl⟩, by rw [ht]; exact hP, va_K.moved hW.alike hK, hD⟩, hS.F ht⟩) hS.2.2 dX5_isValue_121
    · have hF := F_neg c1 hF
      by_cases c5 : t0 = (40 : Int32)
      · have hF := F_pos c5 hF
        refine lv_lookup (tgt := 129) hx hb dX5_isValue_26 (by decide) (by rw [c5] <;> rfl) (by decide) ?_
        refine lv_aload_n hx hb dX5_isValue_129 rfl (lv_at hl 1 rfl) ?_
        refine lv_bipush (v := (6 : Int32)) hx hb dX5_isValue_130 (by decide) ?_
        refine lv_iload_n hx hb dX5_isValue_132 rfl (lv_at hl 2 rfl) ?_
        obtain ⟨r6, u7, h8, hF⟩ := ob2_some hF
        have hPc : va_P (dC, dI) vwCl ((W_Model cI a S)) H := hP
        have hDc : va_D A ((W_Model cI a S)) := hD
        have hFc := jFreeW (ws := (W_Model cI a S)) hD hS hA
        refine va_calli (va_runV (As := [.int (6 : Int32), .int v1]) (rest := []) ⟨hx, hb, hml, hown, hts⟩ (c_X5_opens l dC dI cI a H.size _ _ _ _ _ h8) (cwV 2 hts gX5_isValue_X5_opens rfl rfl rfl (by decide +kernel) ⟨Nat.le_of_ble_eq_true rfl, Nat.le_of_ble_eq_true rfl⟩) (jPreV hK hPc hDc hN (ci := 5) rfl rfl) rfl rfl hl.1 rfl (lv_room (Nat.le_of_ble_eq_true rfl)) dX5_isValue_133 ⟨Nat.le_of_ble_eq_true rfl, Nat.le_of_ble_eq_true rfl⟩) hS (fun q _ h => hFc q h) hFc (fun r' u' t H locs ht hvm hw hB hz1 hk1 hS => ?_)
        obtain ⟨e1, e2⟩ := hw
        subst e1
        subst e2
        obtain ⟨hP1, -, hD1⟩ := hB
        rw [ht] at hP1
        have hP : va_P (dC, dI) vwCl ((W_Model cI a u7)) H := hP1
        have hD : va_D A ((W_Model cI a u7)) := hD1.weaken (fun _ _ _ h => hFc _ h)
        have e50 := Option.some.inj hF
        obtain ⟨e60, e51⟩ := Prod.mk.inj e50
        subst e60
        subst e51
        exact W.zret (v := (b2i r6)) hx hb hr (nb2i _) (fun t ht hW => ⟨⟨(b2i r6), u7, rfl, ⟨rfl, rfl⟩, by rw [ht]; exact hP, va_K.moved hW.alike hK, hD⟩, hS.F ht⟩) hS.2.2 dX5_isValue_136
      · have hF := F_neg c5 hF
        by_cases c9 : t0 = (91 : Int32)
        · have hF := F_pos c9 hF
          refine lv_lookup (tgt := 122) hx hb dX5_isValue_26 (by decide) (by rw [c9] <;> rfl) (by decide) ?_
          refine lv_aload_n hx hb dX5_isValue_122 rfl (lv_at hl 1 rfl) ?_
          refine lv_iconst (v := (5 : Int32)) hx hb dX5_isValue_123 (by decide) ?_
          refine lv_iload_n hx hb dX5_isValue_124 rfl (lv_at hl 2 rfl) ?_
          obtain ⟨r10, u11, h12, hF⟩ := ob2_some hF
          have hPc : va_P (dC, dI) vwCl ((W_Model cI a S)) H := hP
          have hDc : va_D A ((W_Model cI a S)) := hD
          have hFc := jFreeW (ws := (W_Model cI a S)) hD hS hA
          refine va_calli (va_runV (As := [.int (5 : Int32), .int v1]) (rest := []) ⟨hx, hb, hml, hown, hts⟩ (c_X5_opens l dC dI cI a H.size _ _ _ _ _ h12) (cwV 2 hts gX5_isValue_X5_opens rfl rfl rfl (by decide +kernel) ⟨Nat.le_of_ble_eq_true rfl, Nat.le_of_ble_eq_true rfl⟩) (jPreV hK hPc hDc hN (ci := 5) rfl rfl) rfl rfl hl.1 rfl (lv_room (Nat.le_of_ble_eq_true rfl)) dX5_isValue_125 ⟨Nat.le_of_ble_eq_true rfl, Nat.le_of_ble_eq_true rfl⟩) hS (fun q _ h => hFc q h) hFc (fun r' u' t H locs ht hvm hw hB hz1 hk1 hS => ?_)
          obtain ⟨e1, e2⟩ := hw
          subst e1
          subst e2
          obtain ⟨hP1, -, hD1⟩ := hB
          rw [ht] at hP1
          have hP : va_P (dC, dI) vwCl ((W_Model cI a u11)) H := hP1
          have hD : va_D A ((W_Model cI a u11)) := hD1.weaken (fun _ _ _ h => hFc _ h)
          have e50 := Option.some.inj hF
          obtain ⟨e60, e51⟩ := Prod.mk.inj e50
          subst e60
          subst e51
          exact W.zret (v := (b2i r10)) hx hb hr (nb2i _) (fun t ht hW => ⟨⟨(b2i r10), u11, rfl, ⟨rfl, rfl⟩, by rw [ht]; exact hP, va_K.moved hW.alike hK, hD⟩, hS.F ht⟩) hS.2.2 dX5_isValue_128
        · have hF := F_neg c9 hF
          by_cases c13 : t0 = (102 : Int32)
          · have hF := F_pos c13 hF
            refine lv_lookup (tgt := 84) hx hb dX5_isValue_26 (by decide) (by rw [c13] <;> rfl) (by decide) ?_
            refine lv_aload_n hx hb dX5_isValue_84 rfl (lv_at hl 1 rfl) ?_
            refine lv_iload_n hx hb dX5_isValue_85 rfl (lv_at hl 0 rfl) ?_
            refine lv_bipush (v := (110 : Int32)) hx hb dX5_isValue_86 (by decide) ?_
            refine lv_icmp_ne (tgt := 95) hx hb dX5_isValue_88 (by decide) (fun c14 => ?_) (fun c14 => ?_)
            · have hF := F_neg c14 hF
              refine lv_iconst (v := (1 : Int32)) hx hb dX5_isValue_95 (by decide) ?_
              refine lv_iload_n hx hb dX5_isValue_96 rfl (lv_at hl 2 rfl) ?_
              refine lv_aload_n hx hb dX5_isValue_97 rfl (lv_at hl 1 rfl) ?_
              refine wg_at (v := .int (g_Model_at S)) hx hb hts hinX5 hown hK hP rfl (hts (Cond.fieldLink RX5 68 "LearnedShapesModel" "at" "I") (List.mem_of_getElem? (i := 1) rfl)) dX5_isValue_98 ?_
              obtain ⟨u15, h16, hF⟩ := ob1_some hF
              have hPc : va_P (dC, dI) vwCl ((W_Model cI a S)) H := hP
              have hDc : va_D A ((W_Model cI a S)) := hD
              have hFc := jFreeW (ws := (W_Model cI a S)) hD hS hA
              refine va_callv (va_runV (As := [.int (1 : Int32), .int v1, .int (g_Model_at S)]) (rest := []) ⟨hx, hb, hml, hown, hts⟩ (c_X5_comes l dC dI cI a H.size _ _ _ _ _ h16) (cwV 3 hts gX5_isValue_X5_comes rfl rfl rfl (by decide +kernel) ⟨Nat.le_of_ble_eq_true rfl, Nat.le_of_ble_eq_true rfl⟩) (jPreV hK hPc hDc hN (ci := 5) rfl rfl) rfl rfl hl.1 rfl (lv_room (Nat.le_of_ble_eq_true rfl)) dX5_isValue_101 ⟨Nat.le_of_ble_eq_true rfl, Nat.le_of_ble_eq_true rfl⟩) hS (fun q _ h => hFc q h) hFc (fun u' t H locs ht hvm hw hB hz1 hk1 hS => ?_)
              subst hw
              obtain ⟨hP1, -, hD1⟩ := hB
              rw [ht] at hP1
              have hP : va_P (dC, dI) vwCl ((W_Model cI a u15)) H := hP1
              have hD : va_D A ((W_Model cI a u15)) := hD1.weaken (fun _ _ _ h => hFc _ h)
              refine lv_aload_n hx hb dX5_isValue_104 rfl (lv_at hl 1 rfl) ?_
              refine lv_dup hx hb dX5_isValue_105 rfl ?_
              refine wg_at (v := .int (g_Model_at u15)) hx hb hts hinX5 hown hK hP rfl (hts (Cond.fieldLink RX5 68 "LearnedShapesModel" "at" "I") (List.mem_of_getElem? (i := 1) rfl)) dX5_isValue_106 ?_
              refine lv_iconst (v := (1 : Int32)) hx hb dX5_isValue_109 (by decide) ?_
              refine lv_iadd hx hb dX5_isValue_110 ?_
              refine wp_at (v := ((g_Model_at u15) + (1 : Int32))) hx hb hts hinX5 hown hK hP hD hS (hts (Cond.fieldLink RX5 68 "LearnedShapesModel" "at" "I") (List.mem_of_getElem? (i := 1) rfl)) (rfl) (rfl) dX5_isValue_111 (fun H locs hP hD hS => ?_)
              refine lv_iconst (v := (1 : Int32)) hx hb dX5_isValue_114 (by decide) ?_
              have e50 := Option.some.inj hF
              obtain ⟨e60, e51⟩ := Prod.mk.inj e50
              subst e60
              subst e51
              exact W.zret (v := (1 : Int32)) hx hb hr (rfl) (fun t ht hW => ⟨⟨(1 : Int32), (s_Model_at u15 ((g_Model_at u15) + (1 : Int32))), rfl, ⟨rfl, rfl⟩, by rw [ht]; exact hP, va_K.moved hW.alike hK, hD⟩, hS.F ht⟩) hS.2.2 dX5_isValue_115
            · have hF := F_pos c14 hF
              refine lv_iconst (v := (0 : Int32)) hx hb dX5_isValue_91 (by decide) ?_
              refine lv_goto (tgt := 96) hx hb dX5_isValue_92 (by decide) ?_
              refine lv_iload_n hx hb dX5_isValue_96 rfl (lv_at hl 2 rfl) ?_
              refine lv_aload_n hx hb dX5_isValue_97 rfl (lv_at hl 1 rfl) ?_
              refine wg_at (v := .int (g_Model_at S)) hx hb hts hinX5 hown hK hP rfl (hts (Cond.fieldLink RX5 68 "LearnedShapesModel" "at" "I") (List.mem_of_getElem? (i := 1) rfl)) dX5_isValue_98 ?_
              obtain ⟨u17, h18, hF⟩ := ob1_some hF
              have hPc : va_P (dC, dI) vwCl ((W_Model cI a S)) H := hP
              have hDc : va_D A ((W_Model cI a S)) := hD
              have hFc := jFreeW (ws := (W_Model cI a S)) hD hS hA
              refine va_callv (va_runV (As := [.int (0 : Int32), .int v1, .int (g_Model_at S)]) (rest := []) ⟨hx, hb, hml, hown, hts⟩ (c_X5_comes l dC dI cI a H.size _ _ _ _ _ h18) (cwV 3 hts gX5_isValue_X5_comes rfl rfl rfl (by decide +kernel) ⟨Nat.le_of_ble_eq_true rfl, Nat.le_of_ble_eq_true rfl⟩) (jPreV hK hPc hDc hN (ci := 5) rfl rfl) rfl rfl hl.1 rfl (lv_room (Nat.le_of_ble_eq_true rfl)) dX5_isValue_101 ⟨Nat.le_of_ble_eq_true rfl, Nat.le_of_ble_eq_true rfl⟩) hS (fun q _ h => hFc q h) hFc (fun u' t H locs ht hvm hw hB hz1 hk1 hS => ?_)
              subst hw
              obtain ⟨hP1, -, hD1⟩ := hB
              rw [ht] at hP1
              have hP : va_P (dC, dI) vwCl ((W_Model cI a u17)) H := hP1
              have hD : va_D A ((W_Model cI a u17)) := hD1.weaken (fun _ _ _ h => hFc _ h)
              refine lv_aload_n hx hb dX5_isValue_104 rfl (lv_at hl 1 rfl) ?_
              refine lv_dup hx hb dX5_isValue_105 rfl ?_
              refine wg_at (v := .int (g_Model_at u17)) hx hb hts hinX5 hown hK hP rfl (hts (Cond.fieldLink RX5 68 "LearnedShapesModel" "at" "I") (List.mem_of_getElem? (i := 1) rfl)) dX5_isValue_106 ?_
              refine lv_iconst (v := (1 : Int32)) hx hb dX5_isValue_109 (by decide) ?_
              refine lv_iadd hx hb dX5_isValue_110 ?_
              refine wp_at (v := ((g_Model_at u17) + (1 : Int32))) hx hb hts hinX5 hown hK hP hD hS (hts (Cond.fieldLink RX5 68 "LearnedShapesModel" "at" "I") (List.mem_of_getElem? (i := 1) rfl)) (rfl) (rfl) dX5_isValue_111 (fun H locs hP hD hS => ?_)
              refine lv_iconst (v := (1 : Int32)) hx hb dX5_isValue_114 (by decide) ?_
              have e50 := Option.some.inj hF
              obtain ⟨e60, e51⟩ := Prod.mk.inj e50
              subst e60
              subst e51
              exact W.zret (v := (1 : Int32)) hx hb hr (rfl) (fun t ht hW => ⟨⟨(1 : Int32), (s_Model_at u17 ((g_Model_at u17) + (1 : Int32))), rfl, ⟨rfl, rfl⟩, by rw [ht]; exact hP, va_K.moved hW.alike hK, hD⟩, hS.F ht⟩) hS.2.2 dX5_isValue_115
          · have hF := F_neg c13 hF
            by_cases c19 : t0 = (110 : Int32)
            · have hF := F_pos c19 hF
              refine lv_lookup (tgt := 84) hx hb dX5_isValue_26 (by decide) (by rw [c19] <;> rfl) (by decide) ?_
              refine lv_aload_n hx hb dX5_isValue_84 rfl (lv_at hl 1 rfl) ?_
              refine lv_iload_n hx hb dX5_isValue_85 rfl (lv_at hl 0 rfl) ?_
              refine lv_bipush (v := (110 : Int32)) hx hb dX5_isValue_86 (by decide) ?_
              refine lv_icmp_ne (tgt := 95) hx hb dX5_isValue_88 (by decide) (fun c20 => ?_) (fun c20 => ?_)
              · have hF := F_neg c20 hF
                refine lv_iconst (v := (1 : Int32)) hx hb dX5_isValue_95 (by decide) ?_
                refine lv_iload_n hx hb dX5_isValue_96 rfl (lv_at hl 2 rfl) ?_
                refine lv_aload_n hx hb dX5_isValue_97 rfl (lv_at hl 1 rfl) ?_
                refine wg_at (v := .int (g_Model_at S)) hx hb hts hinX5 hown hK hP rfl (hts (Cond.fieldLink RX5 68 "LearnedShapesModel" "at" "I") (List.mem_of_getElem? (i := 1) rfl)) dX5_isValue_98 ?_
                obtain ⟨u21, h22, hF⟩ := ob1_some hF
                have hPc : va_P (dC, dI) vwCl ((W_Model cI a S)) H := hP
                have hDc : va_D A ((W_Model cI a S)) := hD
                have hFc := jFreeW (ws := (W_Model cI a S)) hD hS hA
                refine va_callv (va_runV (As := [.int (1 : Int32), .int v1, .int (g_Model_at S)]) (rest := []) ⟨hx, hb, hml, hown, hts⟩ (c_X5_comes l dC dI cI a H.size _ _ _ _ _ h22) (cwV 3 hts gX5_isValue_X5_comes rfl rfl rfl (by decide +kernel) ⟨Nat.le_of_ble_eq_true rfl, Nat.le_of_ble_eq_true rfl⟩) (jPreV hK hPc hDc hN (ci := 5) rfl rfl) rfl rfl hl.1 rfl (lv_room (Nat.le_of_ble_eq_true rfl)) dX5_isValue_101 ⟨Nat.le_of_ble_eq_true rfl, Nat.le_of_ble_eq_true rfl⟩) hS (fun q _ h => hFc q h) hFc (fun u' t H locs ht hvm hw hB hz1 hk1 hS => ?_)
                subst hw
                obtain ⟨hP1, -, hD1⟩ := hB
                rw [ht] at hP1
                have hP : va_P (dC, dI) vwCl ((W_Model cI a u21)) H := hP1
                have hD : va_D A ((W_Model cI a u21)) := hD1.weaken (fun _ _ _ h => hFc _ h)
                refine lv_aload_n hx hb dX5_isValue_104 rfl (lv_at hl 1 rfl) ?_
                refine lv_dup hx hb dX5_isValue_105 rfl ?_
                refine wg_at (v := .int (g_Model_at u21)) hx hb hts hinX5 hown hK hP rfl (hts (Cond.fieldLink RX5 68 "LearnedShapesModel" "at" "I") (List.mem_of_getElem? (i := 1) rfl)) dX5_isValue_106 ?_
                refine lv_iconst (v := (1 : Int32)) hx hb dX5_isValue_109 (by decide) ?_
                refine lv_iadd hx hb dX5_isValue_110 ?_
                refine wp_at (v := ((g_Model_at u21) + (1 : Int32))) hx hb hts hinX5 hown hK hP hD hS (hts (Cond.fieldLink RX5 68 "LearnedShapesModel" "at" "I") (List.mem_of_getElem? (i := 1) rfl)) (rfl) (rfl) dX5_isValue_111 (fun H locs hP hD hS => ?_)
                refine lv_iconst (v := (1 : Int32)) hx hb dX5_isValue_114 (by decide) ?_
                have e50 := Option.some.inj hF
                obtain ⟨e60, e51⟩ := Prod.mk.inj e50
                subst e60
                subst e51
                exact W.zret (v := (1 : Int32)) hx hb hr (rfl) (fun t ht hW => ⟨⟨(1 : Int32), (s_Model_at u21 ((g_Model_at u21) + (1 : Int32))), rfl, ⟨rfl, rfl⟩, by rw [ht]; exact hP, va_K.moved hW.alike hK, hD⟩, hS.F ht⟩) hS.2.2 dX5_isValue_115
              · have hF := F_pos c20 hF
                refine lv_iconst (v := (0 : Int32)) hx hb dX5_isValue_91 (by decide) ?_
                refine lv_goto (tgt := 96) hx hb dX5_isValue_92 (by decide) ?_
                refine lv_iload_n hx hb dX5_isValue_96 rfl (lv_at hl 2 rfl) ?_
                refine lv_aload_n hx hb dX5_isValue_97 rfl (lv_at hl 1 rfl) ?_
                refine wg_at (v := .int (g_Model_at S)) hx hb hts hinX5 hown hK hP rfl (hts (Cond.fieldLink RX5 68 "LearnedShapesModel" "at" "I") (List.mem_of_getElem? (i := 1) rfl)) dX5_isValue_98 ?_
                obtain ⟨u23, h24, hF⟩ := ob1_some hF
                have hPc : va_P (dC, dI) vwCl ((W_Model cI a S)) H := hP
                have hDc : va_D A ((W_Model cI a S)) := hD
                have hFc := jFreeW (ws := (W_Model cI a S)) hD hS hA
                refine va_callv (va_runV (As := [.int (0 : Int32), .int v1, .int (g_Model_at S)]) (rest := []) ⟨hx, hb, hml, hown, hts⟩ (c_X5_comes l dC dI cI a H.size _ _ _ _ _ h24) (cwV 3 hts gX5_isValue_X5_comes rfl rfl rfl (by decide +kernel) ⟨Nat.le_of_ble_eq_true rfl, Nat.le_of_ble_eq_true rfl⟩) (jPreV hK hPc hDc hN (ci := 5) rfl rfl) rfl rfl hl.1 rfl (lv_room (Nat.le_of_ble_eq_true rfl)) dX5_isValue_101 ⟨Nat.le_of_ble_eq_true rfl, Nat.le_of_ble_eq_true rfl⟩) hS (fun q _ h => hFc q h) hFc (fun u' t H locs ht hvm hw hB hz1 hk1 hS => ?_)
                subst hw
                obtain ⟨hP1, -, hD1⟩ := hB
                rw [ht] at hP1
                have hP : va_P (dC, dI) vwCl ((W_Model cI a u23)) H := hP1
                have hD : va_D A ((W_Model cI a u23)) := hD1.weaken (fun _ _ _ h => hFc _ h)
                refine lv_aload_n hx hb dX5_isValue_104 rfl (lv_at hl 1 rfl) ?_
                refine lv_dup hx hb dX5_isValue_105 rfl ?_
                refine wg_at (v := .int (g_Model_at u23)) hx hb hts hinX5 hown hK hP rfl (hts (Cond.fieldLink RX5 68 "LearnedShapesModel" "at" "I") (List.mem_of_getElem? (i := 1) rfl)) dX5_isValue_106 ?_
                refine lv_iconst (v := (1 : Int32)) hx hb dX5_isValue_109 (by decide) ?_
                refine lv_iadd hx hb dX5_isValue_110 ?_
                refine wp_at (v := ((g_Model_at u23) + (1 : Int32))) hx hb hts hinX5 hown hK hP hD hS (hts (Cond.fieldLink RX5 68 "LearnedShapesModel" "at" "I") (List.mem_of_getElem? (i := 1) rfl)) (rfl) (rfl) dX5_isValue_111 (fun H locs hP hD hS => ?_)
                refine lv_iconst (v := (1 : Int32)) hx hb dX5_isValue_114 (by decide) ?_
                have e50 := Option.some.inj hF
                obtain ⟨e60, e51⟩ := Prod.mk.inj e50
                subst e60
                subst e51
                exact W.zret (v := (1 : Int32)) hx hb hr (rfl) (fun t ht hW => ⟨⟨(1 : Int32), (s_Model_at u23 ((g_Model_at u23) + (1 : Int32))), rfl, ⟨rfl, rfl⟩, by rw [ht]; exact hP, va_K.moved hW.alike hK, hD⟩, hS.F ht⟩) hS.2.2 dX5_isValue_115
            · have hF := F_neg c19 hF
              by_cases c25 : t0 = (116 : Int32)
              · have hF := F_pos c25 hF
                refine lv_lookup (tgt := 84) hx hb dX5_isValue_26 (by decide) (by rw [c25] <;> rfl) (by decide) ?_
                refine lv_aload_n hx hb dX5_isValue_84 rfl (lv_at hl 1 rfl) ?_
                refine lv_iload_n hx hb dX5_isValue_85 rfl (lv_at hl 0 rfl) ?_
                refine lv_bipush (v := (110 : Int32)) hx hb dX5_isValue_86 (by decide) ?_
                refine lv_icmp_ne (tgt := 95) hx hb dX5_isValue_88 (by decide) (fun c26 => ?_) (fun c26 => ?_)
                · have hF := F_neg c26 hF
                  refine lv_iconst (v := (1 : Int32)) hx hb dX5_isValue_95 (by decide) ?_
                  refine lv_iload_n hx hb dX5_isValue_96 rfl (lv_at hl 2 rfl) ?_
                  refine lv_aload_n hx hb dX5_isValue_97 rfl (lv_at hl 1 rfl) ?_
                  refine wg_at (v := .int (g_Model_at S)) hx hb hts hinX5 hown hK hP rfl (hts (Cond.fieldLink RX5 68 "LearnedShapesModel" "at" "I") (List.mem_of_getElem? (i := 1) rfl)) dX5_isValue_98 ?_
                  obtain ⟨u27, h28, hF⟩ := ob1_some hF
                  have hPc : va_P (dC, dI) vwCl ((W_Model cI a S)) H := hP
                  have hDc : va_D A ((W_Model cI a S)) := hD
                  have hFc := jFreeW (ws := (W_Model cI a S)) hD hS hA
                  refine va_callv (va_runV (As := [.int (1 : Int32), .int v1, .int (g_Model_at S)]) (rest := []) ⟨hx, hb, hml, hown, hts⟩ (c_X5_comes l dC dI cI a H.size _ _ _ _ _ h28) (cwV 3 hts gX5_isValue_X5_comes rfl rfl rfl (by decide +kernel) ⟨Nat.le_of_ble_eq_true rfl, Nat.le_of_ble_eq_true rfl⟩) (jPreV hK hPc hDc hN (ci := 5) rfl rfl) rfl rfl hl.1 rfl (lv_room (Nat.le_of_ble_eq_true rfl)) dX5_isValue_101 ⟨Nat.le_of_ble_eq_true rfl, Nat.le_of_ble_eq_true rfl⟩) hS (fun q _ h => hFc q h) hFc (fun u' t H locs ht hvm hw hB hz1 hk1 hS => ?_)
                  subst hw
                  obtain ⟨hP1, -, hD1⟩ := hB
                  rw [ht] at hP1
                  have hP : va_P (dC, dI) vwCl ((W_Model cI a u27)) H := hP1
                  have hD : va_D A ((W_Model cI a u27)) := hD1.weaken (fun _ _ _ h => hFc _ h)
                  refine lv_aload_n hx hb dX5_isValue_104 rfl (lv_at hl 1 rfl) ?_
                  refine lv_dup hx hb dX5_isValue_105 rfl ?_
                  refine wg_at (v := .int (g_Model_at u27)) hx hb hts hinX5 hown hK hP rfl (hts (Cond.fieldLink RX5 68 "LearnedShapesModel" "at" "I") (List.mem_of_getElem? (i := 1) rfl)) dX5_isValue_106 ?_
                  refine lv_iconst (v := (1 : Int32)) hx hb dX5_isValue_109 (by decide) ?_
                  refine lv_iadd hx hb dX5_isValue_110 ?_
                  refine wp_at (v := ((g_Model_at u27) + (1 : Int32))) hx hb hts hinX5 hown hK hP hD hS (hts (Cond.fieldLink RX5 68 "LearnedShapesModel" "at" "I") (List.mem_of_getElem? (i := 1) rfl)) (rfl) (rfl) dX5_isValue_111 (fun H locs hP hD hS => ?_)
                  refine lv_iconst (v := (1 : Int32)) hx hb dX5_isValue_114 (by decide) ?_
                  have e50 := Option.some.inj hF
                  obtain ⟨e60, e51⟩ := Prod.mk.inj e50
                  subst e60
                  subst e51
                  exact W.zret (v := (1 : Int32)) hx hb hr (rfl) (fun t ht hW => ⟨⟨(1 : Int32), (s_Model_at u27 ((g_Model_at u27) + (1 : Int32))), rfl, ⟨rfl, rfl⟩, by rw [ht]; exact hP, va_K.moved hW.alike hK, hD⟩, hS.F ht⟩) hS.2.2 dX5_isValue_115
                · have hF := F_pos c26 hF
                  refine lv_iconst (v := (0 : Int32)) hx hb dX5_isValue_91 (by decide) ?_
                  refine lv_goto (tgt := 96) hx hb dX5_isValue_92 (by decide) ?_
                  refine lv_iload_n hx hb dX5_isValue_96 rfl (lv_at hl 2 rfl) ?_
                  refine lv_aload_n hx hb dX5_isValue_97 rfl (lv_at hl 1 rfl) ?_
                  refine wg_at (v := .int (g_Model_at S)) hx hb hts hinX5 hown hK hP rfl (hts (Cond.fieldLink RX5 68 "LearnedShapesModel" "at" "I") (List.mem_of_getElem? (i := 1) rfl)) dX5_isValue_98 ?_
                  obtain ⟨u29, h30, hF⟩ := ob1_some hF
                  have hPc : va_P (dC, dI) vwCl ((W_Model cI a S)) H := hP
                  have hDc : va_D A ((W_Model cI a S)) := hD
                  have hFc := jFreeW (ws := (W_Model cI a S)) hD hS hA
                  refine va_callv (va_runV (As := [.int (0 : Int32), .int v1, .int (g_Model_at S)]) (rest := []) ⟨hx, hb, hml, hown, hts⟩ (c_X5_comes l dC dI cI a H.size _ _ _ _ _ h30) (cwV 3 hts gX5_isValue_X5_comes rfl rfl rfl (by decide +kernel) ⟨Nat.le_of_ble_eq_true rfl, Nat.le_of_ble_eq_true rfl⟩) (jPreV hK hPc hDc hN (ci := 5) rfl rfl) rfl rfl hl.1 rfl (lv_room (Nat.le_of_ble_eq_true rfl)) dX5_isValue_101 ⟨Nat.le_of_ble_eq_true rfl, Nat.le_of_ble_eq_true rfl⟩) hS (fun q _ h => hFc q h) hFc (fun u' t H locs ht hvm hw hB hz1 hk1 hS => ?_)
                  subst hw
                  obtain ⟨hP1, -, hD1⟩ := hB
                  rw [ht] at hP1
                  have hP : va_P (dC, dI) vwCl ((W_Model cI a u29)) H := hP1
                  have hD : va_D A ((W_Model cI a u29)) := hD1.weaken (fun _ _ _ h => hFc _ h)
                  refine lv_aload_n hx hb dX5_isValue_104 rfl (lv_at hl 1 rfl) ?_
                  refine lv_dup hx hb dX5_isValue_105 rfl ?_
                  refine wg_at (v := .int (g_Model_at u29)) hx hb hts hinX5 hown hK hP rfl (hts (Cond.fieldLink RX5 68 "LearnedShapesModel" "at" "I") (List.mem_of_getElem? (i := 1) rfl)) dX5_isValue_106 ?_
                  refine lv_iconst (v := (1 : Int32)) hx hb dX5_isValue_109 (by decide) ?_
                  refine lv_iadd hx hb dX5_isValue_110 ?_
                  refine wp_at (v := ((g_Model_at u29) + (1 : Int32))) hx hb hts hinX5 hown hK hP hD hS (hts (Cond.fieldLink RX5 68 "LearnedShapesModel" "at" "I") (List.mem_of_getElem? (i := 1) rfl)) (rfl) (rfl) dX5_isValue_111 (fun H locs hP hD hS => ?_)
                  refine lv_iconst (v := (1 : Int32)) hx hb dX5_isValue_114 (by decide) ?_
                  have e50 := Option.some.inj hF
                  obtain ⟨e60, e51⟩ := Prod.mk.inj e50
                  subst e60
                  subst e51
                  exact W.zret (v := (1 : Int32)) hx hb hr (rfl) (fun t ht hW => ⟨⟨(1 : Int32), (s_Model_at u29 ((g_Model_at u29) + (1 : Int32))), rfl, ⟨rfl, rfl⟩, by rw [ht]; exact hP, va_K.moved hW.alike hK, hD⟩, hS.F ht⟩) hS.2.2 dX5_isValue_115
              · have hF := F_neg c25 hF
                refine lv_lookup (off := 111) (tgt := 137) hx hb dX5_isValue_26 (by decide) (by show Op.lookupswitch.offset [(39, 90), (40, 103), (91, 96), (102, 58), (110, 58), (116, 58)] 111 (t0).toInt = 111; rw [lv_osw (a := 39) c1 rfl, lv_osw (a := 40) c5 rfl, lv_osw (a := 91) c9 rfl, lv_osw (a := 102) c13 rfl, lv_osw (a := 110) c19 rfl, lv_osw (a := 116) c25 rfl] <;> rfl) (by decide) ?_
                refine lv_iload_n hx hb dX5_isValue_137 rfl (lv_at hl 0 rfl) ?_
                refine lv_bipush (v := (45 : Int32)) hx hb dX5_isValue_138 (by decide) ?_
                refine lv_icmp_eq (tgt := 154) hx hb dX5_isValue_140 (by decide) (fun c31 => ?_) (fun c31 => ?_)
                · have hF := F_pos c31 hF
                  refine lv_aload_n hx hb dX5_isValue_154 rfl (lv_at hl 1 rfl) ?_
                  refine lv_iload_n hx hb dX5_isValue_155 rfl (lv_at hl 2 rfl) ?_
                  obtain ⟨r32, u33, h34, hF⟩ := ob2_some hF
                  have hPc : va_P (dC, dI) vwCl ((W_Model cI a S)) H := hP
                  have hDc : va_D A ((W_Model cI a S)) := hD
                  have hFc := jFreeW (ws := (W_Model cI a S)) hD hS hA
                  refine va_calli (va_runV (As := [.int v1]) (rest := []) ⟨hx, hb, hml, hown, hts⟩ (c_X5_isNumber l dC dI cI a H.size _ _ _ _ h34) (cwV 1 hts gX5_isValue_X5_isNumber rfl rfl rfl (by decide +kernel) ⟨Nat.le_of_ble_eq_true rfl, Nat.le_of_ble_eq_true rfl⟩) (jPreV hK hPc hDc hN (ci := 5) rfl rfl) rfl rfl hl.1 rfl (lv_room (Nat.le_of_ble_eq_true rfl)) dX5_isValue_156 ⟨Nat.le_of_ble_eq_true rfl, Nat.le_of_ble_eq_true rfl⟩) hS (fun q _ h => hFc q h) hFc (fun r' u' t H locs ht hvm hw hB hz1 hk1 hS => ?_)
                  obtain ⟨e1, e2⟩ := hw
                  subst e1
                  subst e2
                  obtain ⟨hP1, -, hD1⟩ := hB
                  rw [ht] at hP1
                  have hP : va_P (dC, dI) vwCl ((W_Model cI a u33)) H := hP1
                  have hD : va_D A ((W_Model cI a u33)) := hD1.weaken (fun _ _ _ h => hFc _ h)
                  refine lv_goto (tgt := 166) hx hb dX5_isValue_159 (by decide) ?_
                  have e50 := Option.some.inj hF
                  obtain ⟨e60, e51⟩ := Prod.mk.inj e50
                  subst e60
                  subst e51
                  exact W.zret (v := (b2i r32)) hx hb hr (nb2i _) (fun t ht hW => ⟨⟨(b2i r32), u33, rfl, ⟨rfl, rfl⟩, by rw [ht]; exact hP, va_K.moved hW.alike hK, hD⟩, hS.F ht⟩) hS.2.2 dX5_isValue_166
                · have hF := F_neg c31 hF
                  refine lv_iload_n hx hb dX5_isValue_143 rfl (lv_at hl 0 rfl) ?_
                  refine lv_bipush (v := (48 : Int32)) hx hb dX5_isValue_144 (by decide) ?_
                  refine lv_bipush (v := (57 : Int32)) hx hb dX5_isValue_146 (by decide) ?_
                  obtain ⟨r35, h36, hF⟩ := ob1_some hF
                  have hPc : va_P (dC, dI) vwCl ([] : va_W) H := fun k q h => by simp at h
                  have hDc : va_D A ([] : va_W) := ⟨fun i j p q h => by simp at h, fun k q h => by simp at h⟩
                  have hFc := jFreeW (ws := []) hDc hS hA
                  refine va_calli (va_runS (As := [.int t0, .int (48 : Int32), .int (57 : Int32)]) (rest := []) ⟨hx, hb, hml, hown, hts⟩ (c_X5_in l dC dI cI  H.size _ _ _ _ h36) (va_cwS 3 hts gX5_isValue_X5_in rfl rfl rfl (by decide +kernel) ⟨Nat.le_of_ble_eq_true rfl, Nat.le_of_ble_eq_true rfl⟩) (jPreS hK hPc hDc hN) rfl rfl hl.1 rfl (lv_room (Nat.le_of_ble_eq_true rfl)) dX5_isValue_148 ⟨Nat.le_of_ble_eq_true rfl, Nat.le_of_ble_eq_true rfl⟩) hS (fun q _ h => hFc q h) hFc (fun r' u' t H locs ht hvm hw hB hz1 hk1 hS => ?_)
                  subst hw
                  obtain ⟨hP1, -, hD1⟩ := hB
                  rw [ht] at hP1
                  have hP : va_P (dC, dI) vwCl ((W_Model cI a S)) H := jNone hP hk1
                  refine lv_if_eq (tgt := 162) hx hb dX5_isValue_151 (by decide) (fun c37 => ?_) (fun c37 => ?_)
                  · have hF := F_pos c37 hF
                    refine lv_aload_n hx hb dX5_isValue_162 rfl (lv_at hl 1 rfl) ?_
                    obtain ⟨r38, u39, h40, hF⟩ := ob2_some hF
                    have hPc : va_P (dC, dI) vwCl ((W_Model cI a S)) H := hP
                    have hDc : va_D A ((W_Model cI a S)) := hD
                    have hFc := jFreeW (ws := (W_Model cI a S)) hD hS hA
                    refine va_calli (va_runV (As := []) (rest := []) ⟨hx, hb, hml, hown, hts⟩ (c_X5_stops l dC dI cI a H.size _ _ _ h40) (cwV 0 hts gX5_isValue_X5_stops rfl rfl rfl (by decide +kernel) ⟨Nat.le_of_ble_eq_true rfl, Nat.le_of_ble_eq_true rfl⟩) (jPreV hK hPc hDc hN (ci := 5) rfl rfl) rfl rfl hl.1 rfl (lv_room (Nat.le_of_ble_eq_true rfl)) dX5_isValue_163 ⟨Nat.le_of_ble_eq_true rfl, Nat.le_of_ble_eq_true rfl⟩) hS (fun q _ h => hFc q h) hFc (fun r' u' t H locs ht hvm hw hB hz1 hk1 hS => ?_)
                    obtain ⟨e1, e2⟩ := hw
                    subst e1
                    subst e2
                    obtain ⟨hP1, -, hD1⟩ := hB
                    rw [ht] at hP1
                    have hP : va_P (dC, dI) vwCl ((W_Model cI a u39)) H := hP1
                    have hD : va_D A ((W_Model cI a u39)) := hD1.weaken (fun _ _ _ h => hFc _ h)
                    have e50 := Option.some.inj hF
                    obtain ⟨e60, e51⟩ := Prod.mk.inj e50
                    subst e60
                    subst e51
                    exact W.zret (v := (b2i r38)) hx hb hr (nb2i _) (fun t ht hW => ⟨⟨(b2i r38), u39, rfl, ⟨rfl, rfl⟩, by rw [ht]; exact hP, va_K.moved hW.alike hK, hD⟩, hS.F ht⟩) hS.2.2 dX5_isValue_166
                  · have hF := F_neg c37 hF
                    refine lv_aload_n hx hb dX5_isValue_154 rfl (lv_at hl 1 rfl) ?_
                    refine lv_iload_n hx hb dX5_isValue_155 rfl (lv_at hl 2 rfl) ?_
                    obtain ⟨r41, u42, h43, hF⟩ := ob2_some hF
                    have hPc : va_P (dC, dI) vwCl ((W_Model cI a S)) H := hP
                    have hDc : va_D A ((W_Model cI a S)) := hD
                    have hFc := jFreeW (ws := (W_Model cI a S)) hD hS hA
                    refine va_calli (va_runV (As := [.int v1]) (rest := []) ⟨hx, hb, hml, hown, hts⟩ (c_X5_isNumber l dC dI cI a H.size _ _ _ _ h43) (cwV 1 hts gX5_isValue_X5_isNumber rfl rfl rfl (by decide +kernel) ⟨Nat.le_of_ble_eq_true rfl, Nat.le_of_ble_eq_true rfl⟩) (jPreV hK hPc hDc hN (ci := 5) rfl rfl) rfl rfl hl.1 rfl (lv_room (Nat.le_of_ble_eq_true rfl)) dX5_isValue_156 ⟨Nat.le_of_ble_eq_true rfl, Nat.le_of_ble_eq_true rfl⟩) hS (fun q _ h => hFc q h) hFc (fun r' u' t H locs ht hvm hw hB hz1 hk1 hS => ?_)
                    obtain ⟨e1, e2⟩ := hw
                    subst e1
                    subst e2
                    obtain ⟨hP1, -, hD1⟩ := hB
                    rw [ht] at hP1
                    have hP : va_P (dC, dI) vwCl ((W_Model cI a u42)) H := hP1
                    have hD : va_D A ((W_Model cI a u42)) := hD1.weaken (fun _ _ _ h => hFc _ h)
                    refine lv_goto (tgt := 166) hx hb dX5_isValue_159 (by decide) ?_
                    have e50 := Option.some.inj hF
                    obtain ⟨e60, e51⟩ := Prod.mk.inj e50
                    subst e60
                    subst e51
                    exact W.zret (v := (b2i r41)) hx hb hr (nb2i _) (fun t ht hW => ⟨⟨(b2i r41), u42, rfl, ⟨rfl, rfl⟩, by rw [ht]; exact hP, va_K.moved hW.alike hK, hD⟩, hS.F ht⟩) hS.2.2 dX5_isValue_166
  have KE : ∀ (H : Heap) (locs : List Loc), va_P (dC, dI) vwCl ((W_Model cI a S)) H → va_D A ((W_Model cI a S)) → va_S A s.heap H locs → W p l e (headSpec wsX5_isValue ({ frames := 4, cells := 0, slots := 0, locals := 91 } : Room)).room s m ([.ref (a 0), .int v1] : List Value).toArray below meth c H locs 0 0 (MQ below (va_Qi (fun (r' : Int32) (u : S_Model) => b2i rr = r' ∧ Y = u) (fun u : S_Model => jB (dC, dI) [(cI, .int)] A ((W_Model cI a u))) A) ([.ref (a 0), .int v1] : List Value).toArray s 0 0 A) (F0 m 0 ls []) := by
    intro H locs hP hD hS
    unfold F_X5_isValue at hF
    refine lv_aload_n hx hb dX5_isValue_0 rfl (lv_at hl 0 rfl) ?_
    refine wg_at (v := .int (g_Model_at S)) hx hb hts hinX5 hown hK hP rfl (hts (Cond.fieldLink RX5 68 "LearnedShapesModel" "at" "I") (List.mem_of_getElem? (i := 1) rfl)) dX5_isValue_1 ?_
    refine lv_aload_n hx hb dX5_isValue_4 rfl (lv_at hl 0 rfl) ?_
    refine wg_typed (v := .int (g_Model_typed S)) hx hb hts hinX5 hown hK hP rfl (hts (Cond.fieldLink RX5 71 "LearnedShapesModel" "typed" "I") (List.mem_of_getElem? (i := 2) rfl)) dX5_isValue_5 ?_
    refine lv_icmp_ge (tgt := 23) hx hb dX5_isValue_8 (by decide) (fun c44 => ?_) (fun c44 => ?_)
    · have hF := F_pos c44 hF
      refine lv_iconst (v := (0 : Int32)) hx hb dX5_isValue_23 (by decide) ?_
      exact K24 _ _ _ _ hF hP hD hS _ (lv_sub hl [0, 1] rfl)
    · have hF := F_neg c44 hF
      refine lv_aload_n hx hb dX5_isValue_11 rfl (lv_at hl 0 rfl) ?_
      refine wg_text (v := .ref (a 3)) hx hb hts hinX5 hown hK hP rfl (hts (Cond.fieldLink RX5 16 "LearnedShapesModel" "text" "[I") (List.mem_of_getElem? (i := 3) rfl)) dX5_isValue_12 ?_
      refine lv_aload_n hx hb dX5_isValue_15 rfl (lv_at hl 0 rfl) ?_
      refine wg_at (v := .int (g_Model_at S)) hx hb hts hinX5 hown hK hP rfl (hts (Cond.fieldLink RX5 68 "LearnedShapesModel" "at" "I") (List.mem_of_getElem? (i := 1) rfl)) dX5_isValue_16 ?_
      obtain ⟨g45, hF⟩ := og_some hF
      refine wl_text (f := (g_Model_text S)) hx hb hK hP rfl (inb_in g45) dX5_isValue_19 ?_
      refine lv_goto (tgt := 24) hx hb dX5_isValue_20 (by decide) ?_
      exact K24 _ _ _ _ hF hP hD hS _ (lv_sub hl [0, 1] rfl)
  exact KE _ _ hP hD hS
set_option maxHeartbeats 4000000 in
set_option maxRecDepth 100000 in
theorem c_X5_closes (l : Launch) (dC : Nat → ClassId) (dI : Nat → Nat → Nat) (cI : ClassId) (a : Nat → Nat) (sz : Nat) (S : S_Model) (v1 : Int32) (rr : Bool) (Y : S_Model) (hF : F_X5_closes S v1 = some (rr, Y)) : Met l yX5_closes wsX5_closes ({ frames := 0, cells := 0, slots := 0, locals := 0 } : Room) (va_Pc [.ref (a 0), .int v1] (jPre (dC, dI) [(cI, .int)] sz ((W_Model cI a S)))) (va_Qi (fun (r' : Int32) (u : S_Model) => b2i rr = r' ∧ Y = u) (fun u : S_Model => jB (dC, dI) [(cI, .int)] (va_A ((W_Model cI a S)) sz) ((W_Model cI a u))) (va_A ((W_Model cI a S)) sz)) 0 0 (va_A ((W_Model cI a S)) sz) := by
  refine Met.ofW (cc := cX5_closes) (maxL := 2) (ret := (some .boolean)) (by decide) rfl ?_
  intro p e s m args below meth c s₁ B hml hv
  obtain ⟨rfl, hsz, hP, hK, hD0, hN⟩ := hv
  have hx := B.exec
  have hb := B.bytes
  have hr := B.returns
  have hts := atoms_spec (ws := wsX5_closes) B.pre
  have hown : s.vm.findClass RX5 = some m.cls := findClass_of_methodNamed B.named
  have hlocks := B.notSynchronized
  have hinX5 : ∀ w ∈ u_ws RX5 TX5 26, w ∈ wsX5_closes := by decide +kernel
  subst hsz
  have hD := hD0.self (sz := s.heap.size)
  generalize hAe : (va_A ((W_Model cI a S)) s.heap.size) = A at hD ⊢
  have hA : ∀ q : Nat, s.heap.size ≤ q → A q := fun q h => by rw [← hAe]; exact Or.inr h
  have hS : va_S A s.heap s.heap [] := va_S.rf
  have hl := lv_entry ([.ref (a 0), .int v1]) (n := 2) (Nat.le_of_ble_eq_true rfl)
  rw [lg_entry_eq]
  generalize (lg_sl ([.ref (a 0), .int v1]) ++ List.replicate (2 - (lg_sl ([.ref (a 0), .int v1])).length) Slot.unset).toArray = ls at hl ⊢
  have hl : lv_has ls 2 [(0, .ref (a 0)), (1, .int v1)] := hl
  have KE : ∀ (H : Heap) (locs : List Loc), va_P (dC, dI) vwCl ((W_Model cI a S)) H → va_D A ((W_Model cI a S)) → va_S A s.heap H locs → W p l e (headSpec wsX5_closes ({ frames := 0, cells := 0, slots := 0, locals := 0 } : Room)).room s m ([.ref (a 0), .int v1] : List Value).toArray below meth c H locs 0 0 (MQ below (va_Qi (fun (r' : Int32) (u : S_Model) => b2i rr = r' ∧ Y = u) (fun u : S_Model => jB (dC, dI) [(cI, .int)] A ((W_Model cI a u))) A) ([.ref (a 0), .int v1] : List Value).toArray s 0 0 A) (F0 m 0 ls []) := by
    intro H locs hP hD hS
    unfold F_X5_closes at hF
    refine lv_aload_n hx hb dX5_closes_0 rfl (lv_at hl 0 rfl) ?_
    refine wg_ends (v := .ref (a 8)) hx hb hts hinX5 hown hK hP rfl (hts (Cond.fieldLink RX5 31 "LearnedShapesModel" "ends" "[I") (List.mem_of_getElem? (i := 1) rfl)) dX5_closes_1 ?_
    refine lv_iload_n hx hb dX5_closes_4 rfl (lv_at hl 1 rfl) ?_
    refine lv_aload_n hx hb dX5_closes_5 rfl (lv_at hl 0 rfl) ?_
    refine wg_at (v := .int (g_Model_at S)) hx hb hts hinX5 hown hK hP rfl (hts (Cond.fieldLink RX5 68 "LearnedShapesModel" "at" "I") (List.mem_of_getElem? (i := 2) rfl)) dX5_closes_6 ?_
    obtain ⟨g1, hF⟩ := og_some hF
    refine ws_ends (f := (g_Model_ends S)) hx hb hK hP hD hS rfl (inb_in g1) dX5_closes_9 (fun H locs hP hD hS => ?_)
    refine lv_aload_n hx hb dX5_closes_10 rfl (lv_at hl 0 rfl) ?_
    refine lv_dup hx hb dX5_closes_11 rfl ?_
    refine wg_at (v := .int (g_Model_at S)) hx hb hts hinX5 hown hK hP rfl (hts (Cond.fieldLink RX5 68 "LearnedShapesModel" "at" "I") (List.mem_of_getElem? (i := 2) rfl)) dX5_closes_12 ?_
    refine lv_iconst (v := (1 : Int32)) hx hb dX5_closes_15 (by decide) ?_
    refine lv_iadd hx hb dX5_closes_16 ?_
    refine wp_at (v := ((g_Model_at S) + (1 : Int32))) hx hb hts hinX5 hown hK hP hD hS (hts (Cond.fieldLink RX5 68 "LearnedShapesModel" "at" "I") (List.mem_of_getElem? (i := 2) rfl)) (rfl) (rfl) dX5_closes_17 (fun H locs hP hD hS => ?_)
    refine lv_aload_n hx hb dX5_closes_20 rfl (lv_at hl 0 rfl) ?_
    refine lv_dup hx hb dX5_closes_21 rfl ?_
    refine wg_deep (v := .int (g_Model_deep S)) hx hb hts hinX5 hown hK hP rfl (hts (Cond.fieldLink RX5 85 "LearnedShapesModel" "deep" "I") (List.mem_of_getElem? (i := 3) rfl)) dX5_closes_22 ?_
    refine lv_iconst (v := (1 : Int32)) hx hb dX5_closes_25 (by decide) ?_
    refine lv_isub hx hb dX5_closes_26 ?_
    refine wp_deep (v := ((g_Model_deep S) - (1 : Int32))) hx hb hts hinX5 hown hK hP hD hS (hts (Cond.fieldLink RX5 85 "LearnedShapesModel" "deep" "I") (List.mem_of_getElem? (i := 3) rfl)) (rfl) (rfl) dX5_closes_27 (fun H locs hP hD hS => ?_)
    refine lv_iconst (v := (1 : Int32)) hx hb dX5_closes_30 (by decide) ?_
    have e50 := Option.some.inj hF
    obtain ⟨e60, e51⟩ := Prod.mk.inj e50
    subst e60
    subst e51
    exact W.zret (v := (1 : Int32)) hx hb hr (rfl) (fun t ht hW => ⟨⟨(1 : Int32), (s_Model_deep (s_Model_at (s_Model_ends S (upd (g_Model_ends S) v1.toNatClampNeg (g_Model_at S))) ((g_Model_at S) + (1 : Int32))) ((g_Model_deep S) - (1 : Int32))), rfl, ⟨rfl, rfl⟩, by rw [ht]; exact hP, va_K.moved hW.alike hK, hD⟩, hS.F ht⟩) hS.2.2 dX5_closes_31
  exact KE _ _ hP hD hS
