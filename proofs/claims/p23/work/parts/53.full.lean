set_option maxHeartbeats 4000000 in
set_option maxRecDepth 100000 in
theorem c_X4_savedAt_0 (l : Launch) (dC : Nat → ClassId) (dI : Nat → Nat → Nat) (cI cS : ClassId) (a : Nat → Nat) (q : Nat → Nat → Nat) (sz : Nat) (S : S_LS) (Z : Nat → S_State) (v1 : Int32) (hv1 : v1 = (0 : Int32)) : Met l yX4_savedAt wsX4_savedAt ({ frames := 0, cells := 0, slots := 0, locals := 0 } : Room) (va_Pc [.ref (a 0), .int v1] (jPre (dC, dI) [(cI, .int), (cS, .object "LearnedShapes$State")] sz (W_Full cI cS a q S Z))) (va_Qq (fun (r : Option Nat) (_ : Unit) => some (q 0 0) = r) (fun _ : Unit => jB (dC, dI) [(cI, .int), (cS, .object "LearnedShapes$State")] (va_A (W_Full cI cS a q S Z) sz) (W_Full cI cS a q S Z)) (va_A (W_Full cI cS a q S Z) sz)) 0 0 (va_A (W_Full cI cS a q S Z) sz) := by
  refine Met.ofW (cc := cX4_savedAt) (maxL := 2) (ret := (some (.object "LearnedShapes$State"))) (by decide) rfl ?_
  intro p e s m args below meth c s₁ B hml hv
  obtain ⟨rfl, hsz, hP, hK, hD0, hN⟩ := hv
  have hx := B.exec
  have hb := B.bytes
  have hr := B.returns
  have hts := atoms_spec (ws := wsX4_savedAt) B.pre
  have hown : s.vm.findClass RX4 = some m.cls := findClass_of_methodNamed B.named
  have hlocks := B.notSynchronized
  have hinX4 : ∀ w ∈ u_ws RX4 TX4 8, w ∈ wsX4_savedAt := by decide +kernel
  subst hsz
  have hD := hD0.self (sz := s.heap.size)
  generalize hAe : (va_A (W_Full cI cS a q S Z) s.heap.size) = A at hD ⊢
  have hS : va_S A s.heap s.heap [] := va_S.rf
  have hl := lv_entry ([.ref (a 0), .int v1]) (n := 2) (Nat.le_of_ble_eq_true rfl)
  rw [lg_entry_eq]
  generalize (lg_sl ([.ref (a 0), .int v1]) ++ List.replicate (2 - (lg_sl ([.ref (a 0), .int v1])).length) Slot.unset).toArray = ls at hl ⊢
  have hl : lv_has ls 2 [(0, .ref (a 0)), (1, .int v1)] := hl
  subst hv1
  refine lv_iload_n hx hb dX4_savedAt_0 rfl (lv_at hl 1 rfl) ?_
  refine lv_if_lt (tgt := 22) hx hb dX4_savedAt_1 (by decide) (fun c1 => absurd c1 (by decide)) (fun c1 => ?_)
  refine lv_iload_n hx hb dX4_savedAt_4 rfl (lv_at hl 1 rfl) ?_
  refine lv_aload_n hx hb dX4_savedAt_5 rfl (lv_at hl 0 rfl) ?_
  refine va_get (D := (dC, dI)) (ci := 4) (v := .ref (a 13)) (C := RX4) (T := TX4) (N := 8) hx hb hts hinX4 hown hK hP 0 rfl rfl 4 (by decide) (hts (Cond.fieldLink RX4 27 "LearnedShapes" "saved" "[LLearnedShapes$State;") (List.mem_of_getElem? (i := 1) rfl)) (fun _ h9 => h9) rfl dX4_savedAt_6 ?_
  refine va_alen (v := (6 : Int32)) hx hb hK hP 13 1 rfl rfl rfl dX4_savedAt_9 ?_
  refine lv_icmp_ge (tgt := 22) hx hb dX4_savedAt_10 (by decide) (fun c2 => absurd c2 (by decide)) (fun c2 => ?_)
  refine lv_aload_n hx hb dX4_savedAt_13 rfl (lv_at hl 0 rfl) ?_
  refine va_get (D := (dC, dI)) (ci := 4) (v := .ref (a 13)) (C := RX4) (T := TX4) (N := 8) hx hb hts hinX4 hown hK hP 0 rfl rfl 4 (by decide) (hts (Cond.fieldLink RX4 27 "LearnedShapes" "saved" "[LLearnedShapes$State;") (List.mem_of_getElem? (i := 1) rfl)) (fun _ h9 => h9) rfl dX4_savedAt_14 ?_
  refine lv_iload_n hx hb dX4_savedAt_17 rfl (lv_at hl 1 rfl) ?_
  refine va_aldq (f := rl [q 0 0, q 1 0, q 2 0, q 3 0, q 4 0, q 5 0]) hx hb hK hP 13 1 rfl rfl (inb_in (by decide)) dX4_savedAt_18 ?_
  refine W.eq (g2 := F0 m 19 ls [.ref (q 0 0)]) rfl ?_
  refine lv_goto (tgt := 23) hx hb dX4_savedAt_19 (by decide) ?_
  exact W.aret (v := .ref (q 0 0)) hx hb hr (Or.inl ⟨_, rfl⟩) (Or.inr ⟨_, rfl⟩) (fun t ht hW => ⟨⟨some (q 0 0), (), rfl, rfl, by rw [ht]; exact hP, va_K.moved hW.alike hK, hD⟩, hS.F ht⟩) hS.2.2 dX4_savedAt_23
set_option maxHeartbeats 4000000 in
set_option maxRecDepth 100000 in
theorem c_X4_savedAt_1 (l : Launch) (dC : Nat → ClassId) (dI : Nat → Nat → Nat) (cI cS : ClassId) (a : Nat → Nat) (q : Nat → Nat → Nat) (sz : Nat) (S : S_LS) (Z : Nat → S_State) (v1 : Int32) (hv1 : v1 = (1 : Int32)) : Met l yX4_savedAt wsX4_savedAt ({ frames := 0, cells := 0, slots := 0, locals := 0 } : Room) (va_Pc [.ref (a 0), .int v1] (jPre (dC, dI) [(cI, .int), (cS, .object "LearnedShapes$State")] sz (W_Full cI cS a q S Z))) (va_Qq (fun (r : Option Nat) (_ : Unit) => some (q 1 0) = r) (fun _ : Unit => jB (dC, dI) [(cI, .int), (cS, .object "LearnedShapes$State")] (va_A (W_Full cI cS a q S Z) sz) (W_Full cI cS a q S Z)) (va_A (W_Full cI cS a q S Z) sz)) 0 0 (va_A (W_Full cI cS a q S Z) sz) := by
  refine Met.ofW (cc := cX4_savedAt) (maxL := 2) (ret := (some (.object "LearnedShapes$State"))) (by decide) rfl ?_
  intro p e s m args below meth c s₁ B hml hv
  obtain ⟨rfl, hsz, hP, hK, hD0, hN⟩ := hv
  have hx := B.exec
  have hb := B.bytes
  have hr := B.returns
  have hts := atoms_spec (ws := wsX4_savedAt) B.pre
  have hown : s.vm.findClass RX4 = some m.cls := findClass_of_methodNamed B.named
  have hlocks := B.notSynchronized
  have hinX4 : ∀ w ∈ u_ws RX4 TX4 8, w ∈ wsX4_savedAt := by decide +kernel
  subst hsz
  have hD := hD0.self (sz := s.heap.size)
  generalize hAe : (va_A (W_Full cI cS a q S Z) s.heap.size) = A at hD ⊢
  have hS : va_S A s.heap s.heap [] := va_S.rf
  have hl := lv_entry ([.ref (a 0), .int v1]) (n := 2) (Nat.le_of_ble_eq_true rfl)
  rw [lg_entry_eq]
  generalize (lg_sl ([.ref (a 0), .int v1]) ++ List.replicate (2 - (lg_sl ([.ref (a 0), .int v1])).length) Slot.unset).toArray = ls at hl ⊢
  have hl : lv_has ls 2 [(0, .ref (a 0)), (1, .int v1)] := hl
  subst hv1
  refine lv_iload_n hx hb dX4_savedAt_0 rfl (lv_at hl 1 rfl) ?_
  refine lv_if_lt (tgt := 22) hx hb dX4_savedAt_1 (by decide) (fun c1 => absurd c1 (by decide)) (fun c1 => ?_)
  refine lv_iload_n hx hb dX4_savedAt_4 rfl (lv_at hl 1 rfl) ?_
  refine lv_aload_n hx hb dX4_savedAt_5 rfl (lv_at hl 0 rfl) ?_
  refine va_get (D := (dC, dI)) (ci := 4) (v := .ref (a 13)) (C := RX4) (T := TX4) (N := 8) hx hb hts hinX4 hown hK hP 0 rfl rfl 4 (by decide) (hts (Cond.fieldLink RX4 27 "LearnedShapes" "saved" "[LLearnedShapes$State;") (List.mem_of_getElem? (i := 1) rfl)) (fun _ h9 => h9) rfl dX4_savedAt_6 ?_
  refine va_alen (v := (6 : Int32)) hx hb hK hP 13 1 rfl rfl rfl dX4_savedAt_9 ?_
  refine lv_icmp_ge (tgt := 22) hx hb dX4_savedAt_10 (by decide) (fun c2 => absurd c2 (by decide)) (fun c2 => ?_)
  refine lv_aload_n hx hb dX4_savedAt_13 rfl (lv_at hl 0 rfl) ?_
  refine va_get (D := (dC, dI)) (ci := 4) (v := .ref (a 13)) (C := RX4) (T := TX4) (N := 8) hx hb hts hinX4 hown hK hP 0 rfl rfl 4 (by decide) (hts (Cond.fieldLink RX4 27 "LearnedShapes" "saved" "[LLearnedShapes$State;") (List.mem_of_getElem? (i := 1) rfl)) (fun _ h9 => h9) rfl dX4_savedAt_14 ?_
  refine lv_iload_n hx hb dX4_savedAt_17 rfl (lv_at hl 1 rfl) ?_
  refine va_aldq (f := rl [q 0 0, q 1 0, q 2 0, q 3 0, q 4 0, q 5 0]) hx hb hK hP 13 1 rfl rfl (inb_in (by decide)) dX4_savedAt_18 ?_
  refine W.eq (g2 := F0 m 19 ls [.ref (q 1 0)]) rfl ?_
  refine lv_goto (tgt := 23) hx hb dX4_savedAt_19 (by decide) ?_
  exact W.aret (v := .ref (q 1 0)) hx hb hr (Or.inl ⟨_, rfl⟩) (Or.inr ⟨_, rfl⟩) (fun t ht hW => ⟨⟨some (q 1 0), (), rfl, rfl, by rw [ht]; exact hP, va_K.moved hW.alike hK, hD⟩, hS.F ht⟩) hS.2.2 dX4_savedAt_23
set_option maxHeartbeats 4000000 in
set_option maxRecDepth 100000 in
theorem c_X4_savedAt_2 (l : Launch) (dC : Nat → ClassId) (dI : Nat → Nat → Nat) (cI cS : ClassId) (a : Nat → Nat) (q : Nat → Nat → Nat) (sz : Nat) (S : S_LS) (Z : Nat → S_State) (v1 : Int32) (hv1 : v1 = (2 : Int32)) : Met l yX4_savedAt wsX4_savedAt ({ frames := 0, cells := 0, slots := 0, locals := 0 } : Room) (va_Pc [.ref (a 0), .int v1] (jPre (dC, dI) [(cI, .int), (cS, .object "LearnedShapes$State")] sz (W_Full cI cS a q S Z))) (va_Qq (fun (r : Option Nat) (_ : Unit) => some (q 2 0) = r) (fun _ : Unit => jB (dC, dI) [(cI, .int), (cS, .object "LearnedShapes$State")] (va_A (W_Full cI cS a q S Z) sz) (W_Full cI cS a q S Z)) (va_A (W_Full cI cS a q S Z) sz)) 0 0 (va_A (W_Full cI cS a q S Z) sz) := by
  refine Met.ofW (cc := cX4_savedAt) (maxL := 2) (ret := (some (.object "LearnedShapes$State"))) (by decide) rfl ?_
  intro p e s m args below meth c s₁ B hml hv
  obtain ⟨rfl, hsz, hP, hK, hD0, hN⟩ := hv
  have hx := B.exec
  have hb := B.bytes
  have hr := B.returns
  have hts := atoms_spec (ws := wsX4_savedAt) B.pre
  have hown : s.vm.findClass RX4 = some m.cls := findClass_of_methodNamed B.named
  have hlocks := B.notSynchronized
  have hinX4 : ∀ w ∈ u_ws RX4 TX4 8, w ∈ wsX4_savedAt := by decide +kernel
  subst hsz
  have hD := hD0.self (sz := s.heap.size)
  generalize hAe : (va_A (W_Full cI cS a q S Z) s.heap.size) = A at hD ⊢
  have hS : va_S A s.heap s.heap [] := va_S.rf
  have hl := lv_entry ([.ref (a 0), .int v1]) (n := 2) (Nat.le_of_ble_eq_true rfl)
  rw [lg_entry_eq]
  generalize (lg_sl ([.ref (a 0), .int v1]) ++ List.replicate (2 - (lg_sl ([.ref (a 0), .int v1])).length) Slot.unset).toArray = ls at hl ⊢
  have hl : lv_has ls 2 [(0, .ref (a 0)), (1, .int v1)] := hl
  subst hv1
  refine lv_iload_n hx hb dX4_savedAt_0 rfl (lv_at hl 1 rfl) ?_
  refine lv_if_lt (tgt := 22) hx hb dX4_savedAt_1 (by decide) (fun c1 => absurd c1 (by decide)) (fun c1 => ?_)
  refine lv_iload_n hx hb dX4_savedAt_4 rfl (lv_at hl 1 rfl) ?_
  refine lv_aload_n hx hb dX4_savedAt_5 rfl (lv_at hl 0 rfl) ?_
  refine va_get (D := (dC, dI)) (ci := 4) (v := .ref (a 13)) (C := RX4) (T := TX4) (N := 8) hx hb hts hinX4 hown hK hP 0 rfl rfl 4 (by decide) (hts (Cond.fieldLink RX4 27 "LearnedShapes" "saved" "[LLearnedShapes$State;") (List.mem_of_getElem? (i := 1) rfl)) (fun _ h9 => h9) rfl dX4_savedAt_6 ?_
  refine va_alen (v := (6 : Int32)) hx hb hK hP 13 1 rfl rfl rfl dX4_savedAt_9 ?_
  refine lv_icmp_ge (tgt := 22) hx hb dX4_savedAt_10 (by decide) (fun c2 => absurd c2 (by decide)) (fun c2 => ?_)
  refine lv_aload_n hx hb dX4_savedAt_13 rfl (lv_at hl 0 rfl) ?_
  refine va_get (D := (dC, dI)) (ci := 4) (v := .ref (a 13)) (C := RX4) (T := TX4) (N := 8) hx hb hts hinX4 hown hK hP 0 rfl rfl 4 (by decide) (hts (Cond.fieldLink RX4 27 "LearnedShapes" "saved" "[LLearnedShapes$State;") (List.mem_of_getElem? (i := 1) rfl)) (fun _ h9 => h9) rfl dX4_savedAt_14 ?_
  refine lv_iload_n hx hb dX4_savedAt_17 rfl (lv_at hl 1 rfl) ?_
  refine va_aldq (f := rl [q 0 0, q 1 0, q 2 0, q 3 0, q 4 0, q 5 0]) hx hb hK hP 13 1 rfl rfl (inb_in (by decide)) dX4_savedAt_18 ?_
  refine W.eq (g2 := F0 m 19 ls [.ref (q 2 0)]) rfl ?_
  refine lv_goto (tgt := 23) hx hb dX4_savedAt_19 (by decide) ?_
  exact W.aret (v := .ref (q 2 0)) hx hb hr (Or.inl ⟨_, rfl⟩) (Or.inr ⟨_, rfl⟩) (fun t ht hW => ⟨⟨some (q 2 0), (), rfl, rfl, by rw [ht]; exact hP, va_K.moved hW.alike hK, hD⟩, hS.F ht⟩) hS.2.2 dX4_savedAt_23
set_option maxHeartbeats 4000000 in
set_option maxRecDepth 100000 in
theorem c_X4_savedAt_3 (l : Launch) (dC : Nat → ClassId) (dI : Nat → Nat → Nat) (cI cS : ClassId) (a : Nat → Nat) (q : Nat → Nat → Nat) (sz : Nat) (S : S_LS) (Z : Nat → S_State) (v1 : Int32) (hv1 : v1 = (3 : Int32)) : Met l yX4_savedAt wsX4_savedAt ({ frames := 0, cells := 0, slots := 0, locals := 0 } : Room) (va_Pc [.ref (a 0), .int v1] (jPre (dC, dI) [(cI, .int), (cS, .object "LearnedShapes$State")] sz (W_Full cI cS a q S Z))) (va_Qq (fun (r : Option Nat) (_ : Unit) => some (q 3 0) = r) (fun _ : Unit => jB (dC, dI) [(cI, .int), (cS, .object "LearnedShapes$State")] (va_A (W_Full cI cS a q S Z) sz) (W_Full cI cS a q S Z)) (va_A (W_Full cI cS a q S Z) sz)) 0 0 (va_A (W_Full cI cS a q S Z) sz) := by
  refine Met.ofW (cc := cX4_savedAt) (maxL := 2) (ret := (some (.object "LearnedShapes$State"))) (by decide) rfl ?_
  intro p e s m args below meth c s₁ B hml hv
  obtain ⟨rfl, hsz, hP, hK, hD0, hN⟩ := hv
  have hx := B.exec
  have hb := B.bytes
  have hr := B.returns
  have hts := atoms_spec (ws := wsX4_savedAt) B.pre
  have hown : s.vm.findClass RX4 = some m.cls := findClass_of_methodNamed B.named
  have hlocks := B.notSynchronized
  have hinX4 : ∀ w ∈ u_ws RX4 TX4 8, w ∈ wsX4_savedAt := by decide +kernel
  subst hsz
  have hD := hD0.self (sz := s.heap.size)
  generalize hAe : (va_A (W_Full cI cS a q S Z) s.heap.size) = A at hD ⊢
  have hS : va_S A s.heap s.heap [] := va_S.rf
  have hl := lv_entry ([.ref (a 0), .int v1]) (n := 2) (Nat.le_of_ble_eq_true rfl)
  rw [lg_entry_eq]
  generalize (lg_sl ([.ref (a 0), .int v1]) ++ List.replicate (2 - (lg_sl ([.ref (a 0), .int v1])).length) Slot.unset).toArray = ls at hl ⊢
  have hl : lv_has ls 2 [(0, .ref (a 0)), (1, .int v1)] := hl
  subst hv1
  refine lv_iload_n hx hb dX4_savedAt_0 rfl (lv_at hl 1 rfl) ?_
  refine lv_if_lt (tgt := 22) hx hb dX4_savedAt_1 (by decide) (fun c1 => absurd c1 (by decide)) (fun c1 => ?_)
  refine lv_iload_n hx hb dX4_savedAt_4 rfl (lv_at hl 1 rfl) ?_
  refine lv_aload_n hx hb dX4_savedAt_5 rfl (lv_at hl 0 rfl) ?_
  refine va_get (D := (dC, dI)) (ci := 4) (v := .ref (a 13)) (C := RX4) (T := TX4) (N := 8) hx hb hts hinX4 hown hK hP 0 rfl rfl 4 (by decide) (hts (Cond.fieldLink RX4 27 "LearnedShapes" "saved" "[LLearnedShapes$State;") (List.mem_of_getElem? (i := 1) rfl)) (fun _ h9 => h9) rfl dX4_savedAt_6 ?_
  refine va_alen (v := (6 : Int32)) hx hb hK hP 13 1 rfl rfl rfl dX4_savedAt_9 ?_
  refine lv_icmp_ge (tgt := 22) hx hb dX4_savedAt_10 (by decide) (fun c2 => absurd c2 (by decide)) (fun c2 => ?_)
  refine lv_aload_n hx hb dX4_savedAt_13 rfl (lv_at hl 0 rfl) ?_
  refine va_get (D := (dC, dI)) (ci := 4) (v := .ref (a 13)) (C := RX4) (T := TX4) (N := 8) hx hb hts hinX4 hown hK hP 0 rfl rfl 4 (by decide) (hts (Cond.fieldLink RX4 27 "LearnedShapes" "saved" "[LLearnedShapes$State;") (List.mem_of_getElem? (i := 1) rfl)) (fun _ h9 => h9) rfl dX4_savedAt_14 ?_
  refine lv_iload_n hx hb dX4_savedAt_17 rfl (lv_at hl 1 rfl) ?_
  refine va_aldq (f := rl [q 0 0, q 1 0, q 2 0, q 3 0, q 4 0, q 5 0]) hx hb hK hP 13 1 rfl rfl (inb_in (by decide)) dX4_savedAt_18 ?_
  refine W.eq (g2 := F0 m 19 ls [.ref (q 3 0)]) rfl ?_
  refine lv_goto (tgt := 23) hx hb dX4_savedAt_19 (by decide) ?_
  exact W.aret (v := .ref (q 3 0)) hx hb hr (Or.inl ⟨_, rfl⟩) (Or.inr ⟨_, rfl⟩) (fun t ht hW => ⟨⟨some (q 3 0), (), rfl, rfl, by rw [ht]; exact hP, va_K.moved hW.alike hK, hD⟩, hS.F ht⟩) hS.2.2 dX4_savedAt_23
set_option maxHeartbeats 4000000 in
set_option maxRecDepth 100000 in
theorem c_X4_savedAt_4 (l : Launch) (dC : Nat → ClassId) (dI : Nat → Nat → Nat) (cI cS : ClassId) (a : Nat → Nat) (q : Nat → Nat → Nat) (sz : Nat) (S : S_LS) (Z : Nat → S_State) (v1 : Int32) (hv1 : v1 = (4 : Int32)) : Met l yX4_savedAt wsX4_savedAt ({ frames := 0, cells := 0, slots := 0, locals := 0 } : Room) (va_Pc [.ref (a 0), .int v1] (jPre (dC, dI) [(cI, .int), (cS, .object "LearnedShapes$State")] sz (W_Full cI cS a q S Z))) (va_Qq (fun (r : Option Nat) (_ : Unit) => some (q 4 0) = r) (fun _ : Unit => jB (dC, dI) [(cI, .int), (cS, .object "LearnedShapes$State")] (va_A (W_Full cI cS a q S Z) sz) (W_Full cI cS a q S Z)) (va_A (W_Full cI cS a q S Z) sz)) 0 0 (va_A (W_Full cI cS a q S Z) sz) := by
  refine Met.ofW (cc := cX4_savedAt) (maxL := 2) (ret := (some (.object "LearnedShapes$State"))) (by decide) rfl ?_
  intro p e s m args below meth c s₁ B hml hv
  obtain ⟨rfl, hsz, hP, hK, hD0, hN⟩ := hv
  have hx := B.exec
  have hb := B.bytes
  have hr := B.returns
  have hts := atoms_spec (ws := wsX4_savedAt) B.pre
  have hown : s.vm.findClass RX4 = some m.cls := findClass_of_methodNamed B.named
  have hlocks := B.notSynchronized
  have hinX4 : ∀ w ∈ u_ws RX4 TX4 8, w ∈ wsX4_savedAt := by decide +kernel
  subst hsz
  have hD := hD0.self (sz := s.heap.size)
  generalize hAe : (va_A (W_Full cI cS a q S Z) s.heap.size) = A at hD ⊢
  have hS : va_S A s.heap s.heap [] := va_S.rf
  have hl := lv_entry ([.ref (a 0), .int v1]) (n := 2) (Nat.le_of_ble_eq_true rfl)
  rw [lg_entry_eq]
  generalize (lg_sl ([.ref (a 0), .int v1]) ++ List.replicate (2 - (lg_sl ([.ref (a 0), .int v1])).length) Slot.unset).toArray = ls at hl ⊢
  have hl : lv_has ls 2 [(0, .ref (a 0)), (1, .int v1)] := hl
  subst hv1
  refine lv_iload_n hx hb dX4_savedAt_0 rfl (lv_at hl 1 rfl) ?_
  refine lv_if_lt (tgt := 22) hx hb dX4_savedAt_1 (by decide) (fun c1 => absurd c1 (by decide)) (fun c1 => ?_)
  refine lv_iload_n hx hb dX4_savedAt_4 rfl (lv_at hl 1 rfl) ?_
  refine lv_aload_n hx hb dX4_savedAt_5 rfl (lv_at hl 0 rfl) ?_
  refine va_get (D := (dC, dI)) (ci := 4) (v := .ref (a 13)) (C := RX4) (T := TX4) (N := 8) hx hb hts hinX4 hown hK hP 0 rfl rfl 4 (by decide) (hts (Cond.fieldLink RX4 27 "LearnedShapes" "saved" "[LLearnedShapes$State;") (List.mem_of_getElem? (i := 1) rfl)) (fun _ h9 => h9) rfl dX4_savedAt_6 ?_
  refine va_alen (v := (6 : Int32)) hx hb hK hP 13 1 rfl rfl rfl dX4_savedAt_9 ?_
  refine lv_icmp_ge (tgt := 22) hx hb dX4_savedAt_10 (by decide) (fun c2 => absurd c2 (by decide)) (fun c2 => ?_)
  refine lv_aload_n hx hb dX4_savedAt_13 rfl (lv_at hl 0 rfl) ?_
  refine va_get (D := (dC, dI)) (ci := 4) (v := .ref (a 13)) (C := RX4) (T := TX4) (N := 8) hx hb hts hinX4 hown hK hP 0 rfl rfl 4 (by decide) (hts (Cond.fieldLink RX4 27 "LearnedShapes" "saved" "[LLearnedShapes$State;") (List.mem_of_getElem? (i := 1) rfl)) (fun _ h9 => h9) rfl dX4_savedAt_14 ?_
  refine lv_iload_n hx hb dX4_savedAt_17 rfl (lv_at hl 1 rfl) ?_
  refine va_aldq (f := rl [q 0 0, q 1 0, q 2 0, q 3 0, q 4 0, q 5 0]) hx hb hK hP 13 1 rfl rfl (inb_in (by decide)) dX4_savedAt_18 ?_
  refine W.eq (g2 := F0 m 19 ls [.ref (q 4 0)]) rfl ?_
  refine lv_goto (tgt := 23) hx hb dX4_savedAt_19 (by decide) ?_
  exact W.aret (v := .ref (q 4 0)) hx hb hr (Or.inl ⟨_, rfl⟩) (Or.inr ⟨_, rfl⟩) (fun t ht hW => ⟨⟨some (q 4 0), (), rfl, rfl, by rw [ht]; exact hP, va_K.moved hW.alike hK, hD⟩, hS.F ht⟩) hS.2.2 dX4_savedAt_23
set_option maxHeartbeats 4000000 in
set_option maxRecDepth 100000 in
theorem c_X4_savedAt_5 (l : Launch) (dC : Nat → ClassId) (dI : Nat → Nat → Nat) (cI cS : ClassId) (a : Nat → Nat) (q : Nat → Nat → Nat) (sz : Nat) (S : S_LS) (Z : Nat → S_State) (v1 : Int32) (hv1 : v1 = (5 : Int32)) : Met l yX4_savedAt wsX4_savedAt ({ frames := 0, cells := 0, slots := 0, locals := 0 } : Room) (va_Pc [.ref (a 0), .int v1] (jPre (dC, dI) [(cI, .int), (cS, .object "LearnedShapes$State")] sz (W_Full cI cS a q S Z))) (va_Qq (fun (r : Option Nat) (_ : Unit) => some (q 5 0) = r) (fun _ : Unit => jB (dC, dI) [(cI, .int), (cS, .object "LearnedShapes$State")] (va_A (W_Full cI cS a q S Z) sz) (W_Full cI cS a q S Z)) (va_A (W_Full cI cS a q S Z) sz)) 0 0 (va_A (W_Full cI cS a q S Z) sz) := by
  refine Met.ofW (cc := cX4_savedAt) (maxL := 2) (ret := (some (.object "LearnedShapes$State"))) (by decide) rfl ?_
  intro p e s m args below meth c s₁ B hml hv
  obtain ⟨rfl, hsz, hP, hK, hD0, hN⟩ := hv
  have hx := B.exec
  have hb := B.bytes
  have hr := B.returns
  have hts := atoms_spec (ws := wsX4_savedAt) B.pre
  have hown : s.vm.findClass RX4 = some m.cls := findClass_of_methodNamed B.named
  have hlocks := B.notSynchronized
  have hinX4 : ∀ w ∈ u_ws RX4 TX4 8, w ∈ wsX4_savedAt := by decide +kernel
  subst hsz
  have hD := hD0.self (sz := s.heap.size)
  generalize hAe : (va_A (W_Full cI cS a q S Z) s.heap.size) = A at hD ⊢
  have hS : va_S A s.heap s.heap [] := va_S.rf
  have hl := lv_entry ([.ref (a 0), .int v1]) (n := 2) (Nat.le_of_ble_eq_true rfl)
  rw [lg_entry_eq]
  generalize (lg_sl ([.ref (a 0), .int v1]) ++ List.replicate (2 - (lg_sl ([.ref (a 0), .int v1])).length) Slot.unset).toArray = ls at hl ⊢
  have hl : lv_has ls 2 [(0, .ref (a 0)), (1, .int v1)] := hl
  subst hv1
  refine lv_iload_n hx hb dX4_savedAt_0 rfl (lv_at hl 1 rfl) ?_
  refine lv_if_lt (tgt := 22) hx hb dX4_savedAt_1 (by decide) (fun c1 => absurd c1 (by decide)) (fun c1 => ?_)
  refine lv_iload_n hx hb dX4_savedAt_4 rfl (lv_at hl 1 rfl) ?_
  refine lv_aload_n hx hb dX4_savedAt_5 rfl (lv_at hl 0 rfl) ?_
  refine va_get (D := (dC, dI)) (ci := 4) (v := .ref (a 13)) (C := RX4) (T := TX4) (N := 8) hx hb hts hinX4 hown hK hP 0 rfl rfl 4 (by decide) (hts (Cond.fieldLink RX4 27 "LearnedShapes" "saved" "[LLearnedShapes$State;") (List.mem_of_getElem? (i := 1) rfl)) (fun _ h9 => h9) rfl dX4_savedAt_6 ?_
  refine va_alen (v := (6 : Int32)) hx hb hK hP 13 1 rfl rfl rfl dX4_savedAt_9 ?_
  refine lv_icmp_ge (tgt := 22) hx hb dX4_savedAt_10 (by decide) (fun c2 => absurd c2 (by decide)) (fun c2 => ?_)
  refine lv_aload_n hx hb dX4_savedAt_13 rfl (lv_at hl 0 rfl) ?_
  refine va_get (D := (dC, dI)) (ci := 4) (v := .ref (a 13)) (C := RX4) (T := TX4) (N := 8) hx hb hts hinX4 hown hK hP 0 rfl rfl 4 (by decide) (hts (Cond.fieldLink RX4 27 "LearnedShapes" "saved" "[LLearnedShapes$State;") (List.mem_of_getElem? (i := 1) rfl)) (fun _ h9 => h9) rfl dX4_savedAt_14 ?_
  refine lv_iload_n hx hb dX4_savedAt_17 rfl (lv_at hl 1 rfl) ?_
  refine va_aldq (f := rl [q 0 0, q 1 0, q 2 0, q 3 0, q 4 0, q 5 0]) hx hb hK hP 13 1 rfl rfl (inb_in (by decide)) dX4_savedAt_18 ?_
  refine W.eq (g2 := F0 m 19 ls [.ref (q 5 0)]) rfl ?_
  refine lv_goto (tgt := 23) hx hb dX4_savedAt_19 (by decide) ?_
  exact W.aret (v := .ref (q 5 0)) hx hb hr (Or.inl ⟨_, rfl⟩) (Or.inr ⟨_, rfl⟩) (fun t ht hW => ⟨⟨some (q 5 0), (), rfl, rfl, by rw [ht]; exact hP, va_K.moved hW.alike hK, hD⟩, hS.F ht⟩) hS.2.2 dX4_savedAt_23
set_option maxHeartbeats 4000000 in
set_option maxRecDepth 100000 in
theorem c_X4_savedAt_n (l : Launch) (dC : Nat → ClassId) (dI : Nat → Nat → Nat) (cI cS : ClassId) (a : Nat → Nat) (q : Nat → Nat → Nat) (sz : Nat) (S : S_LS) (Z : Nat → S_State) (v1 : Int32) (hv1 : v1 < 0 ∨ 6 ≤ v1) : Met l yX4_savedAt wsX4_savedAt ({ frames := 0, cells := 0, slots := 0, locals := 0 } : Room) (va_Pc [.ref (a 0), .int v1] (jPre (dC, dI) [(cI, .int), (cS, .object "LearnedShapes$State")] sz (W_Full cI cS a q S Z))) (va_Qq (fun (r : Option Nat) (_ : Unit) => none = r) (fun _ : Unit => jB (dC, dI) [(cI, .int), (cS, .object "LearnedShapes$State")] (va_A (W_Full cI cS a q S Z) sz) (W_Full cI cS a q S Z)) (va_A (W_Full cI cS a q S Z) sz)) 0 0 (va_A (W_Full cI cS a q S Z) sz) := by
  refine Met.ofW (cc := cX4_savedAt) (maxL := 2) (ret := (some (.object "LearnedShapes$State"))) (by decide) rfl ?_
  intro p e s m args below meth c s₁ B hml hv
  obtain ⟨rfl, hsz, hP, hK, hD0, hN⟩ := hv
  have hx := B.exec
  have hb := B.bytes
  have hr := B.returns
  have hts := atoms_spec (ws := wsX4_savedAt) B.pre
  have hown : s.vm.findClass RX4 = some m.cls := findClass_of_methodNamed B.named
  have hlocks := B.notSynchronized
  have hinX4 : ∀ w ∈ u_ws RX4 TX4 8, w ∈ wsX4_savedAt := by decide +kernel
  subst hsz
  have hD := hD0.self (sz := s.heap.size)
  generalize hAe : (va_A (W_Full cI cS a q S Z) s.heap.size) = A at hD ⊢
  have hS : va_S A s.heap s.heap [] := va_S.rf
  have hl := lv_entry ([.ref (a 0), .int v1]) (n := 2) (Nat.le_of_ble_eq_true rfl)
  rw [lg_entry_eq]
  generalize (lg_sl ([.ref (a 0), .int v1]) ++ List.replicate (2 - (lg_sl ([.ref (a 0), .int v1])).length) Slot.unset).toArray = ls at hl ⊢
  have hl : lv_has ls 2 [(0, .ref (a 0)), (1, .int v1)] := hl
  refine lv_iload_n hx hb dX4_savedAt_0 rfl (lv_at hl 1 rfl) ?_
  refine lv_if_lt (tgt := 22) hx hb dX4_savedAt_1 (by decide) (fun c1 => ?_) (fun c1 => ?_)
  · refine lv_null hx hb dX4_savedAt_22 ?_
    exact W.aret (v := .null) hx hb hr (Or.inl ⟨_, rfl⟩) (Or.inl rfl) (fun t ht hW => ⟨⟨none, (), rfl, rfl, by rw [ht]; exact hP, va_K.moved hW.alike hK, hD⟩, hS.F ht⟩) hS.2.2 dX4_savedAt_23
  · refine lv_iload_n hx hb dX4_savedAt_4 rfl (lv_at hl 1 rfl) ?_
    refine lv_aload_n hx hb dX4_savedAt_5 rfl (lv_at hl 0 rfl) ?_
    refine va_get (D := (dC, dI)) (ci := 4) (v := .ref (a 13)) (C := RX4) (T := TX4) (N := 8) hx hb hts hinX4 hown hK hP 0 rfl rfl 4 (by decide) (hts (Cond.fieldLink RX4 27 "LearnedShapes" "saved" "[LLearnedShapes$State;") (List.mem_of_getElem? (i := 1) rfl)) (fun _ h9 => h9) rfl dX4_savedAt_6 ?_
    refine va_alen (v := (6 : Int32)) hx hb hK hP 13 1 rfl rfl rfl dX4_savedAt_9 ?_
    refine lv_icmp_ge (tgt := 22) hx hb dX4_savedAt_10 (by decide) (fun c2 => ?_) (fun c2 => absurd hv1 (fun h => h.elim c1 c2))
    refine lv_null hx hb dX4_savedAt_22 ?_
    exact W.aret (v := .null) hx hb hr (Or.inl ⟨_, rfl⟩) (Or.inl rfl) (fun t ht hW => ⟨⟨none, (), rfl, rfl, by rw [ht]; exact hP, va_K.moved hW.alike hK, hD⟩, hS.F ht⟩) hS.2.2 dX4_savedAt_23
set_option maxHeartbeats 4000000 in
set_option maxRecDepth 100000 in
theorem c_X4_dropOldest (l : Launch) (dC : Nat → ClassId) (dI : Nat → Nat → Nat) (cI : ClassId) (cS : ClassId) (a : Nat → Nat) (q : Nat → Nat → Nat) (sz : Nat) (S : S_LS) (Z : (Nat → S_State))  (Y : S_LS) (YZ : (Nat → S_State)) (hF : F_X4_dropOldest S Z  = some (Y, YZ)) : Met l yX4_dropOldest wsX4_dropOldest ({ frames := 1, cells := 0, slots := 0, locals := 21 } : Room) (va_Pc [.ref (a 0)] (jPre (dC, dI) [(cI, .int), (cS, .object "LearnedShapes$State")] sz (W_Full cI cS a q S Z))) (va_Qv (fun u : S_LS × (Nat → S_State) => (Y, YZ) = u) (fun (u : S_LS × (Nat → S_State)) (t : State) => ∃ q9 : Nat → Nat → Nat, jB (dC, dI) [(cI, .int), (cS, .object "LearnedShapes$State")] (va_A (W_Full cI cS a q S Z) sz) (W_Full cI cS a q9 u.1 u.2) t) (va_A (W_Full cI cS a q S Z) sz)) 0 0 (va_A (W_Full cI cS a q S Z) sz) := by
  refine Met.ofW (cc := cX4_dropOldest) (maxL := 3) (ret := none) (by decide) rfl ?_
  intro p e s m args below meth c s₁ B hml hv
  obtain ⟨rfl, hsz, hP, hK, hD0, hN⟩ := hv
  have hx := B.exec
  have hb := B.bytes
  have hr := B.returns
  have hts := atoms_spec (ws := wsX4_dropOldest) B.pre
  have hown : s.vm.findClass RX4 = some m.cls := findClass_of_methodNamed B.named
  have hlocks := B.notSynchronized
  have hKi : va_K (dC, dI) vwCl [(cI, .int)] s := hK.sub [0] rfl
  have hinX4 : ∀ w ∈ u_ws RX4 TX4 8, w ∈ wsX4_dropOldest := by decide +kernel
  subst hsz
  have hD := hD0.self (sz := s.heap.size)
  generalize hAe : (va_A (W_Full cI cS a q S Z) s.heap.size) = A at hD ⊢
  have hA : ∀ q : Nat, s.heap.size ≤ q → A q := fun q h => by rw [← hAe]; exact Or.inr h
  have hS : va_S A s.heap s.heap [] := va_S.rf
  have hl := lv_entry ([.ref (a 0)]) (n := 3) (Nat.le_of_ble_eq_true rfl)
  rw [lg_entry_eq]
  generalize (lg_sl ([.ref (a 0)]) ++ List.replicate (3 - (lg_sl ([.ref (a 0)])).length) Slot.unset).toArray = ls at hl ⊢
  have hl : lv_has ls 3 [(0, .ref (a 0))] := hl
  have KE : ∀ (H : Heap) (locs : List Loc), va_P (dC, dI) vwCl (W_Full cI cS a q S Z) H → va_D A (W_Full cI cS a q S Z) → va_S A s.heap H locs → W p l e (headSpec wsX4_dropOldest ({ frames := 1, cells := 0, slots := 0, locals := 21 } : Room)).room s m ([.ref (a 0)] : List Value).toArray below meth c H locs 0 0 (MQ below (va_Qv (fun u : S_LS × (Nat → S_State) => (Y, YZ) = u) (fun (u : S_LS × (Nat → S_State)) (t : State) => ∃ q9 : Nat → Nat → Nat, jB (dC, dI) [(cI, .int), (cS, .object "LearnedShapes$State")] A (W_Full cI cS a q9 u.1 u.2) t) A) ([.ref (a 0)] : List Value).toArray s 0 0 A) (F0 m 0 ls []) := by
    intro H locs hP hD hS
    have hP : va_P (dC, dI) vwCl (List.flatten [W_LS cI a S, W_Sav cS (a 13) [((q 0) 0), ((q 1) 0), ((q 2) 0), ((q 3) 0), ((q 4) 0), ((q 5) 0)], W_State cI (q 0) (Z 0), W_State cI (q 1) (Z 1), W_State cI (q 2) (Z 2), W_State cI (q 3) (Z 3), W_State cI (q 4) (Z 4), W_State cI (q 5) (Z 5)]) H := hP
    have hD : va_D A (List.flatten [W_LS cI a S, W_Sav cS (a 13) [((q 0) 0), ((q 1) 0), ((q 2) 0), ((q 3) 0), ((q 4) 0), ((q 5) 0)], W_State cI (q 0) (Z 0), W_State cI (q 1) (Z 1), W_State cI (q 2) (Z 2), W_State cI (q 3) (Z 3), W_State cI (q 4) (Z 4), W_State cI (q 5) (Z 5)]) := hD
    unfold F_X4_dropOldest at hF
    refine lv_aload_n hx hb dX4_dropOldest_0 rfl (lv_at hl 0 rfl) ?_
    refine lv_iconst (v := (0 : Int32)) hx hb dX4_dropOldest_1 (by decide) ?_
    have hP : va_P (dC, dI) vwCl (W_Full cI cS a q S Z) H := hP
    have hD : va_D A (W_Full cI cS a q S Z) := hD
    have hPc := hP
    have hDc := hD
    have hFc := jFreeW (ws := (W_Full cI cS a q S Z)) hD hS hA
    refine va_callq (va_runV (As := [.int (0 : Int32)]) (rest := []) ⟨hx, hb, hml, hown, hts⟩ (c_X4_savedAt_0 l dC dI cI cS a q H.size _ _ _ rfl) (cwV 1 hts gX4_dropOldest_X4_savedAt rfl rfl rfl (by decide +kernel) ⟨Nat.le_of_ble_eq_true rfl, Nat.le_of_ble_eq_true rfl⟩) (jPreV hK hPc hDc hN (ci := 4) rfl rfl) rfl rfl hl.1 rfl (lv_room (Nat.le_of_ble_eq_true rfl)) dX4_dropOldest_2 ⟨Nat.le_of_ble_eq_true rfl, Nat.le_of_ble_eq_true rfl⟩) hS (fun q _ h => hFc q h) hFc (fun r9 u9 t H locs ht hvm hw hB hz1 hk1 hS => ?_)
    subst hw
    obtain ⟨hP1, -, hD1⟩ := hB
    rw [ht] at hP1
    have hP : va_P (dC, dI) vwCl ((W_Full cI cS a q S Z)) H := hP1
    have hD : va_D A ((W_Full cI cS a q S Z)) := hD1.weaken (fun _ _ _ h => hFc _ h)
    have hP : va_P (dC, dI) vwCl (List.flatten [W_LS cI a S, W_Sav cS (a 13) [((q 0) 0), ((q 1) 0), ((q 2) 0), ((q 3) 0), ((q 4) 0), ((q 5) 0)], W_State cI (q 0) (Z 0), W_State cI (q 1) (Z 1), W_State cI (q 2) (Z 2), W_State cI (q 3) (Z 3), W_State cI (q 4) (Z 4), W_State cI (q 5) (Z 5)]) H := hP
    have hD : va_D A (List.flatten [W_LS cI a S, W_Sav cS (a 13) [((q 0) 0), ((q 1) 0), ((q 2) 0), ((q 3) 0), ((q 4) 0), ((q 5) 0)], W_State cI (q 0) (Z 0), W_State cI (q 1) (Z 1), W_State cI (q 2) (Z 2), W_State cI (q 3) (Z 3), W_State cI (q 4) (Z 4), W_State cI (q 5) (Z 5)]) := hD
    refine W.eq (g2 := F0 m 5 ls [.ref ((q 0) 0)]) rfl ?_
    refine lv_astore_n (lv' := [(1, .ref ((q 0) 0)), (0, .ref (a 0))]) hx hb dX4_dropOldest_5 rfl hl (by decide) rfl (fun ls hl => ?_)
    refine lv_iconst (v := (1 : Int32)) hx hb dX4_dropOldest_6 (by decide) ?_
    refine lv_istore_n (lv' := [(2, .int (1 : Int32)), (1, .ref ((q 0) 0)), (0, .ref (a 0))]) hx hb dX4_dropOldest_7 rfl hl (by decide) rfl (fun ls hl => ?_)
    refine lv_iload_n hx hb dX4_dropOldest_8 rfl (lv_at hl 0 rfl) ?_
    refine lv_aload_n hx hb dX4_dropOldest_9 rfl (lv_at hl 2 rfl) ?_
    refine va_get (D := (dC, dI)) (ci := 4) (v := .ref (a 13)) (C := RX4) (T := TX4) (N := 8) hx hb hts hinX4 hown hK hP 0 rfl rfl 4 (by decide) (hts (Cond.fieldLink RX4 27 "LearnedShapes" "saved" "[LLearnedShapes$State;") (List.mem_of_getElem? (i := 1) rfl)) (fun _ h9 => h9) rfl dX4_dropOldest_10 ?_
    refine va_alen (v := (6 : Int32)) hx hb hK hP 13 1 rfl rfl rfl dX4_dropOldest_13 ?_
    refine lv_icmp_ge (tgt := 37) hx hb dX4_dropOldest_14 (by decide) (fun c => absurd c (by decide)) (fun _ => ?_)
    refine lv_aload_n hx hb dX4_dropOldest_17 rfl (lv_at hl 2 rfl) ?_
    refine va_get (D := (dC, dI)) (ci := 4) (v := .ref (a 13)) (C := RX4) (T := TX4) (N := 8) hx hb hts hinX4 hown hK hP 0 rfl rfl 4 (by decide) (hts (Cond.fieldLink RX4 27 "LearnedShapes" "saved" "[LLearnedShapes$State;") (List.mem_of_getElem? (i := 1) rfl)) (fun _ h9 => h9) rfl dX4_dropOldest_18 ?_
    refine lv_iload_n hx hb dX4_dropOldest_21 rfl (lv_at hl 0 rfl) ?_
    refine lv_iconst (v := (1 : Int32)) hx hb dX4_dropOldest_22 (by decide) ?_
    refine lv_isub hx hb dX4_dropOldest_23 ?_
    refine W.eq (g2 := F0 m 24 ls [.int (0 : Int32), .ref (a 13)]) (by rfl) ?_
    refine lv_aload_n hx hb dX4_dropOldest_24 rfl (lv_at hl 2 rfl) ?_
    refine va_get (D := (dC, dI)) (ci := 4) (v := .ref (a 13)) (C := RX4) (T := TX4) (N := 8) hx hb hts hinX4 hown hK hP 0 rfl rfl 4 (by decide) (hts (Cond.fieldLink RX4 27 "LearnedShapes" "saved" "[LLearnedShapes$State;") (List.mem_of_getElem? (i := 1) rfl)) (fun _ h9 => h9) rfl dX4_dropOldest_25 ?_
    refine lv_iload_n hx hb dX4_dropOldest_28 rfl (lv_at hl 0 rfl) ?_
    refine va_aldq (f := rl [((q 0) 0), ((q 1) 0), ((q 2) 0), ((q 3) 0), ((q 4) 0), ((q 5) 0)]) hx hb hK hP 13 1 rfl rfl (inb_in (by decide)) dX4_dropOldest_29 ?_
    refine W.eq (g2 := F0 m 30 ls [.ref ((q 1) 0), .int (0 : Int32), .ref (a 13)]) rfl ?_
    refine va_astq (f := rl [((q 0) 0), ((q 1) 0), ((q 2) 0), ((q 3) 0), ((q 4) 0), ((q 5) 0)]) (r := (RX2, TX2, 3)) (v := ((q 1) 0)) hx hb hK hP hD hS 13 1 19 2 rfl rfl rfl rfl (inb_in (by decide)) dX4_dropOldest_30 (fun H locs hP hD hS => ?_)
    rw [rl_up _ _ (Nat.le_of_ble_eq_true rfl)] at hP hD
    have hP : va_P (dC, dI) vwCl (List.flatten [W_LS cI a S, W_Sav cS (a 13) [((q 1) 0), ((q 1) 0), ((q 2) 0), ((q 3) 0), ((q 4) 0), ((q 5) 0)], W_State cI (q 0) (Z 0), W_State cI (q 1) (Z 1), W_State cI (q 2) (Z 2), W_State cI (q 3) (Z 3), W_State cI (q 4) (Z 4), W_State cI (q 5) (Z 5)]) H := hP
    have hD : va_D A (List.flatten [W_LS cI a S, W_Sav cS (a 13) [((q 1) 0), ((q 1) 0), ((q 2) 0), ((q 3) 0), ((q 4) 0), ((q 5) 0)], W_State cI (q 0) (Z 0), W_State cI (q 1) (Z 1), W_State cI (q 2) (Z 2), W_State cI (q 3) (Z 3), W_State cI (q 4) (Z 4), W_State cI (q 5) (Z 5)]) := hD
    refine lv_iinc (v := (2 : Int32)) (lv' := [(2, .int (2 : Int32)), (1, .ref ((q 0) 0)), (0, .ref (a 0))]) hx hb dX4_dropOldest_31 hl (k := 0) rfl rfl (by decide) rfl (fun ls hl => ?_)
    refine lv_goto (tgt := 8) hx hb dX4_dropOldest_34 (by decide) ?_
    refine lv_iload_n hx hb dX4_dropOldest_8 rfl (lv_at hl 0 rfl) ?_
    refine lv_aload_n hx hb dX4_dropOldest_9 rfl (lv_at hl 2 rfl) ?_
    refine va_get (D := (dC, dI)) (ci := 4) (v := .ref (a 13)) (C := RX4) (T := TX4) (N := 8) hx hb hts hinX4 hown hK hP 0 rfl rfl 4 (by decide) (hts (Cond.fieldLink RX4 27 "LearnedShapes" "saved" "[LLearnedShapes$State;") (List.mem_of_getElem? (i := 1) rfl)) (fun _ h9 => h9) rfl dX4_dropOldest_10 ?_
    refine va_alen (v := (6 : Int32)) hx hb hK hP 13 1 rfl rfl rfl dX4_dropOldest_13 ?_
    refine lv_icmp_ge (tgt := 37) hx hb dX4_dropOldest_14 (by decide) (fun c => absurd c (by decide)) (fun _ => ?_)
    refine lv_aload_n hx hb dX4_dropOldest_17 rfl (lv_at hl 2 rfl) ?_
    refine va_get (D := (dC, dI)) (ci := 4) (v := .ref (a 13)) (C := RX4) (T := TX4) (N := 8) hx hb hts hinX4 hown hK hP 0 rfl rfl 4 (by decide) (hts (Cond.fieldLink RX4 27 "LearnedShapes" "saved" "[LLearnedShapes$State;") (List.mem_of_getElem? (i := 1) rfl)) (fun _ h9 => h9) rfl dX4_dropOldest_18 ?_
    refine lv_iload_n hx hb dX4_dropOldest_21 rfl (lv_at hl 0 rfl) ?_
    refine lv_iconst (v := (1 : Int32)) hx hb dX4_dropOldest_22 (by decide) ?_
    refine lv_isub hx hb dX4_dropOldest_23 ?_
    refine W.eq (g2 := F0 m 24 ls [.int (1 : Int32), .ref (a 13)]) (by rfl) ?_
    refine lv_aload_n hx hb dX4_dropOldest_24 rfl (lv_at hl 2 rfl) ?_
    refine va_get (D := (dC, dI)) (ci := 4) (v := .ref (a 13)) (C := RX4) (T := TX4) (N := 8) hx hb hts hinX4 hown hK hP 0 rfl rfl 4 (by decide) (hts (Cond.fieldLink RX4 27 "LearnedShapes" "saved" "[LLearnedShapes$State;") (List.mem_of_getElem? (i := 1) rfl)) (fun _ h9 => h9) rfl dX4_dropOldest_25 ?_
    refine lv_iload_n hx hb dX4_dropOldest_28 rfl (lv_at hl 0 rfl) ?_
    refine va_aldq (f := rl [((q 1) 0), ((q 1) 0), ((q 2) 0), ((q 3) 0), ((q 4) 0), ((q 5) 0)]) hx hb hK hP 13 1 rfl rfl (inb_in (by decide)) dX4_dropOldest_29 ?_
    refine W.eq (g2 := F0 m 30 ls [.ref ((q 2) 0), .int (1 : Int32), .ref (a 13)]) rfl ?_
    refine va_astq (f := rl [((q 1) 0), ((q 1) 0), ((q 2) 0), ((q 3) 0), ((q 4) 0), ((q 5) 0)]) (r := (RX2, TX2, 3)) (v := ((q 2) 0)) hx hb hK hP hD hS 13 1 24 2 rfl rfl rfl rfl (inb_in (by decide)) dX4_dropOldest_30 (fun H locs hP hD hS => ?_)
    rw [rl_up _ _ (Nat.le_of_ble_eq_true rfl)] at hP hD
    have hP : va_P (dC, dI) vwCl (List.flatten [W_LS cI a S, W_Sav cS (a 13) [((q 1) 0), ((q 2) 0), ((q 2) 0), ((q 3) 0), ((q 4) 0), ((q 5) 0)], W_State cI (q 0) (Z 0), W_State cI (q 1) (Z 1), W_State cI (q 2) (Z 2), W_State cI (q 3) (Z 3), W_State cI (q 4) (Z 4), W_State cI (q 5) (Z 5)]) H := hP
    have hD : va_D A (List.flatten [W_LS cI a S, W_Sav cS (a 13) [((q 1) 0), ((q 2) 0), ((q 2) 0), ((q 3) 0), ((q 4) 0), ((q 5) 0)], W_State cI (q 0) (Z 0), W_State cI (q 1) (Z 1), W_State cI (q 2) (Z 2), W_State cI (q 3) (Z 3), W_State cI (q 4) (Z 4), W_State cI (q 5) (Z 5)]) := hD
    refine lv_iinc (v := (3 : Int32)) (lv' := [(2, .int (3 : Int32)), (1, .ref ((q 0) 0)), (0, .ref (a 0))]) hx hb dX4_dropOldest_31 hl (k := 0) rfl rfl (by decide) rfl (fun ls hl => ?_)
    refine lv_goto (tgt := 8) hx hb dX4_dropOldest_34 (by decide) ?_
    refine lv_iload_n hx hb dX4_dropOldest_8 rfl (lv_at hl 0 rfl) ?_
    refine lv_aload_n hx hb dX4_dropOldest_9 rfl (lv_at hl 2 rfl) ?_
    refine va_get (D := (dC, dI)) (ci := 4) (v := .ref (a 13)) (C := RX4) (T := TX4) (N := 8) hx hb hts hinX4 hown hK hP 0 rfl rfl 4 (by decide) (hts (Cond.fieldLink RX4 27 "LearnedShapes" "saved" "[LLearnedShapes$State;") (List.mem_of_getElem? (i := 1) rfl)) (fun _ h9 => h9) rfl dX4_dropOldest_10 ?_
    refine va_alen (v := (6 : Int32)) hx hb hK hP 13 1 rfl rfl rfl dX4_dropOldest_13 ?_
    refine lv_icmp_ge (tgt := 37) hx hb dX4_dropOldest_14 (by decide) (fun c => absurd c (by decide)) (fun _ => ?_)
    refine lv_aload_n hx hb dX4_dropOldest_17 rfl (lv_at hl 2 rfl) ?_
    refine va_get (D := (dC, dI)) (ci := 4) (v := .ref (a 13)) (C := RX4) (T := TX4) (N := 8) hx hb hts hinX4 hown hK hP 0 rfl rfl 4 (by decide) (hts (Cond.fieldLink RX4 27 "LearnedShapes" "saved" "[LLearnedShapes$State;") (List.mem_of_getElem? (i := 1) rfl)) (fun _ h9 => h9) rfl dX4_dropOldest_18 ?_
    refine lv_iload_n hx hb dX4_dropOldest_21 rfl (lv_at hl 0 rfl) ?_
    refine lv_iconst (v := (1 : Int32)) hx hb dX4_dropOldest_22 (by decide) ?_
    refine lv_isub hx hb dX4_dropOldest_23 ?_
    refine W.eq (g2 := F0 m 24 ls [.int (2 : Int32), .ref (a 13)]) (by rfl) ?_
    refine lv_aload_n hx hb dX4_dropOldest_24 rfl (lv_at hl 2 rfl) ?_
    refine va_get (D := (dC, dI)) (ci := 4) (v := .ref (a 13)) (C := RX4) (T := TX4) (N := 8) hx hb hts hinX4 hown hK hP 0 rfl rfl 4 (by decide) (hts (Cond.fieldLink RX4 27 "LearnedShapes" "saved" "[LLearnedShapes$State;") (List.mem_of_getElem? (i := 1) rfl)) (fun _ h9 => h9) rfl dX4_dropOldest_25 ?_
    refine lv_iload_n hx hb dX4_dropOldest_28 rfl (lv_at hl 0 rfl) ?_
    refine va_aldq (f := rl [((q 1) 0), ((q 2) 0), ((q 2) 0), ((q 3) 0), ((q 4) 0), ((q 5) 0)]) hx hb hK hP 13 1 rfl rfl (inb_in (by decide)) dX4_dropOldest_29 ?_
    refine W.eq (g2 := F0 m 30 ls [.ref ((q 3) 0), .int (2 : Int32), .ref (a 13)]) rfl ?_
    refine va_astq (f := rl [((q 1) 0), ((q 2) 0), ((q 2) 0), ((q 3) 0), ((q 4) 0), ((q 5) 0)]) (r := (RX2, TX2, 3)) (v := ((q 3) 0)) hx hb hK hP hD hS 13 1 29 2 rfl rfl rfl rfl (inb_in (by decide)) dX4_dropOldest_30 (fun H locs hP hD hS => ?_)
    rw [rl_up _ _ (Nat.le_of_ble_eq_true rfl)] at hP hD
    have hP : va_P (dC, dI) vwCl (List.flatten [W_LS cI a S, W_Sav cS (a 13) [((q 1) 0), ((q 2) 0), ((q 3) 0), ((q 3) 0), ((q 4) 0), ((q 5) 0)], W_State cI (q 0) (Z 0), W_State cI (q 1) (Z 1), W_State cI (q 2) (Z 2), W_State cI (q 3) (Z 3), W_State cI (q 4) (Z 4), W_State cI (q 5) (Z 5)]) H := hP
    have hD : va_D A (List.flatten [W_LS cI a S, W_Sav cS (a 13) [((q 1) 0), ((q 2) 0), ((q 3) 0), ((q 3) 0), ((q 4) 0), ((q 5) 0)], W_State cI (q 0) (Z 0), W_State cI (q 1) (Z 1), W_State cI (q 2) (Z 2), W_State cI (q 3) (Z 3), W_State cI (q 4) (Z 4), W_State cI (q 5) (Z 5)]) := hD
    refine lv_iinc (v := (4 : Int32)) (lv' := [(2, .int (4 : Int32)), (1, .ref ((q 0) 0)), (0, .ref (a 0))]) hx hb dX4_dropOldest_31 hl (k := 0) rfl rfl (by decide) rfl (fun ls hl => ?_)
    refine lv_goto (tgt := 8) hx hb dX4_dropOldest_34 (by decide) ?_
    refine lv_iload_n hx hb dX4_dropOldest_8 rfl (lv_at hl 0 rfl) ?_
    refine lv_aload_n hx hb dX4_dropOldest_9 rfl (lv_at hl 2 rfl) ?_
    refine va_get (D := (dC, dI)) (ci := 4) (v := .ref (a 13)) (C := RX4) (T := TX4) (N := 8) hx hb hts hinX4 hown hK hP 0 rfl rfl 4 (by decide) (hts (Cond.fieldLink RX4 27 "LearnedShapes" "saved" "[LLearnedShapes$State;") (List.mem_of_getElem? (i := 1) rfl)) (fun _ h9 => h9) rfl dX4_dropOldest_10 ?_
    refine va_alen (v := (6 : Int32)) hx hb hK hP 13 1 rfl rfl rfl dX4_dropOldest_13 ?_
    refine lv_icmp_ge (tgt := 37) hx hb dX4_dropOldest_14 (by decide) (fun c => absurd c (by decide)) (fun _ => ?_)
    refine lv_aload_n hx hb dX4_dropOldest_17 rfl (lv_at hl 2 rfl) ?_
    refine va_get (D := (dC, dI)) (ci := 4) (v := .ref (a 13)) (C := RX4) (T := TX4) (N := 8) hx hb hts hinX4 hown hK hP 0 rfl rfl 4 (by decide) (hts (Cond.fieldLink RX4 27 "LearnedShapes" "saved" "[LLearnedShapes$State;") (List.mem_of_getElem? (i := 1) rfl)) (fun _ h9 => h9) rfl dX4_dropOldest_18 ?_
    refine lv_iload_n hx hb dX4_dropOldest_21 rfl (lv_at hl 0 rfl) ?_
    refine lv_iconst (v := (1 : Int32)) hx hb dX4_dropOldest_22 (by decide) ?_
    refine lv_isub hx hb dX4_dropOldest_23 ?_
    refine W.eq (g2 := F0 m 24 ls [.int (3 : Int32), .ref (a 13)]) (by rfl) ?_
    refine lv_aload_n hx hb dX4_dropOldest_24 rfl (lv_at hl 2 rfl) ?_
    refine va_get (D := (dC, dI)) (ci := 4) (v := .ref (a 13)) (C := RX4) (T := TX4) (N := 8) hx hb hts hinX4 hown hK hP 0 rfl rfl 4 (by decide) (hts (Cond.fieldLink RX4 27 "LearnedShapes" "saved" "[LLearnedShapes$State;") (List.mem_of_getElem? (i := 1) rfl)) (fun _ h9 => h9) rfl dX4_dropOldest_25 ?_
    refine lv_iload_n hx hb dX4_dropOldest_28 rfl (lv_at hl 0 rfl) ?_
    refine va_aldq (f := rl [((q 1) 0), ((q 2) 0), ((q 3) 0), ((q 3) 0), ((q 4) 0), ((q 5) 0)]) hx hb hK hP 13 1 rfl rfl (inb_in (by decide)) dX4_dropOldest_29 ?_
    refine W.eq (g2 := F0 m 30 ls [.ref ((q 4) 0), .int (3 : Int32), .ref (a 13)]) rfl ?_
    refine va_astq (f := rl [((q 1) 0), ((q 2) 0), ((q 3) 0), ((q 3) 0), ((q 4) 0), ((q 5) 0)]) (r := (RX2, TX2, 3)) (v := ((q 4) 0)) hx hb hK hP hD hS 13 1 34 2 rfl rfl rfl rfl (inb_in (by decide)) dX4_dropOldest_30 (fun H locs hP hD hS => ?_)
    rw [rl_up _ _ (Nat.le_of_ble_eq_true rfl)] at hP hD
    have hP : va_P (dC, dI) vwCl (List.flatten [W_LS cI a S, W_Sav cS (a 13) [((q 1) 0), ((q 2) 0), ((q 3) 0), ((q 4) 0), ((q 4) 0), ((q 5) 0)], W_State cI (q 0) (Z 0), W_State cI (q 1) (Z 1), W_State cI (q 2) (Z 2), W_State cI (q 3) (Z 3), W_State cI (q 4) (Z 4), W_State cI (q 5) (Z 5)]) H := hP
    have hD : va_D A (List.flatten [W_LS cI a S, W_Sav cS (a 13) [((q 1) 0), ((q 2) 0), ((q 3) 0), ((q 4) 0), ((q 4) 0), ((q 5) 0)], W_State cI (q 0) (Z 0), W_State cI (q 1) (Z 1), W_State cI (q 2) (Z 2), W_State cI (q 3) (Z 3), W_State cI (q 4) (Z 4), W_State cI (q 5) (Z 5)]) := hD
    refine lv_iinc (v := (5 : Int32)) (lv' := [(2, .int (5 : Int32)), (1, .ref ((q 0) 0)), (0, .ref (a 0))]) hx hb dX4_dropOldest_31 hl (k := 0) rfl rfl (by decide) rfl (fun ls hl => ?_)
    refine lv_goto (tgt := 8) hx hb dX4_dropOldest_34 (by decide) ?_
    refine lv_iload_n hx hb dX4_dropOldest_8 rfl (lv_at hl 0 rfl) ?_
    refine lv_aload_n hx hb dX4_dropOldest_9 rfl (lv_at hl 2 rfl) ?_
    refine va_get (D := (dC, dI)) (ci := 4) (v := .ref (a 13)) (C := RX4) (T := TX4) (N := 8) hx hb hts hinX4 hown hK hP 0 rfl rfl 4 (by decide) (hts (Cond.fieldLink RX4 27 "LearnedShapes" "saved" "[LLearnedShapes$State;") (List.mem_of_getElem? (i := 1) rfl)) (fun _ h9 => h9) rfl dX4_dropOldest_10 ?_
    refine va_alen (v := (6 : Int32)) hx hb hK hP 13 1 rfl rfl rfl dX4_dropOldest_13 ?_
    refine lv_icmp_ge (tgt := 37) hx hb dX4_dropOldest_14 (by decide) (fun c => absurd c (by decide)) (fun _ => ?_)
    refine lv_aload_n hx hb dX4_dropOldest_17 rfl (lv_at hl 2 rfl) ?_
    refine va_get (D := (dC, dI)) (ci := 4) (v := .ref (a 13)) (C := RX4) (T := TX4) (N := 8) hx hb hts hinX4 hown hK hP 0 rfl rfl 4 (by decide) (hts (Cond.fieldLink RX4 27 "LearnedShapes" "saved" "[LLearnedShapes$State;") (List.mem_of_getElem? (i := 1) rfl)) (fun _ h9 => h9) rfl dX4_dropOldest_18 ?_
    refine lv_iload_n hx hb dX4_dropOldest_21 rfl (lv_at hl 0 rfl) ?_
    refine lv_iconst (v := (1 : Int32)) hx hb dX4_dropOldest_22 (by decide) ?_
    refine lv_isub hx hb dX4_dropOldest_23 ?_
    refine W.eq (g2 := F0 m 24 ls [.int (4 : Int32), .ref (a 13)]) (by rfl) ?_
    refine lv_aload_n hx hb dX4_dropOldest_24 rfl (lv_at hl 2 rfl) ?_
    refine va_get (D := (dC, dI)) (ci := 4) (v := .ref (a 13)) (C := RX4) (T := TX4) (N := 8) hx hb hts hinX4 hown hK hP 0 rfl rfl 4 (by decide) (hts (Cond.fieldLink RX4 27 "LearnedShapes" "saved" "[LLearnedShapes$State;") (List.mem_of_getElem? (i := 1) rfl)) (fun _ h9 => h9) rfl dX4_dropOldest_25 ?_
    refine lv_iload_n hx hb dX4_dropOldest_28 rfl (lv_at hl 0 rfl) ?_
    refine va_aldq (f := rl [((q 1) 0), ((q 2) 0), ((q 3) 0), ((q 4) 0), ((q 4) 0), ((q 5) 0)]) hx hb hK hP 13 1 rfl rfl (inb_in (by decide)) dX4_dropOldest_29 ?_
    refine W.eq (g2 := F0 m 30 ls [.ref ((q 5) 0), .int (4 : Int32), .ref (a 13)]) rfl ?_
    refine va_astq (f := rl [((q 1) 0), ((q 2) 0), ((q 3) 0), ((q 4) 0), ((q 4) 0), ((q 5) 0)]) (r := (RX2, TX2, 3)) (v := ((q 5) 0)) hx hb hK hP hD hS 13 1 39 2 rfl rfl rfl rfl (inb_in (by decide)) dX4_dropOldest_30 (fun H locs hP hD hS => ?_)
    rw [rl_up _ _ (Nat.le_of_ble_eq_true rfl)] at hP hD
    have hP : va_P (dC, dI) vwCl (List.flatten [W_LS cI a S, W_Sav cS (a 13) [((q 1) 0), ((q 2) 0), ((q 3) 0), ((q 4) 0), ((q 5) 0), ((q 5) 0)], W_State cI (q 0) (Z 0), W_State cI (q 1) (Z 1), W_State cI (q 2) (Z 2), W_State cI (q 3) (Z 3), W_State cI (q 4) (Z 4), W_State cI (q 5) (Z 5)]) H := hP
    have hD : va_D A (List.flatten [W_LS cI a S, W_Sav cS (a 13) [((q 1) 0), ((q 2) 0), ((q 3) 0), ((q 4) 0), ((q 5) 0), ((q 5) 0)], W_State cI (q 0) (Z 0), W_State cI (q 1) (Z 1), W_State cI (q 2) (Z 2), W_State cI (q 3) (Z 3), W_State cI (q 4) (Z 4), W_State cI (q 5) (Z 5)]) := hD
    refine lv_iinc (v := (6 : Int32)) (lv' := [(2, .int (6 : Int32)), (1, .ref ((q 0) 0)), (0, .ref (a 0))]) hx hb dX4_dropOldest_31 hl (k := 0) rfl rfl (by decide) rfl (fun ls hl => ?_)
    refine lv_goto (tgt := 8) hx hb dX4_dropOldest_34 (by decide) ?_
    refine lv_iload_n hx hb dX4_dropOldest_8 rfl (lv_at hl 0 rfl) ?_
    refine lv_aload_n hx hb dX4_dropOldest_9 rfl (lv_at hl 2 rfl) ?_
    refine va_get (D := (dC, dI)) (ci := 4) (v := .ref (a 13)) (C := RX4) (T := TX4) (N := 8) hx hb hts hinX4 hown hK hP 0 rfl rfl 4 (by decide) (hts (Cond.fieldLink RX4 27 "LearnedShapes" "saved" "[LLearnedShapes$State;") (List.mem_of_getElem? (i := 1) rfl)) (fun _ h9 => h9) rfl dX4_dropOldest_10 ?_
    refine va_alen (v := (6 : Int32)) hx hb hK hP 13 1 rfl rfl rfl dX4_dropOldest_13 ?_
    refine lv_icmp_ge (tgt := 37) hx hb dX4_dropOldest_14 (by decide) (fun _ => ?_) (fun c => absurd c (by decide))
    refine lv_aload_n hx hb dX4_dropOldest_37 rfl (lv_at hl 2 rfl) ?_
    refine va_get (D := (dC, dI)) (ci := 4) (v := .ref (a 13)) (C := RX4) (T := TX4) (N := 8) hx hb hts hinX4 hown hK hP 0 rfl rfl 4 (by decide) (hts (Cond.fieldLink RX4 27 "LearnedShapes" "saved" "[LLearnedShapes$State;") (List.mem_of_getElem? (i := 1) rfl)) (fun _ h9 => h9) rfl dX4_dropOldest_38 ?_
    refine va_alen (v := (6 : Int32)) hx hb hK hP 13 1 rfl rfl rfl dX4_dropOldest_41 ?_
    refine lv_if_le (tgt := 68) hx hb dX4_dropOldest_42 (by decide) (fun c => absurd c (by decide)) (fun _ => ?_)
    refine lv_aload_n hx hb dX4_dropOldest_45 rfl (lv_at hl 2 rfl) ?_
    refine va_get (D := (dC, dI)) (ci := 4) (v := .ref (a 13)) (C := RX4) (T := TX4) (N := 8) hx hb hts hinX4 hown hK hP 0 rfl rfl 4 (by decide) (hts (Cond.fieldLink RX4 27 "LearnedShapes" "saved" "[LLearnedShapes$State;") (List.mem_of_getElem? (i := 1) rfl)) (fun _ h9 => h9) rfl dX4_dropOldest_46 ?_
    refine lv_aload_n hx hb dX4_dropOldest_49 rfl (lv_at hl 2 rfl) ?_
    refine va_get (D := (dC, dI)) (ci := 4) (v := .ref (a 13)) (C := RX4) (T := TX4) (N := 8) hx hb hts hinX4 hown hK hP 0 rfl rfl 4 (by decide) (hts (Cond.fieldLink RX4 27 "LearnedShapes" "saved" "[LLearnedShapes$State;") (List.mem_of_getElem? (i := 1) rfl)) (fun _ h9 => h9) rfl dX4_dropOldest_50 ?_
    refine va_alen (v := (6 : Int32)) hx hb hK hP 13 1 rfl rfl rfl dX4_dropOldest_53 ?_
    refine lv_iconst (v := (1 : Int32)) hx hb dX4_dropOldest_54 (by decide) ?_
    refine lv_isub hx hb dX4_dropOldest_55 ?_
    refine W.eq (g2 := F0 m 56 ls [.int (5 : Int32), .ref (a 13)]) (by rfl) ?_
    refine lv_aload_n hx hb dX4_dropOldest_56 rfl (lv_at hl 1 rfl) ?_
    refine va_astq (f := rl [((q 1) 0), ((q 2) 0), ((q 3) 0), ((q 4) 0), ((q 5) 0), ((q 5) 0)]) (r := (RX2, TX2, 3)) (v := ((q 0) 0)) hx hb hK hP hD hS 13 1 14 2 rfl rfl rfl rfl (inb_in (by decide)) dX4_dropOldest_57 (fun H locs hP hD hS => ?_)
    rw [rl_up _ _ (Nat.le_of_ble_eq_true rfl)] at hP hD
    have hP : va_P (dC, dI) vwCl (List.flatten [W_LS cI a S, W_Sav cS (a 13) [((q 1) 0), ((q 2) 0), ((q 3) 0), ((q 4) 0), ((q 5) 0), ((q 0) 0)], W_State cI (q 0) (Z 0), W_State cI (q 1) (Z 1), W_State cI (q 2) (Z 2), W_State cI (q 3) (Z 3), W_State cI (q 4) (Z 4), W_State cI (q 5) (Z 5)]) H := hP
    have hD : va_D A (List.flatten [W_LS cI a S, W_Sav cS (a 13) [((q 1) 0), ((q 2) 0), ((q 3) 0), ((q 4) 0), ((q 5) 0), ((q 0) 0)], W_State cI (q 0) (Z 0), W_State cI (q 1) (Z 1), W_State cI (q 2) (Z 2), W_State cI (q 3) (Z 3), W_State cI (q 4) (Z 4), W_State cI (q 5) (Z 5)]) := hD
    refine lv_aload_n hx hb dX4_dropOldest_58 rfl (lv_at hl 2 rfl) ?_
    refine lv_dup hx hb dX4_dropOldest_59 rfl ?_
    refine va_get (D := (dC, dI)) (ci := 4) (v := .int (g_LS_savedStates S)) (C := RX4) (T := TX4) (N := 8) hx hb hts hinX4 hown hK hP 0 rfl rfl 5 (by decide) (hts (Cond.fieldLink RX4 125 "LearnedShapes" "savedStates" "I") (List.mem_of_getElem? (i := 2) rfl)) (fun _ h9 => h9) rfl dX4_dropOldest_60 ?_
    refine lv_iconst (v := (1 : Int32)) hx hb dX4_dropOldest_63 (by decide) ?_
    refine lv_isub hx hb dX4_dropOldest_64 ?_
    refine va_put (D := (dC, dI)) (ci := 4) (v := .int ((g_LS_savedStates S) - (1 : Int32))) (ty := .int) (C := RX4) (T := TX4) (N := 8) hx hb hts hinX4 tyX4 tyX4_ok nmX4 hown hK hP hD hS 0 rfl rfl 5 (by decide) (hts (Cond.fieldLink RX4 125 "LearnedShapes" "savedStates" "I") (List.mem_of_getElem? (i := 2) rfl)) (fun _ h9 => h9) rfl (by decide +kernel) (rfl) rfl (Nat.le_of_ble_eq_true rfl) dX4_dropOldest_65 (fun H locs hP hD hS => ?_)
    have hP : va_P (dC, dI) vwCl (List.flatten [W_LS cI a (s_LS_savedStates S ((g_LS_savedStates S) - (1 : Int32))), W_Sav cS (a 13) [((q 1) 0), ((q 2) 0), ((q 3) 0), ((q 4) 0), ((q 5) 0), ((q 0) 0)], W_State cI (q 0) (Z 0), W_State cI (q 1) (Z 1), W_State cI (q 2) (Z 2), W_State cI (q 3) (Z 3), W_State cI (q 4) (Z 4), W_State cI (q 5) (Z 5)]) H := hP
    have hD : va_D A (List.flatten [W_LS cI a (s_LS_savedStates S ((g_LS_savedStates S) - (1 : Int32))), W_Sav cS (a 13) [((q 1) 0), ((q 2) 0), ((q 3) 0), ((q 4) 0), ((q 5) 0), ((q 0) 0)], W_State cI (q 0) (Z 0), W_State cI (q 1) (Z 1), W_State cI (q 2) (Z 2), W_State cI (q 3) (Z 3), W_State cI (q 4) (Z 4), W_State cI (q 5) (Z 5)]) := hD
    obtain ⟨hP, hD⟩ := jBlk (bs := [W_LS cI a (s_LS_savedStates S ((g_LS_savedStates S) - (1 : Int32))), W_Sav cS (a 13) [((q 1) 0), ((q 2) 0), ((q 3) 0), ((q 4) 0), ((q 5) 0), ((q 0) 0)], W_State cI (q 0) (Z 0), W_State cI (q 1) (Z 1), W_State cI (q 2) (Z 2), W_State cI (q 3) (Z 3), W_State cI (q 4) (Z 4), W_State cI (q 5) (Z 5)]) (bs' := [W_LS cI a (s_LS_savedStates S ((g_LS_savedStates S) - (1 : Int32))), W_Sav cS (a 13) [((q 1) 0), ((q 2) 0), ((q 3) 0), ((q 4) 0), ((q 5) 0), ((q 0) 0)], W_State cI (q 1) (Z 1), W_State cI (q 2) (Z 2), W_State cI (q 3) (Z 3), W_State cI (q 4) (Z 4), W_State cI (q 5) (Z 5), W_State cI (q 0) (Z 0)]) hP hD [0, 1, 3, 4, 5, 6, 7, 2] rfl rfl
    have hP : va_P (dC, dI) vwCl (W_Full cI cS a (mk6 (q 1) (q 2) (q 3) (q 4) (q 5) (q 0)) (s_LS_savedStates S ((g_LS_savedStates S) - (1 : Int32))) (mk6 (Z 1) (Z 2) (Z 3) (Z 4) (Z 5) (Z 0))) H := hP
    have hD : va_D A (W_Full cI cS a (mk6 (q 1) (q 2) (q 3) (q 4) (q 5) (q 0)) (s_LS_savedStates S ((g_LS_savedStates S) - (1 : Int32))) (mk6 (Z 1) (Z 2) (Z 3) (Z 4) (Z 5) (Z 0))) := hD
    have e50 := Option.some.inj hF
    obtain ⟨e60, e51⟩ := Prod.mk.inj e50
    subst e60
    subst e51
    exact W.vret hx hb hr (fun t ht hW => ⟨⟨((s_LS_savedStates S ((g_LS_savedStates S) - (1 : Int32))), (mk6 (Z 1) (Z 2) (Z 3) (Z 4) (Z 5) (Z 0))), rfl, rfl, (mk6 (q 1) (q 2) (q 3) (q 4) (q 5) (q 0)), by rw [ht]; exact hP, va_K.moved hW.alike hK, hD⟩, hS.F ht⟩) hS.2.2 dX4_dropOldest_68
  exact KE _ _ hP hD hS
set_option maxHeartbeats 4000000 in
set_option maxRecDepth 100000 in
theorem c_X4_saveState (l : Launch) (dC : Nat → ClassId) (dI : Nat → Nat → Nat) (cI : ClassId) (cS : ClassId) (a : Nat → Nat) (q : Nat → Nat → Nat) (sz : Nat) (S : S_LS) (Z : (Nat → S_State))  (Y : S_LS) (YZ : (Nat → S_State)) (hF : F_X4_saveState S Z  = some (Y, YZ)) : Met l yX4_saveState wsX4_saveState ({ frames := 4, cells := 0, slots := 0, locals := 129 } : Room) (va_Pc [.ref (a 0)] (jPre (dC, dI) [(cI, .int), (cS, .object "LearnedShapes$State")] sz (W_Full cI cS a q S Z))) (va_Qv (fun u : S_LS × (Nat → S_State) => (Y, YZ) = u) (fun (u : S_LS × (Nat → S_State)) (t : State) => ∃ q9 : Nat → Nat → Nat, jB (dC, dI) [(cI, .int), (cS, .object "LearnedShapes$State")] (va_A (W_Full cI cS a q S Z) sz) (W_Full cI cS a q9 u.1 u.2) t) (va_A (W_Full cI cS a q S Z) sz)) 0 0 (va_A (W_Full cI cS a q S Z) sz) := by
  refine Met.ofW (cc := cX4_saveState) (maxL := 2) (ret := none) (by decide) rfl ?_
  intro p e s m args below meth c s₁ B hml hv
  obtain ⟨rfl, hsz, hP, hK, hD0, hN⟩ := hv
  have hx := B.exec
  have hb := B.bytes
  have hr := B.returns
  have hts := atoms_spec (ws := wsX4_saveState) B.pre
  have hown : s.vm.findClass RX4 = some m.cls := findClass_of_methodNamed B.named
  have hlocks := B.notSynchronized
  have hKi : va_K (dC, dI) vwCl [(cI, .int)] s := hK.sub [0] rfl
  have hinX4 : ∀ w ∈ u_ws RX4 TX4 8, w ∈ wsX4_saveState := by decide +kernel
  subst hsz
  have hD := hD0.self (sz := s.heap.size)
  generalize hAe : (va_A (W_Full cI cS a q S Z) s.heap.size) = A at hD ⊢
  have hA : ∀ q : Nat, s.heap.size ≤ q → A q := fun q h => by rw [← hAe]; exact Or.inr h
  have hS : va_S A s.heap s.heap [] := va_S.rf
  have hl := lv_entry ([.ref (a 0)]) (n := 2) (Nat.le_of_ble_eq_true rfl)
  rw [lg_entry_eq]
  generalize (lg_sl ([.ref (a 0)]) ++ List.replicate (2 - (lg_sl ([.ref (a 0)])).length) Slot.unset).toArray = ls at hl ⊢
  have hl : lv_has ls 2 [(0, .ref (a 0))] := hl
  have KE : ∀ (H : Heap) (locs : List Loc), va_P (dC, dI) vwCl (W_Full cI cS a q S Z) H → va_D A (W_Full cI cS a q S Z) → va_S A s.heap H locs → W p l e (headSpec wsX4_saveState ({ frames := 4, cells := 0, slots := 0, locals := 129 } : Room)).room s m ([.ref (a 0)] : List Value).toArray below meth c H locs 0 0 (MQ below (va_Qv (fun u : S_LS × (Nat → S_State) => (Y, YZ) = u) (fun (u : S_LS × (Nat → S_State)) (t : State) => ∃ q9 : Nat → Nat → Nat, jB (dC, dI) [(cI, .int), (cS, .object "LearnedShapes$State")] A (W_Full cI cS a q9 u.1 u.2) t) A) ([.ref (a 0)] : List Value).toArray s 0 0 A) (F0 m 0 ls []) := by
    intro H locs hP hD hS
    have hP : va_P (dC, dI) vwCl (List.flatten [W_LS cI a S, W_Sav cS (a 13) [((q 0) 0), ((q 1) 0), ((q 2) 0), ((q 3) 0), ((q 4) 0), ((q 5) 0)], W_State cI (q 0) (Z 0), W_State cI (q 1) (Z 1), W_State cI (q 2) (Z 2), W_State cI (q 3) (Z 3), W_State cI (q 4) (Z 4), W_State cI (q 5) (Z 5)]) H := hP
    have hD : va_D A (List.flatten [W_LS cI a S, W_Sav cS (a 13) [((q 0) 0), ((q 1) 0), ((q 2) 0), ((q 3) 0), ((q 4) 0), ((q 5) 0)], W_State cI (q 0) (Z 0), W_State cI (q 1) (Z 1), W_State cI (q 2) (Z 2), W_State cI (q 3) (Z 3), W_State cI (q 4) (Z 4), W_State cI (q 5) (Z 5)]) := hD
    unfold F_X4_saveState at hF
    refine lv_aload_n hx hb dX4_saveState_0 rfl (lv_at hl 0 rfl) ?_
    refine va_get (D := (dC, dI)) (ci := 4) (v := .int (g_LS_savedStates S)) (C := RX4) (T := TX4) (N := 8) hx hb hts hinX4 hown hK hP 0 rfl rfl 5 (by decide) (hts (Cond.fieldLink RX4 125 "LearnedShapes" "savedStates" "I") (List.mem_of_getElem? (i := 1) rfl)) (fun _ h9 => h9) rfl dX4_saveState_1 ?_
    refine lv_aload_n hx hb dX4_saveState_4 rfl (lv_at hl 0 rfl) ?_
    refine va_get (D := (dC, dI)) (ci := 4) (v := .ref (a 13)) (C := RX4) (T := TX4) (N := 8) hx hb hts hinX4 hown hK hP 0 rfl rfl 4 (by decide) (hts (Cond.fieldLink RX4 27 "LearnedShapes" "saved" "[LLearnedShapes$State;") (List.mem_of_getElem? (i := 2) rfl)) (fun _ h9 => h9) rfl dX4_saveState_5 ?_
    refine va_alen (v := (6 : Int32)) hx hb hK hP 13 1 rfl rfl rfl dX4_saveState_8 ?_
    refine lv_icmp_lt (tgt := 16) hx hb dX4_saveState_9 (by decide) (fun c1 => ?_) (fun c1 => ?_)
    · have hF := F_pos c1 hF
      refine lv_aload_n hx hb dX4_saveState_16 rfl (lv_at hl 0 rfl) ?_
      refine lv_aload_n hx hb dX4_saveState_17 rfl (lv_at hl 0 rfl) ?_
      refine va_get (D := (dC, dI)) (ci := 4) (v := .int (g_LS_savedStates S)) (C := RX4) (T := TX4) (N := 8) hx hb hts hinX4 hown hK hP 0 rfl rfl 5 (by decide) (hts (Cond.fieldLink RX4 125 "LearnedShapes" "savedStates" "I") (List.mem_of_getElem? (i := 1) rfl)) (fun _ h9 => h9) rfl dX4_saveState_18 ?_
      by_cases c2 : (g_LS_savedStates S) = (0 : Int32)
      · have hF := F_pos c2 hF
        have hP : va_P (dC, dI) vwCl (W_Full cI cS a q S Z) H := hP
        have hD : va_D A (W_Full cI cS a q S Z) := hD
        have hPc := hP
        have hDc := hD
        have hFc := jFreeW (ws := (W_Full cI cS a q S Z)) hD hS hA
        refine va_callq (va_runV (As := [.int (g_LS_savedStates S)]) (rest := []) ⟨hx, hb, hml, hown, hts⟩ (c_X4_savedAt_0 l dC dI cI cS a q H.size _ _ _ c2) (cwV 1 hts gX4_saveState_X4_savedAt rfl rfl rfl (by decide +kernel) ⟨Nat.le_of_ble_eq_true rfl, Nat.le_of_ble_eq_true rfl⟩) (jPreV hK hPc hDc hN (ci := 4) rfl rfl) rfl rfl hl.1 rfl (lv_room (Nat.le_of_ble_eq_true rfl)) dX4_saveState_21 ⟨Nat.le_of_ble_eq_true rfl, Nat.le_of_ble_eq_true rfl⟩) hS (fun q _ h => hFc q h) hFc (fun r9 u9 t H locs ht hvm hw hB hz1 hk1 hS => ?_)
        subst hw
        obtain ⟨hP1, -, hD1⟩ := hB
        rw [ht] at hP1
        have hP : va_P (dC, dI) vwCl ((W_Full cI cS a q S Z)) H := hP1
        have hD : va_D A ((W_Full cI cS a q S Z)) := hD1.weaken (fun _ _ _ h => hFc _ h)
        have hP : va_P (dC, dI) vwCl (List.flatten [W_LS cI a S, W_Sav cS (a 13) [((q 0) 0), ((q 1) 0), ((q 2) 0), ((q 3) 0), ((q 4) 0), ((q 5) 0)], W_State cI (q 0) (Z 0), W_State cI (q 1) (Z 1), W_State cI (q 2) (Z 2), W_State cI (q 3) (Z 3), W_State cI (q 4) (Z 4), W_State cI (q 5) (Z 5)]) H := hP
        have hD : va_D A (List.flatten [W_LS cI a S, W_Sav cS (a 13) [((q 0) 0), ((q 1) 0), ((q 2) 0), ((q 3) 0), ((q 4) 0), ((q 5) 0)], W_State cI (q 0) (Z 0), W_State cI (q 1) (Z 1), W_State cI (q 2) (Z 2), W_State cI (q 3) (Z 3), W_State cI (q 4) (Z 4), W_State cI (q 5) (Z 5)]) := hD
        refine W.eq (g2 := F0 m 24 ls [.ref ((q 0) 0)]) rfl ?_
        refine lv_astore_n (lv' := [(1, .ref ((q 0) 0)), (0, .ref (a 0))]) hx hb dX4_saveState_24 rfl hl (by decide) rfl (fun ls hl => ?_)
        refine lv_aload_n hx hb dX4_saveState_25 rfl (lv_at hl 0 rfl) ?_
        refine lv_ifnull hx hb dX4_saveState_26 ?_
        refine lv_aload_n hx hb dX4_saveState_29 rfl (lv_at hl 0 rfl) ?_
        refine lv_aload_n hx hb dX4_saveState_30 rfl (lv_at hl 1 rfl) ?_
        refine va_get (D := (dC, dI)) (ci := 4) (v := .ref (a 5)) (C := RX4) (T := TX4) (N := 8) hx hb hts hinX4 hown hK hP 0 rfl rfl 3 (by decide) (hts (Cond.fieldLink RX4 23 "LearnedShapes" "now" "LLearnedShapes$State;") (List.mem_of_getElem? (i := 3) rfl)) (fun _ h9 => h9) rfl dX4_saveState_31 ?_
        obtain ⟨u3, h4, hF⟩ := ob1_some hF
        obtain ⟨hP, hD⟩ := jBlk (bs := [W_LS cI a S, W_Sav cS (a 13) [((q 0) 0), ((q 1) 0), ((q 2) 0), ((q 3) 0), ((q 4) 0), ((q 5) 0)], W_State cI (q 0) (Z 0), W_State cI (q 1) (Z 1), W_State cI (q 2) (Z 2), W_State cI (q 3) (Z 3), W_State cI (q 4) (Z 4), W_State cI (q 5) (Z 5)]) (bs' := [W_LS cI a S, W_State cI (q 0) (Z 0), W_Sav cS (a 13) [((q 0) 0), ((q 1) 0), ((q 2) 0), ((q 3) 0), ((q 4) 0), ((q 5) 0)], W_State cI (q 1) (Z 1), W_State cI (q 2) (Z 2), W_State cI (q 3) (Z 3), W_State cI (q 4) (Z 4), W_State cI (q 5) (Z 5)]) hP hD [0, 2, 1, 3, 4, 5, 6, 7] rfl rfl
        have hPc := hP.sub (ws' := (W_State cI (q 0) (Z 0)) ++ (W_State cI (sh a 5) (g_LS_now S))) [13, 14, 15, 16, 17, 5, 6, 7, 8, 9] rfl
        have hDc := hD.sub (ws' := (W_State cI (q 0) (Z 0)) ++ (W_State cI (sh a 5) (g_LS_now S))) [13, 14, 15, 16, 17, 5, 6, 7, 8, 9] (by decide) rfl
        have hFc := va_free (wc := (W_State cI (q 0) (Z 0)) ++ (W_State cI (sh a 5) (g_LS_now S))) hD hS hA [13, 14, 15, 16, 17, 5, 6, 7, 8, 9] rfl
        refine va_callv (va_runV (As := [.ref (a 5)]) (rest := []) ⟨hx, hb, hml, hown, hts⟩ (c_X2_copyFrom l dC dI cI (q 0) (sh a 5) H.size _ _ _ h4) (cwV 1 hts gX4_saveState_X2_copyFrom rfl rfl rfl (by decide +kernel) ⟨Nat.le_of_ble_eq_true rfl, Nat.le_of_ble_eq_true rfl⟩) (jPreV hKi hPc hDc hN (ci := 2) rfl rfl) rfl rfl hl.1 rfl (lv_room (Nat.le_of_ble_eq_true rfl)) dX4_saveState_34 ⟨Nat.le_of_ble_eq_true rfl, Nat.le_of_ble_eq_true rfl⟩) hS (fun q _ h => hFc q h) hFc (fun u' t H locs ht hvm hw hB hz1 hk1 hS => ?_)
        subst hw
        obtain ⟨hP1, -, hD1⟩ := hB
        rw [ht] at hP1
        obtain ⟨hP, hD⟩ := jJoinF (wa := (W_LS cI a S) ++ (W_State cI (q 0) (Z 0))) (wb := List.flatten [W_Sav cS (a 13) [((q 0) 0), ((q 1) 0), ((q 2) 0), ((q 3) 0), ((q 4) 0), ((q 5) 0)], W_State cI (q 1) (Z 1), W_State cI (q 2) (Z 2), W_State cI (q 3) (Z 3), W_State cI (q 4) (Z 4), W_State cI (q 5) (Z 5)]) (wc := (W_State cI (q 0) (Z 0)) ++ (W_State cI (sh a 5) (g_LS_now S))) (w1 := (W_State cI (q 0) u3) ++ (W_State cI (sh a 5) (g_LS_now S))) (ws' := (W_LS cI a S) ++ (W_State cI (q 0) u3)) hP hD [13, 14, 15, 16, 17, 5, 6, 7, 8, 9] [0, 1, 2, 3, 4, 10, 11, 12] [0, 1, 2, 3, 4, 13, 14, 15, 16, 17, 5, 6, 7, 8, 9, 10, 11, 12] rfl rfl (by decide) (by decide) hk1 hFc hP1 hD1 (by decide) rfl
        obtain ⟨hP, hD⟩ := jBlk (bs := [W_LS cI a S, W_State cI (q 0) u3, W_Sav cS (a 13) [((q 0) 0), ((q 1) 0), ((q 2) 0), ((q 3) 0), ((q 4) 0), ((q 5) 0)], W_State cI (q 1) (Z 1), W_State cI (q 2) (Z 2), W_State cI (q 3) (Z 3), W_State cI (q 4) (Z 4), W_State cI (q 5) (Z 5)]) (bs' := [W_LS cI a S, W_Sav cS (a 13) [((q 0) 0), ((q 1) 0), ((q 2) 0), ((q 3) 0), ((q 4) 0), ((q 5) 0)], W_State cI (q 0) u3, W_State cI (q 1) (Z 1), W_State cI (q 2) (Z 2), W_State cI (q 3) (Z 3), W_State cI (q 4) (Z 4), W_State cI (q 5) (Z 5)]) hP hD [0, 2, 1, 3, 4, 5, 6, 7] rfl rfl
        have hP : va_P (dC, dI) vwCl (List.flatten [W_LS cI a S, W_Sav cS (a 13) [((q 0) 0), ((q 1) 0), ((q 2) 0), ((q 3) 0), ((q 4) 0), ((q 5) 0)], W_State cI (q 0) u3, W_State cI (q 1) (Z 1), W_State cI (q 2) (Z 2), W_State cI (q 3) (Z 3), W_State cI (q 4) (Z 4), W_State cI (q 5) (Z 5)]) H := hP
        have hD : va_D A (List.flatten [W_LS cI a S, W_Sav cS (a 13) [((q 0) 0), ((q 1) 0), ((q 2) 0), ((q 3) 0), ((q 4) 0), ((q 5) 0)], W_State cI (q 0) u3, W_State cI (q 1) (Z 1), W_State cI (q 2) (Z 2), W_State cI (q 3) (Z 3), W_State cI (q 4) (Z 4), W_State cI (q 5) (Z 5)]) := hD
        refine lv_aload_n hx hb dX4_saveState_37 rfl (lv_at hl 1 rfl) ?_
        refine lv_dup hx hb dX4_saveState_38 rfl ?_
        refine va_get (D := (dC, dI)) (ci := 4) (v := .int (g_LS_savedStates S)) (C := RX4) (T := TX4) (N := 8) hx hb hts hinX4 hown hK hP 0 rfl rfl 5 (by decide) (hts (Cond.fieldLink RX4 125 "LearnedShapes" "savedStates" "I") (List.mem_of_getElem? (i := 1) rfl)) (fun _ h9 => h9) rfl dX4_saveState_39 ?_
        refine lv_iconst (v := (1 : Int32)) hx hb dX4_saveState_42 (by decide) ?_
        refine lv_iadd hx hb dX4_saveState_43 ?_
        refine va_put (D := (dC, dI)) (ci := 4) (v := .int ((g_LS_savedStates S) + (1 : Int32))) (ty := .int) (C := RX4) (T := TX4) (N := 8) hx hb hts hinX4 tyX4 tyX4_ok nmX4 hown hK hP hD hS 0 rfl rfl 5 (by decide) (hts (Cond.fieldLink RX4 125 "LearnedShapes" "savedStates" "I") (List.mem_of_getElem? (i := 1) rfl)) (fun _ h9 => h9) rfl (by decide +kernel) (rfl) rfl (Nat.le_of_ble_eq_true rfl) dX4_saveState_44 (fun H locs hP hD hS => ?_)
        have hP : va_P (dC, dI) vwCl (List.flatten [W_LS cI a (s_LS_savedStates S ((g_LS_savedStates S) + (1 : Int32))), W_Sav cS (a 13) [((q 0) 0), ((q 1) 0), ((q 2) 0), ((q 3) 0), ((q 4) 0), ((q 5) 0)], W_State cI (q 0) u3, W_State cI (q 1) (Z 1), W_State cI (q 2) (Z 2), W_State cI (q 3) (Z 3), W_State cI (q 4) (Z 4), W_State cI (q 5) (Z 5)]) H := hP
        have hD : va_D A (List.flatten [W_LS cI a (s_LS_savedStates S ((g_LS_savedStates S) + (1 : Int32))), W_Sav cS (a 13) [((q 0) 0), ((q 1) 0), ((q 2) 0), ((q 3) 0), ((q 4) 0), ((q 5) 0)], W_State cI (q 0) u3, W_State cI (q 1) (Z 1), W_State cI (q 2) (Z 2), W_State cI (q 3) (Z 3), W_State cI (q 4) (Z 4), W_State cI (q 5) (Z 5)]) := hD
        have hP : va_P (dC, dI) vwCl (W_Full cI cS a q (s_LS_savedStates S ((g_LS_savedStates S) + (1 : Int32))) (mk6 u3 (Z 1) (Z 2) (Z 3) (Z 4) (Z 5))) H := hP
        have hD : va_D A (W_Full cI cS a q (s_LS_savedStates S ((g_LS_savedStates S) + (1 : Int32))) (mk6 u3 (Z 1) (Z 2) (Z 3) (Z 4) (Z 5))) := hD
        have e50 := Option.some.inj hF
        obtain ⟨e60, e51⟩ := Prod.mk.inj e50
        subst e60
        subst e51
        exact W.vret hx hb hr (fun t ht hW => ⟨⟨((s_LS_savedStates S ((g_LS_savedStates S) + (1 : Int32))), (mk6 u3 (Z 1) (Z 2) (Z 3) (Z 4) (Z 5))), rfl, rfl, q, by rw [ht]; exact hP, va_K.moved hW.alike hK, hD⟩, hS.F ht⟩) hS.2.2 dX4_saveState_47
      · have hF := F_neg c2 hF
        by_cases c5 : (g_LS_savedStates S) = (1 : Int32)
        · have hF := F_pos c5 hF
          have hP : va_P (dC, dI) vwCl (W_Full cI cS a q S Z) H := hP
          have hD : va_D A (W_Full cI cS a q S Z) := hD
          have hPc := hP
          have hDc := hD
          have hFc := jFreeW (ws := (W_Full cI cS a q S Z)) hD hS hA
          refine va_callq (va_runV (As := [.int (g_LS_savedStates S)]) (rest := []) ⟨hx, hb, hml, hown, hts⟩ (c_X4_savedAt_1 l dC dI cI cS a q H.size _ _ _ c5) (cwV 1 hts gX4_saveState_X4_savedAt rfl rfl rfl (by decide +kernel) ⟨Nat.le_of_ble_eq_true rfl, Nat.le_of_ble_eq_true rfl⟩) (jPreV hK hPc hDc hN (ci := 4) rfl rfl) rfl rfl hl.1 rfl (lv_room (Nat.le_of_ble_eq_true rfl)) dX4_saveState_21 ⟨Nat.le_of_ble_eq_true rfl, Nat.le_of_ble_eq_true rfl⟩) hS (fun q _ h => hFc q h) hFc (fun r9 u9 t H locs ht hvm hw hB hz1 hk1 hS => ?_)
          subst hw
          obtain ⟨hP1, -, hD1⟩ := hB
          rw [ht] at hP1
          have hP : va_P (dC, dI) vwCl ((W_Full cI cS a q S Z)) H := hP1
          have hD : va_D A ((W_Full cI cS a q S Z)) := hD1.weaken (fun _ _ _ h => hFc _ h)
          have hP : va_P (dC, dI) vwCl (List.flatten [W_LS cI a S, W_Sav cS (a 13) [((q 0) 0), ((q 1) 0), ((q 2) 0), ((q 3) 0), ((q 4) 0), ((q 5) 0)], W_State cI (q 0) (Z 0), W_State cI (q 1) (Z 1), W_State cI (q 2) (Z 2), W_State cI (q 3) (Z 3), W_State cI (q 4) (Z 4), W_State cI (q 5) (Z 5)]) H := hP
          have hD : va_D A (List.flatten [W_LS cI a S, W_Sav cS (a 13) [((q 0) 0), ((q 1) 0), ((q 2) 0), ((q 3) 0), ((q 4) 0), ((q 5) 0)], W_State cI (q 0) (Z 0), W_State cI (q 1) (Z 1), W_State cI (q 2) (Z 2), W_State cI (q 3) (Z 3), W_State cI (q 4) (Z 4), W_State cI (q 5) (Z 5)]) := hD
          refine W.eq (g2 := F0 m 24 ls [.ref ((q 1) 0)]) rfl ?_
          refine lv_astore_n (lv' := [(1, .ref ((q 1) 0)), (0, .ref (a 0))]) hx hb dX4_saveState_24 rfl hl (by decide) rfl (fun ls hl => ?_)
          refine lv_aload_n hx hb dX4_saveState_25 rfl (lv_at hl 0 rfl) ?_
          refine lv_ifnull hx hb dX4_saveState_26 ?_
          refine lv_aload_n hx hb dX4_saveState_29 rfl (lv_at hl 0 rfl) ?_
          refine lv_aload_n hx hb dX4_saveState_30 rfl (lv_at hl 1 rfl) ?_
          refine va_get (D := (dC, dI)) (ci := 4) (v := .ref (a 5)) (C := RX4) (T := TX4) (N := 8) hx hb hts hinX4 hown hK hP 0 rfl rfl 3 (by decide) (hts (Cond.fieldLink RX4 23 "LearnedShapes" "now" "LLearnedShapes$State;") (List.mem_of_getElem? (i := 3) rfl)) (fun _ h9 => h9) rfl dX4_saveState_31 ?_
          obtain ⟨u6, h7, hF⟩ := ob1_some hF
          obtain ⟨hP, hD⟩ := jBlk (bs := [W_LS cI a S, W_Sav cS (a 13) [((q 0) 0), ((q 1) 0), ((q 2) 0), ((q 3) 0), ((q 4) 0), ((q 5) 0)], W_State cI (q 0) (Z 0), W_State cI (q 1) (Z 1), W_State cI (q 2) (Z 2), W_State cI (q 3) (Z 3), W_State cI (q 4) (Z 4), W_State cI (q 5) (Z 5)]) (bs' := [W_LS cI a S, W_State cI (q 1) (Z 1), W_Sav cS (a 13) [((q 0) 0), ((q 1) 0), ((q 2) 0), ((q 3) 0), ((q 4) 0), ((q 5) 0)], W_State cI (q 0) (Z 0), W_State cI (q 2) (Z 2), W_State cI (q 3) (Z 3), W_State cI (q 4) (Z 4), W_State cI (q 5) (Z 5)]) hP hD [0, 3, 1, 2, 4, 5, 6, 7] rfl rfl
          have hPc := hP.sub (ws' := (W_State cI (q 1) (Z 1)) ++ (W_State cI (sh a 5) (g_LS_now S))) [13, 14, 15, 16, 17, 5, 6, 7, 8, 9] rfl
          have hDc := hD.sub (ws' := (W_State cI (q 1) (Z 1)) ++ (W_State cI (sh a 5) (g_LS_now S))) [13, 14, 15, 16, 17, 5, 6, 7, 8, 9] (by decide) rfl
          have hFc := va_free (wc := (W_State cI (q 1) (Z 1)) ++ (W_State cI (sh a 5) (g_LS_now S))) hD hS hA [13, 14, 15, 16, 17, 5, 6, 7, 8, 9] rfl
          refine va_callv (va_runV (As := [.ref (a 5)]) (rest := []) ⟨hx, hb, hml, hown, hts⟩ (c_X2_copyFrom l dC dI cI (q 1) (sh a 5) H.size _ _ _ h7) (cwV 1 hts gX4_saveState_X2_copyFrom rfl rfl rfl (by decide +kernel) ⟨Nat.le_of_ble_eq_true rfl, Nat.le_of_ble_eq_true rfl⟩) (jPreV hKi hPc hDc hN (ci := 2) rfl rfl) rfl rfl hl.1 rfl (lv_room (Nat.le_of_ble_eq_true rfl)) dX4_saveState_34 ⟨Nat.le_of_ble_eq_true rfl, Nat.le_of_ble_eq_true rfl⟩) hS (fun q _ h => hFc q h) hFc (fun u' t H locs ht hvm hw hB hz1 hk1 hS => ?_)
          subst hw
          obtain ⟨hP1, -, hD1⟩ := hB
          rw [ht] at hP1
          obtain ⟨hP, hD⟩ := jJoinF (wa := (W_LS cI a S) ++ (W_State cI (q 1) (Z 1))) (wb := List.flatten [W_Sav cS (a 13) [((q 0) 0), ((q 1) 0), ((q 2) 0), ((q 3) 0), ((q 4) 0), ((q 5) 0)], W_State cI (q 0) (Z 0), W_State cI (q 2) (Z 2), W_State cI (q 3) (Z 3), W_State cI (q 4) (Z 4), W_State cI (q 5) (Z 5)]) (wc := (W_State cI (q 1) (Z 1)) ++ (W_State cI (sh a 5) (g_LS_now S))) (w1 := (W_State cI (q 1) u6) ++ (W_State cI (sh a 5) (g_LS_now S))) (ws' := (W_LS cI a S) ++ (W_State cI (q 1) u6)) hP hD [13, 14, 15, 16, 17, 5, 6, 7, 8, 9] [0, 1, 2, 3, 4, 10, 11, 12] [0, 1, 2, 3, 4, 13, 14, 15, 16, 17, 5, 6, 7, 8, 9, 10, 11, 12] rfl rfl (by decide) (by decide) hk1 hFc hP1 hD1 (by decide) rfl
          obtain ⟨hP, hD⟩ := jBlk (bs := [W_LS cI a S, W_State cI (q 1) u6, W_Sav cS (a 13) [((q 0) 0), ((q 1) 0), ((q 2) 0), ((q 3) 0), ((q 4) 0), ((q 5) 0)], W_State cI (q 0) (Z 0), W_State cI (q 2) (Z 2), W_State cI (q 3) (Z 3), W_State cI (q 4) (Z 4), W_State cI (q 5) (Z 5)]) (bs' := [W_LS cI a S, W_Sav cS (a 13) [((q 0) 0), ((q 1) 0), ((q 2) 0), ((q 3) 0), ((q 4) 0), ((q 5) 0)], W_State cI (q 0) (Z 0), W_State cI (q 1) u6, W_State cI (q 2) (Z 2), W_State cI (q 3) (Z 3), W_State cI (q 4) (Z 4), W_State cI (q 5) (Z 5)]) hP hD [0, 2, 3, 1, 4, 5, 6, 7] rfl rfl
          have hP : va_P (dC, dI) vwCl (List.flatten [W_LS cI a S, W_Sav cS (a 13) [((q 0) 0), ((q 1) 0), ((q 2) 0), ((q 3) 0), ((q 4) 0), ((q 5) 0)], W_State cI (q 0) (Z 0), W_State cI (q 1) u6, W_State cI (q 2) (Z 2), W_State cI (q 3) (Z 3), W_State cI (q 4) (Z 4), W_State cI (q 5) (Z 5)]) H := hP
          have hD : va_D A (List.flatten [W_LS cI a S, W_Sav cS (a 13) [((q 0) 0), ((q 1) 0), ((q 2) 0), ((q 3) 0), ((q 4) 0), ((q 5) 0)], W_State cI (q 0) (Z 0), W_State cI (q 1) u6, W_State cI (q 2) (Z 2), W_State cI (q 3) (Z 3), W_State cI (q 4) (Z 4), W_State cI (q 5) (Z 5)]) := hD
          refine lv_aload_n hx hb dX4_saveState_37 rfl (lv_at hl 1 rfl) ?_
          refine lv_dup hx hb dX4_saveState_38 rfl ?_
          refine va_get (D := (dC, dI)) (ci := 4) (v := .int (g_LS_savedStates S)) (C := RX4) (T := TX4) (N := 8) hx hb hts hinX4 hown hK hP 0 rfl rfl 5 (by decide) (hts (Cond.fieldLink RX4 125 "LearnedShapes" "savedStates" "I") (List.mem_of_getElem? (i := 1) rfl)) (fun _ h9 => h9) rfl dX4_saveState_39 ?_
          refine lv_iconst (v := (1 : Int32)) hx hb dX4_saveState_42 (by decide) ?_
          refine lv_iadd hx hb dX4_saveState_43 ?_
          refine va_put (D := (dC, dI)) (ci := 4) (v := .int ((g_LS_savedStates S) + (1 : Int32))) (ty := .int) (C := RX4) (T := TX4) (N := 8) hx hb hts hinX4 tyX4 tyX4_ok nmX4 hown hK hP hD hS 0 rfl rfl 5 (by decide) (hts (Cond.fieldLink RX4 125 "LearnedShapes" "savedStates" "I") (List.mem_of_getElem? (i := 1) rfl)) (fun _ h9 => h9) rfl (by decide +kernel) (rfl) rfl (Nat.le_of_ble_eq_true rfl) dX4_saveState_44 (fun H locs hP hD hS => ?_)
          have hP : va_P (dC, dI) vwCl (List.flatten [W_LS cI a (s_LS_savedStates S ((g_LS_savedStates S) + (1 : Int32))), W_Sav cS (a 13) [((q 0) 0), ((q 1) 0), ((q 2) 0), ((q 3) 0), ((q 4) 0), ((q 5) 0)], W_State cI (q 0) (Z 0), W_State cI (q 1) u6, W_State cI (q 2) (Z 2), W_State cI (q 3) (Z 3), W_State cI (q 4) (Z 4), W_State cI (q 5) (Z 5)]) H := hP
          have hD : va_D A (List.flatten [W_LS cI a (s_LS_savedStates S ((g_LS_savedStates S) + (1 : Int32))), W_Sav cS (a 13) [((q 0) 0), ((q 1) 0), ((q 2) 0), ((q 3) 0), ((q 4) 0), ((q 5) 0)], W_State cI (q 0) (Z 0), W_State cI (q 1) u6, W_State cI (q 2) (Z 2), W_State cI (q 3) (Z 3), W_State cI (q 4) (Z 4), W_State cI (q 5) (Z 5)]) := hD
          have hP : va_P (dC, dI) vwCl (W_Full cI cS a q (s_LS_savedStates S ((g_LS_savedStates S) + (1 : Int32))) (mk6 (Z 0) u6 (Z 2) (Z 3) (Z 4) (Z 5))) H := hP
          have hD : va_D A (W_Full cI cS a q (s_LS_savedStates S ((g_LS_savedStates S) + (1 : Int32))) (mk6 (Z 0) u6 (Z 2) (Z 3) (Z 4) (Z 5))) := hD
          have e50 := Option.some.inj hF
          obtain ⟨e60, e51⟩ := Prod.mk.inj e50
          subst e60
          subst e51
          exact W.vret hx hb hr (fun t ht hW => ⟨⟨((s_LS_savedStates S ((g_LS_savedStates S) + (1 : Int32))), (mk6 (Z 0) u6 (Z 2) (Z 3) (Z 4) (Z 5))), rfl, rfl, q, by rw [ht]; exact hP, va_K.moved hW.alike hK, hD⟩, hS.F ht⟩) hS.2.2 dX4_saveState_47
        · have hF := F_neg c5 hF
          by_cases c8 : (g_LS_savedStates S) = (2 : Int32)
          · have hF := F_pos c8 hF
            have hP : va_P (dC, dI) vwCl (W_Full cI cS a q S Z) H := hP
            have hD : va_D A (W_Full cI cS a q S Z) := hD
            have hPc := hP
            have hDc := hD
            have hFc := jFreeW (ws := (W_Full cI cS a q S Z)) hD hS hA
            refine va_callq (va_runV (As := [.int (g_LS_savedStates S)]) (rest := []) ⟨hx, hb, hml, hown, hts⟩ (c_X4_savedAt_2 l dC dI cI cS a q H.size _ _ _ c8) (cwV 1 hts gX4_saveState_X4_savedAt rfl rfl rfl (by decide +kernel) ⟨Nat.le_of_ble_eq_true rfl, Nat.le_of_ble_eq_true rfl⟩) (jPreV hK hPc hDc hN (ci := 4) rfl rfl) rfl rfl hl.1 rfl (lv_room (Nat.le_of_ble_eq_true rfl)) dX4_saveState_21 ⟨Nat.le_of_ble_eq_true rfl, Nat.le_of_ble_eq_true rfl⟩) hS (fun q _ h => hFc q h) hFc (fun r9 u9 t H locs ht hvm hw hB hz1 hk1 hS => ?_)
            subst hw
            obtain ⟨hP1, -, hD1⟩ := hB
            rw [ht] at hP1
            have hP : va_P (dC, dI) vwCl ((W_Full cI cS a q S Z)) H := hP1
            have hD : va_D A ((W_Full cI cS a q S Z)) := hD1.weaken (fun _ _ _ h => hFc _ h)
            have hP : va_P (dC, dI) vwCl (List.flatten [W_LS cI a S, W_Sav cS (a 13) [((q 0) 0), ((q 1) 0), ((q 2) 0), ((q 3) 0), ((q 4) 0), ((q 5) 0)], W_State cI (q 0) (Z 0), W_State cI (q 1) (Z 1), W_State cI (q 2) (Z 2), W_State cI (q 3) (Z 3), W_State cI (q 4) (Z 4), W_State cI (q 5) (Z 5)]) H := hP
            have hD : va_D A (List.flatten [W_LS cI a S, W_Sav cS (a 13) [((q 0) 0), ((q 1) 0), ((q 2) 0), ((q 3) 0), ((q 4) 0), ((q 5) 0)], W_State cI (q 0) (Z 0), W_State cI (q 1) (Z 1), W_State cI (q 2) (Z 2), W_State cI (q 3) (Z 3), W_State cI (q 4) (Z 4), W_State cI (q 5) (Z 5)]) := hD
            refine W.eq (g2 := F0 m 24 ls [.ref ((q 2) 0)]) rfl ?_
            refine lv_astore_n (lv' := [(1, .ref ((q 2) 0)), (0, .ref (a 0))]) hx hb dX4_saveState_24 rfl hl (by decide) rfl (fun ls hl => ?_)
            refine lv_aload_n hx hb dX4_saveState_25 rfl (lv_at hl 0 rfl) ?_
            refine lv_ifnull hx hb dX4_saveState_26 ?_
            refine lv_aload_n hx hb dX4_saveState_29 rfl (lv_at hl 0 rfl) ?_
            refine lv_aload_n hx hb dX4_saveState_30 rfl (lv_at hl 1 rfl) ?_
            refine va_get (D := (dC, dI)) (ci := 4) (v := .ref (a 5)) (C := RX4) (T := TX4) (N := 8) hx hb hts hinX4 hown hK hP 0 rfl rfl 3 (by decide) (hts (Cond.fieldLink RX4 23 "LearnedShapes" "now" "LLearnedShapes$State;") (List.mem_of_getElem? (i := 3) rfl)) (fun _ h9 => h9) rfl dX4_saveState_31 ?_
            obtain ⟨u9, h10, hF⟩ := ob1_some hF
            obtain ⟨hP, hD⟩ := jBlk (bs := [W_LS cI a S, W_Sav cS (a 13) [((q 0) 0), ((q 1) 0), ((q 2) 0), ((q 3) 0), ((q 4) 0), ((q 5) 0)], W_State cI (q 0) (Z 0), W_State cI (q 1) (Z 1), W_State cI (q 2) (Z 2), W_State cI (q 3) (Z 3), W_State cI (q 4) (Z 4), W_State cI (q 5) (Z 5)]) (bs' := [W_LS cI a S, W_State cI (q 2) (Z 2), W_Sav cS (a 13) [((q 0) 0), ((q 1) 0), ((q 2) 0), ((q 3) 0), ((q 4) 0), ((q 5) 0)], W_State cI (q 0) (Z 0), W_State cI (q 1) (Z 1), W_State cI (q 3) (Z 3), W_State cI (q 4) (Z 4), W_State cI (q 5) (Z 5)]) hP hD [0, 4, 1, 2, 3, 5, 6, 7] rfl rfl
            have hPc := hP.sub (ws' := (W_State cI (q 2) (Z 2)) ++ (W_State cI (sh a 5) (g_LS_now S))) [13, 14, 15, 16, 17, 5, 6, 7, 8, 9] rfl
            have hDc := hD.sub (ws' := (W_State cI (q 2) (Z 2)) ++ (W_State cI (sh a 5) (g_LS_now S))) [13, 14, 15, 16, 17, 5, 6, 7, 8, 9] (by decide) rfl
            have hFc := va_free (wc := (W_State cI (q 2) (Z 2)) ++ (W_State cI (sh a 5) (g_LS_now S))) hD hS hA [13, 14, 15, 16, 17, 5, 6, 7, 8, 9] rfl
            refine va_callv (va_runV (As := [.ref (a 5)]) (rest := []) ⟨hx, hb, hml, hown, hts⟩ (c_X2_copyFrom l dC dI cI (q 2) (sh a 5) H.size _ _ _ h10) (cwV 1 hts gX4_saveState_X2_copyFrom rfl rfl rfl (by decide +kernel) ⟨Nat.le_of_ble_eq_true rfl, Nat.le_of_ble_eq_true rfl⟩) (jPreV hKi hPc hDc hN (ci := 2) rfl rfl) rfl rfl hl.1 rfl (lv_room (Nat.le_of_ble_eq_true rfl)) dX4_saveState_34 ⟨Nat.le_of_ble_eq_true rfl, Nat.le_of_ble_eq_true rfl⟩) hS (fun q _ h => hFc q h) hFc (fun u' t H locs ht hvm hw hB hz1 hk1 hS => ?_)
            subst hw
            obtain ⟨hP1, -, hD1⟩ := hB
            rw [ht] at hP1
            obtain ⟨hP, hD⟩ := jJoinF (wa := (W_LS cI a S) ++ (W_State cI (q 2) (Z 2))) (wb := List.flatten [W_Sav cS (a 13) [((q 0) 0), ((q 1) 0), ((q 2) 0), ((q 3) 0), ((q 4) 0), ((q 5) 0)], W_State cI (q 0) (Z 0), W_State cI (q 1) (Z 1), W_State cI (q 3) (Z 3), W_State cI (q 4) (Z 4), W_State cI (q 5) (Z 5)]) (wc := (W_State cI (q 2) (Z 2)) ++ (W_State cI (sh a 5) (g_LS_now S))) (w1 := (W_State cI (q 2) u9) ++ (W_State cI (sh a 5) (g_LS_now S))) (ws' := (W_LS cI a S) ++ (W_State cI (q 2) u9)) hP hD [13, 14, 15, 16, 17, 5, 6, 7, 8, 9] [0, 1, 2, 3, 4, 10, 11, 12] [0, 1, 2, 3, 4, 13, 14, 15, 16, 17, 5, 6, 7, 8, 9, 10, 11, 12] rfl rfl (by decide) (by decide) hk1 hFc hP1 hD1 (by decide) rfl
            obtain ⟨hP, hD⟩ := jBlk (bs := [W_LS cI a S, W_State cI (q 2) u9, W_Sav cS (a 13) [((q 0) 0), ((q 1) 0), ((q 2) 0), ((q 3) 0), ((q 4) 0), ((q 5) 0)], W_State cI (q 0) (Z 0), W_State cI (q 1) (Z 1), W_State cI (q 3) (Z 3), W_State cI (q 4) (Z 4), W_State cI (q 5) (Z 5)]) (bs' := [W_LS cI a S, W_Sav cS (a 13) [((q 0) 0), ((q 1) 0), ((q 2) 0), ((q 3) 0), ((q 4) 0), ((q 5) 0)], W_State cI (q 0) (Z 0), W_State cI (q 1) (Z 1), W_State cI (q 2) u9, W_State cI (q 3) (Z 3), W_State cI (q 4) (Z 4), W_State cI (q 5) (Z 5)]) hP hD [0, 2, 3, 4, 1, 5, 6, 7] rfl rfl
            have hP : va_P (dC, dI) vwCl (List.flatten [W_LS cI a S, W_Sav cS (a 13) [((q 0) 0), ((q 1) 0), ((q 2) 0), ((q 3) 0), ((q 4) 0), ((q 5) 0)], W_State cI (q 0) (Z 0), W_State cI (q 1) (Z 1), W_State cI (q 2) u9, W_State cI (q 3) (Z 3), W_State cI (q 4) (Z 4), W_State cI (q 5) (Z 5)]) H := hP
            have hD : va_D A (List.flatten [W_LS cI a S, W_Sav cS (a 13) [((q 0) 0), ((q 1) 0), ((q 2) 0), ((q 3) 0), ((q 4) 0), ((q 5) 0)], W_State cI (q 0) (Z 0), W_State cI (q 1) (Z 1), W_State cI (q 2) u9, W_State cI (q 3) (Z 3), W_State cI (q 4) (Z 4), W_State cI (q 5) (Z 5)]) := hD
            refine lv_aload_n hx hb dX4_saveState_37 rfl (lv_at hl 1 rfl) ?_
            refine lv_dup hx hb dX4_saveState_38 rfl ?_
            refine va_get (D := (dC, dI)) (ci := 4) (v := .int (g_LS_savedStates S)) (C := RX4) (T := TX4) (N := 8) hx hb hts hinX4 hown hK hP 0 rfl rfl 5 (by decide) (hts (Cond.fieldLink RX4 125 "LearnedShapes" "savedStates" "I") (List.mem_of_getElem? (i := 1) rfl)) (fun _ h9 => h9) rfl dX4_saveState_39 ?_
            refine lv_iconst (v := (1 : Int32)) hx hb dX4_saveState_42 (by decide) ?_
            refine lv_iadd hx hb dX4_saveState_43 ?_
            refine va_put (D := (dC, dI)) (ci := 4) (v := .int ((g_LS_savedStates S) + (1 : Int32))) (ty := .int) (C := RX4) (T := TX4) (N := 8) hx hb hts hinX4 tyX4 tyX4_ok nmX4 hown hK hP hD hS 0 rfl rfl 5 (by decide) (hts (Cond.fieldLink RX4 125 "LearnedShapes" "savedStates" "I") (List.mem_of_getElem? (i := 1) rfl)) (fun _ h9 => h9) rfl (by decide +kernel) (rfl) rfl (Nat.le_of_ble_eq_true rfl) dX4_saveState_44 (fun H locs hP hD hS => ?_)
            have hP : va_P (dC, dI) vwCl (List.flatten [W_LS cI a (s_LS_savedStates S ((g_LS_savedStates S) + (1 : Int32))), W_Sav cS (a 13) [((q 0) 0), ((q 1) 0), ((q 2) 0), ((q 3) 0), ((q 4) 0), ((q 5) 0)], W_State cI (q 0) (Z 0), W_State cI (q 1) (Z 1), W_State cI (q 2) u9, W_State cI (q 3) (Z 3), W_State cI (q 4) (Z 4), W_State cI (q 5) (Z 5)]) H := hP
            have hD : va_D A (List.flatten [W_LS cI a (s_LS_savedStates S ((g_LS_savedStates S) + (1 : Int32))), W_Sav cS (a 13) [((q 0) 0), ((q 1) 0), ((q 2) 0), ((q 3) 0), ((q 4) 0), ((q 5) 0)], W_State cI (q 0) (Z 0), W_State cI (q 1) (Z 1), W_State cI (q 2) u9, W_State cI (q 3) (Z 3), W_State cI (q 4) (Z 4), W_State cI (q 5) (Z 5)]) := hD
            have hP : va_P (dC, dI) vwCl (W_Full cI cS a q (s_LS_savedStates S ((g_LS_savedStates S) + (1 : Int32))) (mk6 (Z 0) (Z 1) u9 (Z 3) (Z 4) (Z 5))) H := hP
            have hD : va_D A (W_Full cI cS a q (s_LS_savedStates S ((g_LS_savedStates S) + (1 : Int32))) (mk6 (Z 0) (Z 1) u9 (Z 3) (Z 4) (Z 5))) := hD
            have e50 := Option.some.inj hF
            obtain ⟨e60, e51⟩ := Prod.mk.inj e50
            subst e60
            subst e51
            exact W.vret hx hb hr (fun t ht hW => ⟨⟨((s_LS_savedStates S ((g_LS_savedStates S) + (1 : Int32))), (mk6 (Z 0) (Z 1) u9 (Z 3) (Z 4) (Z 5))), rfl, rfl, q, by rw [ht]; exact hP, va_K.moved hW.alike hK, hD⟩, hS.F ht⟩) hS.2.2 dX4_saveState_47
          · have hF := F_neg c8 hF
            by_cases c11 : (g_LS_savedStates S) = (3 : Int32)
            · have hF := F_pos c11 hF
              have hP : va_P (dC, dI) vwCl (W_Full cI cS a q S Z) H := hP
              have hD : va_D A (W_Full cI cS a q S Z) := hD
              have hPc := hP
              have hDc := hD
              have hFc := jFreeW (ws := (W_Full cI cS a q S Z)) hD hS hA
              refine va_callq (va_runV (As := [.int (g_LS_savedStates S)]) (rest := []) ⟨hx, hb, hml, hown, hts⟩ (c_X4_savedAt_3 l dC dI cI cS a q H.size _ _ _ c11) (cwV 1 hts gX4_saveState_X4_savedAt rfl rfl rfl (by decide +kernel) ⟨Nat.le_of_ble_eq_true rfl, Nat.le_of_ble_eq_true rfl⟩) (jPreV hK hPc hDc hN (ci := 4) rfl rfl) rfl rfl hl.1 rfl (lv_room (Nat.le_of_ble_eq_true rfl)) dX4_saveState_21 ⟨Nat.le_of_ble_eq_true rfl, Nat.le_of_ble_eq_true rfl⟩) hS (fun q _ h => hFc q h) hFc (fun r9 u9 t H locs ht hvm hw hB hz1 hk1 hS => ?_)
              subst hw
              obtain ⟨hP1, -, hD1⟩ := hB
              rw [ht] at hP1
              have hP : va_P (dC, dI) vwCl ((W_Full cI cS a q S Z)) H := hP1
              have hD : va_D A ((W_Full cI cS a q S Z)) := hD1.weaken (fun _ _ _ h => hFc _ h)
              have hP : va_P (dC, dI) vwCl (List.flatten [W_LS cI a S, W_Sav cS (a 13) [((q 0) 0), ((q 1) 0), ((q 2) 0), ((q 3) 0), ((q 4) 0), ((q 5) 0)], W_State cI (q 0) (Z 0), W_State cI (q 1) (Z 1), W_State cI (q 2) (Z 2), W_State cI (q 3) (Z 3), W_State cI (q 4) (Z 4), W_State cI (q 5) (Z 5)]) H := hP
              have hD : va_D A (List.flatten [W_LS cI a S, W_Sav cS (a 13) [((q 0) 0), ((q 1) 0), ((q 2) 0), ((q 3) 0), ((q 4) 0), ((q 5) 0)], W_State cI (q 0) (Z 0), W_State cI (q 1) (Z 1), W_State cI (q 2) (Z 2), W_State cI (q 3) (Z 3), W_State cI (q 4) (Z 4), W_State cI (q 5) (Z 5)]) := hD
              refine W.eq (g2 := F0 m 24 ls [.ref ((q 3) 0)]) rfl ?_
              refine lv_astore_n (lv' := [(1, .ref ((q 3) 0)), (0, .ref (a 0))]) hx hb dX4_saveState_24 rfl hl (by decide) rfl (fun ls hl => ?_)
              refine lv_aload_n hx hb dX4_saveState_25 rfl (lv_at hl 0 rfl) ?_
              refine lv_ifnull hx hb dX4_saveState_26 ?_
              refine lv_aload_n hx hb dX4_saveState_29 rfl (lv_at hl 0 rfl) ?_
              refine lv_aload_n hx hb dX4_saveState_30 rfl (lv_at hl 1 rfl) ?_
              refine va_get (D := (dC, dI)) (ci := 4) (v := .ref (a 5)) (C := RX4) (T := TX4) (N := 8) hx hb hts hinX4 hown hK hP 0 rfl rfl 3 (by decide) (hts (Cond.fieldLink RX4 23 "LearnedShapes" "now" "LLearnedShapes$State;") (List.mem_of_getElem? (i := 3) rfl)) (fun _ h9 => h9) rfl dX4_saveState_31 ?_
              obtain ⟨u12, h13, hF⟩ := ob1_some hF
              obtain ⟨hP, hD⟩ := jBlk (bs := [W_LS cI a S, W_Sav cS (a 13) [((q 0) 0), ((q 1) 0), ((q 2) 0), ((q 3) 0), ((q 4) 0), ((q 5) 0)], W_State cI (q 0) (Z 0), W_State cI (q 1) (Z 1), W_State cI (q 2) (Z 2), W_State cI (q 3) (Z 3), W_State cI (q 4) (Z 4), W_State cI (q 5) (Z 5)]) (bs' := [W_LS cI a S, W_State cI (q 3) (Z 3), W_Sav cS (a 13) [((q 0) 0), ((q 1) 0), ((q 2) 0), ((q 3) 0), ((q 4) 0), ((q 5) 0)], W_State cI (q 0) (Z 0), W_State cI (q 1) (Z 1), W_State cI (q 2) (Z 2), W_State cI (q 4) (Z 4), W_State cI (q 5) (Z 5)]) hP hD [0, 5, 1, 2, 3, 4, 6, 7] rfl rfl
              have hPc := hP.sub (ws' := (W_State cI (q 3) (Z 3)) ++ (W_State cI (sh a 5) (g_LS_now S))) [13, 14, 15, 16, 17, 5, 6, 7, 8, 9] rfl
              have hDc := hD.sub (ws' := (W_State cI (q 3) (Z 3)) ++ (W_State cI (sh a 5) (g_LS_now S))) [13, 14, 15, 16, 17, 5, 6, 7, 8, 9] (by decide) rfl
              have hFc := va_free (wc := (W_State cI (q 3) (Z 3)) ++ (W_State cI (sh a 5) (g_LS_now S))) hD hS hA [13, 14, 15, 16, 17, 5, 6, 7, 8, 9] rfl
              refine va_callv (va_runV (As := [.ref (a 5)]) (rest := []) ⟨hx, hb, hml, hown, hts⟩ (c_X2_copyFrom l dC dI cI (q 3) (sh a 5) H.size _ _ _ h13) (cwV 1 hts gX4_saveState_X2_copyFrom rfl rfl rfl (by decide +kernel) ⟨Nat.le_of_ble_eq_true rfl, Nat.le_of_ble_eq_true rfl⟩) (jPreV hKi hPc hDc hN (ci := 2) rfl rfl) rfl rfl hl.1 rfl (lv_room (Nat.le_of_ble_eq_true rfl)) dX4_saveState_34 ⟨Nat.le_of_ble_eq_true rfl, Nat.le_of_ble_eq_true rfl⟩) hS (fun q _ h => hFc q h) hFc (fun u' t H locs ht hvm hw hB hz1 hk1 hS => ?_)
              subst hw
              obtain ⟨hP1, -, hD1⟩ := hB
              rw [ht] at hP1
              obtain ⟨hP, hD⟩ := jJoinF (wa := (W_LS cI a S) ++ (W_State cI (q 3) (Z 3))) (wb := List.flatten [W_Sav cS (a 13) [((q 0) 0), ((q 1) 0), ((q 2) 0), ((q 3) 0), ((q 4) 0), ((q 5) 0)], W_State cI (q 0) (Z 0), W_State cI (q 1) (Z 1), W_State cI (q 2) (Z 2), W_State cI (q 4) (Z 4), W_State cI (q 5) (Z 5)]) (wc := (W_State cI (q 3) (Z 3)) ++ (W_State cI (sh a 5) (g_LS_now S))) (w1 := (W_State cI (q 3) u12) ++ (W_State cI (sh a 5) (g_LS_now S))) (ws' := (W_LS cI a S) ++ (W_State cI (q 3) u12)) hP hD [13, 14, 15, 16, 17, 5, 6, 7, 8, 9] [0, 1, 2, 3, 4, 10, 11, 12] [0, 1, 2, 3, 4, 13, 14, 15, 16, 17, 5, 6, 7, 8, 9, 10, 11, 12] rfl rfl (by decide) (by decide) hk1 hFc hP1 hD1 (by decide) rfl
              obtain ⟨hP, hD⟩ := jBlk (bs := [W_LS cI a S, W_State cI (q 3) u12, W_Sav cS (a 13) [((q 0) 0), ((q 1) 0), ((q 2) 0), ((q 3) 0), ((q 4) 0), ((q 5) 0)], W_State cI (q 0) (Z 0), W_State cI (q 1) (Z 1), W_State cI (q 2) (Z 2), W_State cI (q 4) (Z 4), W_State cI (q 5) (Z 5)]) (bs' := [W_LS cI a S, W_Sav cS (a 13) [((q 0) 0), ((q 1) 0), ((q 2) 0), ((q 3) 0), ((q 4) 0), ((q 5) 0)], W_State cI (q 0) (Z 0), W_State cI (q 1) (Z 1), W_State cI (q 2) (Z 2), W_State cI (q 3) u12, W_State cI (q 4) (Z 4), W_State cI (q 5) (Z 5)]) hP hD [0, 2, 3, 4, 5, 1, 6, 7] rfl rfl
              have hP : va_P (dC, dI) vwCl (List.flatten [W_LS cI a S, W_Sav cS (a 13) [((q 0) 0), ((q 1) 0), ((q 2) 0), ((q 3) 0), ((q 4) 0), ((q 5) 0)], W_State cI (q 0) (Z 0), W_State cI (q 1) (Z 1), W_State cI (q 2) (Z 2), W_State cI (q 3) u12, W_State cI (q 4) (Z 4), W_State cI (q 5) (Z 5)]) H := hP
              have hD : va_D A (List.flatten [W_LS cI a S, W_Sav cS (a 13) [((q 0) 0), ((q 1) 0), ((q 2) 0), ((q 3) 0), ((q 4) 0), ((q 5) 0)], W_State cI (q 0) (Z 0), W_State cI (q 1) (Z 1), W_State cI (q 2) (Z 2), W_State cI (q 3) u12, W_State cI (q 4) (Z 4), W_State cI (q 5) (Z 5)]) := hD
              refine lv_aload_n hx hb dX4_saveState_37 rfl (lv_at hl 1 rfl) ?_
              refine lv_dup hx hb dX4_saveState_38 rfl ?_
              refine va_get (D := (dC, dI)) (ci := 4) (v := .int (g_LS_savedStates S)) (C := RX4) (T := TX4) (N := 8) hx hb hts hinX4 hown hK hP 0 rfl rfl 5 (by decide) (hts (Cond.fieldLink RX4 125 "LearnedShapes" "savedStates" "I") (List.mem_of_getElem? (i := 1) rfl)) (fun _ h9 => h9) rfl dX4_saveState_39 ?_
              refine lv_iconst (v := (1 : Int32)) hx hb dX4_saveState_42 (by decide) ?_
              refine lv_iadd hx hb dX4_saveState_43 ?_
              refine va_put (D := (dC, dI)) (ci := 4) (v := .int ((g_LS_savedStates S) + (1 : Int32))) (ty := .int) (C := RX4) (T := TX4) (N := 8) hx hb hts hinX4 tyX4 tyX4_ok nmX4 hown hK hP hD hS 0 rfl rfl 5 (by decide) (hts (Cond.fieldLink RX4 125 "LearnedShapes" "savedStates" "I") (List.mem_of_getElem? (i := 1) rfl)) (fun _ h9 => h9) rfl (by decide +kernel) (rfl) rfl (Nat.le_of_ble_eq_true rfl) dX4_saveState_44 (fun H locs hP hD hS => ?_)
              have hP : va_P (dC, dI) vwCl (List.flatten [W_LS cI a (s_LS_savedStates S ((g_LS_savedStates S) + (1 : Int32))), W_Sav cS (a 13) [((q 0) 0), ((q 1) 0), ((q 2) 0), ((q 3) 0), ((q 4) 0), ((q 5) 0)], W_State cI (q 0) (Z 0), W_State cI (q 1) (Z 1), W_State cI (q 2) (Z 2), W_State cI (q 3) u12, W_State cI (q 4) (Z 4), W_State cI (q 5) (Z 5)]) H := hP
              have hD : va_D A (List.flatten [W_LS cI a (s_LS_savedStates S ((g_LS_savedStates S) + (1 : Int32))), W_Sav cS (a 13) [((q 0) 0), ((q 1) 0), ((q 2) 0), ((q 3) 0), ((q 4) 0), ((q 5) 0)], W_State cI (q 0) (Z 0), W_State cI (q 1) (Z 1), W_State cI (q 2) (Z 2), W_State cI (q 3) u12, W_State cI (q 4) (Z 4), W_State cI (q 5) (Z 5)]) := hD
              have hP : va_P (dC, dI) vwCl (W_Full cI cS a q (s_LS_savedStates S ((g_LS_savedStates S) + (1 : Int32))) (mk6 (Z 0) (Z 1) (Z 2) u12 (Z 4) (Z 5))) H := hP
              have hD : va_D A (W_Full cI cS a q (s_LS_savedStates S ((g_LS_savedStates S) + (1 : Int32))) (mk6 (Z 0) (Z 1) (Z 2) u12 (Z 4) (Z 5))) := hD
              have e50 := Option.some.inj hF
              obtain ⟨e60, e51⟩ := Prod.mk.inj e50
              subst e60
              subst e51
              exact W.vret hx hb hr (fun t ht hW => ⟨⟨((s_LS_savedStates S ((g_LS_savedStates S) + (1 : Int32))), (mk6 (Z 0) (Z 1) (Z 2) u12 (Z 4) (Z 5))), rfl, rfl, q, by rw [ht]; exact hP, va_K.moved hW.alike hK, hD⟩, hS.F ht⟩) hS.2.2 dX4_saveState_47
            · have hF := F_neg c11 hF
              by_cases c14 : (g_LS_savedStates S) = (4 : Int32)
              · have hF := F_pos c14 hF
                have hP : va_P (dC, dI) vwCl (W_Full cI cS a q S Z) H := hP
                have hD : va_D A (W_Full cI cS a q S Z) := hD
                have hPc := hP
                have hDc := hD
                have hFc := jFreeW (ws := (W_Full cI cS a q S Z)) hD hS hA
                refine va_callq (va_runV (As := [.int (g_LS_savedStates S)]) (rest := []) ⟨hx, hb, hml, hown, hts⟩ (c_X4_savedAt_4 l dC dI cI cS a q H.size _ _ _ c14) (cwV 1 hts gX4_saveState_X4_savedAt rfl rfl rfl (by decide +kernel) ⟨Nat.le_of_ble_eq_true rfl, Nat.le_of_ble_eq_true rfl⟩) (jPreV hK hPc hDc hN (ci := 4) rfl rfl) rfl rfl hl.1 rfl (lv_room (Nat.le_of_ble_eq_true rfl)) dX4_saveState_21 ⟨Nat.le_of_ble_eq_true rfl, Nat.le_of_ble_eq_true rfl⟩) hS (fun q _ h => hFc q h) hFc (fun r9 u9 t H locs ht hvm hw hB hz1 hk1 hS => ?_)
                subst hw
                obtain ⟨hP1, -, hD1⟩ := hB
                rw [ht] at hP1
                have hP : va_P (dC, dI) vwCl ((W_Full cI cS a q S Z)) H := hP1
                have hD : va_D A ((W_Full cI cS a q S Z)) := hD1.weaken (fun _ _ _ h => hFc _ h)
                have hP : va_P (dC, dI) vwCl (List.flatten [W_LS cI a S, W_Sav cS (a 13) [((q 0) 0), ((q 1) 0), ((q 2) 0), ((q 3) 0), ((q 4) 0), ((q 5) 0)], W_State cI (q 0) (Z 0), W_State cI (q 1) (Z 1), W_State cI (q 2) (Z 2), W_State cI (q 3) (Z 3), W_State cI (q 4) (Z 4), W_State cI (q 5) (Z 5)]) H := hP
                have hD : va_D A (List.flatten [W_LS cI a S, W_Sav cS (a 13) [((q 0) 0), ((q 1) 0), ((q 2) 0), ((q 3) 0), ((q 4) 0), ((q 5) 0)], W_State cI (q 0) (Z 0), W_State cI (q 1) (Z 1), W_State cI (q 2) (Z 2), W_State cI (q 3) (Z 3), W_State cI (q 4) (Z 4), W_State cI (q 5) (Z 5)]) := hD
                refine W.eq (g2 := F0 m 24 ls [.ref ((q 4) 0)]) rfl ?_
                refine lv_astore_n (lv' := [(1, .ref ((q 4) 0)), (0, .ref (a 0))]) hx hb dX4_saveState_24 rfl hl (by decide) rfl (fun ls hl => ?_)
                refine lv_aload_n hx hb dX4_saveState_25 rfl (lv_at hl 0 rfl) ?_
                refine lv_ifnull hx hb dX4_saveState_26 ?_
                refine lv_aload_n hx hb dX4_saveState_29 rfl (lv_at hl 0 rfl) ?_
                refine lv_aload_n hx hb dX4_saveState_30 rfl (lv_at hl 1 rfl) ?_
                refine va_get (D := (dC, dI)) (ci := 4) (v := .ref (a 5)) (C := RX4) (T := TX4) (N := 8) hx hb hts hinX4 hown hK hP 0 rfl rfl 3 (by decide) (hts (Cond.fieldLink RX4 23 "LearnedShapes" "now" "LLearnedShapes$State;") (List.mem_of_getElem? (i := 3) rfl)) (fun _ h9 => h9) rfl dX4_saveState_31 ?_
                obtain ⟨u15, h16, hF⟩ := ob1_some hF
                obtain ⟨hP, hD⟩ := jBlk (bs := [W_LS cI a S, W_Sav cS (a 13) [((q 0) 0), ((q 1) 0), ((q 2) 0), ((q 3) 0), ((q 4) 0), ((q 5) 0)], W_State cI (q 0) (Z 0), W_State cI (q 1) (Z 1), W_State cI (q 2) (Z 2), W_State cI (q 3) (Z 3), W_State cI (q 4) (Z 4), W_State cI (q 5) (Z 5)]) (bs' := [W_LS cI a S, W_State cI (q 4) (Z 4), W_Sav cS (a 13) [((q 0) 0), ((q 1) 0), ((q 2) 0), ((q 3) 0), ((q 4) 0), ((q 5) 0)], W_State cI (q 0) (Z 0), W_State cI (q 1) (Z 1), W_State cI (q 2) (Z 2), W_State cI (q 3) (Z 3), W_State cI (q 5) (Z 5)]) hP hD [0, 6, 1, 2, 3, 4, 5, 7] rfl rfl
                have hPc := hP.sub (ws' := (W_State cI (q 4) (Z 4)) ++ (W_State cI (sh a 5) (g_LS_now S))) [13, 14, 15, 16, 17, 5, 6, 7, 8, 9] rfl
                have hDc := hD.sub (ws' := (W_State cI (q 4) (Z 4)) ++ (W_State cI (sh a 5) (g_LS_now S))) [13, 14, 15, 16, 17, 5, 6, 7, 8, 9] (by decide) rfl
                have hFc := va_free (wc := (W_State cI (q 4) (Z 4)) ++ (W_State cI (sh a 5) (g_LS_now S))) hD hS hA [13, 14, 15, 16, 17, 5, 6, 7, 8, 9] rfl
                refine va_callv (va_runV (As := [.ref (a 5)]) (rest := []) ⟨hx, hb, hml, hown, hts⟩ (c_X2_copyFrom l dC dI cI (q 4) (sh a 5) H.size _ _ _ h16) (cwV 1 hts gX4_saveState_X2_copyFrom rfl rfl rfl (by decide +kernel) ⟨Nat.le_of_ble_eq_true rfl, Nat.le_of_ble_eq_true rfl⟩) (jPreV hKi hPc hDc hN (ci := 2) rfl rfl) rfl rfl hl.1 rfl (lv_room (Nat.le_of_ble_eq_true rfl)) dX4_saveState_34 ⟨Nat.le_of_ble_eq_true rfl, Nat.le_of_ble_eq_true rfl⟩) hS (fun q _ h => hFc q h) hFc (fun u' t H locs ht hvm hw hB hz1 hk1 hS => ?_)
                subst hw
                obtain ⟨hP1, -, hD1⟩ := hB
                rw [ht] at hP1
                obtain ⟨hP, hD⟩ := jJoinF (wa := (W_LS cI a S) ++ (W_State cI (q 4) (Z 4))) (wb := List.flatten [W_Sav cS (a 13) [((q 0) 0), ((q 1) 0), ((q 2) 0), ((q 3) 0), ((q 4) 0), ((q 5) 0)], W_State cI (q 0) (Z 0), W_State cI (q 1) (Z 1), W_State cI (q 2) (Z 2), W_State cI (q 3) (Z 3), W_State cI (q 5) (Z 5)]) (wc := (W_State cI (q 4) (Z 4)) ++ (W_State cI (sh a 5) (g_LS_now S))) (w1 := (W_State cI (q 4) u15) ++ (W_State cI (sh a 5) (g_LS_now S))) (ws' := (W_LS cI a S) ++ (W_State cI (q 4) u15)) hP hD [13, 14, 15, 16, 17, 5, 6, 7, 8, 9] [0, 1, 2, 3, 4, 10, 11, 12] [0, 1, 2, 3, 4, 13, 14, 15, 16, 17, 5, 6, 7, 8, 9, 10, 11, 12] rfl rfl (by decide) (by decide) hk1 hFc hP1 hD1 (by decide) rfl
                obtain ⟨hP, hD⟩ := jBlk (bs := [W_LS cI a S, W_State cI (q 4) u15, W_Sav cS (a 13) [((q 0) 0), ((q 1) 0), ((q 2) 0), ((q 3) 0), ((q 4) 0), ((q 5) 0)], W_State cI (q 0) (Z 0), W_State cI (q 1) (Z 1), W_State cI (q 2) (Z 2), W_State cI (q 3) (Z 3), W_State cI (q 5) (Z 5)]) (bs' := [W_LS cI a S, W_Sav cS (a 13) [((q 0) 0), ((q 1) 0), ((q 2) 0), ((q 3) 0), ((q 4) 0), ((q 5) 0)], W_State cI (q 0) (Z 0), W_State cI (q 1) (Z 1), W_State cI (q 2) (Z 2), W_State cI (q 3) (Z 3), W_State cI (q 4) u15, W_State cI (q 5) (Z 5)]) hP hD [0, 2, 3, 4, 5, 6, 1, 7] rfl rfl
                have hP : va_P (dC, dI) vwCl (List.flatten [W_LS cI a S, W_Sav cS (a 13) [((q 0) 0), ((q 1) 0), ((q 2) 0), ((q 3) 0), ((q 4) 0), ((q 5) 0)], W_State cI (q 0) (Z 0), W_State cI (q 1) (Z 1), W_State cI (q 2) (Z 2), W_State cI (q 3) (Z 3), W_State cI (q 4) u15, W_State cI (q 5) (Z 5)]) H := hP
                have hD : va_D A (List.flatten [W_LS cI a S, W_Sav cS (a 13) [((q 0) 0), ((q 1) 0), ((q 2) 0), ((q 3) 0), ((q 4) 0), ((q 5) 0)], W_State cI (q 0) (Z 0), W_State cI (q 1) (Z 1), W_State cI (q 2) (Z 2), W_State cI (q 3) (Z 3), W_State cI (q 4) u15, W_State cI (q 5) (Z 5)]) := hD
                refine lv_aload_n hx hb dX4_saveState_37 rfl (lv_at hl 1 rfl) ?_
                refine lv_dup hx hb dX4_saveState_38 rfl ?_
                refine va_get (D := (dC, dI)) (ci := 4) (v := .int (g_LS_savedStates S)) (C := RX4) (T := TX4) (N := 8) hx hb hts hinX4 hown hK hP 0 rfl rfl 5 (by decide) (hts (Cond.fieldLink RX4 125 "LearnedShapes" "savedStates" "I") (List.mem_of_getElem? (i := 1) rfl)) (fun _ h9 => h9) rfl dX4_saveState_39 ?_
                refine lv_iconst (v := (1 : Int32)) hx hb dX4_saveState_42 (by decide) ?_
                refine lv_iadd hx hb dX4_saveState_43 ?_
                refine va_put (D := (dC, dI)) (ci := 4) (v := .int ((g_LS_savedStates S) + (1 : Int32))) (ty := .int) (C := RX4) (T := TX4) (N := 8) hx hb hts hinX4 tyX4 tyX4_ok nmX4 hown hK hP hD hS 0 rfl rfl 5 (by decide) (hts (Cond.fieldLink RX4 125 "LearnedShapes" "savedStates" "I") (List.mem_of_getElem? (i := 1) rfl)) (fun _ h9 => h9) rfl (by decide +kernel) (rfl) rfl (Nat.le_of_ble_eq_true rfl) dX4_saveState_44 (fun H locs hP hD hS => ?_)
                have hP : va_P (dC, dI) vwCl (List.flatten [W_LS cI a (s_LS_savedStates S ((g_LS_savedStates S) + (1 : Int32))), W_Sav cS (a 13) [((q 0) 0), ((q 1) 0), ((q 2) 0), ((q 3) 0), ((q 4) 0), ((q 5) 0)], W_State cI (q 0) (Z 0), W_State cI (q 1) (Z 1), W_State cI (q 2) (Z 2), W_State cI (q 3) (Z 3), W_State cI (q 4) u15, W_State cI (q 5) (Z 5)]) H := hP
                have hD : va_D A (List.flatten [W_LS cI a (s_LS_savedStates S ((g_LS_savedStates S) + (1 : Int32))), W_Sav cS (a 13) [((q 0) 0), ((q 1) 0), ((q 2) 0), ((q 3) 0), ((q 4) 0), ((q 5) 0)], W_State cI (q 0) (Z 0), W_State cI (q 1) (Z 1), W_State cI (q 2) (Z 2), W_State cI (q 3) (Z 3), W_State cI (q 4) u15, W_State cI (q 5) (Z 5)]) := hD
                have hP : va_P (dC, dI) vwCl (W_Full cI cS a q (s_LS_savedStates S ((g_LS_savedStates S) + (1 : Int32))) (mk6 (Z 0) (Z 1) (Z 2) (Z 3) u15 (Z 5))) H := hP
                have hD : va_D A (W_Full cI cS a q (s_LS_savedStates S ((g_LS_savedStates S) + (1 : Int32))) (mk6 (Z 0) (Z 1) (Z 2) (Z 3) u15 (Z 5))) := hD
                have e50 := Option.some.inj hF
                obtain ⟨e60, e51⟩ := Prod.mk.inj e50
                subst e60
                subst e51
                exact W.vret hx hb hr (fun t ht hW => ⟨⟨((s_LS_savedStates S ((g_LS_savedStates S) + (1 : Int32))), (mk6 (Z 0) (Z 1) (Z 2) (Z 3) u15 (Z 5))), rfl, rfl, q, by rw [ht]; exact hP, va_K.moved hW.alike hK, hD⟩, hS.F ht⟩) hS.2.2 dX4_saveState_47
              · have hF := F_neg c14 hF
                by_cases c17 : (g_LS_savedStates S) = (5 : Int32)
                · have hF := F_pos c17 hF
                  have hP : va_P (dC, dI) vwCl (W_Full cI cS a q S Z) H := hP
                  have hD : va_D A (W_Full cI cS a q S Z) := hD
                  have hPc := hP
                  have hDc := hD
                  have hFc := jFreeW (ws := (W_Full cI cS a q S Z)) hD hS hA
                  refine va_callq (va_runV (As := [.int (g_LS_savedStates S)]) (rest := []) ⟨hx, hb, hml, hown, hts⟩ (c_X4_savedAt_5 l dC dI cI cS a q H.size _ _ _ c17) (cwV 1 hts gX4_saveState_X4_savedAt rfl rfl rfl (by decide +kernel) ⟨Nat.le_of_ble_eq_true rfl, Nat.le_of_ble_eq_true rfl⟩) (jPreV hK hPc hDc hN (ci := 4) rfl rfl) rfl rfl hl.1 rfl (lv_room (Nat.le_of_ble_eq_true rfl)) dX4_saveState_21 ⟨Nat.le_of_ble_eq_true rfl, Nat.le_of_ble_eq_true rfl⟩) hS (fun q _ h => hFc q h) hFc (fun r9 u9 t H locs ht hvm hw hB hz1 hk1 hS => ?_)
                  subst hw
                  obtain ⟨hP1, -, hD1⟩ := hB
                  rw [ht] at hP1
                  have hP : va_P (dC, dI) vwCl ((W_Full cI cS a q S Z)) H := hP1
                  have hD : va_D A ((W_Full cI cS a q S Z)) := hD1.weaken (fun _ _ _ h => hFc _ h)
                  have hP : va_P (dC, dI) vwCl (List.flatten [W_LS cI a S, W_Sav cS (a 13) [((q 0) 0), ((q 1) 0), ((q 2) 0), ((q 3) 0), ((q 4) 0), ((q 5) 0)], W_State cI (q 0) (Z 0), W_State cI (q 1) (Z 1), W_State cI (q 2) (Z 2), W_State cI (q 3) (Z 3), W_State cI (q 4) (Z 4), W_State cI (q 5) (Z 5)]) H := hP
                  have hD : va_D A (List.flatten [W_LS cI a S, W_Sav cS (a 13) [((q 0) 0), ((q 1) 0), ((q 2) 0), ((q 3) 0), ((q 4) 0), ((q 5) 0)], W_State cI (q 0) (Z 0), W_State cI (q 1) (Z 1), W_State cI (q 2) (Z 2), W_State cI (q 3) (Z 3), W_State cI (q 4) (Z 4), W_State cI (q 5) (Z 5)]) := hD
                  refine W.eq (g2 := F0 m 24 ls [.ref ((q 5) 0)]) rfl ?_
                  refine lv_astore_n (lv' := [(1, .ref ((q 5) 0)), (0, .ref (a 0))]) hx hb dX4_saveState_24 rfl hl (by decide) rfl (fun ls hl => ?_)
                  refine lv_aload_n hx hb dX4_saveState_25 rfl (lv_at hl 0 rfl) ?_
                  refine lv_ifnull hx hb dX4_saveState_26 ?_
                  refine lv_aload_n hx hb dX4_saveState_29 rfl (lv_at hl 0 rfl) ?_
                  refine lv_aload_n hx hb dX4_saveState_30 rfl (lv_at hl 1 rfl) ?_
                  refine va_get (D := (dC, dI)) (ci := 4) (v := .ref (a 5)) (C := RX4) (T := TX4) (N := 8) hx hb hts hinX4 hown hK hP 0 rfl rfl 3 (by decide) (hts (Cond.fieldLink RX4 23 "LearnedShapes" "now" "LLearnedShapes$State;") (List.mem_of_getElem? (i := 3) rfl)) (fun _ h9 => h9) rfl dX4_saveState_31 ?_
                  obtain ⟨u18, h19, hF⟩ := ob1_some hF
                  obtain ⟨hP, hD⟩ := jBlk (bs := [W_LS cI a S, W_Sav cS (a 13) [((q 0) 0), ((q 1) 0), ((q 2) 0), ((q 3) 0), ((q 4) 0), ((q 5) 0)], W_State cI (q 0) (Z 0), W_State cI (q 1) (Z 1), W_State cI (q 2) (Z 2), W_State cI (q 3) (Z 3), W_State cI (q 4) (Z 4), W_State cI (q 5) (Z 5)]) (bs' := [W_LS cI a S, W_State cI (q 5) (Z 5), W_Sav cS (a 13) [((q 0) 0), ((q 1) 0), ((q 2) 0), ((q 3) 0), ((q 4) 0), ((q 5) 0)], W_State cI (q 0) (Z 0), W_State cI (q 1) (Z 1), W_State cI (q 2) (Z 2), W_State cI (q 3) (Z 3), W_State cI (q 4) (Z 4)]) hP hD [0, 7, 1, 2, 3, 4, 5, 6] rfl rfl
                  have hPc := hP.sub (ws' := (W_State cI (q 5) (Z 5)) ++ (W_State cI (sh a 5) (g_LS_now S))) [13, 14, 15, 16, 17, 5, 6, 7, 8, 9] rfl
                  have hDc := hD.sub (ws' := (W_State cI (q 5) (Z 5)) ++ (W_State cI (sh a 5) (g_LS_now S))) [13, 14, 15, 16, 17, 5, 6, 7, 8, 9] (by decide) rfl
                  have hFc := va_free (wc := (W_State cI (q 5) (Z 5)) ++ (W_State cI (sh a 5) (g_LS_now S))) hD hS hA [13, 14, 15, 16, 17, 5, 6, 7, 8, 9] rfl
                  refine va_callv (va_runV (As := [.ref (a 5)]) (rest := []) ⟨hx, hb, hml, hown, hts⟩ (c_X2_copyFrom l dC dI cI (q 5) (sh a 5) H.size _ _ _ h19) (cwV 1 hts gX4_saveState_X2_copyFrom rfl rfl rfl (by decide +kernel) ⟨Nat.le_of_ble_eq_true rfl, Nat.le_of_ble_eq_true rfl⟩) (jPreV hKi hPc hDc hN (ci := 2) rfl rfl) rfl rfl hl.1 rfl (lv_room (Nat.le_of_ble_eq_true rfl)) dX4_saveState_34 ⟨Nat.le_of_ble_eq_true rfl, Nat.le_of_ble_eq_true rfl⟩) hS (fun q _ h => hFc q h) hFc (fun u' t H locs ht hvm hw hB hz1 hk1 hS => ?_)
                  subst hw
                  obtain ⟨hP1, -, hD1⟩ := hB
                  rw [ht] at hP1
                  obtain ⟨hP, hD⟩ := jJoinF (wa := (W_LS cI a S) ++ (W_State cI (q 5) (Z 5))) (wb := List.flatten [W_Sav cS (a 13) [((q 0) 0), ((q 1) 0), ((q 2) 0), ((q 3) 0), ((q 4) 0), ((q 5) 0)], W_State cI (q 0) (Z 0), W_State cI (q 1) (Z 1), W_State cI (q 2) (Z 2), W_State cI (q 3) (Z 3), W_State cI (q 4) (Z 4)]) (wc := (W_State cI (q 5) (Z 5)) ++ (W_State cI (sh a 5) (g_LS_now S))) (w1 := (W_State cI (q 5) u18) ++ (W_State cI (sh a 5) (g_LS_now S))) (ws' := (W_LS cI a S) ++ (W_State cI (q 5) u18)) hP hD [13, 14, 15, 16, 17, 5, 6, 7, 8, 9] [0, 1, 2, 3, 4, 10, 11, 12] [0, 1, 2, 3, 4, 13, 14, 15, 16, 17, 5, 6, 7, 8, 9, 10, 11, 12] rfl rfl (by decide) (by decide) hk1 hFc hP1 hD1 (by decide) rfl
                  obtain ⟨hP, hD⟩ := jBlk (bs := [W_LS cI a S, W_State cI (q 5) u18, W_Sav cS (a 13) [((q 0) 0), ((q 1) 0), ((q 2) 0), ((q 3) 0), ((q 4) 0), ((q 5) 0)], W_State cI (q 0) (Z 0), W_State cI (q 1) (Z 1), W_State cI (q 2) (Z 2), W_State cI (q 3) (Z 3), W_State cI (q 4) (Z 4)]) (bs' := [W_LS cI a S, W_Sav cS (a 13) [((q 0) 0), ((q 1) 0), ((q 2) 0), ((q 3) 0), ((q 4) 0), ((q 5) 0)], W_State cI (q 0) (Z 0), W_State cI (q 1) (Z 1), W_State cI (q 2) (Z 2), W_State cI (q 3) (Z 3), W_State cI (q 4) (Z 4), W_State cI (q 5) u18]) hP hD [0, 2, 3, 4, 5, 6, 7, 1] rfl rfl
                  have hP : va_P (dC, dI) vwCl (List.flatten [W_LS cI a S, W_Sav cS (a 13) [((q 0) 0), ((q 1) 0), ((q 2) 0), ((q 3) 0), ((q 4) 0), ((q 5) 0)], W_State cI (q 0) (Z 0), W_State cI (q 1) (Z 1), W_State cI (q 2) (Z 2), W_State cI (q 3) (Z 3), W_State cI (q 4) (Z 4), W_State cI (q 5) u18]) H := hP
                  have hD : va_D A (List.flatten [W_LS cI a S, W_Sav cS (a 13) [((q 0) 0), ((q 1) 0), ((q 2) 0), ((q 3) 0), ((q 4) 0), ((q 5) 0)], W_State cI (q 0) (Z 0), W_State cI (q 1) (Z 1), W_State cI (q 2) (Z 2), W_State cI (q 3) (Z 3), W_State cI (q 4) (Z 4), W_State cI (q 5) u18]) := hD
                  refine lv_aload_n hx hb dX4_saveState_37 rfl (lv_at hl 1 rfl) ?_
                  refine lv_dup hx hb dX4_saveState_38 rfl ?_
                  refine va_get (D := (dC, dI)) (ci := 4) (v := .int (g_LS_savedStates S)) (C := RX4) (T := TX4) (N := 8) hx hb hts hinX4 hown hK hP 0 rfl rfl 5 (by decide) (hts (Cond.fieldLink RX4 125 "LearnedShapes" "savedStates" "I") (List.mem_of_getElem? (i := 1) rfl)) (fun _ h9 => h9) rfl dX4_saveState_39 ?_
                  refine lv_iconst (v := (1 : Int32)) hx hb dX4_saveState_42 (by decide) ?_
                  refine lv_iadd hx hb dX4_saveState_43 ?_
                  refine va_put (D := (dC, dI)) (ci := 4) (v := .int ((g_LS_savedStates S) + (1 : Int32))) (ty := .int) (C := RX4) (T := TX4) (N := 8) hx hb hts hinX4 tyX4 tyX4_ok nmX4 hown hK hP hD hS 0 rfl rfl 5 (by decide) (hts (Cond.fieldLink RX4 125 "LearnedShapes" "savedStates" "I") (List.mem_of_getElem? (i := 1) rfl)) (fun _ h9 => h9) rfl (by decide +kernel) (rfl) rfl (Nat.le_of_ble_eq_true rfl) dX4_saveState_44 (fun H locs hP hD hS => ?_)
                  have hP : va_P (dC, dI) vwCl (List.flatten [W_LS cI a (s_LS_savedStates S ((g_LS_savedStates S) + (1 : Int32))), W_Sav cS (a 13) [((q 0) 0), ((q 1) 0), ((q 2) 0), ((q 3) 0), ((q 4) 0), ((q 5) 0)], W_State cI (q 0) (Z 0), W_State cI (q 1) (Z 1), W_State cI (q 2) (Z 2), W_State cI (q 3) (Z 3), W_State cI (q 4) (Z 4), W_State cI (q 5) u18]) H := hP
                  have hD : va_D A (List.flatten [W_LS cI a (s_LS_savedStates S ((g_LS_savedStates S) + (1 : Int32))), W_Sav cS (a 13) [((q 0) 0), ((q 1) 0), ((q 2) 0), ((q 3) 0), ((q 4) 0), ((q 5) 0)], W_State cI (q 0) (Z 0), W_State cI (q 1) (Z 1), W_State cI (q 2) (Z 2), W_State cI (q 3) (Z 3), W_State cI (q 4) (Z 4), W_State cI (q 5) u18]) := hD
                  have hP : va_P (dC, dI) vwCl (W_Full cI cS a q (s_LS_savedStates S ((g_LS_savedStates S) + (1 : Int32))) (mk6 (Z 0) (Z 1) (Z 2) (Z 3) (Z 4) u18)) H := hP
                  have hD : va_D A (W_Full cI cS a q (s_LS_savedStates S ((g_LS_savedStates S) + (1 : Int32))) (mk6 (Z 0) (Z 1) (Z 2) (Z 3) (Z 4) u18)) := hD
                  have e50 := Option.some.inj hF
                  obtain ⟨e60, e51⟩ := Prod.mk.inj e50
                  subst e60
                  subst e51
                  exact W.vret hx hb hr (fun t ht hW => ⟨⟨((s_LS_savedStates S ((g_LS_savedStates S) + (1 : Int32))), (mk6 (Z 0) (Z 1) (Z 2) (Z 3) (Z 4) u18)), rfl, rfl, q, by rw [ht]; exact hP, va_K.moved hW.alike hK, hD⟩, hS.F ht⟩) hS.2.2 dX4_saveState_47
                · have hF := F_neg c17 hF
                  obtain ⟨g20, hF⟩ := og_some hF
                  have hP : va_P (dC, dI) vwCl (W_Full cI cS a q S Z) H := hP
                  have hD : va_D A (W_Full cI cS a q S Z) := hD
                  have hPc := hP
                  have hDc := hD
                  have hFc := jFreeW (ws := (W_Full cI cS a q S Z)) hD hS hA
                  refine va_callq (va_runV (As := [.int (g_LS_savedStates S)]) (rest := []) ⟨hx, hb, hml, hown, hts⟩ (c_X4_savedAt_n l dC dI cI cS a q H.size _ _ _ (of_decide_eq_true g20)) (cwV 1 hts gX4_saveState_X4_savedAt rfl rfl rfl (by decide +kernel) ⟨Nat.le_of_ble_eq_true rfl, Nat.le_of_ble_eq_true rfl⟩) (jPreV hK hPc hDc hN (ci := 4) rfl rfl) rfl rfl hl.1 rfl (lv_room (Nat.le_of_ble_eq_true rfl)) dX4_saveState_21 ⟨Nat.le_of_ble_eq_true rfl, Nat.le_of_ble_eq_true rfl⟩) hS (fun q _ h => hFc q h) hFc (fun r9 u9 t H locs ht hvm hw hB hz1 hk1 hS => ?_)
                  subst hw
                  obtain ⟨hP1, -, hD1⟩ := hB
                  rw [ht] at hP1
                  have hP : va_P (dC, dI) vwCl ((W_Full cI cS a q S Z)) H := hP1
                  have hD : va_D A ((W_Full cI cS a q S Z)) := hD1.weaken (fun _ _ _ h => hFc _ h)
                  have hP : va_P (dC, dI) vwCl (List.flatten [W_LS cI a S, W_Sav cS (a 13) [((q 0) 0), ((q 1) 0), ((q 2) 0), ((q 3) 0), ((q 4) 0), ((q 5) 0)], W_State cI (q 0) (Z 0), W_State cI (q 1) (Z 1), W_State cI (q 2) (Z 2), W_State cI (q 3) (Z 3), W_State cI (q 4) (Z 4), W_State cI (q 5) (Z 5)]) H := hP
                  have hD : va_D A (List.flatten [W_LS cI a S, W_Sav cS (a 13) [((q 0) 0), ((q 1) 0), ((q 2) 0), ((q 3) 0), ((q 4) 0), ((q 5) 0)], W_State cI (q 0) (Z 0), W_State cI (q 1) (Z 1), W_State cI (q 2) (Z 2), W_State cI (q 3) (Z 3), W_State cI (q 4) (Z 4), W_State cI (q 5) (Z 5)]) := hD
                  refine W.eq (g2 := F0 m 24 ls [.null]) rfl ?_
                  refine lv_astore_nN (lv' := [(1, .null), (0, .ref (a 0))]) hx hb dX4_saveState_24 rfl hl (by decide) rfl (fun ls hl => ?_)
                  refine lv_aload_nN hx hb dX4_saveState_25 rfl (lv_at hl 0 rfl) ?_
                  refine lv_ifnullN (tgt := 47) hx hb dX4_saveState_26 (by decide) ?_
                  have hP : va_P (dC, dI) vwCl (W_Full cI cS a q S Z) H := hP
                  have hD : va_D A (W_Full cI cS a q S Z) := hD
                  have e50 := Option.some.inj hF
                  obtain ⟨e60, e51⟩ := Prod.mk.inj e50
                  subst e60
                  subst e51
                  exact W.vret hx hb hr (fun t ht hW => ⟨⟨(S, Z), rfl, rfl, q, by rw [ht]; exact hP, va_K.moved hW.alike hK, hD⟩, hS.F ht⟩) hS.2.2 dX4_saveState_47
    · have hF := F_neg c1 hF
      refine lv_aload_n hx hb dX4_saveState_12 rfl (lv_at hl 0 rfl) ?_
      obtain ⟨u21, z22, h23, hF⟩ := ob2_some hF
      have hP : va_P (dC, dI) vwCl (W_Full cI cS a q S Z) H := hP
      have hD : va_D A (W_Full cI cS a q S Z) := hD
      have hPc := hP
      have hDc := hD
      have hFc := jFreeW (ws := (W_Full cI cS a q S Z)) hD hS hA
      refine va_callv (va_runV (As := []) (rest := []) ⟨hx, hb, hml, hown, hts⟩ (c_X4_dropOldest l dC dI cI cS a q H.size _ _ _ _ h23) (cwV 0 hts gX4_saveState_X4_dropOldest rfl rfl rfl (by decide +kernel) ⟨Nat.le_of_ble_eq_true rfl, Nat.le_of_ble_eq_true rfl⟩) (jPreV hK hPc hDc hN (ci := 4) rfl rfl) rfl rfl hl.1 rfl (lv_room (Nat.le_of_ble_eq_true rfl)) dX4_saveState_13 ⟨Nat.le_of_ble_eq_true rfl, Nat.le_of_ble_eq_true rfl⟩) hS (fun q _ h => hFc q h) hFc (fun u9 t H locs ht hvm hw hB hz1 hk1 hS => ?_)
      subst hw
      obtain ⟨q, hP1, -, hD1⟩ := hB
      rw [ht] at hP1
      have hP : va_P (dC, dI) vwCl (W_Full cI cS a q u21 z22) H := hP1
      have hD : va_D A (W_Full cI cS a q u21 z22) := hD1.weaken (fun _ _ _ h => hFc _ h)
      have hP : va_P (dC, dI) vwCl (List.flatten [W_LS cI a u21, W_Sav cS (a 13) [((q 0) 0), ((q 1) 0), ((q 2) 0), ((q 3) 0), ((q 4) 0), ((q 5) 0)], W_State cI (q 0) (z22 0), W_State cI (q 1) (z22 1), W_State cI (q 2) (z22 2), W_State cI (q 3) (z22 3), W_State cI (q 4) (z22 4), W_State cI (q 5) (z22 5)]) H := hP
      have hD : va_D A (List.flatten [W_LS cI a u21, W_Sav cS (a 13) [((q 0) 0), ((q 1) 0), ((q 2) 0), ((q 3) 0), ((q 4) 0), ((q 5) 0)], W_State cI (q 0) (z22 0), W_State cI (q 1) (z22 1), W_State cI (q 2) (z22 2), W_State cI (q 3) (z22 3), W_State cI (q 4) (z22 4), W_State cI (q 5) (z22 5)]) := hD
      refine lv_aload_n hx hb dX4_saveState_16 rfl (lv_at hl 0 rfl) ?_
      refine lv_aload_n hx hb dX4_saveState_17 rfl (lv_at hl 0 rfl) ?_
      refine va_get (D := (dC, dI)) (ci := 4) (v := .int (g_LS_savedStates u21)) (C := RX4) (T := TX4) (N := 8) hx hb hts hinX4 hown hK hP 0 rfl rfl 5 (by decide) (hts (Cond.fieldLink RX4 125 "LearnedShapes" "savedStates" "I") (List.mem_of_getElem? (i := 1) rfl)) (fun _ h9 => h9) rfl dX4_saveState_18 ?_
      by_cases c24 : (g_LS_savedStates u21) = (0 : Int32)
      · have hF := F_pos c24 hF
        have hP : va_P (dC, dI) vwCl (W_Full cI cS a q u21 z22) H := hP
        have hD : va_D A (W_Full cI cS a q u21 z22) := hD
        have hPc := hP
        have hDc := hD
        have hFc := jFreeW (ws := (W_Full cI cS a q u21 z22)) hD hS hA
        refine va_callq (va_runV (As := [.int (g_LS_savedStates u21)]) (rest := []) ⟨hx, hb, hml, hown, hts⟩ (c_X4_savedAt_0 l dC dI cI cS a q H.size _ _ _ c24) (cwV 1 hts gX4_saveState_X4_savedAt rfl rfl rfl (by decide +kernel) ⟨Nat.le_of_ble_eq_true rfl, Nat.le_of_ble_eq_true rfl⟩) (jPreV hK hPc hDc hN (ci := 4) rfl rfl) rfl rfl hl.1 rfl (lv_room (Nat.le_of_ble_eq_true rfl)) dX4_saveState_21 ⟨Nat.le_of_ble_eq_true rfl, Nat.le_of_ble_eq_true rfl⟩) hS (fun q _ h => hFc q h) hFc (fun r9 u9 t H locs ht hvm hw hB hz1 hk1 hS => ?_)
        subst hw
        obtain ⟨hP1, -, hD1⟩ := hB
        rw [ht] at hP1
        have hP : va_P (dC, dI) vwCl ((W_Full cI cS a q u21 z22)) H := hP1
        have hD : va_D A ((W_Full cI cS a q u21 z22)) := hD1.weaken (fun _ _ _ h => hFc _ h)
        have hP : va_P (dC, dI) vwCl (List.flatten [W_LS cI a u21, W_Sav cS (a 13) [((q 0) 0), ((q 1) 0), ((q 2) 0), ((q 3) 0), ((q 4) 0), ((q 5) 0)], W_State cI (q 0) (z22 0), W_State cI (q 1) (z22 1), W_State cI (q 2) (z22 2), W_State cI (q 3) (z22 3), W_State cI (q 4) (z22 4), W_State cI (q 5) (z22 5)]) H := hP
        have hD : va_D A (List.flatten [W_LS cI a u21, W_Sav cS (a 13) [((q 0) 0), ((q 1) 0), ((q 2) 0), ((q 3) 0), ((q 4) 0), ((q 5) 0)], W_State cI (q 0) (z22 0), W_State cI (q 1) (z22 1), W_State cI (q 2) (z22 2), W_State cI (q 3) (z22 3), W_State cI (q 4) (z22 4), W_State cI (q 5) (z22 5)]) := hD
        refine W.eq (g2 := F0 m 24 ls [.ref ((q 0) 0)]) rfl ?_
        refine lv_astore_n (lv' := [(1, .ref ((q 0) 0)), (0, .ref (a 0))]) hx hb dX4_saveState_24 rfl hl (by decide) rfl (fun ls hl => ?_)
        refine lv_aload_n hx hb dX4_saveState_25 rfl (lv_at hl 0 rfl) ?_
        refine lv_ifnull hx hb dX4_saveState_26 ?_
        refine lv_aload_n hx hb dX4_saveState_29 rfl (lv_at hl 0 rfl) ?_
        refine lv_aload_n hx hb dX4_saveState_30 rfl (lv_at hl 1 rfl) ?_
        refine va_get (D := (dC, dI)) (ci := 4) (v := .ref (a 5)) (C := RX4) (T := TX4) (N := 8) hx hb hts hinX4 hown hK hP 0 rfl rfl 3 (by decide) (hts (Cond.fieldLink RX4 23 "LearnedShapes" "now" "LLearnedShapes$State;") (List.mem_of_getElem? (i := 3) rfl)) (fun _ h9 => h9) rfl dX4_saveState_31 ?_
        obtain ⟨u25, h26, hF⟩ := ob1_some hF
        obtain ⟨hP, hD⟩ := jBlk (bs := [W_LS cI a u21, W_Sav cS (a 13) [((q 0) 0), ((q 1) 0), ((q 2) 0), ((q 3) 0), ((q 4) 0), ((q 5) 0)], W_State cI (q 0) (z22 0), W_State cI (q 1) (z22 1), W_State cI (q 2) (z22 2), W_State cI (q 3) (z22 3), W_State cI (q 4) (z22 4), W_State cI (q 5) (z22 5)]) (bs' := [W_LS cI a u21, W_State cI (q 0) (z22 0), W_Sav cS (a 13) [((q 0) 0), ((q 1) 0), ((q 2) 0), ((q 3) 0), ((q 4) 0), ((q 5) 0)], W_State cI (q 1) (z22 1), W_State cI (q 2) (z22 2), W_State cI (q 3) (z22 3), W_State cI (q 4) (z22 4), W_State cI (q 5) (z22 5)]) hP hD [0, 2, 1, 3, 4, 5, 6, 7] rfl rfl
        have hPc := hP.sub (ws' := (W_State cI (q 0) (z22 0)) ++ (W_State cI (sh a 5) (g_LS_now u21))) [13, 14, 15, 16, 17, 5, 6, 7, 8, 9] rfl
        have hDc := hD.sub (ws' := (W_State cI (q 0) (z22 0)) ++ (W_State cI (sh a 5) (g_LS_now u21))) [13, 14, 15, 16, 17, 5, 6, 7, 8, 9] (by decide) rfl
        have hFc := va_free (wc := (W_State cI (q 0) (z22 0)) ++ (W_State cI (sh a 5) (g_LS_now u21))) hD hS hA [13, 14, 15, 16, 17, 5, 6, 7, 8, 9] rfl
        refine va_callv (va_runV (As := [.ref (a 5)]) (rest := []) ⟨hx, hb, hml, hown, hts⟩ (c_X2_copyFrom l dC dI cI (q 0) (sh a 5) H.size _ _ _ h26) (cwV 1 hts gX4_saveState_X2_copyFrom rfl rfl rfl (by decide +kernel) ⟨Nat.le_of_ble_eq_true rfl, Nat.le_of_ble_eq_true rfl⟩) (jPreV hKi hPc hDc hN (ci := 2) rfl rfl) rfl rfl hl.1 rfl (lv_room (Nat.le_of_ble_eq_true rfl)) dX4_saveState_34 ⟨Nat.le_of_ble_eq_true rfl, Nat.le_of_ble_eq_true rfl⟩) hS (fun q _ h => hFc q h) hFc (fun u' t H locs ht hvm hw hB hz1 hk1 hS => ?_)
        subst hw
        obtain ⟨hP1, -, hD1⟩ := hB
        rw [ht] at hP1
        obtain ⟨hP, hD⟩ := jJoinF (wa := (W_LS cI a u21) ++ (W_State cI (q 0) (z22 0))) (wb := List.flatten [W_Sav cS (a 13) [((q 0) 0), ((q 1) 0), ((q 2) 0), ((q 3) 0), ((q 4) 0), ((q 5) 0)], W_State cI (q 1) (z22 1), W_State cI (q 2) (z22 2), W_State cI (q 3) (z22 3), W_State cI (q 4) (z22 4), W_State cI (q 5) (z22 5)]) (wc := (W_State cI (q 0) (z22 0)) ++ (W_State cI (sh a 5) (g_LS_now u21))) (w1 := (W_State cI (q 0) u25) ++ (W_State cI (sh a 5) (g_LS_now u21))) (ws' := (W_LS cI a u21) ++ (W_State cI (q 0) u25)) hP hD [13, 14, 15, 16, 17, 5, 6, 7, 8, 9] [0, 1, 2, 3, 4, 10, 11, 12] [0, 1, 2, 3, 4, 13, 14, 15, 16, 17, 5, 6, 7, 8, 9, 10, 11, 12] rfl rfl (by decide) (by decide) hk1 hFc hP1 hD1 (by decide) rfl
        obtain ⟨hP, hD⟩ := jBlk (bs := [W_LS cI a u21, W_State cI (q 0) u25, W_Sav cS (a 13) [((q 0) 0), ((q 1) 0), ((q 2) 0), ((q 3) 0), ((q 4) 0), ((q 5) 0)], W_State cI (q 1) (z22 1), W_State cI (q 2) (z22 2), W_State cI (q 3) (z22 3), W_State cI (q 4) (z22 4), W_State cI (q 5) (z22 5)]) (bs' := [W_LS cI a u21, W_Sav cS (a 13) [((q 0) 0), ((q 1) 0), ((q 2) 0), ((q 3) 0), ((q 4) 0), ((q 5) 0)], W_State cI (q 0) u25, W_State cI (q 1) (z22 1), W_State cI (q 2) (z22 2), W_State cI (q 3) (z22 3), W_State cI (q 4) (z22 4), W_State cI (q 5) (z22 5)]) hP hD [0, 2, 1, 3, 4, 5, 6, 7] rfl rfl
        have hP : va_P (dC, dI) vwCl (List.flatten [W_LS cI a u21, W_Sav cS (a 13) [((q 0) 0), ((q 1) 0), ((q 2) 0), ((q 3) 0), ((q 4) 0), ((q 5) 0)], W_State cI (q 0) u25, W_State cI (q 1) (z22 1), W_State cI (q 2) (z22 2), W_State cI (q 3) (z22 3), W_State cI (q 4) (z22 4), W_State cI (q 5) (z22 5)]) H := hP
        have hD : va_D A (List.flatten [W_LS cI a u21, W_Sav cS (a 13) [((q 0) 0), ((q 1) 0), ((q 2) 0), ((q 3) 0), ((q 4) 0), ((q 5) 0)], W_State cI (q 0) u25, W_State cI (q 1) (z22 1), W_State cI (q 2) (z22 2), W_State cI (q 3) (z22 3), W_State cI (q 4) (z22 4), W_State cI (q 5) (z22 5)]) := hD
        refine lv_aload_n hx hb dX4_saveState_37 rfl (lv_at hl 1 rfl) ?_
        refine lv_dup hx hb dX4_saveState_38 rfl ?_
        refine va_get (D := (dC, dI)) (ci := 4) (v := .int (g_LS_savedStates u21)) (C := RX4) (T := TX4) (N := 8) hx hb hts hinX4 hown hK hP 0 rfl rfl 5 (by decide) (hts (Cond.fieldLink RX4 125 "LearnedShapes" "savedStates" "I") (List.mem_of_getElem? (i := 1) rfl)) (fun _ h9 => h9) rfl dX4_saveState_39 ?_
        refine lv_iconst (v := (1 : Int32)) hx hb dX4_saveState_42 (by decide) ?_
        refine lv_iadd hx hb dX4_saveState_43 ?_
        refine va_put (D := (dC, dI)) (ci := 4) (v := .int ((g_LS_savedStates u21) + (1 : Int32))) (ty := .int) (C := RX4) (T := TX4) (N := 8) hx hb hts hinX4 tyX4 tyX4_ok nmX4 hown hK hP hD hS 0 rfl rfl 5 (by decide) (hts (Cond.fieldLink RX4 125 "LearnedShapes" "savedStates" "I") (List.mem_of_getElem? (i := 1) rfl)) (fun _ h9 => h9) rfl (by decide +kernel) (rfl) rfl (Nat.le_of_ble_eq_true rfl) dX4_saveState_44 (fun H locs hP hD hS => ?_)
        have hP : va_P (dC, dI) vwCl (List.flatten [W_LS cI a (s_LS_savedStates u21 ((g_LS_savedStates u21) + (1 : Int32))), W_Sav cS (a 13) [((q 0) 0), ((q 1) 0), ((q 2) 0), ((q 3) 0), ((q 4) 0), ((q 5) 0)], W_State cI (q 0) u25, W_State cI (q 1) (z22 1), W_State cI (q 2) (z22 2), W_State cI (q 3) (z22 3), W_State cI (q 4) (z22 4), W_State cI (q 5) (z22 5)]) H := hP
        have hD : va_D A (List.flatten [W_LS cI a (s_LS_savedStates u21 ((g_LS_savedStates u21) + (1 : Int32))), W_Sav cS (a 13) [((q 0) 0), ((q 1) 0), ((q 2) 0), ((q 3) 0), ((q 4) 0), ((q 5) 0)], W_State cI (q 0) u25, W_State cI (q 1) (z22 1), W_State cI (q 2) (z22 2), W_State cI (q 3) (z22 3), W_State cI (q 4) (z22 4), W_State cI (q 5) (z22 5)]) := hD
        have hP : va_P (dC, dI) vwCl (W_Full cI cS a q (s_LS_savedStates u21 ((g_LS_savedStates u21) + (1 : Int32))) (mk6 u25 (z22 1) (z22 2) (z22 3) (z22 4) (z22 5))) H := hP
        have hD : va_D A (W_Full cI cS a q (s_LS_savedStates u21 ((g_LS_savedStates u21) + (1 : Int32))) (mk6 u25 (z22 1) (z22 2) (z22 3) (z22 4) (z22 5))) := hD
        have e50 := Option.some.inj hF
        obtain ⟨e60, e51⟩ := Prod.mk.inj e50
        subst e60
        subst e51
        exact W.vret hx hb hr (fun t ht hW => ⟨⟨((s_LS_savedStates u21 ((g_LS_savedStates u21) + (1 : Int32))), (mk6 u25 (z22 1) (z22 2) (z22 3) (z22 4) (z22 5))), rfl, rfl, q, by rw [ht]; exact hP, va_K.moved hW.alike hK, hD⟩, hS.F ht⟩) hS.2.2 dX4_saveState_47
      · have hF := F_neg c24 hF
        by_cases c27 : (g_LS_savedStates u21) = (1 : Int32)
        · have hF := F_pos c27 hF
          have hP : va_P (dC, dI) vwCl (W_Full cI cS a q u21 z22) H := hP
          have hD : va_D A (W_Full cI cS a q u21 z22) := hD
          have hPc := hP
          have hDc := hD
          have hFc := jFreeW (ws := (W_Full cI cS a q u21 z22)) hD hS hA
          refine va_callq (va_runV (As := [.int (g_LS_savedStates u21)]) (rest := []) ⟨hx, hb, hml, hown, hts⟩ (c_X4_savedAt_1 l dC dI cI cS a q H.size _ _ _ c27) (cwV 1 hts gX4_saveState_X4_savedAt rfl rfl rfl (by decide +kernel) ⟨Nat.le_of_ble_eq_true rfl, Nat.le_of_ble_eq_true rfl⟩) (jPreV hK hPc hDc hN (ci := 4) rfl rfl) rfl rfl hl.1 rfl (lv_room (Nat.le_of_ble_eq_true rfl)) dX4_saveState_21 ⟨Nat.le_of_ble_eq_true rfl, Nat.le_of_ble_eq_true rfl⟩) hS (fun q _ h => hFc q h) hFc (fun r9 u9 t H locs ht hvm hw hB hz1 hk1 hS => ?_)
          subst hw
          obtain ⟨hP1, -, hD1⟩ := hB
          rw [ht] at hP1
          have hP : va_P (dC, dI) vwCl ((W_Full cI cS a q u21 z22)) H := hP1
          have hD : va_D A ((W_Full cI cS a q u21 z22)) := hD1.weaken (fun _ _ _ h => hFc _ h)
          have hP : va_P (dC, dI) vwCl (List.flatten [W_LS cI a u21, W_Sav cS (a 13) [((q 0) 0), ((q 1) 0), ((q 2) 0), ((q 3) 0), ((q 4) 0), ((q 5) 0)], W_State cI (q 0) (z22 0), W_State cI (q 1) (z22 1), W_State cI (q 2) (z22 2), W_State cI (q 3) (z22 3), W_State cI (q 4) (z22 4), W_State cI (q 5) (z22 5)]) H := hP
          have hD : va_D A (List.flatten [W_LS cI a u21, W_Sav cS (a 13) [((q 0) 0), ((q 1) 0), ((q 2) 0), ((q 3) 0), ((q 4) 0), ((q 5) 0)], W_State cI (q 0) (z22 0), W_State cI (q 1) (z22 1), W_State cI (q 2) (z22 2), W_State cI (q 3) (z22 3), W_State cI (q 4) (z22 4), W_State cI (q 5) (z22 5)]) := hD
          refine W.eq (g2 := F0 m 24 ls [.ref ((q 1) 0)]) rfl ?_
          refine lv_astore_n (lv' := [(1, .ref ((q 1) 0)), (0, .ref (a 0))]) hx hb dX4_saveState_24 rfl hl (by decide) rfl (fun ls hl => ?_)
          refine lv_aload_n hx hb dX4_saveState_25 rfl (lv_at hl 0 rfl) ?_
          refine lv_ifnull hx hb dX4_saveState_26 ?_
          refine lv_aload_n hx hb dX4_saveState_29 rfl (lv_at hl 0 rfl) ?_
          refine lv_aload_n hx hb dX4_saveState_30 rfl (lv_at hl 1 rfl) ?_
          refine va_get (D := (dC, dI)) (ci := 4) (v := .ref (a 5)) (C := RX4) (T := TX4) (N := 8) hx hb hts hinX4 hown hK hP 0 rfl rfl 3 (by decide) (hts (Cond.fieldLink RX4 23 "LearnedShapes" "now" "LLearnedShapes$State;") (List.mem_of_getElem? (i := 3) rfl)) (fun _ h9 => h9) rfl dX4_saveState_31 ?_
          obtain ⟨u28, h29, hF⟩ := ob1_some hF
          obtain ⟨hP, hD⟩ := jBlk (bs := [W_LS cI a u21, W_Sav cS (a 13) [((q 0) 0), ((q 1) 0), ((q 2) 0), ((q 3) 0), ((q 4) 0), ((q 5) 0)], W_State cI (q 0) (z22 0), W_State cI (q 1) (z22 1), W_State cI (q 2) (z22 2), W_State cI (q 3) (z22 3), W_State cI (q 4) (z22 4), W_State cI (q 5) (z22 5)]) (bs' := [W_LS cI a u21, W_State cI (q 1) (z22 1), W_Sav cS (a 13) [((q 0) 0), ((q 1) 0), ((q 2) 0), ((q 3) 0), ((q 4) 0), ((q 5) 0)], W_State cI (q 0) (z22 0), W_State cI (q 2) (z22 2), W_State cI (q 3) (z22 3), W_State cI (q 4) (z22 4), W_State cI (q 5) (z22 5)]) hP hD [0, 3, 1, 2, 4, 5, 6, 7] rfl rfl
          have hPc := hP.sub (ws' := (W_State cI (q 1) (z22 1)) ++ (W_State cI (sh a 5) (g_LS_now u21))) [13, 14, 15, 16, 17, 5, 6, 7, 8, 9] rfl
          have hDc := hD.sub (ws' := (W_State cI (q 1) (z22 1)) ++ (W_State cI (sh a 5) (g_LS_now u21))) [13, 14, 15, 16, 17, 5, 6, 7, 8, 9] (by decide) rfl
          have hFc := va_free (wc := (W_State cI (q 1) (z22 1)) ++ (W_State cI (sh a 5) (g_LS_now u21))) hD hS hA [13, 14, 15, 16, 17, 5, 6, 7, 8, 9] rfl
          refine va_callv (va_runV (As := [.ref (a 5)]) (rest := []) ⟨hx, hb, hml, hown, hts⟩ (c_X2_copyFrom l dC dI cI (q 1) (sh a 5) H.size _ _ _ h29) (cwV 1 hts gX4_saveState_X2_copyFrom rfl rfl rfl (by decide +kernel) ⟨Nat.le_of_ble_eq_true rfl, Nat.le_of_ble_eq_true rfl⟩) (jPreV hKi hPc hDc hN (ci := 2) rfl rfl) rfl rfl hl.1 rfl (lv_room (Nat.le_of_ble_eq_true rfl)) dX4_saveState_34 ⟨Nat.le_of_ble_eq_true rfl, Nat.le_of_ble_eq_true rfl⟩) hS (fun q _ h => hFc q h) hFc (fun u' t H locs ht hvm hw hB hz1 hk1 hS => ?_)
          subst hw
          obtain ⟨hP1, -, hD1⟩ := hB
          rw [ht] at hP1
          obtain ⟨hP, hD⟩ := jJoinF (wa := (W_LS cI a u21) ++ (W_State cI (q 1) (z22 1))) (wb := List.flatten [W_Sav cS (a 13) [((q 0) 0), ((q 1) 0), ((q 2) 0), ((q 3) 0), ((q 4) 0), ((q 5) 0)], W_State cI (q 0) (z22 0), W_State cI (q 2) (z22 2), W_State cI (q 3) (z22 3), W_State cI (q 4) (z22 4), W_State cI (q 5) (z22 5)]) (wc := (W_State cI (q 1) (z22 1)) ++ (W_State cI (sh a 5) (g_LS_now u21))) (w1 := (W_State cI (q 1) u28) ++ (W_State cI (sh a 5) (g_LS_now u21))) (ws' := (W_LS cI a u21) ++ (W_State cI (q 1) u28)) hP hD [13, 14, 15, 16, 17, 5, 6, 7, 8, 9] [0, 1, 2, 3, 4, 10, 11, 12] [0, 1, 2, 3, 4, 13, 14, 15, 16, 17, 5, 6, 7, 8, 9, 10, 11, 12] rfl rfl (by decide) (by decide) hk1 hFc hP1 hD1 (by decide) rfl
          obtain ⟨hP, hD⟩ := jBlk (bs := [W_LS cI a u21, W_State cI (q 1) u28, W_Sav cS (a 13) [((q 0) 0), ((q 1) 0), ((q 2) 0), ((q 3) 0), ((q 4) 0), ((q 5) 0)], W_State cI (q 0) (z22 0), W_State cI (q 2) (z22 2), W_State cI (q 3) (z22 3), W_State cI (q 4) (z22 4), W_State cI (q 5) (z22 5)]) (bs' := [W_LS cI a u21, W_Sav cS (a 13) [((q 0) 0), ((q 1) 0), ((q 2) 0), ((q 3) 0), ((q 4) 0), ((q 5) 0)], W_State cI (q 0) (z22 0), W_State cI (q 1) u28, W_State cI (q 2) (z22 2), W_State cI (q 3) (z22 3), W_State cI (q 4) (z22 4), W_State cI (q 5) (z22 5)]) hP hD [0, 2, 3, 1, 4, 5, 6, 7] rfl rfl
          have hP : va_P (dC, dI) vwCl (List.flatten [W_LS cI a u21, W_Sav cS (a 13) [((q 0) 0), ((q 1) 0), ((q 2) 0), ((q 3) 0), ((q 4) 0), ((q 5) 0)], W_State cI (q 0) (z22 0), W_State cI (q 1) u28, W_State cI (q 2) (z22 2), W_State cI (q 3) (z22 3), W_State cI (q 4) (z22 4), W_State cI (q 5) (z22 5)]) H := hP
          have hD : va_D A (List.flatten [W_LS cI a u21, W_Sav cS (a 13) [((q 0) 0), ((q 1) 0), ((q 2) 0), ((q 3) 0), ((q 4) 0), ((q 5) 0)], W_State cI (q 0) (z22 0), W_State cI (q 1) u28, W_State cI (q 2) (z22 2), W_State cI (q 3) (z22 3), W_State cI (q 4) (z22 4), W_State cI (q 5) (z22 5)]) := hD
          refine lv_aload_n hx hb dX4_saveState_37 rfl (lv_at hl 1 rfl) ?_
          refine lv_dup hx hb dX4_saveState_38 rfl ?_
          refine va_get (D := (dC, dI)) (ci := 4) (v := .int (g_LS_savedStates u21)) (C := RX4) (T := TX4) (N := 8) hx hb hts hinX4 hown hK hP 0 rfl rfl 5 (by decide) (hts (Cond.fieldLink RX4 125 "LearnedShapes" "savedStates" "I") (List.mem_of_getElem? (i := 1) rfl)) (fun _ h9 => h9) rfl dX4_saveState_39 ?_
          refine lv_iconst (v := (1 : Int32)) hx hb dX4_saveState_42 (by decide) ?_
          refine lv_iadd hx hb dX4_saveState_43 ?_
          refine va_put (D := (dC, dI)) (ci := 4) (v := .int ((g_LS_savedStates u21) + (1 : Int32))) (ty := .int) (C := RX4) (T := TX4) (N := 8) hx hb hts hinX4 tyX4 tyX4_ok nmX4 hown hK hP hD hS 0 rfl rfl 5 (by decide) (hts (Cond.fieldLink RX4 125 "LearnedShapes" "savedStates" "I") (List.mem_of_getElem? (i := 1) rfl)) (fun _ h9 => h9) rfl (by decide +kernel) (rfl) rfl (Nat.le_of_ble_eq_true rfl) dX4_saveState_44 (fun H locs hP hD hS => ?_)
          have hP : va_P (dC, dI) vwCl (List.flatten [W_LS cI a (s_LS_savedStates u21 ((g_LS_savedStates u21) + (1 : Int32))), W_Sav cS (a 13) [((q 0) 0), ((q 1) 0), ((q 2) 0), ((q 3) 0), ((q 4) 0), ((q 5) 0)], W_State cI (q 0) (z22 0), W_State cI (q 1) u28, W_State cI (q 2) (z22 2), W_State cI (q 3) (z22 3), W_State cI (q 4) (z22 4), W_State cI (q 5) (z22 5)]) H := hP
          have hD : va_D A (List.flatten [W_LS cI a (s_LS_savedStates u21 ((g_LS_savedStates u21) + (1 : Int32))), W_Sav cS (a 13) [((q 0) 0), ((q 1) 0), ((q 2) 0), ((q 3) 0), ((q 4) 0), ((q 5) 0)], W_State cI (q 0) (z22 0), W_State cI (q 1) u28, W_State cI (q 2) (z22 2), W_State cI (q 3) (z22 3), W_State cI (q 4) (z22 4), W_State cI (q 5) (z22 5)]) := hD
          have hP : va_P (dC, dI) vwCl (W_Full cI cS a q (s_LS_savedStates u21 ((g_LS_savedStates u21) + (1 : Int32))) (mk6 (z22 0) u28 (z22 2) (z22 3) (z22 4) (z22 5))) H := hP
          have hD : va_D A (W_Full cI cS a q (s_LS_savedStates u21 ((g_LS_savedStates u21) + (1 : Int32))) (mk6 (z22 0) u28 (z22 2) (z22 3) (z22 4) (z22 5))) := hD
          have e50 := Option.some.inj hF
          obtain ⟨e60, e51⟩ := Prod.mk.inj e50
          subst e60
          subst e51
          exact W.vret hx hb hr (fun t ht hW => ⟨⟨((s_LS_savedStates u21 ((g_LS_savedStates u21) + (1 : Int32))), (mk6 (z22 0) u28 (z22 2) (z22 3) (z22 4) (z22 5))), rfl, rfl, q, by rw [ht]; exact hP, va_K.moved hW.alike hK, hD⟩, hS.F ht⟩) hS.2.2 dX4_saveState_47
        · have hF := F_neg c27 hF
          by_cases c30 : (g_LS_savedStates u21) = (2 : Int32)
          · have hF := F_pos c30 hF
            have hP : va_P (dC, dI) vwCl (W_Full cI cS a q u21 z22) H := hP
            have hD : va_D A (W_Full cI cS a q u21 z22) := hD
            have hPc := hP
            have hDc := hD
            have hFc := jFreeW (ws := (W_Full cI cS a q u21 z22)) hD hS hA
            refine va_callq (va_runV (As := [.int (g_LS_savedStates u21)]) (rest := []) ⟨hx, hb, hml, hown, hts⟩ (c_X4_savedAt_2 l dC dI cI cS a q H.size _ _ _ c30) (cwV 1 hts gX4_saveState_X4_savedAt rfl rfl rfl (by decide +kernel) ⟨Nat.le_of_ble_eq_true rfl, Nat.le_of_ble_eq_true rfl⟩) (jPreV hK hPc hDc hN (ci := 4) rfl rfl) rfl rfl hl.1 rfl (lv_room (Nat.le_of_ble_eq_true rfl)) dX4_saveState_21 ⟨Nat.le_of_ble_eq_true rfl, Nat.le_of_ble_eq_true rfl⟩) hS (fun q _ h => hFc q h) hFc (fun r9 u9 t H locs ht hvm hw hB hz1 hk1 hS => ?_)
            subst hw
            obtain ⟨hP1, -, hD1⟩ := hB
            rw [ht] at hP1
            have hP : va_P (dC, dI) vwCl ((W_Full cI cS a q u21 z22)) H := hP1
            have hD : va_D A ((W_Full cI cS a q u21 z22)) := hD1.weaken (fun _ _ _ h => hFc _ h)
            have hP : va_P (dC, dI) vwCl (List.flatten [W_LS cI a u21, W_Sav cS (a 13) [((q 0) 0), ((q 1) 0), ((q 2) 0), ((q 3) 0), ((q 4) 0), ((q 5) 0)], W_State cI (q 0) (z22 0), W_State cI (q 1) (z22 1), W_State cI (q 2) (z22 2), W_State cI (q 3) (z22 3), W_State cI (q 4) (z22 4), W_State cI (q 5) (z22 5)]) H := hP
            have hD : va_D A (List.flatten [W_LS cI a u21, W_Sav cS (a 13) [((q 0) 0), ((q 1) 0), ((q 2) 0), ((q 3) 0), ((q 4) 0), ((q 5) 0)], W_State cI (q 0) (z22 0), W_State cI (q 1) (z22 1), W_State cI (q 2) (z22 2), W_State cI (q 3) (z22 3), W_State cI (q 4) (z22 4), W_State cI (q 5) (z22 5)]) := hD
            refine W.eq (g2 := F0 m 24 ls [.ref ((q 2) 0)]) rfl ?_
            refine lv_astore_n (lv' := [(1, .ref ((q 2) 0)), (0, .ref (a 0))]) hx hb dX4_saveState_24 rfl hl (by decide) rfl (fun ls hl => ?_)
            refine lv_aload_n hx hb dX4_saveState_25 rfl (lv_at hl 0 rfl) ?_
            refine lv_ifnull hx hb dX4_saveState_26 ?_
            refine lv_aload_n hx hb dX4_saveState_29 rfl (lv_at hl 0 rfl) ?_
            refine lv_aload_n hx hb dX4_saveState_30 rfl (lv_at hl 1 rfl) ?_
            refine va_get (D := (dC, dI)) (ci := 4) (v := .ref (a 5)) (C := RX4) (T := TX4) (N := 8) hx hb hts hinX4 hown hK hP 0 rfl rfl 3 (by decide) (hts (Cond.fieldLink RX4 23 "LearnedShapes" "now" "LLearnedShapes$State;") (List.mem_of_getElem? (i := 3) rfl)) (fun _ h9 => h9) rfl dX4_saveState_31 ?_
            obtain ⟨u31, h32, hF⟩ := ob1_some hF
            obtain ⟨hP, hD⟩ := jBlk (bs := [W_LS cI a u21, W_Sav cS (a 13) [((q 0) 0), ((q 1) 0), ((q 2) 0), ((q 3) 0), ((q 4) 0), ((q 5) 0)], W_State cI (q 0) (z22 0), W_State cI (q 1) (z22 1), W_State cI (q 2) (z22 2), W_State cI (q 3) (z22 3), W_State cI (q 4) (z22 4), W_State cI (q 5) (z22 5)]) (bs' := [W_LS cI a u21, W_State cI (q 2) (z22 2), W_Sav cS (a 13) [((q 0) 0), ((q 1) 0), ((q 2) 0), ((q 3) 0), ((q 4) 0), ((q 5) 0)], W_State cI (q 0) (z22 0), W_State cI (q 1) (z22 1), W_State cI (q 3) (z22 3), W_State cI (q 4) (z22 4), W_State cI (q 5) (z22 5)]) hP hD [0, 4, 1, 2, 3, 5, 6, 7] rfl rfl
            have hPc := hP.sub (ws' := (W_State cI (q 2) (z22 2)) ++ (W_State cI (sh a 5) (g_LS_now u21))) [13, 14, 15, 16, 17, 5, 6, 7, 8, 9] rfl
            have hDc := hD.sub (ws' := (W_State cI (q 2) (z22 2)) ++ (W_State cI (sh a 5) (g_LS_now u21))) [13, 14, 15, 16, 17, 5, 6, 7, 8, 9] (by decide) rfl
            have hFc := va_free (wc := (W_State cI (q 2) (z22 2)) ++ (W_State cI (sh a 5) (g_LS_now u21))) hD hS hA [13, 14, 15, 16, 17, 5, 6, 7, 8, 9] rfl
            refine va_callv (va_runV (As := [.ref (a 5)]) (rest := []) ⟨hx, hb, hml, hown, hts⟩ (c_X2_copyFrom l dC dI cI (q 2) (sh a 5) H.size _ _ _ h32) (cwV 1 hts gX4_saveState_X2_copyFrom rfl rfl rfl (by decide +kernel) ⟨Nat.le_of_ble_eq_true rfl, Nat.le_of_ble_eq_true rfl⟩) (jPreV hKi hPc hDc hN (ci := 2) rfl rfl) rfl rfl hl.1 rfl (lv_room (Nat.le_of_ble_eq_true rfl)) dX4_saveState_34 ⟨Nat.le_of_ble_eq_true rfl, Nat.le_of_ble_eq_true rfl⟩) hS (fun q _ h => hFc q h) hFc (fun u' t H locs ht hvm hw hB hz1 hk1 hS => ?_)
            subst hw
            obtain ⟨hP1, -, hD1⟩ := hB
            rw [ht] at hP1
            obtain ⟨hP, hD⟩ := jJoinF (wa := (W_LS cI a u21) ++ (W_State cI (q 2) (z22 2))) (wb := List.flatten [W_Sav cS (a 13) [((q 0) 0), ((q 1) 0), ((q 2) 0), ((q 3) 0), ((q 4) 0), ((q 5) 0)], W_State cI (q 0) (z22 0), W_State cI (q 1) (z22 1), W_State cI (q 3) (z22 3), W_State cI (q 4) (z22 4), W_State cI (q 5) (z22 5)]) (wc := (W_State cI (q 2) (z22 2)) ++ (W_State cI (sh a 5) (g_LS_now u21))) (w1 := (W_State cI (q 2) u31) ++ (W_State cI (sh a 5) (g_LS_now u21))) (ws' := (W_LS cI a u21) ++ (W_State cI (q 2) u31)) hP hD [13, 14, 15, 16, 17, 5, 6, 7, 8, 9] [0, 1, 2, 3, 4, 10, 11, 12] [0, 1, 2, 3, 4, 13, 14, 15, 16, 17, 5, 6, 7, 8, 9, 10, 11, 12] rfl rfl (by decide) (by decide) hk1 hFc hP1 hD1 (by decide) rfl
            obtain ⟨hP, hD⟩ := jBlk (bs := [W_LS cI a u21, W_State cI (q 2) u31, W_Sav cS (a 13) [((q 0) 0), ((q 1) 0), ((q 2) 0), ((q 3) 0), ((q 4) 0), ((q 5) 0)], W_State cI (q 0) (z22 0), W_State cI (q 1) (z22 1), W_State cI (q 3) (z22 3), W_State cI (q 4) (z22 4), W_State cI (q 5) (z22 5)]) (bs' := [W_LS cI a u21, W_Sav cS (a 13) [((q 0) 0), ((q 1) 0), ((q 2) 0), ((q 3) 0), ((q 4) 0), ((q 5) 0)], W_State cI (q 0) (z22 0), W_State cI (q 1) (z22 1), W_State cI (q 2) u31, W_State cI (q 3) (z22 3), W_State cI (q 4) (z22 4), W_State cI (q 5) (z22 5)]) hP hD [0, 2, 3, 4, 1, 5, 6, 7] rfl rfl
            have hP : va_P (dC, dI) vwCl (List.flatten [W_LS cI a u21, W_Sav cS (a 13) [((q 0) 0), ((q 1) 0), ((q 2) 0), ((q 3) 0), ((q 4) 0), ((q 5) 0)], W_State cI (q 0) (z22 0), W_State cI (q 1) (z22 1), W_State cI (q 2) u31, W_State cI (q 3) (z22 3), W_State cI (q 4) (z22 4), W_State cI (q 5) (z22 5)]) H := hP
            have hD : va_D A (List.flatten [W_LS cI a u21, W_Sav cS (a 13) [((q 0) 0), ((q 1) 0), ((q 2) 0), ((q 3) 0), ((q 4) 0), ((q 5) 0)], W_State cI (q 0) (z22 0), W_State cI (q 1) (z22 1), W_State cI (q 2) u31, W_State cI (q 3) (z22 3), W_State cI (q 4) (z22 4), W_State cI (q 5) (z22 5)]) := hD
            refine lv_aload_n hx hb dX4_saveState_37 rfl (lv_at hl 1 rfl) ?_
            refine lv_dup hx hb dX4_saveState_38 rfl ?_
            refine va_get (D := (dC, dI)) (ci := 4) (v := .int (g_LS_savedStates u21)) (C := RX4) (T := TX4) (N := 8) hx hb hts hinX4 hown hK hP 0 rfl rfl 5 (by decide) (hts (Cond.fieldLink RX4 125 "LearnedShapes" "savedStates" "I") (List.mem_of_getElem? (i := 1) rfl)) (fun _ h9 => h9) rfl dX4_saveState_39 ?_
            refine lv_iconst (v := (1 : Int32)) hx hb dX4_saveState_42 (by decide) ?_
            refine lv_iadd hx hb dX4_saveState_43 ?_
            refine va_put (D := (dC, dI)) (ci := 4) (v := .int ((g_LS_savedStates u21) + (1 : Int32))) (ty := .int) (C := RX4) (T := TX4) (N := 8) hx hb hts hinX4 tyX4 tyX4_ok nmX4 hown hK hP hD hS 0 rfl rfl 5 (by decide) (hts (Cond.fieldLink RX4 125 "LearnedShapes" "savedStates" "I") (List.mem_of_getElem? (i := 1) rfl)) (fun _ h9 => h9) rfl (by decide +kernel) (rfl) rfl (Nat.le_of_ble_eq_true rfl) dX4_saveState_44 (fun H locs hP hD hS => ?_)
            have hP : va_P (dC, dI) vwCl (List.flatten [W_LS cI a (s_LS_savedStates u21 ((g_LS_savedStates u21) + (1 : Int32))), W_Sav cS (a 13) [((q 0) 0), ((q 1) 0), ((q 2) 0), ((q 3) 0), ((q 4) 0), ((q 5) 0)], W_State cI (q 0) (z22 0), W_State cI (q 1) (z22 1), W_State cI (q 2) u31, W_State cI (q 3) (z22 3), W_State cI (q 4) (z22 4), W_State cI (q 5) (z22 5)]) H := hP
            have hD : va_D A (List.flatten [W_LS cI a (s_LS_savedStates u21 ((g_LS_savedStates u21) + (1 : Int32))), W_Sav cS (a 13) [((q 0) 0), ((q 1) 0), ((q 2) 0), ((q 3) 0), ((q 4) 0), ((q 5) 0)], W_State cI (q 0) (z22 0), W_State cI (q 1) (z22 1), W_State cI (q 2) u31, W_State cI (q 3) (z22 3), W_State cI (q 4) (z22 4), W_State cI (q 5) (z22 5)]) := hD
            have hP : va_P (dC, dI) vwCl (W_Full cI cS a q (s_LS_savedStates u21 ((g_LS_savedStates u21) + (1 : Int32))) (mk6 (z22 0) (z22 1) u31 (z22 3) (z22 4) (z22 5))) H := hP
            have hD : va_D A (W_Full cI cS a q (s_LS_savedStates u21 ((g_LS_savedStates u21) + (1 : Int32))) (mk6 (z22 0) (z22 1) u31 (z22 3) (z22 4) (z22 5))) := hD
            have e50 := Option.some.inj hF
            obtain ⟨e60, e51⟩ := Prod.mk.inj e50
            subst e60
            subst e51
            exact W.vret hx hb hr (fun t ht hW => ⟨⟨((s_LS_savedStates u21 ((g_LS_savedStates u21) + (1 : Int32))), (mk6 (z22 0) (z22 1) u31 (z22 3) (z22 4) (z22 5))), rfl, rfl, q, by rw [ht]; exact hP, va_K.moved hW.alike hK, hD⟩, hS.F ht⟩) hS.2.2 dX4_saveState_47
          · have hF := F_neg c30 hF
            by_cases c33 : (g_LS_savedStates u21) = (3 : Int32)
            · have hF := F_pos c33 hF
              have hP : va_P (dC, dI) vwCl (W_Full cI cS a q u21 z22) H := hP
              have hD : va_D A (W_Full cI cS a q u21 z22) := hD
              have hPc := hP
              have hDc := hD
              have hFc := jFreeW (ws := (W_Full cI cS a q u21 z22)) hD hS hA
              refine va_callq (va_runV (As := [.int (g_LS_savedStates u21)]) (rest := []) ⟨hx, hb, hml, hown, hts⟩ (c_X4_savedAt_3 l dC dI cI cS a q H.size _ _ _ c33) (cwV 1 hts gX4_saveState_X4_savedAt rfl rfl rfl (by decide +kernel) ⟨Nat.le_of_ble_eq_true rfl, Nat.le_of_ble_eq_true rfl⟩) (jPreV hK hPc hDc hN (ci := 4) rfl rfl) rfl rfl hl.1 rfl (lv_room (Nat.le_of_ble_eq_true rfl)) dX4_saveState_21 ⟨Nat.le_of_ble_eq_true rfl, Nat.le_of_ble_eq_true rfl⟩) hS (fun q _ h => hFc q h) hFc (fun r9 u9 t H locs ht hvm hw hB hz1 hk1 hS => ?_)
              subst hw
              obtain ⟨hP1, -, hD1⟩ := hB
              rw [ht] at hP1
              have hP : va_P (dC, dI) vwCl ((W_Full cI cS a q u21 z22)) H := hP1
              have hD : va_D A ((W_Full cI cS a q u21 z22)) := hD1.weaken (fun _ _ _ h => hFc _ h)
              have hP : va_P (dC, dI) vwCl (List.flatten [W_LS cI a u21, W_Sav cS (a 13) [((q 0) 0), ((q 1) 0), ((q 2) 0), ((q 3) 0), ((q 4) 0), ((q 5) 0)], W_State cI (q 0) (z22 0), W_State cI (q 1) (z22 1), W_State cI (q 2) (z22 2), W_State cI (q 3) (z22 3), W_State cI (q 4) (z22 4), W_State cI (q 5) (z22 5)]) H := hP
              have hD : va_D A (List.flatten [W_LS cI a u21, W_Sav cS (a 13) [((q 0) 0), ((q 1) 0), ((q 2) 0), ((q 3) 0), ((q 4) 0), ((q 5) 0)], W_State cI (q 0) (z22 0), W_State cI (q 1) (z22 1), W_State cI (q 2) (z22 2), W_State cI (q 3) (z22 3), W_State cI (q 4) (z22 4), W_State cI (q 5) (z22 5)]) := hD
              refine W.eq (g2 := F0 m 24 ls [.ref ((q 3) 0)]) rfl ?_
              refine lv_astore_n (lv' := [(1, .ref ((q 3) 0)), (0, .ref (a 0))]) hx hb dX4_saveState_24 rfl hl (by decide) rfl (fun ls hl => ?_)
              refine lv_aload_n hx hb dX4_saveState_25 rfl (lv_at hl 0 rfl) ?_
              refine lv_ifnull hx hb dX4_saveState_26 ?_
              refine lv_aload_n hx hb dX4_saveState_29 rfl (lv_at hl 0 rfl) ?_
              refine lv_aload_n hx hb dX4_saveState_30 rfl (lv_at hl 1 rfl) ?_
              refine va_get (D := (dC, dI)) (ci := 4) (v := .ref (a 5)) (C := RX4) (T := TX4) (N := 8) hx hb hts hinX4 hown hK hP 0 rfl rfl 3 (by decide) (hts (Cond.fieldLink RX4 23 "LearnedShapes" "now" "LLearnedShapes$State;") (List.mem_of_getElem? (i := 3) rfl)) (fun _ h9 => h9) rfl dX4_saveState_31 ?_
              obtain ⟨u34, h35, hF⟩ := ob1_some hF
              obtain ⟨hP, hD⟩ := jBlk (bs := [W_LS cI a u21, W_Sav cS (a 13) [((q 0) 0), ((q 1) 0), ((q 2) 0), ((q 3) 0), ((q 4) 0), ((q 5) 0)], W_State cI (q 0) (z22 0), W_State cI (q 1) (z22 1), W_State cI (q 2) (z22 2), W_State cI (q 3) (z22 3), W_State cI (q 4) (z22 4), W_State cI (q 5) (z22 5)]) (bs' := [W_LS cI a u21, W_State cI (q 3) (z22 3), W_Sav cS (a 13) [((q 0) 0), ((q 1) 0), ((q 2) 0), ((q 3) 0), ((q 4) 0), ((q 5) 0)], W_State cI (q 0) (z22 0), W_State cI (q 1) (z22 1), W_State cI (q 2) (z22 2), W_State cI (q 4) (z22 4), W_State cI (q 5) (z22 5)]) hP hD [0, 5, 1, 2, 3, 4, 6, 7] rfl rfl
              have hPc := hP.sub (ws' := (W_State cI (q 3) (z22 3)) ++ (W_State cI (sh a 5) (g_LS_now u21))) [13, 14, 15, 16, 17, 5, 6, 7, 8, 9] rfl
              have hDc := hD.sub (ws' := (W_State cI (q 3) (z22 3)) ++ (W_State cI (sh a 5) (g_LS_now u21))) [13, 14, 15, 16, 17, 5, 6, 7, 8, 9] (by decide) rfl
              have hFc := va_free (wc := (W_State cI (q 3) (z22 3)) ++ (W_State cI (sh a 5) (g_LS_now u21))) hD hS hA [13, 14, 15, 16, 17, 5, 6, 7, 8, 9] rfl
              refine va_callv (va_runV (As := [.ref (a 5)]) (rest := []) ⟨hx, hb, hml, hown, hts⟩ (c_X2_copyFrom l dC dI cI (q 3) (sh a 5) H.size _ _ _ h35) (cwV 1 hts gX4_saveState_X2_copyFrom rfl rfl rfl (by decide +kernel) ⟨Nat.le_of_ble_eq_true rfl, Nat.le_of_ble_eq_true rfl⟩) (jPreV hKi hPc hDc hN (ci := 2) rfl rfl) rfl rfl hl.1 rfl (lv_room (Nat.le_of_ble_eq_true rfl)) dX4_saveState_34 ⟨Nat.le_of_ble_eq_true rfl, Nat.le_of_ble_eq_true rfl⟩) hS (fun q _ h => hFc q h) hFc (fun u' t H locs ht hvm hw hB hz1 hk1 hS => ?_)
              subst hw
              obtain ⟨hP1, -, hD1⟩ := hB
              rw [ht] at hP1
              obtain ⟨hP, hD⟩ := jJoinF (wa := (W_LS cI a u21) ++ (W_State cI (q 3) (z22 3))) (wb := List.flatten [W_Sav cS (a 13) [((q 0) 0), ((q 1) 0), ((q 2) 0), ((q 3) 0), ((q 4) 0), ((q 5) 0)], W_State cI (q 0) (z22 0), W_State cI (q 1) (z22 1), W_State cI (q 2) (z22 2), W_State cI (q 4) (z22 4), W_State cI (q 5) (z22 5)]) (wc := (W_State cI (q 3) (z22 3)) ++ (W_State cI (sh a 5) (g_LS_now u21))) (w1 := (W_State cI (q 3) u34) ++ (W_State cI (sh a 5) (g_LS_now u21))) (ws' := (W_LS cI a u21) ++ (W_State cI (q 3) u34)) hP hD [13, 14, 15, 16, 17, 5, 6, 7, 8, 9] [0, 1, 2, 3, 4, 10, 11, 12] [0, 1, 2, 3, 4, 13, 14, 15, 16, 17, 5, 6, 7, 8, 9, 10, 11, 12] rfl rfl (by decide) (by decide) hk1 hFc hP1 hD1 (by decide) rfl
              obtain ⟨hP, hD⟩ := jBlk (bs := [W_LS cI a u21, W_State cI (q 3) u34, W_Sav cS (a 13) [((q 0) 0), ((q 1) 0), ((q 2) 0), ((q 3) 0), ((q 4) 0), ((q 5) 0)], W_State cI (q 0) (z22 0), W_State cI (q 1) (z22 1), W_State cI (q 2) (z22 2), W_State cI (q 4) (z22 4), W_State cI (q 5) (z22 5)]) (bs' := [W_LS cI a u21, W_Sav cS (a 13) [((q 0) 0), ((q 1) 0), ((q 2) 0), ((q 3) 0), ((q 4) 0), ((q 5) 0)], W_State cI (q 0) (z22 0), W_State cI (q 1) (z22 1), W_State cI (q 2) (z22 2), W_State cI (q 3) u34, W_State cI (q 4) (z22 4), W_State cI (q 5) (z22 5)]) hP hD [0, 2, 3, 4, 5, 1, 6, 7] rfl rfl
              have hP : va_P (dC, dI) vwCl (List.flatten [W_LS cI a u21, W_Sav cS (a 13) [((q 0) 0), ((q 1) 0), ((q 2) 0), ((q 3) 0), ((q 4) 0), ((q 5) 0)], W_State cI (q 0) (z22 0), W_State cI (q 1) (z22 1), W_State cI (q 2) (z22 2), W_State cI (q 3) u34, W_State cI (q 4) (z22 4), W_State cI (q 5) (z22 5)]) H := hP
              have hD : va_D A (List.flatten [W_LS cI a u21, W_Sav cS (a 13) [((q 0) 0), ((q 1) 0), ((q 2) 0), ((q 3) 0), ((q 4) 0), ((q 5) 0)], W_State cI (q 0) (z22 0), W_State cI (q 1) (z22 1), W_State cI (q 2) (z22 2), W_State cI (q 3) u34, W_State cI (q 4) (z22 4), W_State cI (q 5) (z22 5)]) := hD
              refine lv_aload_n hx hb dX4_saveState_37 rfl (lv_at hl 1 rfl) ?_
              refine lv_dup hx hb dX4_saveState_38 rfl ?_
              refine va_get (D := (dC, dI)) (ci := 4) (v := .int (g_LS_savedStates u21)) (C := RX4) (T := TX4) (N := 8) hx hb hts hinX4 hown hK hP 0 rfl rfl 5 (by decide) (hts (Cond.fieldLink RX4 125 "LearnedShapes" "savedStates" "I") (List.mem_of_getElem? (i := 1) rfl)) (fun _ h9 => h9) rfl dX4_saveState_39 ?_
              refine lv_iconst (v := (1 : Int32)) hx hb dX4_saveState_42 (by decide) ?_
              refine lv_iadd hx hb dX4_saveState_43 ?_
              refine va_put (D := (dC, dI)) (ci := 4) (v := .int ((g_LS_savedStates u21) + (1 : Int32))) (ty := .int) (C := RX4) (T := TX4) (N := 8) hx hb hts hinX4 tyX4 tyX4_ok nmX4 hown hK hP hD hS 0 rfl rfl 5 (by decide) (hts (Cond.fieldLink RX4 125 "LearnedShapes" "savedStates" "I") (List.mem_of_getElem? (i := 1) rfl)) (fun _ h9 => h9) rfl (by decide +kernel) (rfl) rfl (Nat.le_of_ble_eq_true rfl) dX4_saveState_44 (fun H locs hP hD hS => ?_)
              have hP : va_P (dC, dI) vwCl (List.flatten [W_LS cI a (s_LS_savedStates u21 ((g_LS_savedStates u21) + (1 : Int32))), W_Sav cS (a 13) [((q 0) 0), ((q 1) 0), ((q 2) 0), ((q 3) 0), ((q 4) 0), ((q 5) 0)], W_State cI (q 0) (z22 0), W_State cI (q 1) (z22 1), W_State cI (q 2) (z22 2), W_State cI (q 3) u34, W_State cI (q 4) (z22 4), W_State cI (q 5) (z22 5)]) H := hP
              have hD : va_D A (List.flatten [W_LS cI a (s_LS_savedStates u21 ((g_LS_savedStates u21) + (1 : Int32))), W_Sav cS (a 13) [((q 0) 0), ((q 1) 0), ((q 2) 0), ((q 3) 0), ((q 4) 0), ((q 5) 0)], W_State cI (q 0) (z22 0), W_State cI (q 1) (z22 1), W_State cI (q 2) (z22 2), W_State cI (q 3) u34, W_State cI (q 4) (z22 4), W_State cI (q 5) (z22 5)]) := hD
              have hP : va_P (dC, dI) vwCl (W_Full cI cS a q (s_LS_savedStates u21 ((g_LS_savedStates u21) + (1 : Int32))) (mk6 (z22 0) (z22 1) (z22 2) u34 (z22 4) (z22 5))) H := hP
              have hD : va_D A (W_Full cI cS a q (s_LS_savedStates u21 ((g_LS_savedStates u21) + (1 : Int32))) (mk6 (z22 0) (z22 1) (z22 2) u34 (z22 4) (z22 5))) := hD
              have e50 := Option.some.inj hF
              obtain ⟨e60, e51⟩ := Prod.mk.inj e50
              subst e60
              subst e51
              exact W.vret hx hb hr (fun t ht hW => ⟨⟨((s_LS_savedStates u21 ((g_LS_savedStates u21) + (1 : Int32))), (mk6 (z22 0) (z22 1) (z22 2) u34 (z22 4) (z22 5))), rfl, rfl, q, by rw [ht]; exact hP, va_K.moved hW.alike hK, hD⟩, hS.F ht⟩) hS.2.2 dX4_saveState_47
            · have hF := F_neg c33 hF
              by_cases c36 : (g_LS_savedStates u21) = (4 : Int32)
              · have hF := F_pos c36 hF
                have hP : va_P (dC, dI) vwCl (W_Full cI cS a q u21 z22) H := hP
                have hD : va_D A (W_Full cI cS a q u21 z22) := hD
                have hPc := hP
                have hDc := hD
                have hFc := jFreeW (ws := (W_Full cI cS a q u21 z22)) hD hS hA
                refine va_callq (va_runV (As := [.int (g_LS_savedStates u21)]) (rest := []) ⟨hx, hb, hml, hown, hts⟩ (c_X4_savedAt_4 l dC dI cI cS a q H.size _ _ _ c36) (cwV 1 hts gX4_saveState_X4_savedAt rfl rfl rfl (by decide +kernel) ⟨Nat.le_of_ble_eq_true rfl, Nat.le_of_ble_eq_true rfl⟩) (jPreV hK hPc hDc hN (ci := 4) rfl rfl) rfl rfl hl.1 rfl (lv_room (Nat.le_of_ble_eq_true rfl)) dX4_saveState_21 ⟨Nat.le_of_ble_eq_true rfl, Nat.le_of_ble_eq_true rfl⟩) hS (fun q _ h => hFc q h) hFc (fun r9 u9 t H locs ht hvm hw hB hz1 hk1 hS => ?_)
                subst hw
                obtain ⟨hP1, -, hD1⟩ := hB
                rw [ht] at hP1
                have hP : va_P (dC, dI) vwCl ((W_Full cI cS a q u21 z22)) H := hP1
                have hD : va_D A ((W_Full cI cS a q u21 z22)) := hD1.weaken (fun _ _ _ h => hFc _ h)
                have hP : va_P (dC, dI) vwCl (List.flatten [W_LS cI a u21, W_Sav cS (a 13) [((q 0) 0), ((q 1) 0), ((q 2) 0), ((q 3) 0), ((q 4) 0), ((q 5) 0)], W_State cI (q 0) (z22 0), W_State cI (q 1) (z22 1), W_State cI (q 2) (z22 2), W_State cI (q 3) (z22 3), W_State cI (q 4) (z22 4), W_State cI (q 5) (z22 5)]) H := hP
                have hD : va_D A (List.flatten [W_LS cI a u21, W_Sav cS (a 13) [((q 0) 0), ((q 1) 0), ((q 2) 0), ((q 3) 0), ((q 4) 0), ((q 5) 0)], W_State cI (q 0) (z22 0), W_State cI (q 1) (z22 1), W_State cI (q 2) (z22 2), W_State cI (q 3) (z22 3), W_State cI (q 4) (z22 4), W_State cI (q 5) (z22 5)]) := hD
                refine W.eq (g2 := F0 m 24 ls [.ref ((q 4) 0)]) rfl ?_
                refine lv_astore_n (lv' := [(1, .ref ((q 4) 0)), (0, .ref (a 0))]) hx hb dX4_saveState_24 rfl hl (by decide) rfl (fun ls hl => ?_)
                refine lv_aload_n hx hb dX4_saveState_25 rfl (lv_at hl 0 rfl) ?_
                refine lv_ifnull hx hb dX4_saveState_26 ?_
                refine lv_aload_n hx hb dX4_saveState_29 rfl (lv_at hl 0 rfl) ?_
                refine lv_aload_n hx hb dX4_saveState_30 rfl (lv_at hl 1 rfl) ?_
                refine va_get (D := (dC, dI)) (ci := 4) (v := .ref (a 5)) (C := RX4) (T := TX4) (N := 8) hx hb hts hinX4 hown hK hP 0 rfl rfl 3 (by decide) (hts (Cond.fieldLink RX4 23 "LearnedShapes" "now" "LLearnedShapes$State;") (List.mem_of_getElem? (i := 3) rfl)) (fun _ h9 => h9) rfl dX4_saveState_31 ?_
                obtain ⟨u37, h38, hF⟩ := ob1_some hF
                obtain ⟨hP, hD⟩ := jBlk (bs := [W_LS cI a u21, W_Sav cS (a 13) [((q 0) 0), ((q 1) 0), ((q 2) 0), ((q 3) 0), ((q 4) 0), ((q 5) 0)], W_State cI (q 0) (z22 0), W_State cI (q 1) (z22 1), W_State cI (q 2) (z22 2), W_State cI (q 3) (z22 3), W_State cI (q 4) (z22 4), W_State cI (q 5) (z22 5)]) (bs' := [W_LS cI a u21, W_State cI (q 4) (z22 4), W_Sav cS (a 13) [((q 0) 0), ((q 1) 0), ((q 2) 0), ((q 3) 0), ((q 4) 0), ((q 5) 0)], W_State cI (q 0) (z22 0), W_State cI (q 1) (z22 1), W_State cI (q 2) (z22 2), W_State cI (q 3) (z22 3), W_State cI (q 5) (z22 5)]) hP hD [0, 6, 1, 2, 3, 4, 5, 7] rfl rfl
                have hPc := hP.sub (ws' := (W_State cI (q 4) (z22 4)) ++ (W_State cI (sh a 5) (g_LS_now u21))) [13, 14, 15, 16, 17, 5, 6, 7, 8, 9] rfl
                have hDc := hD.sub (ws' := (W_State cI (q 4) (z22 4)) ++ (W_State cI (sh a 5) (g_LS_now u21))) [13, 14, 15, 16, 17, 5, 6, 7, 8, 9] (by decide) rfl
                have hFc := va_free (wc := (W_State cI (q 4) (z22 4)) ++ (W_State cI (sh a 5) (g_LS_now u21))) hD hS hA [13, 14, 15, 16, 17, 5, 6, 7, 8, 9] rfl
                refine va_callv (va_runV (As := [.ref (a 5)]) (rest := []) ⟨hx, hb, hml, hown, hts⟩ (c_X2_copyFrom l dC dI cI (q 4) (sh a 5) H.size _ _ _ h38) (cwV 1 hts gX4_saveState_X2_copyFrom rfl rfl rfl (by decide +kernel) ⟨Nat.le_of_ble_eq_true rfl, Nat.le_of_ble_eq_true rfl⟩) (jPreV hKi hPc hDc hN (ci := 2) rfl rfl) rfl rfl hl.1 rfl (lv_room (Nat.le_of_ble_eq_true rfl)) dX4_saveState_34 ⟨Nat.le_of_ble_eq_true rfl, Nat.le_of_ble_eq_true rfl⟩) hS (fun q _ h => hFc q h) hFc (fun u' t H locs ht hvm hw hB hz1 hk1 hS => ?_)
                subst hw
                obtain ⟨hP1, -, hD1⟩ := hB
                rw [ht] at hP1
                obtain ⟨hP, hD⟩ := jJoinF (wa := (W_LS cI a u21) ++ (W_State cI (q 4) (z22 4))) (wb := List.flatten [W_Sav cS (a 13) [((q 0) 0), ((q 1) 0), ((q 2) 0), ((q 3) 0), ((q 4) 0), ((q 5) 0)], W_State cI (q 0) (z22 0), W_State cI (q 1) (z22 1), W_State cI (q 2) (z22 2), W_State cI (q 3) (z22 3), W_State cI (q 5) (z22 5)]) (wc := (W_State cI (q 4) (z22 4)) ++ (W_State cI (sh a 5) (g_LS_now u21))) (w1 := (W_State cI (q 4) u37) ++ (W_State cI (sh a 5) (g_LS_now u21))) (ws' := (W_LS cI a u21) ++ (W_State cI (q 4) u37)) hP hD [13, 14, 15, 16, 17, 5, 6, 7, 8, 9] [0, 1, 2, 3, 4, 10, 11, 12] [0, 1, 2, 3, 4, 13, 14, 15, 16, 17, 5, 6, 7, 8, 9, 10, 11, 12] rfl rfl (by decide) (by decide) hk1 hFc hP1 hD1 (by decide) rfl
                obtain ⟨hP, hD⟩ := jBlk (bs := [W_LS cI a u21, W_State cI (q 4) u37, W_Sav cS (a 13) [((q 0) 0), ((q 1) 0), ((q 2) 0), ((q 3) 0), ((q 4) 0), ((q 5) 0)], W_State cI (q 0) (z22 0), W_State cI (q 1) (z22 1), W_State cI (q 2) (z22 2), W_State cI (q 3) (z22 3), W_State cI (q 5) (z22 5)]) (bs' := [W_LS cI a u21, W_Sav cS (a 13) [((q 0) 0), ((q 1) 0), ((q 2) 0), ((q 3) 0), ((q 4) 0), ((q 5) 0)], W_State cI (q 0) (z22 0), W_State cI (q 1) (z22 1), W_State cI (q 2) (z22 2), W_State cI (q 3) (z22 3), W_State cI (q 4) u37, W_State cI (q 5) (z22 5)]) hP hD [0, 2, 3, 4, 5, 6, 1, 7] rfl rfl
                have hP : va_P (dC, dI) vwCl (List.flatten [W_LS cI a u21, W_Sav cS (a 13) [((q 0) 0), ((q 1) 0), ((q 2) 0), ((q 3) 0), ((q 4) 0), ((q 5) 0)], W_State cI (q 0) (z22 0), W_State cI (q 1) (z22 1), W_State cI (q 2) (z22 2), W_State cI (q 3) (z22 3), W_State cI (q 4) u37, W_State cI (q 5) (z22 5)]) H := hP
                have hD : va_D A (List.flatten [W_LS cI a u21, W_Sav cS (a 13) [((q 0) 0), ((q 1) 0), ((q 2) 0), ((q 3) 0), ((q 4) 0), ((q 5) 0)], W_State cI (q 0) (z22 0), W_State cI (q 1) (z22 1), W_State cI (q 2) (z22 2), W_State cI (q 3) (z22 3), W_State cI (q 4) u37, W_State cI (q 5) (z22 5)]) := hD
                refine lv_aload_n hx hb dX4_saveState_37 rfl (lv_at hl 1 rfl) ?_
                refine lv_dup hx hb dX4_saveState_38 rfl ?_
                refine va_get (D := (dC, dI)) (ci := 4) (v := .int (g_LS_savedStates u21)) (C := RX4) (T := TX4) (N := 8) hx hb hts hinX4 hown hK hP 0 rfl rfl 5 (by decide) (hts (Cond.fieldLink RX4 125 "LearnedShapes" "savedStates" "I") (List.mem_of_getElem? (i := 1) rfl)) (fun _ h9 => h9) rfl dX4_saveState_39 ?_
                refine lv_iconst (v := (1 : Int32)) hx hb dX4_saveState_42 (by decide) ?_
                refine lv_iadd hx hb dX4_saveState_43 ?_
                refine va_put (D := (dC, dI)) (ci := 4) (v := .int ((g_LS_savedStates u21) + (1 : Int32))) (ty := .int) (C := RX4) (T := TX4) (N := 8) hx hb hts hinX4 tyX4 tyX4_ok nmX4 hown hK hP hD hS 0 rfl rfl 5 (by decide) (hts (Cond.fieldLink RX4 125 "LearnedShapes" "savedStates" "I") (List.mem_of_getElem? (i := 1) rfl)) (fun _ h9 => h9) rfl (by decide +kernel) (rfl) rfl (Nat.le_of_ble_eq_true rfl) dX4_saveState_44 (fun H locs hP hD hS => ?_)
                have hP : va_P (dC, dI) vwCl (List.flatten [W_LS cI a (s_LS_savedStates u21 ((g_LS_savedStates u21) + (1 : Int32))), W_Sav cS (a 13) [((q 0) 0), ((q 1) 0), ((q 2) 0), ((q 3) 0), ((q 4) 0), ((q 5) 0)], W_State cI (q 0) (z22 0), W_State cI (q 1) (z22 1), W_State cI (q 2) (z22 2), W_State cI (q 3) (z22 3), W_State cI (q 4) u37, W_State cI (q 5) (z22 5)]) H := hP
                have hD : va_D A (List.flatten [W_LS cI a (s_LS_savedStates u21 ((g_LS_savedStates u21) + (1 : Int32))), W_Sav cS (a 13) [((q 0) 0), ((q 1) 0), ((q 2) 0), ((q 3) 0), ((q 4) 0), ((q 5) 0)], W_State cI (q 0) (z22 0), W_State cI (q 1) (z22 1), W_State cI (q 2) (z22 2), W_State cI (q 3) (z22 3), W_State cI (q 4) u37, W_State cI (q 5) (z22 5)]) := hD
                have hP : va_P (dC, dI) vwCl (W_Full cI cS a q (s_LS_savedStates u21 ((g_LS_savedStates u21) + (1 : Int32))) (mk6 (z22 0) (z22 1) (z22 2) (z22 3) u37 (z22 5))) H := hP
                have hD : va_D A (W_Full cI cS a q (s_LS_savedStates u21 ((g_LS_savedStates u21) + (1 : Int32))) (mk6 (z22 0) (z22 1) (z22 2) (z22 3) u37 (z22 5))) := hD
                have e50 := Option.some.inj hF
                obtain ⟨e60, e51⟩ := Prod.mk.inj e50
                subst e60
                subst e51
                exact W.vret hx hb hr (fun t ht hW => ⟨⟨((s_LS_savedStates u21 ((g_LS_savedStates u21) + (1 : Int32))), (mk6 (z22 0) (z22 1) (z22 2) (z22 3) u37 (z22 5))), rfl, rfl, q, by rw [ht]; exact hP, va_K.moved hW.alike hK, hD⟩, hS.F ht⟩) hS.2.2 dX4_saveState_47
              · have hF := F_neg c36 hF
                by_cases c39 : (g_LS_savedStates u21) = (5 : Int32)
                · have hF := F_pos c39 hF
                  have hP : va_P (dC, dI) vwCl (W_Full cI cS a q u21 z22) H := hP
                  have hD : va_D A (W_Full cI cS a q u21 z22) := hD
                  have hPc := hP
                  have hDc := hD
                  have hFc := jFreeW (ws := (W_Full cI cS a q u21 z22)) hD hS hA
                  refine va_callq (va_runV (As := [.int (g_LS_savedStates u21)]) (rest := []) ⟨hx, hb, hml, hown, hts⟩ (c_X4_savedAt_5 l dC dI cI cS a q H.size _ _ _ c39) (cwV 1 hts gX4_saveState_X4_savedAt rfl rfl rfl (by decide +kernel) ⟨Nat.le_of_ble_eq_true rfl, Nat.le_of_ble_eq_true rfl⟩) (jPreV hK hPc hDc hN (ci := 4) rfl rfl) rfl rfl hl.1 rfl (lv_room (Nat.le_of_ble_eq_true rfl)) dX4_saveState_21 ⟨Nat.le_of_ble_eq_true rfl, Nat.le_of_ble_eq_true rfl⟩) hS (fun q _ h => hFc q h) hFc (fun r9 u9 t H locs ht hvm hw hB hz1 hk1 hS => ?_)
                  subst hw
                  obtain ⟨hP1, -, hD1⟩ := hB
                  rw [ht] at hP1
                  have hP : va_P (dC, dI) vwCl ((W_Full cI cS a q u21 z22)) H := hP1
                  have hD : va_D A ((W_Full cI cS a q u21 z22)) := hD1.weaken (fun _ _ _ h => hFc _ h)
                  have hP : va_P (dC, dI) vwCl (List.flatten [W_LS cI a u21, W_Sav cS (a 13) [((q 0) 0), ((q 1) 0), ((q 2) 0), ((q 3) 0), ((q 4) 0), ((q 5) 0)], W_State cI (q 0) (z22 0), W_State cI (q 1) (z22 1), W_State cI (q 2) (z22 2), W_State cI (q 3) (z22 3), W_State cI (q 4) (z22 4), W_State cI (q 5) (z22 5)]) H := hP
                  have hD : va_D A (List.flatten [W_LS cI a u21, W_Sav cS (a 13) [((q 0) 0), ((q 1) 0), ((q 2) 0), ((q 3) 0), ((q 4) 0), ((q 5) 0)], W_State cI (q 0) (z22 0), W_State cI (q 1) (z22 1), W_State cI (q 2) (z22 2), W_State cI (q 3) (z22 3), W_State cI (q 4) (z22 4), W_State cI (q 5) (z22 5)]) := hD
                  refine W.eq (g2 := F0 m 24 ls [.ref ((q 5) 0)]) rfl ?_
                  refine lv_astore_n (lv' := [(1, .ref ((q 5) 0)), (0, .ref (a 0))]) hx hb dX4_saveState_24 rfl hl (by decide) rfl (fun ls hl => ?_)
                  refine lv_aload_n hx hb dX4_saveState_25 rfl (lv_at hl 0 rfl) ?_
                  refine lv_ifnull hx hb dX4_saveState_26 ?_
                  refine lv_aload_n hx hb dX4_saveState_29 rfl (lv_at hl 0 rfl) ?_
                  refine lv_aload_n hx hb dX4_saveState_30 rfl (lv_at hl 1 rfl) ?_
                  refine va_get (D := (dC, dI)) (ci := 4) (v := .ref (a 5)) (C := RX4) (T := TX4) (N := 8) hx hb hts hinX4 hown hK hP 0 rfl rfl 3 (by decide) (hts (Cond.fieldLink RX4 23 "LearnedShapes" "now" "LLearnedShapes$State;") (List.mem_of_getElem? (i := 3) rfl)) (fun _ h9 => h9) rfl dX4_saveState_31 ?_
                  obtain ⟨u40, h41, hF⟩ := ob1_some hF
                  obtain ⟨hP, hD⟩ := jBlk (bs := [W_LS cI a u21, W_Sav cS (a 13) [((q 0) 0), ((q 1) 0), ((q 2) 0), ((q 3) 0), ((q 4) 0), ((q 5) 0)], W_State cI (q 0) (z22 0), W_State cI (q 1) (z22 1), W_State cI (q 2) (z22 2), W_State cI (q 3) (z22 3), W_State cI (q 4) (z22 4), W_State cI (q 5) (z22 5)]) (bs' := [W_LS cI a u21, W_State cI (q 5) (z22 5), W_Sav cS (a 13) [((q 0) 0), ((q 1) 0), ((q 2) 0), ((q 3) 0), ((q 4) 0), ((q 5) 0)], W_State cI (q 0) (z22 0), W_State cI (q 1) (z22 1), W_State cI (q 2) (z22 2), W_State cI (q 3) (z22 3), W_State cI (q 4) (z22 4)]) hP hD [0, 7, 1, 2, 3, 4, 5, 6] rfl rfl
                  have hPc := hP.sub (ws' := (W_State cI (q 5) (z22 5)) ++ (W_State cI (sh a 5) (g_LS_now u21))) [13, 14, 15, 16, 17, 5, 6, 7, 8, 9] rfl
                  have hDc := hD.sub (ws' := (W_State cI (q 5) (z22 5)) ++ (W_State cI (sh a 5) (g_LS_now u21))) [13, 14, 15, 16, 17, 5, 6, 7, 8, 9] (by decide) rfl
                  have hFc := va_free (wc := (W_State cI (q 5) (z22 5)) ++ (W_State cI (sh a 5) (g_LS_now u21))) hD hS hA [13, 14, 15, 16, 17, 5, 6, 7, 8, 9] rfl
                  refine va_callv (va_runV (As := [.ref (a 5)]) (rest := []) ⟨hx, hb, hml, hown, hts⟩ (c_X2_copyFrom l dC dI cI (q 5) (sh a 5) H.size _ _ _ h41) (cwV 1 hts gX4_saveState_X2_copyFrom rfl rfl rfl (by decide +kernel) ⟨Nat.le_of_ble_eq_true rfl, Nat.le_of_ble_eq_true rfl⟩) (jPreV hKi hPc hDc hN (ci := 2) rfl rfl) rfl rfl hl.1 rfl (lv_room (Nat.le_of_ble_eq_true rfl)) dX4_saveState_34 ⟨Nat.le_of_ble_eq_true rfl, Nat.le_of_ble_eq_true rfl⟩) hS (fun q _ h => hFc q h) hFc (fun u' t H locs ht hvm hw hB hz1 hk1 hS => ?_)
                  subst hw
                  obtain ⟨hP1, -, hD1⟩ := hB
                  rw [ht] at hP1
                  obtain ⟨hP, hD⟩ := jJoinF (wa := (W_LS cI a u21) ++ (W_State cI (q 5) (z22 5))) (wb := List.flatten [W_Sav cS (a 13) [((q 0) 0), ((q 1) 0), ((q 2) 0), ((q 3) 0), ((q 4) 0), ((q 5) 0)], W_State cI (q 0) (z22 0), W_State cI (q 1) (z22 1), W_State cI (q 2) (z22 2), W_State cI (q 3) (z22 3), W_State cI (q 4) (z22 4)]) (wc := (W_State cI (q 5) (z22 5)) ++ (W_State cI (sh a 5) (g_LS_now u21))) (w1 := (W_State cI (q 5) u40) ++ (W_State cI (sh a 5) (g_LS_now u21))) (ws' := (W_LS cI a u21) ++ (W_State cI (q 5) u40)) hP hD [13, 14, 15, 16, 17, 5, 6, 7, 8, 9] [0, 1, 2, 3, 4, 10, 11, 12] [0, 1, 2, 3, 4, 13, 14, 15, 16, 17, 5, 6, 7, 8, 9, 10, 11, 12] rfl rfl (by decide) (by decide) hk1 hFc hP1 hD1 (by decide) rfl
                  obtain ⟨hP, hD⟩ := jBlk (bs := [W_LS cI a u21, W_State cI (q 5) u40, W_Sav cS (a 13) [((q 0) 0), ((q 1) 0), ((q 2) 0), ((q 3) 0), ((q 4) 0), ((q 5) 0)], W_State cI (q 0) (z22 0), W_State cI (q 1) (z22 1), W_State cI (q 2) (z22 2), W_State cI (q 3) (z22 3), W_State cI (q 4) (z22 4)]) (bs' := [W_LS cI a u21, W_Sav cS (a 13) [((q 0) 0), ((q 1) 0), ((q 2) 0), ((q 3) 0), ((q 4) 0), ((q 5) 0)], W_State cI (q 0) (z22 0), W_State cI (q 1) (z22 1), W_State cI (q 2) (z22 2), W_State cI (q 3) (z22 3), W_State cI (q 4) (z22 4), W_State cI (q 5) u40]) hP hD [0, 2, 3, 4, 5, 6, 7, 1] rfl rfl
                  have hP : va_P (dC, dI) vwCl (List.flatten [W_LS cI a u21, W_Sav cS (a 13) [((q 0) 0), ((q 1) 0), ((q 2) 0), ((q 3) 0), ((q 4) 0), ((q 5) 0)], W_State cI (q 0) (z22 0), W_State cI (q 1) (z22 1), W_State cI (q 2) (z22 2), W_State cI (q 3) (z22 3), W_State cI (q 4) (z22 4), W_State cI (q 5) u40]) H := hP
                  have hD : va_D A (List.flatten [W_LS cI a u21, W_Sav cS (a 13) [((q 0) 0), ((q 1) 0), ((q 2) 0), ((q 3) 0), ((q 4) 0), ((q 5) 0)], W_State cI (q 0) (z22 0), W_State cI (q 1) (z22 1), W_State cI (q 2) (z22 2), W_State cI (q 3) (z22 3), W_State cI (q 4) (z22 4), W_State cI (q 5) u40]) := hD
                  refine lv_aload_n hx hb dX4_saveState_37 rfl (lv_at hl 1 rfl) ?_
                  refine lv_dup hx hb dX4_saveState_38 rfl ?_
                  refine va_get (D := (dC, dI)) (ci := 4) (v := .int (g_LS_savedStates u21)) (C := RX4) (T := TX4) (N := 8) hx hb hts hinX4 hown hK hP 0 rfl rfl 5 (by decide) (hts (Cond.fieldLink RX4 125 "LearnedShapes" "savedStates" "I") (List.mem_of_getElem? (i := 1) rfl)) (fun _ h9 => h9) rfl dX4_saveState_39 ?_
                  refine lv_iconst (v := (1 : Int32)) hx hb dX4_saveState_42 (by decide) ?_
                  refine lv_iadd hx hb dX4_saveState_43 ?_
                  refine va_put (D := (dC, dI)) (ci := 4) (v := .int ((g_LS_savedStates u21) + (1 : Int32))) (ty := .int) (C := RX4) (T := TX4) (N := 8) hx hb hts hinX4 tyX4 tyX4_ok nmX4 hown hK hP hD hS 0 rfl rfl 5 (by decide) (hts (Cond.fieldLink RX4 125 "LearnedShapes" "savedStates" "I") (List.mem_of_getElem? (i := 1) rfl)) (fun _ h9 => h9) rfl (by decide +kernel) (rfl) rfl (Nat.le_of_ble_eq_true rfl) dX4_saveState_44 (fun H locs hP hD hS => ?_)
                  have hP : va_P (dC, dI) vwCl (List.flatten [W_LS cI a (s_LS_savedStates u21 ((g_LS_savedStates u21) + (1 : Int32))), W_Sav cS (a 13) [((q 0) 0), ((q 1) 0), ((q 2) 0), ((q 3) 0), ((q 4) 0), ((q 5) 0)], W_State cI (q 0) (z22 0), W_State cI (q 1) (z22 1), W_State cI (q 2) (z22 2), W_State cI (q 3) (z22 3), W_State cI (q 4) (z22 4), W_State cI (q 5) u40]) H := hP
                  have hD : va_D A (List.flatten [W_LS cI a (s_LS_savedStates u21 ((g_LS_savedStates u21) + (1 : Int32))), W_Sav cS (a 13) [((q 0) 0), ((q 1) 0), ((q 2) 0), ((q 3) 0), ((q 4) 0), ((q 5) 0)], W_State cI (q 0) (z22 0), W_State cI (q 1) (z22 1), W_State cI (q 2) (z22 2), W_State cI (q 3) (z22 3), W_State cI (q 4) (z22 4), W_State cI (q 5) u40]) := hD
                  have hP : va_P (dC, dI) vwCl (W_Full cI cS a q (s_LS_savedStates u21 ((g_LS_savedStates u21) + (1 : Int32))) (mk6 (z22 0) (z22 1) (z22 2) (z22 3) (z22 4) u40)) H := hP
                  have hD : va_D A (W_Full cI cS a q (s_LS_savedStates u21 ((g_LS_savedStates u21) + (1 : Int32))) (mk6 (z22 0) (z22 1) (z22 2) (z22 3) (z22 4) u40)) := hD
                  have e50 := Option.some.inj hF
                  obtain ⟨e60, e51⟩ := Prod.mk.inj e50
                  subst e60
                  subst e51
                  exact W.vret hx hb hr (fun t ht hW => ⟨⟨((s_LS_savedStates u21 ((g_LS_savedStates u21) + (1 : Int32))), (mk6 (z22 0) (z22 1) (z22 2) (z22 3) (z22 4) u40)), rfl, rfl, q, by rw [ht]; exact hP, va_K.moved hW.alike hK, hD⟩, hS.F ht⟩) hS.2.2 dX4_saveState_47
                · have hF := F_neg c39 hF
                  obtain ⟨g42, hF⟩ := og_some hF
                  have hP : va_P (dC, dI) vwCl (W_Full cI cS a q u21 z22) H := hP
                  have hD : va_D A (W_Full cI cS a q u21 z22) := hD
                  have hPc := hP
                  have hDc := hD
                  have hFc := jFreeW (ws := (W_Full cI cS a q u21 z22)) hD hS hA
                  refine va_callq (va_runV (As := [.int (g_LS_savedStates u21)]) (rest := []) ⟨hx, hb, hml, hown, hts⟩ (c_X4_savedAt_n l dC dI cI cS a q H.size _ _ _ (of_decide_eq_true g42)) (cwV 1 hts gX4_saveState_X4_savedAt rfl rfl rfl (by decide +kernel) ⟨Nat.le_of_ble_eq_true rfl, Nat.le_of_ble_eq_true rfl⟩) (jPreV hK hPc hDc hN (ci := 4) rfl rfl) rfl rfl hl.1 rfl (lv_room (Nat.le_of_ble_eq_true rfl)) dX4_saveState_21 ⟨Nat.le_of_ble_eq_true rfl, Nat.le_of_ble_eq_true rfl⟩) hS (fun q _ h => hFc q h) hFc (fun r9 u9 t H locs ht hvm hw hB hz1 hk1 hS => ?_)
                  subst hw
                  obtain ⟨hP1, -, hD1⟩ := hB
                  rw [ht] at hP1
                  have hP : va_P (dC, dI) vwCl ((W_Full cI cS a q u21 z22)) H := hP1
                  have hD : va_D A ((W_Full cI cS a q u21 z22)) := hD1.weaken (fun _ _ _ h => hFc _ h)
                  have hP : va_P (dC, dI) vwCl (List.flatten [W_LS cI a u21, W_Sav cS (a 13) [((q 0) 0), ((q 1) 0), ((q 2) 0), ((q 3) 0), ((q 4) 0), ((q 5) 0)], W_State cI (q 0) (z22 0), W_State cI (q 1) (z22 1), W_State cI (q 2) (z22 2), W_State cI (q 3) (z22 3), W_State cI (q 4) (z22 4), W_State cI (q 5) (z22 5)]) H := hP
                  have hD : va_D A (List.flatten [W_LS cI a u21, W_Sav cS (a 13) [((q 0) 0), ((q 1) 0), ((q 2) 0), ((q 3) 0), ((q 4) 0), ((q 5) 0)], W_State cI (q 0) (z22 0), W_State cI (q 1) (z22 1), W_State cI (q 2) (z22 2), W_State cI (q 3) (z22 3), W_State cI (q 4) (z22 4), W_State cI (q 5) (z22 5)]) := hD
                  refine W.eq (g2 := F0 m 24 ls [.null]) rfl ?_
                  refine lv_astore_nN (lv' := [(1, .null), (0, .ref (a 0))]) hx hb dX4_saveState_24 rfl hl (by decide) rfl (fun ls hl => ?_)
                  refine lv_aload_nN hx hb dX4_saveState_25 rfl (lv_at hl 0 rfl) ?_
                  refine lv_ifnullN (tgt := 47) hx hb dX4_saveState_26 (by decide) ?_
                  have hP : va_P (dC, dI) vwCl (W_Full cI cS a q u21 z22) H := hP
                  have hD : va_D A (W_Full cI cS a q u21 z22) := hD
                  have e50 := Option.some.inj hF
                  obtain ⟨e60, e51⟩ := Prod.mk.inj e50
                  subst e60
                  subst e51
                  exact W.vret hx hb hr (fun t ht hW => ⟨⟨(u21, z22), rfl, rfl, q, by rw [ht]; exact hP, va_K.moved hW.alike hK, hD⟩, hS.F ht⟩) hS.2.2 dX4_saveState_47
  exact KE _ _ hP hD hS
