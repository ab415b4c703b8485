theorem F_L_learn_c {S : S_LS} {Z : Nat → S_State} {v1 : Int32} {rr : Int32} {Y : S_LS} {YZ : Nat → S_State} (h : F_L_learn S Z v1 = some (rr, Y, YZ)) : ∃ res, F_X4_learn S Z v1 = some res ∧ ((res = .inl ("java/lang/IllegalStateException", (Y, YZ)) ∧ rr = -3) ∨ res = .inr (rr, Y, YZ)) := by
  unfold F_L_learn at h
  cases hx : F_X4_learn S Z v1 with
  | none => rw [hx] at h; exact nomatch h
  | some res =>
    rw [hx] at h
    refine ⟨res, rfl, ?_⟩
    cases res with
    | inr r => exact Or.inr (congrArg Sum.inr (Option.some.inj h))
    | inl y =>
      obtain ⟨E, y⟩ := y
      have h : (if E = "java/lang/IllegalStateException" then some (-3, y.1, y.2) else none) = some (rr, Y, YZ) := h
      by_cases z : E = "java/lang/IllegalStateException"
      · rw [if_pos z] at h
        obtain ⟨h1, h2⟩ := Prod.mk.inj (Option.some.inj h)
        exact Or.inl ⟨by rw [z, ← h2], h1.symm⟩
      · rw [if_neg z] at h; exact nomatch h
set_option maxHeartbeats 4000000 in
set_option maxRecDepth 100000 in
theorem c_L_learn (l : Launch) (dC : Nat → ClassId) (dI : Nat → Nat → Nat) (cI cS : ClassId) (hl0 : l.stackTraces = false) (a : Nat → Nat) (q : Nat → Nat → Nat) (sz : Nat) (S : S_LS) (Z : Nat → S_State) (v1 : Int32) (rr : Int32) (Y : S_LS) (YZ : Nat → S_State) (hG : F_L_learn S Z v1 = some (rr, Y, YZ)) : Met l yL_learn wsL_learn ({ frames := 7, cells := 1, slots := 6, locals := 186 } : Room) (va_Pc [.ref (a 0), .int v1] (jPreX (dC, dI) [(cI, .int), (cS, .object "LearnedShapes$State")] sz (W_Full cI cS a q S Z))) (va_Qi (fun (r' : Int32) (u : S_LS × (Nat → S_State)) => rr = r' ∧ (Y, YZ) = u) (fun (u : S_LS × (Nat → S_State)) (t : State) => ∃ q9 : Nat → Nat → Nat, jB (dC, dI) [(cI, .int), (cS, .object "LearnedShapes$State")] (va_A (W_Full cI cS a q S Z) sz) (W_Full cI cS a q9 u.1 u.2) t) (va_A (W_Full cI cS a q S Z) sz)) 1 6 (va_A (W_Full cI cS a q S Z) sz) := by
  obtain ⟨res, hF, hres0⟩ := F_L_learn_c hG
  refine met_ofWH (cc := cL_learn) (maxL := 3) (ret := (some .int)) (hh := [(0, 5, 6, 32)]) (by decide) rfl ?_
  intro p e s m args below meth c s₁ B hml hv
  obtain ⟨rfl, ⟨hsz, hP, hK, hD0, hN⟩, hU, hSN⟩ := hv
  have hx := B.exec
  have hb := B.bytes
  have hr := B.returns
  have hts := atoms_spec (ws := wsL_learn) B.pre
  have hown : s.vm.findClass RL = some m.cls := findClass_of_methodNamed B.named
  have htab := vx_table (x := yL_learn) B (hts _ List.mem_cons_self)
  subst hsz
  have hD := hD0.self (sz := s.heap.size)
  generalize hAe : (va_A (W_Full cI cS a q S Z) s.heap.size) = A at hD hU hSN ⊢
  have hA : ∀ q : Nat, s.heap.size ≤ q → A q := fun q h => by rw [← hAe]; exact Or.inr h
  have hS : va_S A s.heap s.heap [] := va_S.rf
  have hl := lv_entry ([.ref (a 0), .int v1]) (n := 3) (Nat.le_of_ble_eq_true rfl)
  rw [lg_entry_eq]
  generalize (lg_sl ([.ref (a 0), .int v1]) ++ List.replicate (3 - (lg_sl ([.ref (a 0), .int v1])).length) Slot.unset).toArray = ls at hl ⊢
  have hl : lv_has ls 3 [(0, .ref (a 0)), (1, .int v1)] := hl
  refine lv_aload_n hx hb dL_learn_0 rfl (lv_at hl 0 rfl) ?_
  refine lv_iload_n hx hb dL_learn_1 rfl (lv_at hl 1 rfl) ?_
  have hFc := jFreeW (ws := (W_Full cI cS a q S Z)) hD hS hA
  refine vx_calli (vx_runV (As := [.int v1]) (rest := []) ⟨hx, hb, hml, hown, hts⟩ (c_X4_learn l dC dI cI hl0 cS a q s.heap.size S Z v1 res hF) (cwV 1 hts gL_learn_X4_learn rfl rfl rfl (by decide +kernel) ⟨Nat.le_of_ble_eq_true rfl, Nat.le_of_ble_eq_true rfl⟩) (jPreVX (q := (RX4, TX4, 8)) (ci := 4) hK hP hD hN hU hSN hS hFc rfl rfl) rfl rfl hl.1 rfl (lv_room (Nat.le_of_ble_eq_true rfl)) dL_learn_2 ⟨Nat.le_of_ble_eq_true rfl, Nat.le_of_ble_eq_true rfl⟩) hS (fun q _ h => hFc q h) hFc (fun q _ h => hFc q h) (fun E ce q8 u t H locs ht hvm _ hB hz1 hk1 hS hce hcv hcl => ?_) (fun r' u t H locs ht hvm hw hB hz1 hk1 hS => ?_)
  · obtain ⟨hres, q7, hP1, -, hD1⟩ := hB
    rw [ht] at hP1
    have hEu : E = "java/lang/IllegalStateException" ∧ u = (Y, YZ) ∧ rr = -3 := by
      rcases hres0 with ⟨z1, z2⟩ | z1
      · rw [z1] at hres
        obtain ⟨g1, g2⟩ := Prod.mk.inj (Sum.inl.inj hres)
        exact ⟨g1.symm, g2.symm, z2⟩
      · rw [z1] at hres; exact nomatch hres
    obtain ⟨rfl, rfl, rfl⟩ := hEu
    have hP : va_P (dC, dI) vwCl (W_Full cI cS a q7 Y YZ) H := hP1
    have hD : va_D A (W_Full cI cS a q7 Y YZ) := hD1.weaken (fun _ _ _ h => hFc _ h)
    refine vx_catch (name := "java/lang/IllegalStateException") hown [] ⟨0, 5, 6, 32⟩ [] htab (fun z hz => nomatch hz) (by decide) (by decide) (hts (Cond.classLink RL 32 "java/lang/IllegalStateException") (List.mem_of_getElem? (i := 1) rfl)) (va_Nw.use rfl (hN.1 _ (List.mem_of_getElem? (i := 13) rfl))) hce hcv hcl ?_
    refine lv_astore_n (lv' := [(2, .ref q8), (0, .ref (a 0)), (1, .int v1)]) hx hb dL_learn_6 rfl hl (by decide) rfl (fun ls hl => ?_)
    refine lv_bipush (v := (-3 : Int32)) hx hb dL_learn_7 (by decide) ?_
    refine W.widen (k := 1) (n := 6) (Nat.le_refl _) (Nat.le_refl _) ?_
    exact W.iret (v := (-3 : Int32)) hx hb hr (fun t ht hW => ⟨⟨(-3 : Int32), (Y, YZ), rfl, ⟨rfl, rfl⟩, q7, by rw [ht]; exact hP, va_K.moved hW.alike hK, hD⟩, hS.F ht⟩) hS.2.2 dL_learn_9
  · obtain ⟨q7, hP1, -, hD1⟩ := hB
    rw [ht] at hP1
    have hEu : r' = rr ∧ u = (Y, YZ) := by
      rcases hres0 with ⟨z1, z2⟩ | z1
      · rw [z1] at hw; exact nomatch hw
      · rw [z1] at hw
        obtain ⟨g1, g2⟩ := Prod.mk.inj (Sum.inr.inj hw)
        exact ⟨g1.symm, g2.symm⟩
    obtain ⟨rfl, rfl⟩ := hEu
    have hP : va_P (dC, dI) vwCl (W_Full cI cS a q7 Y YZ) H := hP1
    have hD : va_D A (W_Full cI cS a q7 Y YZ) := hD1.weaken (fun _ _ _ h => hFc _ h)
    refine W.widen (k := 1) (n := 6) (Nat.le_refl _) (Nat.le_refl _) ?_
    exact W.iret (v := r') hx hb hr (fun t ht hW => ⟨⟨r', (Y, YZ), rfl, ⟨rfl, rfl⟩, q7, by rw [ht]; exact hP, va_K.moved hW.alike hK, hD⟩, hS.F ht⟩) hS.2.2 dL_learn_5
theorem F_L_join_c {S : S_LS} {Z : Nat → S_State} {v1 : Int32} {rr : Int32} {Y : S_LS} {YZ : Nat → S_State} (h : F_L_join S Z v1 = some (rr, Y, YZ)) : ∃ res, F_X4_join S Z v1 = some res ∧ ((res = .inl ("java/lang/IllegalStateException", (Y, YZ)) ∧ rr = -3) ∨ res = .inr (rr, Y, YZ)) := by
  unfold F_L_join at h
  cases hx : F_X4_join S Z v1 with
  | none => rw [hx] at h; exact nomatch h
  | some res =>
    rw [hx] at h
    refine ⟨res, rfl, ?_⟩
    cases res with
    | inr r => exact Or.inr (congrArg Sum.inr (Option.some.inj h))
    | inl y =>
      obtain ⟨E, y⟩ := y
      have h : (if E = "java/lang/IllegalStateException" then some (-3, y.1, y.2) else none) = some (rr, Y, YZ) := h
      by_cases z : E = "java/lang/IllegalStateException"
      · rw [if_pos z] at h
        obtain ⟨h1, h2⟩ := Prod.mk.inj (Option.some.inj h)
        exact Or.inl ⟨by rw [z, ← h2], h1.symm⟩
      · rw [if_neg z] at h; exact nomatch h
set_option maxHeartbeats 4000000 in
set_option maxRecDepth 100000 in
theorem c_L_join (l : Launch) (dC : Nat → ClassId) (dI : Nat → Nat → Nat) (cI cS : ClassId) (hl0 : l.stackTraces = false) (a : Nat → Nat) (q : Nat → Nat → Nat) (sz : Nat) (S : S_LS) (Z : Nat → S_State) (v1 : Int32) (rr : Int32) (Y : S_LS) (YZ : Nat → S_State) (hG : F_L_join S Z v1 = some (rr, Y, YZ)) : Met l yL_join wsL_join ({ frames := 14, cells := 1, slots := 6, locals := 420 } : Room) (va_Pc [.ref (a 0), .int v1] (jPreX (dC, dI) [(cI, .int), (cS, .object "LearnedShapes$State")] sz (W_Full cI cS a q S Z))) (va_Qi (fun (r' : Int32) (u : S_LS × (Nat → S_State)) => rr = r' ∧ (Y, YZ) = u) (fun (u : S_LS × (Nat → S_State)) (t : State) => ∃ q9 : Nat → Nat → Nat, jB (dC, dI) [(cI, .int), (cS, .object "LearnedShapes$State")] (va_A (W_Full cI cS a q S Z) sz) (W_Full cI cS a q9 u.1 u.2) t) (va_A (W_Full cI cS a q S Z) sz)) 1 6 (va_A (W_Full cI cS a q S Z) sz) := by
  obtain ⟨res, hF, hres0⟩ := F_L_join_c hG
  refine met_ofWH (cc := cL_join) (maxL := 3) (ret := (some .int)) (hh := [(0, 5, 6, 32)]) (by decide) rfl ?_
  intro p e s m args below meth c s₁ B hml hv
  obtain ⟨rfl, ⟨hsz, hP, hK, hD0, hN⟩, hU, hSN⟩ := hv
  have hx := B.exec
  have hb := B.bytes
  have hr := B.returns
  have hts := atoms_spec (ws := wsL_join) B.pre
  have hown : s.vm.findClass RL = some m.cls := findClass_of_methodNamed B.named
  have htab := vx_table (x := yL_join) B (hts _ List.mem_cons_self)
  subst hsz
  have hD := hD0.self (sz := s.heap.size)
  generalize hAe : (va_A (W_Full cI cS a q S Z) s.heap.size) = A at hD hU hSN ⊢
  have hA : ∀ q : Nat, s.heap.size ≤ q → A q := fun q h => by rw [← hAe]; exact Or.inr h
  have hS : va_S A s.heap s.heap [] := va_S.rf
  have hl := lv_entry ([.ref (a 0), .int v1]) (n := 3) (Nat.le_of_ble_eq_true rfl)
  rw [lg_entry_eq]
  generalize (lg_sl ([.ref (a 0), .int v1]) ++ List.replicate (3 - (lg_sl ([.ref (a 0), .int v1])).length) Slot.unset).toArray = ls at hl ⊢
  have hl : lv_has ls 3 [(0, .ref (a 0)), (1, .int v1)] := hl
  refine lv_aload_n hx hb dL_join_0 rfl (lv_at hl 0 rfl) ?_
  refine lv_iload_n hx hb dL_join_1 rfl (lv_at hl 1 rfl) ?_
  have hFc := jFreeW (ws := (W_Full cI cS a q S Z)) hD hS hA
  refine vx_calli (vx_runV (As := [.int v1]) (rest := []) ⟨hx, hb, hml, hown, hts⟩ (c_X4_join l dC dI cI hl0 cS a q s.heap.size S Z v1 res hF) (cwV 1 hts gL_join_X4_join rfl rfl rfl (by decide +kernel) ⟨Nat.le_of_ble_eq_true rfl, Nat.le_of_ble_eq_true rfl⟩) (jPreVX (q := (RX4, TX4, 8)) (ci := 4) hK hP hD hN hU hSN hS hFc rfl rfl) rfl rfl hl.1 rfl (lv_room (Nat.le_of_ble_eq_true rfl)) dL_join_2 ⟨Nat.le_of_ble_eq_true rfl, Nat.le_of_ble_eq_true rfl⟩) hS (fun q _ h => hFc q h) hFc (fun q _ h => hFc q h) (fun E ce q8 u t H locs ht hvm _ hB hz1 hk1 hS hce hcv hcl => ?_) (fun r' u t H locs ht hvm hw hB hz1 hk1 hS => ?_)
  · obtain ⟨hres, q7, hP1, -, hD1⟩ := hB
    rw [ht] at hP1
    have hEu : E = "java/lang/IllegalStateException" ∧ u = (Y, YZ) ∧ rr = -3 := by
      rcases hres0 with ⟨z1, z2⟩ | z1
      · rw [z1] at hres
        obtain ⟨g1, g2⟩ := Prod.mk.inj (Sum.inl.inj hres)
        exact ⟨g1.symm, g2.symm, z2⟩
      · rw [z1] at hres; exact nomatch hres
    obtain ⟨rfl, rfl, rfl⟩ := hEu
    have hP : va_P (dC, dI) vwCl (W_Full cI cS a q7 Y YZ) H := hP1
    have hD : va_D A (W_Full cI cS a q7 Y YZ) := hD1.weaken (fun _ _ _ h => hFc _ h)
    refine vx_catch (name := "java/lang/IllegalStateException") hown [] ⟨0, 5, 6, 32⟩ [] htab (fun z hz => nomatch hz) (by decide) (by decide) (hts (Cond.classLink RL 32 "java/lang/IllegalStateException") (List.mem_of_getElem? (i := 1) rfl)) (va_Nw.use rfl (hN.1 _ (List.mem_of_getElem? (i := 13) rfl))) hce hcv hcl ?_
    refine lv_astore_n (lv' := [(2, .ref q8), (0, .ref (a 0)), (1, .int v1)]) hx hb dL_join_6 rfl hl (by decide) rfl (fun ls hl => ?_)
    refine lv_bipush (v := (-3 : Int32)) hx hb dL_join_7 (by decide) ?_
    refine W.widen (k := 1) (n := 6) (Nat.le_refl _) (Nat.le_refl _) ?_
    exact W.iret (v := (-3 : Int32)) hx hb hr (fun t ht hW => ⟨⟨(-3 : Int32), (Y, YZ), rfl, ⟨rfl, rfl⟩, q7, by rw [ht]; exact hP, va_K.moved hW.alike hK, hD⟩, hS.F ht⟩) hS.2.2 dL_join_9
  · obtain ⟨q7, hP1, -, hD1⟩ := hB
    rw [ht] at hP1
    have hEu : r' = rr ∧ u = (Y, YZ) := by
      rcases hres0 with ⟨z1, z2⟩ | z1
      · rw [z1] at hw; exact nomatch hw
      · rw [z1] at hw
        obtain ⟨g1, g2⟩ := Prod.mk.inj (Sum.inr.inj hw)
        exact ⟨g1.symm, g2.symm⟩
    obtain ⟨rfl, rfl⟩ := hEu
    have hP : va_P (dC, dI) vwCl (W_Full cI cS a q7 Y YZ) H := hP1
    have hD : va_D A (W_Full cI cS a q7 Y YZ) := hD1.weaken (fun _ _ _ h => hFc _ h)
    refine W.widen (k := 1) (n := 6) (Nat.le_refl _) (Nat.le_refl _) ?_
    exact W.iret (v := r') hx hb hr (fun t ht hW => ⟨⟨r', (Y, YZ), rfl, ⟨rfl, rfl⟩, q7, by rw [ht]; exact hP, va_K.moved hW.alike hK, hD⟩, hS.F ht⟩) hS.2.2 dL_join_5
theorem F_L_undo_c {S : S_LS} {Z : Nat → S_State} {rr : Int32} {Y : S_LS} (h : F_L_undo S Z = some (rr, Y)) : ∃ res, F_X4_undo S Z = some res ∧ ((res = .inl ("java/lang/IllegalStateException", Y) ∧ rr = -3) ∨ res = .inr (rr, Y)) := by
  unfold F_L_undo at h
  cases hx : F_X4_undo S Z with
  | none => rw [hx] at h; exact nomatch h
  | some res =>
    rw [hx] at h
    refine ⟨res, rfl, ?_⟩
    cases res with
    | inr r => exact Or.inr (congrArg Sum.inr (Option.some.inj h))
    | inl y =>
      obtain ⟨E, y⟩ := y
      have h : (if E = "java/lang/IllegalStateException" then some (-3, y) else none) = some (rr, Y) := h
      by_cases z : E = "java/lang/IllegalStateException"
      · rw [if_pos z] at h
        obtain ⟨h1, h2⟩ := Prod.mk.inj (Option.some.inj h)
        exact Or.inl ⟨by rw [z, ← h2], h1.symm⟩
      · rw [if_neg z] at h; exact nomatch h
set_option maxHeartbeats 4000000 in
set_option maxRecDepth 100000 in
theorem c_L_undo (l : Launch) (dC : Nat → ClassId) (dI : Nat → Nat → Nat) (cI cS : ClassId) (hl0 : l.stackTraces = false) (a : Nat → Nat) (q : Nat → Nat → Nat) (sz : Nat) (S : S_LS) (Z : Nat → S_State) (rr : Int32) (Y : S_LS) (hG : F_L_undo S Z = some (rr, Y)) : Met l yL_undo wsL_undo ({ frames := 7, cells := 1, slots := 6, locals := 150 } : Room) (va_Pc [.ref (a 0)] (jPreX (dC, dI) [(cI, .int), (cS, .object "LearnedShapes$State")] sz (W_Full cI cS a q S Z))) (va_Qi (fun (r' : Int32) (u : S_LS) => rr = r' ∧ Y = u) (fun (u : S_LS) (t : State) => ∃ q9 : Nat → Nat → Nat, jB (dC, dI) [(cI, .int), (cS, .object "LearnedShapes$State")] (va_A (W_Full cI cS a q S Z) sz) (W_Full cI cS a q9 u Z) t) (va_A (W_Full cI cS a q S Z) sz)) 1 6 (va_A (W_Full cI cS a q S Z) sz) := by
  obtain ⟨res, hF, hres0⟩ := F_L_undo_c hG
  refine met_ofWH (cc := cL_undo) (maxL := 2) (ret := (some .int)) (hh := [(0, 4, 5, 32)]) (by decide) rfl ?_
  intro p e s m args below meth c s₁ B hml hv
  obtain ⟨rfl, ⟨hsz, hP, hK, hD0, hN⟩, hU, hSN⟩ := hv
  have hx := B.exec
  have hb := B.bytes
  have hr := B.returns
  have hts := atoms_spec (ws := wsL_undo) B.pre
  have hown : s.vm.findClass RL = some m.cls := findClass_of_methodNamed B.named
  have htab := vx_table (x := yL_undo) B (hts _ List.mem_cons_self)
  subst hsz
  have hD := hD0.self (sz := s.heap.size)
  generalize hAe : (va_A (W_Full cI cS a q S Z) s.heap.size) = A at hD hU hSN ⊢
  have hA : ∀ q : Nat, s.heap.size ≤ q → A q := fun q h => by rw [← hAe]; exact Or.inr h
  have hS : va_S A s.heap s.heap [] := va_S.rf
  have hl := lv_entry ([.ref (a 0)]) (n := 2) (Nat.le_of_ble_eq_true rfl)
  rw [lg_entry_eq]
  generalize (lg_sl ([.ref (a 0)]) ++ List.replicate (2 - (lg_sl ([.ref (a 0)])).length) Slot.unset).toArray = ls at hl ⊢
  have hl : lv_has ls 2 [(0, .ref (a 0))] := hl
  refine lv_aload_n hx hb dL_undo_0 rfl (lv_at hl 0 rfl) ?_
  have hFc := jFreeW (ws := (W_Full cI cS a q S Z)) hD hS hA
  refine vx_calli (vx_runV (As := []) (rest := []) ⟨hx, hb, hml, hown, hts⟩ (c_X4_undo l dC dI cI hl0 cS a q s.heap.size S Z res hF) (cwV 0 hts gL_undo_X4_undo rfl rfl rfl (by decide +kernel) ⟨Nat.le_of_ble_eq_true rfl, Nat.le_of_ble_eq_true rfl⟩) (jPreVX (q := (RX4, TX4, 8)) (ci := 4) hK hP hD hN hU hSN hS hFc rfl rfl) rfl rfl hl.1 rfl (lv_room (Nat.le_of_ble_eq_true rfl)) dL_undo_1 ⟨Nat.le_of_ble_eq_true rfl, Nat.le_of_ble_eq_true rfl⟩) hS (fun q _ h => hFc q h) hFc (fun q _ h => hFc q h) (fun E ce q8 u t H locs ht hvm _ hB hz1 hk1 hS hce hcv hcl => ?_) (fun r' u t H locs ht hvm hw hB hz1 hk1 hS => ?_)
  · obtain ⟨hres, q7, hP1, -, hD1⟩ := hB
    rw [ht] at hP1
    have hEu : E = "java/lang/IllegalStateException" ∧ u = Y ∧ rr = -3 := by
      rcases hres0 with ⟨z1, z2⟩ | z1
      · rw [z1] at hres
        obtain ⟨g1, g2⟩ := Prod.mk.inj (Sum.inl.inj hres)
        exact ⟨g1.symm, g2.symm, z2⟩
      · rw [z1] at hres; exact nomatch hres
    obtain ⟨rfl, rfl, rfl⟩ := hEu
    have hP : va_P (dC, dI) vwCl (W_Full cI cS a q7 u Z) H := hP1
    have hD : va_D A (W_Full cI cS a q7 u Z) := hD1.weaken (fun _ _ _ h => hFc _ h)
    refine vx_catch (name := "java/lang/IllegalStateException") hown [] ⟨0, 4, 5, 32⟩ [] htab (fun z hz => nomatch hz) (by decide) (by decide) (hts (Cond.classLink RL 32 "java/lang/IllegalStateException") (List.mem_of_getElem? (i := 1) rfl)) (va_Nw.use rfl (hN.1 _ (List.mem_of_getElem? (i := 13) rfl))) hce hcv hcl ?_
    refine lv_astore_n (lv' := [(1, .ref q8), (0, .ref (a 0))]) hx hb dL_undo_5 rfl hl (by decide) rfl (fun ls hl => ?_)
    refine lv_bipush (v := (-3 : Int32)) hx hb dL_undo_6 (by decide) ?_
    refine W.widen (k := 1) (n := 6) (Nat.le_refl _) (Nat.le_refl _) ?_
    exact W.iret (v := (-3 : Int32)) hx hb hr (fun t ht hW => ⟨⟨(-3 : Int32), u, rfl, ⟨rfl, rfl⟩, q7, by rw [ht]; exact hP, va_K.moved hW.alike hK, hD⟩, hS.F ht⟩) hS.2.2 dL_undo_8
  · obtain ⟨q7, hP1, -, hD1⟩ := hB
    rw [ht] at hP1
    have hEu : r' = rr ∧ u = Y := by
      rcases hres0 with ⟨z1, z2⟩ | z1
      · rw [z1] at hw; exact nomatch hw
      · rw [z1] at hw
        obtain ⟨g1, g2⟩ := Prod.mk.inj (Sum.inr.inj hw)
        exact ⟨g1.symm, g2.symm⟩
    obtain ⟨rfl, rfl⟩ := hEu
    have hP : va_P (dC, dI) vwCl (W_Full cI cS a q7 u Z) H := hP1
    have hD : va_D A (W_Full cI cS a q7 u Z) := hD1.weaken (fun _ _ _ h => hFc _ h)
    refine W.widen (k := 1) (n := 6) (Nat.le_refl _) (Nat.le_refl _) ?_
    exact W.iret (v := r') hx hb hr (fun t ht hW => ⟨⟨r', u, rfl, ⟨rfl, rfl⟩, q7, by rw [ht]; exact hP, va_K.moved hW.alike hK, hD⟩, hS.F ht⟩) hS.2.2 dL_undo_4
