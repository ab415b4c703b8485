/-! ===== the law: its methods that catch ===== -/
theorem updL_at (f : Nat → Int64) (x : Int64) : vp_updL f 0 x 0 = x := if_pos rfl
theorem updD_at (f : Nat → UInt64) (x : UInt64) : vf_upd f 0 x 0 = x := if_pos rfl
set_option maxHeartbeats 4000000 in
set_option maxRecDepth 100000 in
theorem c_L_learn (l : Launch) (dC : Nat → ClassId) (dI : Nat → Nat → Nat) (cI cS cL : ClassId) (hl0 : l.stackTraces = false) (a : Nat → Nat) (q : Nat → Nat → Nat) (o sz : Nat) (f : Nat → Int64) (S : S_LS) (Z : Nat → S_State) (v1 : Int32) (res : Sum (String × (S_LS × (Nat → S_State))) (Int32 × S_LS × (Nat → S_State))) (rr : Int32) (hF : F_X4_learn S Z v1 = some res) (h1 : ∀ r0 y, res = .inr (r0, y) → rr = 0) (h2 : ∀ E y, res = .inl (E, y) → (E = "java/lang/IndexOutOfBoundsException" ∧ rr = 1) ∨ (E = "java/lang/IllegalArgumentException" ∧ rr = 2) ∨ (E = "java/lang/IllegalStateException" ∧ rr = 3)) : Met l yL_learn wsL_learn ({ frames := 7, cells := 1, slots := 6, locals := 186 } : Room) (va_Pc [.ref (a 0), .int v1, .ref o] (jPreX (dC, dI) [(cI, .int), (cS, .object "LearnedShapes$State"), (cL, .long)] sz (OL cL o f ++ W_Full cI cS a q S Z))) (va_Qi (fun (r' : Int32) (u : (S_LS × (Nat → S_State)) × (Nat → Int64)) => r' = rr ∧ ((∃ r0, res = .inr (r0, u.1) ∧ u.2 0 = r0.toInt64) ∨ ∃ E, res = .inl (E, u.1))) (fun (u : (S_LS × (Nat → S_State)) × (Nat → Int64)) (t : State) => ∃ q9 : Nat → Nat → Nat, jB (dC, dI) [(cI, .int), (cS, .object "LearnedShapes$State"), (cL, .long)] (va_A (OL cL o f ++ W_Full cI cS a q S Z) sz) (OL cL o u.2 ++ W_Full cI cS a q9 u.1.1 u.1.2) t) (va_A (OL cL o f ++ W_Full cI cS a q S Z) sz)) 1 6 (va_A (OL cL o f ++ W_Full cI cS a q S Z) sz) := by
  refine met_ofWH (cc := cL_learn) (maxL := 4) (ret := (some .int)) (hh := [(0, 9, 12, 13), (0, 9, 15, 15), (0, 9, 18, 17)]) (by decide) rfl ?_
  intro p e s m args below meth c s₁ B hml hv
  obtain ⟨rfl, ⟨hsz, hP, hK, hD0, hN⟩, hU, hSN⟩ := hv
  have hx := B.exec
  have hb := B.bytes
  have hr := B.returns
  have hts := atoms_spec (ws := wsL_learn) B.pre
  have hown : s.vm.findClass RL = some m.cls := findClass_of_methodNamed B.named
  have htab := vx_table (x := yL_learn) B (hts _ List.mem_cons_self)
  subst hsz
  have hD := hD0.self (sz := s.heap.size)
  generalize hAe : (va_A (OL cL o f ++ W_Full cI cS a q S Z) s.heap.size) = A at hD hU hSN ⊢
  have hA : ∀ q : Nat, s.heap.size ≤ q → A q := fun q h => by rw [← hAe]; exact Or.inr h
  have hS : va_S A s.heap s.heap [] := va_S.rf
  have hl := lv_entry ([.ref (a 0), .int v1, .ref o]) (n := 4) (Nat.le_of_ble_eq_true rfl)
  rw [lg_entry_eq]
  generalize (lg_sl ([.ref (a 0), .int v1, .ref o]) ++ List.replicate (4 - (lg_sl ([.ref (a 0), .int v1, .ref o])).length) Slot.unset).toArray = ls at hl ⊢
  have hl : lv_has ls 4 [(0, .ref (a 0)), (1, .int v1), (2, .ref o)] := hl
  refine lv_aload_n hx hb dL_learn_0 rfl (lv_at hl 2 rfl) ?_
  refine lv_iconst (v := (0 : Int32)) hx hb dL_learn_1 (by decide) ?_
  refine lv_aload_n hx hb dL_learn_2 rfl (lv_at hl 0 rfl) ?_
  refine lv_iload_n hx hb dL_learn_3 rfl (lv_at hl 1 rfl) ?_
  have hPc := jLastP (wa := OL cL o f) (wc := W_Full cI cS a q S Z) hP
  have hDc := jLastD (wa := OL cL o f) (wc := W_Full cI cS a q S Z) hD
  have hFc := jFreeW (ws := W_Full cI cS a q S Z) hDc hS hA
  refine vx_calli (vx_runV (As := [.int v1]) (rest := [.int (0 : Int32), .ref o]) ⟨hx, hb, hml, hown, hts⟩ (c_X4_learn l dC dI cI hl0 cS a q s.heap.size S Z v1 res hF) (cwV 1 hts gL_learn_X4_learn rfl rfl rfl (by decide +kernel) ⟨Nat.le_of_ble_eq_true rfl, Nat.le_of_ble_eq_true rfl⟩) (jPreVX (q := (RX4, TX4, 8)) (ci := 4) (hK.sub [0, 1] rfl) hPc hDc hN hU hSN hS hFc rfl rfl) rfl rfl hl.1 rfl (lv_room (Nat.le_of_ble_eq_true rfl)) dL_learn_4 ⟨Nat.le_of_ble_eq_true rfl, Nat.le_of_ble_eq_true rfl⟩) hS (fun q _ h => hFc q h) hFc (fun q _ h => hFc q h) (fun E ce q8 u t H locs ht hvm _ hB hz1 hk1 hS hce hcv hcl => ?_) (fun r' u t H locs ht hvm hw hB hz1 hk1 hS => ?_)
  · obtain ⟨hres, q7, hP1, -, hD1⟩ := hB
    rw [ht] at hP1
    obtain ⟨hP, hD⟩ := jTail (wa := OL cL o f) (wc := W_Full cI cS a q S Z) (w1 := W_Full cI cS a q7 u.1 u.2) hP hD hk1 hFc hP1 hD1
    rcases h2 _ _ hres with ⟨rfl, hrr⟩ | ⟨rfl, hrr⟩ | ⟨rfl, hrr⟩
    · refine vx_catch (name := "java/lang/IndexOutOfBoundsException") hown [] ⟨0, 9, 12, 13⟩ [⟨0, 9, 15, 15⟩, ⟨0, 9, 18, 17⟩] htab (fun z hz => nomatch hz) (by decide) (by decide) (hts (Cond.classLink RL 13 "java/lang/IndexOutOfBoundsException") (List.mem_of_getElem? (i := 1) rfl)) (va_Nw.use rfl (hN.1 _ (List.mem_of_getElem? (i := 11) rfl))) hce hcv hcl ?_
      refine lv_astore_n (lv' := [(3, .ref q8), (0, .ref (a 0)), (1, .int v1), (2, .ref o)]) hx hb dL_learn_12 rfl hl (by decide) rfl (fun ls hl => ?_)
      refine lv_iconst (v := (1 : Int32)) hx hb dL_learn_13 (by decide) ?_
      refine W.widen (k := 1) (n := 6) (Nat.le_refl _) (Nat.le_refl _) ?_
      exact W.iret (v := (1 : Int32)) hx hb hr (fun t ht hW => ⟨⟨(1 : Int32), (u, f), rfl, ⟨hrr.symm, Or.inr ⟨_, hres⟩⟩, ⟨q7, by rw [ht]; exact hP, va_K.moved hW.alike hK, hD⟩⟩, hS.F ht⟩) hS.2.2 dL_learn_14
    · refine vx_catch (name := "java/lang/IllegalArgumentException") hown [⟨0, 9, 12, 13⟩] ⟨0, 9, 15, 15⟩ [⟨0, 9, 18, 17⟩] htab (fun z hz => by
          simp only [List.mem_cons, List.not_mem_nil, or_false] at hz
          rcases hz with rfl
          · exact Or.inr ⟨by decide, "java/lang/IndexOutOfBoundsException", hts (Cond.classLink RL 13 "java/lang/IndexOutOfBoundsException") (List.mem_of_getElem? (i := 1) rfl), hN.2.2 _ (List.mem_of_getElem? (i := 2) rfl)⟩) (by decide) (by decide) (hts (Cond.classLink RL 15 "java/lang/IllegalArgumentException") (List.mem_of_getElem? (i := 2) rfl)) (va_Nw.use rfl (hN.1 _ (List.mem_of_getElem? (i := 12) rfl))) hce hcv hcl ?_
      refine lv_astore_n (lv' := [(3, .ref q8), (0, .ref (a 0)), (1, .int v1), (2, .ref o)]) hx hb dL_learn_15 rfl hl (by decide) rfl (fun ls hl => ?_)
      refine lv_iconst (v := (2 : Int32)) hx hb dL_learn_16 (by decide) ?_
      refine W.widen (k := 1) (n := 6) (Nat.le_refl _) (Nat.le_refl _) ?_
      exact W.iret (v := (2 : Int32)) hx hb hr (fun t ht hW => ⟨⟨(2 : Int32), (u, f), rfl, ⟨hrr.symm, Or.inr ⟨_, hres⟩⟩, ⟨q7, by rw [ht]; exact hP, va_K.moved hW.alike hK, hD⟩⟩, hS.F ht⟩) hS.2.2 dL_learn_17
    · refine vx_catch (name := "java/lang/IllegalStateException") hown [⟨0, 9, 12, 13⟩, ⟨0, 9, 15, 15⟩] ⟨0, 9, 18, 17⟩ [] htab (fun z hz => by
          simp only [List.mem_cons, List.not_mem_nil, or_false] at hz
          rcases hz with rfl | rfl
          · exact Or.inr ⟨by decide, "java/lang/IndexOutOfBoundsException", hts (Cond.classLink RL 13 "java/lang/IndexOutOfBoundsException") (List.mem_of_getElem? (i := 1) rfl), hN.2.2 _ (List.mem_of_getElem? (i := 4) rfl)⟩
          · exact Or.inr ⟨by decide, "java/lang/IllegalArgumentException", hts (Cond.classLink RL 15 "java/lang/IllegalArgumentException") (List.mem_of_getElem? (i := 2) rfl), hN.2.2 _ (List.mem_of_getElem? (i := 5) rfl)⟩) (by decide) (by decide) (hts (Cond.classLink RL 17 "java/lang/IllegalStateException") (List.mem_of_getElem? (i := 3) rfl)) (va_Nw.use rfl (hN.1 _ (List.mem_of_getElem? (i := 13) rfl))) hce hcv hcl ?_
      refine lv_astore_n (lv' := [(3, .ref q8), (0, .ref (a 0)), (1, .int v1), (2, .ref o)]) hx hb dL_learn_18 rfl hl (by decide) rfl (fun ls hl => ?_)
      refine lv_iconst (v := (3 : Int32)) hx hb dL_learn_19 (by decide) ?_
      refine W.widen (k := 1) (n := 6) (Nat.le_refl _) (Nat.le_refl _) ?_
      exact W.iret (v := (3 : Int32)) hx hb hr (fun t ht hW => ⟨⟨(3 : Int32), (u, f), rfl, ⟨hrr.symm, Or.inr ⟨_, hres⟩⟩, ⟨q7, by rw [ht]; exact hP, va_K.moved hW.alike hK, hD⟩⟩, hS.F ht⟩) hS.2.2 dL_learn_20
  · obtain ⟨q7, hP1, -, hD1⟩ := hB
    rw [ht] at hP1
    obtain ⟨hP, hD⟩ := jTail (wa := OL cL o f) (wc := W_Full cI cS a q S Z) (w1 := W_Full cI cS a q7 u.1 u.2) hP hD hk1 hFc hP1 hD1
    refine lv_i2l (v := r'.toInt64) hx hb dL_learn_7 rfl ?_
    refine va_last (D := (dC, dI)) (n := 1) (f := f) hx hb hK hP hD hS 0 2 rfl rfl (inb_in (show inb 0 1 = true by decide)) dL_learn_8 (fun H locs hP hD hS => ?_)
    have hP : va_P (dC, dI) vwCl (OL cL o (vp_updL f 0 r'.toInt64) ++ W_Full cI cS a q7 u.1 u.2) H := hP
    have hD : va_D A (OL cL o (vp_updL f 0 r'.toInt64) ++ W_Full cI cS a q7 u.1 u.2) := hD
    refine lv_goto (tgt := 21) hx hb dL_learn_9 (by decide) ?_
    refine lv_iconst (v := (0 : Int32)) hx hb dL_learn_21 (by decide) ?_
    refine W.widen (k := 1) (n := 6) (Nat.le_refl _) (Nat.le_refl _) ?_
    exact W.iret (v := (0 : Int32)) hx hb hr (fun t ht hW => ⟨⟨(0 : Int32), (u, vp_updL f 0 r'.toInt64), rfl, ⟨(h1 _ _ hw).symm, Or.inl ⟨r', hw, updL_at f _⟩⟩, ⟨q7, by rw [ht]; exact hP, va_K.moved hW.alike hK, hD⟩⟩, hS.F ht⟩) hS.2.2 dL_learn_22
set_option maxHeartbeats 4000000 in
set_option maxRecDepth 100000 in
theorem c_L_join (l : Launch) (dC : Nat → ClassId) (dI : Nat → Nat → Nat) (cI cS cL : ClassId) (hl0 : l.stackTraces = false) (a : Nat → Nat) (q : Nat → Nat → Nat) (o sz : Nat) (f : Nat → Int64) (S : S_LS) (Z : Nat → S_State) (v1 : Int32) (res : Sum (String × (S_LS × (Nat → S_State))) (Int32 × S_LS × (Nat → S_State))) (rr : Int32) (hF : F_X4_join S Z v1 = some res) (h1 : ∀ r0 y, res = .inr (r0, y) → rr = 0) (h2 : ∀ E y, res = .inl (E, y) → (E = "java/lang/IndexOutOfBoundsException" ∧ rr = 1) ∨ (E = "java/lang/IllegalStateException" ∧ rr = 2)) : Met l yL_join wsL_join ({ frames := 14, cells := 1, slots := 6, locals := 420 } : Room) (va_Pc [.ref (a 0), .int v1, .ref o] (jPreX (dC, dI) [(cI, .int), (cS, .object "LearnedShapes$State"), (cL, .long)] sz (OL cL o f ++ W_Full cI cS a q S Z))) (va_Qi (fun (r' : Int32) (u : (S_LS × (Nat → S_State)) × (Nat → Int64)) => r' = rr ∧ ((∃ r0, res = .inr (r0, u.1) ∧ u.2 0 = r0.toInt64) ∨ ∃ E, res = .inl (E, u.1))) (fun (u : (S_LS × (Nat → S_State)) × (Nat → Int64)) (t : State) => ∃ q9 : Nat → Nat → Nat, jB (dC, dI) [(cI, .int), (cS, .object "LearnedShapes$State"), (cL, .long)] (va_A (OL cL o f ++ W_Full cI cS a q S Z) sz) (OL cL o u.2 ++ W_Full cI cS a q9 u.1.1 u.1.2) t) (va_A (OL cL o f ++ W_Full cI cS a q S Z) sz)) 1 6 (va_A (OL cL o f ++ W_Full cI cS a q S Z) sz) := by
  refine met_ofWH (cc := cL_join) (maxL := 4) (ret := (some .int)) (hh := [(0, 9, 12, 13), (0, 9, 15, 17)]) (by decide) rfl ?_
  intro p e s m args below meth c s₁ B hml hv
  obtain ⟨rfl, ⟨hsz, hP, hK, hD0, hN⟩, hU, hSN⟩ := hv
  have hx := B.exec
  have hb := B.bytes
  have hr := B.returns
  have hts := atoms_spec (ws := wsL_join) B.pre
  have hown : s.vm.findClass RL = some m.cls := findClass_of_methodNamed B.named
  have htab := vx_table (x := yL_join) B (hts _ List.mem_cons_self)
  subst hsz
  have hD := hD0.self (sz := s.heap.size)
  generalize hAe : (va_A (OL cL o f ++ W_Full cI cS a q S Z) s.heap.size) = A at hD hU hSN ⊢
  have hA : ∀ q : Nat, s.heap.size ≤ q → A q := fun q h => by rw [← hAe]; exact Or.inr h
  have hS : va_S A s.heap s.heap [] := va_S.rf
  have hl := lv_entry ([.ref (a 0), .int v1, .ref o]) (n := 4) (Nat.le_of_ble_eq_true rfl)
  rw [lg_entry_eq]
  generalize (lg_sl ([.ref (a 0), .int v1, .ref o]) ++ List.replicate (4 - (lg_sl ([.ref (a 0), .int v1, .ref o])).length) Slot.unset).toArray = ls at hl ⊢
  have hl : lv_has ls 4 [(0, .ref (a 0)), (1, .int v1), (2, .ref o)] := hl
  refine lv_aload_n hx hb dL_join_0 rfl (lv_at hl 2 rfl) ?_
  refine lv_iconst (v := (0 : Int32)) hx hb dL_join_1 (by decide) ?_
  refine lv_aload_n hx hb dL_join_2 rfl (lv_at hl 0 rfl) ?_
  refine lv_iload_n hx hb dL_join_3 rfl (lv_at hl 1 rfl) ?_
  have hPc := jLastP (wa := OL cL o f) (wc := W_Full cI cS a q S Z) hP
  have hDc := jLastD (wa := OL cL o f) (wc := W_Full cI cS a q S Z) hD
  have hFc := jFreeW (ws := W_Full cI cS a q S Z) hDc hS hA
  refine vx_calli (vx_runV (As := [.int v1]) (rest := [.int (0 : Int32), .ref o]) ⟨hx, hb, hml, hown, hts⟩ (c_X4_join l dC dI cI hl0 cS a q s.heap.size S Z v1 res hF) (cwV 1 hts gL_join_X4_join rfl rfl rfl (by decide +kernel) ⟨Nat.le_of_ble_eq_true rfl, Nat.le_of_ble_eq_true rfl⟩) (jPreVX (q := (RX4, TX4, 8)) (ci := 4) (hK.sub [0, 1] rfl) hPc hDc hN hU hSN hS hFc rfl rfl) rfl rfl hl.1 rfl (lv_room (Nat.le_of_ble_eq_true rfl)) dL_join_4 ⟨Nat.le_of_ble_eq_true rfl, Nat.le_of_ble_eq_true rfl⟩) hS (fun q _ h => hFc q h) hFc (fun q _ h => hFc q h) (fun E ce q8 u t H locs ht hvm _ hB hz1 hk1 hS hce hcv hcl => ?_) (fun r' u t H locs ht hvm hw hB hz1 hk1 hS => ?_)
  · obtain ⟨hres, q7, hP1, -, hD1⟩ := hB
    rw [ht] at hP1
    obtain ⟨hP, hD⟩ := jTail (wa := OL cL o f) (wc := W_Full cI cS a q S Z) (w1 := W_Full cI cS a q7 u.1 u.2) hP hD hk1 hFc hP1 hD1
    rcases h2 _ _ hres with ⟨rfl, hrr⟩ | ⟨rfl, hrr⟩
    · refine vx_catch (name := "java/lang/IndexOutOfBoundsException") hown [] ⟨0, 9, 12, 13⟩ [⟨0, 9, 15, 17⟩] htab (fun z hz => nomatch hz) (by decide) (by decide) (hts (Cond.classLink RL 13 "java/lang/IndexOutOfBoundsException") (List.mem_of_getElem? (i := 1) rfl)) (va_Nw.use rfl (hN.1 _ (List.mem_of_getElem? (i := 11) rfl))) hce hcv hcl ?_
      refine lv_astore_n (lv' := [(3, .ref q8), (0, .ref (a 0)), (1, .int v1), (2, .ref o)]) hx hb dL_join_12 rfl hl (by decide) rfl (fun ls hl => ?_)
      refine lv_iconst (v := (1 : Int32)) hx hb dL_join_13 (by decide) ?_
      refine W.widen (k := 1) (n := 6) (Nat.le_refl _) (Nat.le_refl _) ?_
      exact W.iret (v := (1 : Int32)) hx hb hr (fun t ht hW => ⟨⟨(1 : Int32), (u, f), rfl, ⟨hrr.symm, Or.inr ⟨_, hres⟩⟩, ⟨q7, by rw [ht]; exact hP, va_K.moved hW.alike hK, hD⟩⟩, hS.F ht⟩) hS.2.2 dL_join_14
    · refine vx_catch (name := "java/lang/IllegalStateException") hown [⟨0, 9, 12, 13⟩] ⟨0, 9, 15, 17⟩ [] htab (fun z hz => by
          simp only [List.mem_cons, List.not_mem_nil, or_false] at hz
          rcases hz with rfl
          · exact Or.inr ⟨by decide, "java/lang/IndexOutOfBoundsException", hts (Cond.classLink RL 13 "java/lang/IndexOutOfBoundsException") (List.mem_of_getElem? (i := 1) rfl), hN.2.2 _ (List.mem_of_getElem? (i := 4) rfl)⟩) (by decide) (by decide) (hts (Cond.classLink RL 17 "java/lang/IllegalStateException") (List.mem_of_getElem? (i := 2) rfl)) (va_Nw.use rfl (hN.1 _ (List.mem_of_getElem? (i := 13) rfl))) hce hcv hcl ?_
      refine lv_astore_n (lv' := [(3, .ref q8), (0, .ref (a 0)), (1, .int v1), (2, .ref o)]) hx hb dL_join_15 rfl hl (by decide) rfl (fun ls hl => ?_)
      refine lv_iconst (v := (2 : Int32)) hx hb dL_join_16 (by decide) ?_
      refine W.widen (k := 1) (n := 6) (Nat.le_refl _) (Nat.le_refl _) ?_
      exact W.iret (v := (2 : Int32)) hx hb hr (fun t ht hW => ⟨⟨(2 : Int32), (u, f), rfl, ⟨hrr.symm, Or.inr ⟨_, hres⟩⟩, ⟨q7, by rw [ht]; exact hP, va_K.moved hW.alike hK, hD⟩⟩, hS.F ht⟩) hS.2.2 dL_join_17
  · obtain ⟨q7, hP1, -, hD1⟩ := hB
    rw [ht] at hP1
    obtain ⟨hP, hD⟩ := jTail (wa := OL cL o f) (wc := W_Full cI cS a q S Z) (w1 := W_Full cI cS a q7 u.1 u.2) hP hD hk1 hFc hP1 hD1
    refine lv_i2l (v := r'.toInt64) hx hb dL_join_7 rfl ?_
    refine va_last (D := (dC, dI)) (n := 1) (f := f) hx hb hK hP hD hS 0 2 rfl rfl (inb_in (show inb 0 1 = true by decide)) dL_join_8 (fun H locs hP hD hS => ?_)
    have hP : va_P (dC, dI) vwCl (OL cL o (vp_updL f 0 r'.toInt64) ++ W_Full cI cS a q7 u.1 u.2) H := hP
    have hD : va_D A (OL cL o (vp_updL f 0 r'.toInt64) ++ W_Full cI cS a q7 u.1 u.2) := hD
    refine lv_goto (tgt := 18) hx hb dL_join_9 (by decide) ?_
    refine lv_iconst (v := (0 : Int32)) hx hb dL_join_18 (by decide) ?_
    refine W.widen (k := 1) (n := 6) (Nat.le_refl _) (Nat.le_refl _) ?_
    exact W.iret (v := (0 : Int32)) hx hb hr (fun t ht hW => ⟨⟨(0 : Int32), (u, vp_updL f 0 r'.toInt64), rfl, ⟨(h1 _ _ hw).symm, Or.inl ⟨r', hw, updL_at f _⟩⟩, ⟨q7, by rw [ht]; exact hP, va_K.moved hW.alike hK, hD⟩⟩, hS.F ht⟩) hS.2.2 dL_join_19
set_option maxHeartbeats 4000000 in
set_option maxRecDepth 100000 in
theorem c_L_forget (l : Launch) (dC : Nat → ClassId) (dI : Nat → Nat → Nat) (cI cS cL : ClassId) (hl0 : l.stackTraces = false) (a : Nat → Nat) (q : Nat → Nat → Nat) (o sz : Nat) (f : Nat → Int64) (S : S_LS) (Z : Nat → S_State) (v1 : Int32) (res : Sum (String × (S_LS × (Nat → S_State))) (Int32 × S_LS × (Nat → S_State))) (rr : Int32) (hF : F_X4_forget S Z v1 = some res) (h1 : ∀ r0 y, res = .inr (r0, y) → rr = 0) (h2 : ∀ E y, res = .inl (E, y) → (E = "java/lang/IndexOutOfBoundsException" ∧ rr = 1)) : Met l yL_forget wsL_forget ({ frames := 7, cells := 1, slots := 6, locals := 173 } : Room) (va_Pc [.ref (a 0), .int v1, .ref o] (jPreX (dC, dI) [(cI, .int), (cS, .object "LearnedShapes$State"), (cL, .long)] sz (OL cL o f ++ W_Full cI cS a q S Z))) (va_Qi (fun (r' : Int32) (u : (S_LS × (Nat → S_State)) × (Nat → Int64)) => r' = rr ∧ ((∃ r0, res = .inr (r0, u.1) ∧ u.2 0 = r0.toInt64) ∨ ∃ E, res = .inl (E, u.1))) (fun (u : (S_LS × (Nat → S_State)) × (Nat → Int64)) (t : State) => ∃ q9 : Nat → Nat → Nat, jB (dC, dI) [(cI, .int), (cS, .object "LearnedShapes$State"), (cL, .long)] (va_A (OL cL o f ++ W_Full cI cS a q S Z) sz) (OL cL o u.2 ++ W_Full cI cS a q9 u.1.1 u.1.2) t) (va_A (OL cL o f ++ W_Full cI cS a q S Z) sz)) 1 6 (va_A (OL cL o f ++ W_Full cI cS a q S Z) sz) := by
  refine met_ofWH (cc := cL_forget) (maxL := 4) (ret := (some .int)) (hh := [(0, 9, 12, 13)]) (by decide) rfl ?_
  intro p e s m args below meth c s₁ B hml hv
  obtain ⟨rfl, ⟨hsz, hP, hK, hD0, hN⟩, hU, hSN⟩ := hv
  have hx := B.exec
  have hb := B.bytes
  have hr := B.returns
  have hts := atoms_spec (ws := wsL_forget) B.pre
  have hown : s.vm.findClass RL = some m.cls := findClass_of_methodNamed B.named
  have htab := vx_table (x := yL_forget) B (hts _ List.mem_cons_self)
  subst hsz
  have hD := hD0.self (sz := s.heap.size)
  generalize hAe : (va_A (OL cL o f ++ W_Full cI cS a q S Z) s.heap.size) = A at hD hU hSN ⊢
  have hA : ∀ q : Nat, s.heap.size ≤ q → A q := fun q h => by rw [← hAe]; exact Or.inr h
  have hS : va_S A s.heap s.heap [] := va_S.rf
  have hl := lv_entry ([.ref (a 0), .int v1, .ref o]) (n := 4) (Nat.le_of_ble_eq_true rfl)
  rw [lg_entry_eq]
  generalize (lg_sl ([.ref (a 0), .int v1, .ref o]) ++ List.replicate (4 - (lg_sl ([.ref (a 0), .int v1, .ref o])).length) Slot.unset).toArray = ls at hl ⊢
  have hl : lv_has ls 4 [(0, .ref (a 0)), (1, .int v1), (2, .ref o)] := hl
  refine lv_aload_n hx hb dL_forget_0 rfl (lv_at hl 2 rfl) ?_
  refine lv_iconst (v := (0 : Int32)) hx hb dL_forget_1 (by decide) ?_
  refine lv_aload_n hx hb dL_forget_2 rfl (lv_at hl 0 rfl) ?_
  refine lv_iload_n hx hb dL_forget_3 rfl (lv_at hl 1 rfl) ?_
  have hPc := jLastP (wa := OL cL o f) (wc := W_Full cI cS a q S Z) hP
  have hDc := jLastD (wa := OL cL o f) (wc := W_Full cI cS a q S Z) hD
  have hFc := jFreeW (ws := W_Full cI cS a q S Z) hDc hS hA
  refine vx_calli (vx_runV (As := [.int v1]) (rest := [.int (0 : Int32), .ref o]) ⟨hx, hb, hml, hown, hts⟩ (c_X4_forget l dC dI cI hl0 cS a q s.heap.size S Z v1 res hF) (cwV 1 hts gL_forget_X4_forget rfl rfl rfl (by decide +kernel) ⟨Nat.le_of_ble_eq_true rfl, Nat.le_of_ble_eq_true rfl⟩) (jPreVX (q := (RX4, TX4, 8)) (ci := 4) (hK.sub [0, 1] rfl) hPc hDc hN hU hSN hS hFc rfl rfl) rfl rfl hl.1 rfl (lv_room (Nat.le_of_ble_eq_true rfl)) dL_forget_4 ⟨Nat.le_of_ble_eq_true rfl, Nat.le_of_ble_eq_true rfl⟩) hS (fun q _ h => hFc q h) hFc (fun q _ h => hFc q h) (fun E ce q8 u t H locs ht hvm _ hB hz1 hk1 hS hce hcv hcl => ?_) (fun r' u t H locs ht hvm hw hB hz1 hk1 hS => ?_)
  · obtain ⟨hres, q7, hP1, -, hD1⟩ := hB
    rw [ht] at hP1
    obtain ⟨hP, hD⟩ := jTail (wa := OL cL o f) (wc := W_Full cI cS a q S Z) (w1 := W_Full cI cS a q7 u.1 u.2) hP hD hk1 hFc hP1 hD1
    rcases h2 _ _ hres with ⟨rfl, hrr⟩
    · refine vx_catch (name := "java/lang/IndexOutOfBoundsException") hown [] ⟨0, 9, 12, 13⟩ [] htab (fun z hz => nomatch hz) (by decide) (by decide) (hts (Cond.classLink RL 13 "java/lang/IndexOutOfBoundsException") (List.mem_of_getElem? (i := 1) rfl)) (va_Nw.use rfl (hN.1 _ (List.mem_of_getElem? (i := 11) rfl))) hce hcv hcl ?_
      refine lv_astore_n (lv' := [(3, .ref q8), (0, .ref (a 0)), (1, .int v1), (2, .ref o)]) hx hb dL_forget_12 rfl hl (by decide) rfl (fun ls hl => ?_)
      refine lv_iconst (v := (1 : Int32)) hx hb dL_forget_13 (by decide) ?_
      refine W.widen (k := 1) (n := 6) (Nat.le_refl _) (Nat.le_refl _) ?_
      exact W.iret (v := (1 : Int32)) hx hb hr (fun t ht hW => ⟨⟨(1 : Int32), (u, f), rfl, ⟨hrr.symm, Or.inr ⟨_, hres⟩⟩, ⟨q7, by rw [ht]; exact hP, va_K.moved hW.alike hK, hD⟩⟩, hS.F ht⟩) hS.2.2 dL_forget_14
  · obtain ⟨q7, hP1, -, hD1⟩ := hB
    rw [ht] at hP1
    obtain ⟨hP, hD⟩ := jTail (wa := OL cL o f) (wc := W_Full cI cS a q S Z) (w1 := W_Full cI cS a q7 u.1 u.2) hP hD hk1 hFc hP1 hD1
    refine lv_i2l (v := r'.toInt64) hx hb dL_forget_7 rfl ?_
    refine va_last (D := (dC, dI)) (n := 1) (f := f) hx hb hK hP hD hS 0 2 rfl rfl (inb_in (show inb 0 1 = true by decide)) dL_forget_8 (fun H locs hP hD hS => ?_)
    have hP : va_P (dC, dI) vwCl (OL cL o (vp_updL f 0 r'.toInt64) ++ W_Full cI cS a q7 u.1 u.2) H := hP
    have hD : va_D A (OL cL o (vp_updL f 0 r'.toInt64) ++ W_Full cI cS a q7 u.1 u.2) := hD
    refine lv_goto (tgt := 15) hx hb dL_forget_9 (by decide) ?_
    refine lv_iconst (v := (0 : Int32)) hx hb dL_forget_15 (by decide) ?_
    refine W.widen (k := 1) (n := 6) (Nat.le_refl _) (Nat.le_refl _) ?_
    exact W.iret (v := (0 : Int32)) hx hb hr (fun t ht hW => ⟨⟨(0 : Int32), (u, vp_updL f 0 r'.toInt64), rfl, ⟨(h1 _ _ hw).symm, Or.inl ⟨r', hw, updL_at f _⟩⟩, ⟨q7, by rw [ht]; exact hP, va_K.moved hW.alike hK, hD⟩⟩, hS.F ht⟩) hS.2.2 dL_forget_16
set_option maxHeartbeats 4000000 in
set_option maxRecDepth 100000 in
theorem c_L_set (l : Launch) (dC : Nat → ClassId) (dI : Nat → Nat → Nat) (cI cS cL : ClassId) (hl0 : l.stackTraces = false) (a : Nat → Nat) (q : Nat → Nat → Nat) (o sz : Nat) (f : Nat → Int64) (S : S_LS) (Z : Nat → S_State) (v1 : Int32) (res : Sum (String × (S_LS × (Nat → S_State))) (Int32 × S_LS × (Nat → S_State))) (rr : Int32) (hF : F_X4_set S Z v1 = some res) (h1 : ∀ r0 y, res = .inr (r0, y) → rr = 0) (h2 : ∀ E y, res = .inl (E, y) → (E = "java/lang/IllegalArgumentException" ∧ rr = 1)) : Met l yL_set wsL_set ({ frames := 7, cells := 1, slots := 6, locals := 172 } : Room) (va_Pc [.ref (a 0), .int v1, .ref o] (jPreX (dC, dI) [(cI, .int), (cS, .object "LearnedShapes$State"), (cL, .long)] sz (OL cL o f ++ W_Full cI cS a q S Z))) (va_Qi (fun (r' : Int32) (u : (S_LS × (Nat → S_State)) × (Nat → Int64)) => r' = rr ∧ ((∃ r0, res = .inr (r0, u.1) ∧ u.2 0 = r0.toInt64) ∨ ∃ E, res = .inl (E, u.1))) (fun (u : (S_LS × (Nat → S_State)) × (Nat → Int64)) (t : State) => ∃ q9 : Nat → Nat → Nat, jB (dC, dI) [(cI, .int), (cS, .object "LearnedShapes$State"), (cL, .long)] (va_A (OL cL o f ++ W_Full cI cS a q S Z) sz) (OL cL o u.2 ++ W_Full cI cS a q9 u.1.1 u.1.2) t) (va_A (OL cL o f ++ W_Full cI cS a q S Z) sz)) 1 6 (va_A (OL cL o f ++ W_Full cI cS a q S Z) sz) := by
  refine met_ofWH (cc := cL_set) (maxL := 4) (ret := (some .int)) (hh := [(0, 9, 12, 15)]) (by decide) rfl ?_
  intro p e s m args below meth c s₁ B hml hv
  obtain ⟨rfl, ⟨hsz, hP, hK, hD0, hN⟩, hU, hSN⟩ := hv
  have hx := B.exec
  have hb := B.bytes
  have hr := B.returns
  have hts := atoms_spec (ws := wsL_set) B.pre
  have hown : s.vm.findClass RL = some m.cls := findClass_of_methodNamed B.named
  have htab := vx_table (x := yL_set) B (hts _ List.mem_cons_self)
  subst hsz
  have hD := hD0.self (sz := s.heap.size)
  generalize hAe : (va_A (OL cL o f ++ W_Full cI cS a q S Z) s.heap.size) = A at hD hU hSN ⊢
  have hA : ∀ q : Nat, s.heap.size ≤ q → A q := fun q h => by rw [← hAe]; exact Or.inr h
  have hS : va_S A s.heap s.heap [] := va_S.rf
  have hl := lv_entry ([.ref (a 0), .int v1, .ref o]) (n := 4) (Nat.le_of_ble_eq_true rfl)
  rw [lg_entry_eq]
  generalize (lg_sl ([.ref (a 0), .int v1, .ref o]) ++ List.replicate (4 - (lg_sl ([.ref (a 0), .int v1, .ref o])).length) Slot.unset).toArray = ls at hl ⊢
  have hl : lv_has ls 4 [(0, .ref (a 0)), (1, .int v1), (2, .ref o)] := hl
  refine lv_aload_n hx hb dL_set_0 rfl (lv_at hl 2 rfl) ?_
  refine lv_iconst (v := (0 : Int32)) hx hb dL_set_1 (by decide) ?_
  refine lv_aload_n hx hb dL_set_2 rfl (lv_at hl 0 rfl) ?_
  refine lv_iload_n hx hb dL_set_3 rfl (lv_at hl 1 rfl) ?_
  have hPc := jLastP (wa := OL cL o f) (wc := W_Full cI cS a q S Z) hP
  have hDc := jLastD (wa := OL cL o f) (wc := W_Full cI cS a q S Z) hD
  have hFc := jFreeW (ws := W_Full cI cS a q S Z) hDc hS hA
  refine vx_calli (vx_runV (As := [.int v1]) (rest := [.int (0 : Int32), .ref o]) ⟨hx, hb, hml, hown, hts⟩ (c_X4_set l dC dI cI hl0 cS a q s.heap.size S Z v1 res hF) (cwV 1 hts gL_set_X4_set rfl rfl rfl (by decide +kernel) ⟨Nat.le_of_ble_eq_true rfl, Nat.le_of_ble_eq_true rfl⟩) (jPreVX (q := (RX4, TX4, 8)) (ci := 4) (hK.sub [0, 1] rfl) hPc hDc hN hU hSN hS hFc rfl rfl) rfl rfl hl.1 rfl (lv_room (Nat.le_of_ble_eq_true rfl)) dL_set_4 ⟨Nat.le_of_ble_eq_true rfl, Nat.le_of_ble_eq_true rfl⟩) hS (fun q _ h => hFc q h) hFc (fun q _ h => hFc q h) (fun E ce q8 u t H locs ht hvm _ hB hz1 hk1 hS hce hcv hcl => ?_) (fun r' u t H locs ht hvm hw hB hz1 hk1 hS => ?_)
  · obtain ⟨hres, q7, hP1, -, hD1⟩ := hB
    rw [ht] at hP1
    obtain ⟨hP, hD⟩ := jTail (wa := OL cL o f) (wc := W_Full cI cS a q S Z) (w1 := W_Full cI cS a q7 u.1 u.2) hP hD hk1 hFc hP1 hD1
    rcases h2 _ _ hres with ⟨rfl, hrr⟩
    · refine vx_catch (name := "java/lang/IllegalArgumentException") hown [] ⟨0, 9, 12, 15⟩ [] htab (fun z hz => nomatch hz) (by decide) (by decide) (hts (Cond.classLink RL 15 "java/lang/IllegalArgumentException") (List.mem_of_getElem? (i := 1) rfl)) (va_Nw.use rfl (hN.1 _ (List.mem_of_getElem? (i := 12) rfl))) hce hcv hcl ?_
      refine lv_astore_n (lv' := [(3, .ref q8), (0, .ref (a 0)), (1, .int v1), (2, .ref o)]) hx hb dL_set_12 rfl hl (by decide) rfl (fun ls hl => ?_)
      refine lv_iconst (v := (1 : Int32)) hx hb dL_set_13 (by decide) ?_
      refine W.widen (k := 1) (n := 6) (Nat.le_refl _) (Nat.le_refl _) ?_
      exact W.iret (v := (1 : Int32)) hx hb hr (fun t ht hW => ⟨⟨(1 : Int32), (u, f), rfl, ⟨hrr.symm, Or.inr ⟨_, hres⟩⟩, ⟨q7, by rw [ht]; exact hP, va_K.moved hW.alike hK, hD⟩⟩, hS.F ht⟩) hS.2.2 dL_set_14
  · obtain ⟨q7, hP1, -, hD1⟩ := hB
    rw [ht] at hP1
    obtain ⟨hP, hD⟩ := jTail (wa := OL cL o f) (wc := W_Full cI cS a q S Z) (w1 := W_Full cI cS a q7 u.1 u.2) hP hD hk1 hFc hP1 hD1
    refine lv_i2l (v := r'.toInt64) hx hb dL_set_7 rfl ?_
    refine va_last (D := (dC, dI)) (n := 1) (f := f) hx hb hK hP hD hS 0 2 rfl rfl (inb_in (show inb 0 1 = true by decide)) dL_set_8 (fun H locs hP hD hS => ?_)
    have hP : va_P (dC, dI) vwCl (OL cL o (vp_updL f 0 r'.toInt64) ++ W_Full cI cS a q7 u.1 u.2) H := hP
    have hD : va_D A (OL cL o (vp_updL f 0 r'.toInt64) ++ W_Full cI cS a q7 u.1 u.2) := hD
    refine lv_goto (tgt := 15) hx hb dL_set_9 (by decide) ?_
    refine lv_iconst (v := (0 : Int32)) hx hb dL_set_15 (by decide) ?_
    refine W.widen (k := 1) (n := 6) (Nat.le_refl _) (Nat.le_refl _) ?_
    exact W.iret (v := (0 : Int32)) hx hb hr (fun t ht hW => ⟨⟨(0 : Int32), (u, vp_updL f 0 r'.toInt64), rfl, ⟨(h1 _ _ hw).symm, Or.inl ⟨r', hw, updL_at f _⟩⟩, ⟨q7, by rw [ht]; exact hP, va_K.moved hW.alike hK, hD⟩⟩, hS.F ht⟩) hS.2.2 dL_set_16
set_option maxHeartbeats 4000000 in
set_option maxRecDepth 100000 in
theorem c_L_append (l : Launch) (dC : Nat → ClassId) (dI : Nat → Nat → Nat) (cI cL : ClassId) (hl0 : l.stackTraces = false) (a : Nat → Nat) (o sz : Nat) (f : Nat → Int64) (S : S_LS) (v1 : Int32) (res : Sum (String × S_LS) (Int32 × S_LS)) (rr : Int32) (hF : F_X4_append S v1 = some res) (h1 : ∀ r0 y, res = .inr (r0, y) → rr = 0) (h2 : ∀ E y, res = .inl (E, y) → (E = "java/lang/IllegalArgumentException" ∧ rr = 1) ∨ (E = "java/lang/IllegalStateException" ∧ rr = 2)) : Met l yL_append wsL_append ({ frames := 7, cells := 1, slots := 6, locals := 111 } : Room) (va_Pc [.ref (a 0), .int v1, .ref o] (jPreX (dC, dI) [(cI, .int), (cL, .long)] sz (OL cL o f ++ W_LS cI a S))) (va_Qi (fun (r' : Int32) (u : S_LS × (Nat → Int64)) => r' = rr ∧ ((∃ r0, res = .inr (r0, u.1) ∧ u.2 0 = r0.toInt64) ∨ ∃ E, res = .inl (E, u.1))) (fun (u : S_LS × (Nat → Int64)) (t : State) => jB (dC, dI) [(cI, .int), (cL, .long)] (va_A (OL cL o f ++ W_LS cI a S) sz) (OL cL o u.2 ++ W_LS cI a u.1) t) (va_A (OL cL o f ++ W_LS cI a S) sz)) 1 6 (va_A (OL cL o f ++ W_LS cI a S) sz) := by
  refine met_ofWH (cc := cL_append) (maxL := 4) (ret := (some .int)) (hh := [(0, 9, 12, 15), (0, 9, 15, 17)]) (by decide) rfl ?_
  intro p e s m args below meth c s₁ B hml hv
  obtain ⟨rfl, ⟨hsz, hP, hK, hD0, hN⟩, hU, hSN⟩ := hv
  have hx := B.exec
  have hb := B.bytes
  have hr := B.returns
  have hts := atoms_spec (ws := wsL_append) B.pre
  have hown : s.vm.findClass RL = some m.cls := findClass_of_methodNamed B.named
  have htab := vx_table (x := yL_append) B (hts _ List.mem_cons_self)
  subst hsz
  have hD := hD0.self (sz := s.heap.size)
  generalize hAe : (va_A (OL cL o f ++ W_LS cI a S) s.heap.size) = A at hD hU hSN ⊢
  have hA : ∀ q : Nat, s.heap.size ≤ q → A q := fun q h => by rw [← hAe]; exact Or.inr h
  have hS : va_S A s.heap s.heap [] := va_S.rf
  have hl := lv_entry ([.ref (a 0), .int v1, .ref o]) (n := 4) (Nat.le_of_ble_eq_true rfl)
  rw [lg_entry_eq]
  generalize (lg_sl ([.ref (a 0), .int v1, .ref o]) ++ List.replicate (4 - (lg_sl ([.ref (a 0), .int v1, .ref o])).length) Slot.unset).toArray = ls at hl ⊢
  have hl : lv_has ls 4 [(0, .ref (a 0)), (1, .int v1), (2, .ref o)] := hl
  refine lv_aload_n hx hb dL_append_0 rfl (lv_at hl 2 rfl) ?_
  refine lv_iconst (v := (0 : Int32)) hx hb dL_append_1 (by decide) ?_
  refine lv_aload_n hx hb dL_append_2 rfl (lv_at hl 0 rfl) ?_
  refine lv_iload_n hx hb dL_append_3 rfl (lv_at hl 1 rfl) ?_
  have hPc := jLastP (wa := OL cL o f) (wc := W_LS cI a S) hP
  have hDc := jLastD (wa := OL cL o f) (wc := W_LS cI a S) hD
  have hFc := jFreeW (ws := W_LS cI a S) hDc hS hA
  refine vx_calli (vx_runV (As := [.int v1]) (rest := [.int (0 : Int32), .ref o]) ⟨hx, hb, hml, hown, hts⟩ (c_X4_append l dC dI cI hl0 a s.heap.size S v1 res hF) (cwV 1 hts gL_append_X4_append rfl rfl rfl (by decide +kernel) ⟨Nat.le_of_ble_eq_true rfl, Nat.le_of_ble_eq_true rfl⟩) (jPreVX (q := (RX4, TX4, 8)) (ci := 4) (hK.sub [0] rfl) hPc hDc hN hU hSN hS hFc rfl rfl) rfl rfl hl.1 rfl (lv_room (Nat.le_of_ble_eq_true rfl)) dL_append_4 ⟨Nat.le_of_ble_eq_true rfl, Nat.le_of_ble_eq_true rfl⟩) hS (fun q _ h => hFc q h) hFc (fun q _ h => hFc q h) (fun E ce q8 u t H locs ht hvm _ hB hz1 hk1 hS hce hcv hcl => ?_) (fun r' u t H locs ht hvm hw hB hz1 hk1 hS => ?_)
  · obtain ⟨hres, hP1, -, hD1⟩ := hB
    rw [ht] at hP1
    obtain ⟨hP, hD⟩ := jTail (wa := OL cL o f) (wc := W_LS cI a S) (w1 := W_LS cI a u) hP hD hk1 hFc hP1 hD1
    rcases h2 _ _ hres with ⟨rfl, hrr⟩ | ⟨rfl, hrr⟩
    · refine vx_catch (name := "java/lang/IllegalArgumentException") hown [] ⟨0, 9, 12, 15⟩ [⟨0, 9, 15, 17⟩] htab (fun z hz => nomatch hz) (by decide) (by decide) (hts (Cond.classLink RL 15 "java/lang/IllegalArgumentException") (List.mem_of_getElem? (i := 1) rfl)) (va_Nw.use rfl (hN.1 _ (List.mem_of_getElem? (i := 12) rfl))) hce hcv hcl ?_
      refine lv_astore_n (lv' := [(3, .ref q8), (0, .ref (a 0)), (1, .int v1), (2, .ref o)]) hx hb dL_append_12 rfl hl (by decide) rfl (fun ls hl => ?_)
      refine lv_iconst (v := (1 : Int32)) hx hb dL_append_13 (by decide) ?_
      refine W.widen (k := 1) (n := 6) (Nat.le_refl _) (Nat.le_refl _) ?_
      exact W.iret (v := (1 : Int32)) hx hb hr (fun t ht hW => ⟨⟨(1 : Int32), (u, f), rfl, ⟨hrr.symm, Or.inr ⟨_, hres⟩⟩, ⟨by rw [ht]; exact hP, va_K.moved hW.alike hK, hD⟩⟩, hS.F ht⟩) hS.2.2 dL_append_14
    · refine vx_catch (name := "java/lang/IllegalStateException") hown [⟨0, 9, 12, 15⟩] ⟨0, 9, 15, 17⟩ [] htab (fun z hz => by
          simp only [List.mem_cons, List.not_mem_nil, or_false] at hz
          rcases hz with rfl
          · exact Or.inr ⟨by decide, "java/lang/IllegalArgumentException", hts (Cond.classLink RL 15 "java/lang/IllegalArgumentException") (List.mem_of_getElem? (i := 1) rfl), hN.2.2 _ (List.mem_of_getElem? (i := 5) rfl)⟩) (by decide) (by decide) (hts (Cond.classLink RL 17 "java/lang/IllegalStateException") (List.mem_of_getElem? (i := 2) rfl)) (va_Nw.use rfl (hN.1 _ (List.mem_of_getElem? (i := 13) rfl))) hce hcv hcl ?_
      refine lv_astore_n (lv' := [(3, .ref q8), (0, .ref (a 0)), (1, .int v1), (2, .ref o)]) hx hb dL_append_15 rfl hl (by decide) rfl (fun ls hl => ?_)
      refine lv_iconst (v := (2 : Int32)) hx hb dL_append_16 (by decide) ?_
      refine W.widen (k := 1) (n := 6) (Nat.le_refl _) (Nat.le_refl _) ?_
      exact W.iret (v := (2 : Int32)) hx hb hr (fun t ht hW => ⟨⟨(2 : Int32), (u, f), rfl, ⟨hrr.symm, Or.inr ⟨_, hres⟩⟩, ⟨by rw [ht]; exact hP, va_K.moved hW.alike hK, hD⟩⟩, hS.F ht⟩) hS.2.2 dL_append_17
  · obtain ⟨hP1, -, hD1⟩ := hB
    rw [ht] at hP1
    obtain ⟨hP, hD⟩ := jTail (wa := OL cL o f) (wc := W_LS cI a S) (w1 := W_LS cI a u) hP hD hk1 hFc hP1 hD1
    refine lv_i2l (v := r'.toInt64) hx hb dL_append_7 rfl ?_
    refine va_last (D := (dC, dI)) (n := 1) (f := f) hx hb hK hP hD hS 0 1 rfl rfl (inb_in (show inb 0 1 = true by decide)) dL_append_8 (fun H locs hP hD hS => ?_)
    have hP : va_P (dC, dI) vwCl (OL cL o (vp_updL f 0 r'.toInt64) ++ W_LS cI a u) H := hP
    have hD : va_D A (OL cL o (vp_updL f 0 r'.toInt64) ++ W_LS cI a u) := hD
    refine lv_goto (tgt := 18) hx hb dL_append_9 (by decide) ?_
    refine lv_iconst (v := (0 : Int32)) hx hb dL_append_18 (by decide) ?_
    refine W.widen (k := 1) (n := 6) (Nat.le_refl _) (Nat.le_refl _) ?_
    exact W.iret (v := (0 : Int32)) hx hb hr (fun t ht hW => ⟨⟨(0 : Int32), (u, vp_updL f 0 r'.toInt64), rfl, ⟨(h1 _ _ hw).symm, Or.inl ⟨r', hw, updL_at f _⟩⟩, ⟨by rw [ht]; exact hP, va_K.moved hW.alike hK, hD⟩⟩, hS.F ht⟩) hS.2.2 dL_append_19
set_option maxHeartbeats 4000000 in
set_option maxRecDepth 100000 in
theorem c_L_undo (l : Launch) (dC : Nat → ClassId) (dI : Nat → Nat → Nat) (cI cS cL : ClassId) (hl0 : l.stackTraces = false) (a : Nat → Nat) (q : Nat → Nat → Nat) (o sz : Nat) (f : Nat → Int64) (S : S_LS) (Z : Nat → S_State) (res : Sum (String × S_LS) (Int32 × S_LS)) (rr : Int32) (hF : F_X4_undo S Z = some res) (h1 : ∀ r0 y, res = .inr (r0, y) → rr = 0) (h2 : ∀ E y, res = .inl (E, y) → (E = "java/lang/IllegalStateException" ∧ rr = 1)) : Met l yL_undo wsL_undo ({ frames := 7, cells := 1, slots := 6, locals := 150 } : Room) (va_Pc [.ref (a 0), .ref o] (jPreX (dC, dI) [(cI, .int), (cS, .object "LearnedShapes$State"), (cL, .long)] sz (OL cL o f ++ W_Full cI cS a q S Z))) (va_Qi (fun (r' : Int32) (u : S_LS × (Nat → Int64)) => r' = rr ∧ ((∃ r0, res = .inr (r0, u.1) ∧ u.2 0 = r0.toInt64) ∨ ∃ E, res = .inl (E, u.1))) (fun (u : S_LS × (Nat → Int64)) (t : State) => ∃ q9 : Nat → Nat → Nat, jB (dC, dI) [(cI, .int), (cS, .object "LearnedShapes$State"), (cL, .long)] (va_A (OL cL o f ++ W_Full cI cS a q S Z) sz) (OL cL o u.2 ++ W_Full cI cS a q9 u.1 Z) t) (va_A (OL cL o f ++ W_Full cI cS a q S Z) sz)) 1 6 (va_A (OL cL o f ++ W_Full cI cS a q S Z) sz) := by
  refine met_ofWH (cc := cL_undo) (maxL := 3) (ret := (some .int)) (hh := [(0, 8, 11, 17)]) (by decide) rfl ?_
  intro p e s m args below meth c s₁ B hml hv
  obtain ⟨rfl, ⟨hsz, hP, hK, hD0, hN⟩, hU, hSN⟩ := hv
  have hx := B.exec
  have hb := B.bytes
  have hr := B.returns
  have hts := atoms_spec (ws := wsL_undo) B.pre
  have hown : s.vm.findClass RL = some m.cls := findClass_of_methodNamed B.named
  have htab := vx_table (x := yL_undo) B (hts _ List.mem_cons_self)
  subst hsz
  have hD := hD0.self (sz := s.heap.size)
  generalize hAe : (va_A (OL cL o f ++ W_Full cI cS a q S Z) s.heap.size) = A at hD hU hSN ⊢
  have hA : ∀ q : Nat, s.heap.size ≤ q → A q := fun q h => by rw [← hAe]; exact Or.inr h
  have hS : va_S A s.heap s.heap [] := va_S.rf
  have hl := lv_entry ([.ref (a 0), .ref o]) (n := 3) (Nat.le_of_ble_eq_true rfl)
  rw [lg_entry_eq]
  generalize (lg_sl ([.ref (a 0), .ref o]) ++ List.replicate (3 - (lg_sl ([.ref (a 0), .ref o])).length) Slot.unset).toArray = ls at hl ⊢
  have hl : lv_has ls 3 [(0, .ref (a 0)), (1, .ref o)] := hl
  refine lv_aload_n hx hb dL_undo_0 rfl (lv_at hl 1 rfl) ?_
  refine lv_iconst (v := (0 : Int32)) hx hb dL_undo_1 (by decide) ?_
  refine lv_aload_n hx hb dL_undo_2 rfl (lv_at hl 0 rfl) ?_
  have hPc := jLastP (wa := OL cL o f) (wc := W_Full cI cS a q S Z) hP
  have hDc := jLastD (wa := OL cL o f) (wc := W_Full cI cS a q S Z) hD
  have hFc := jFreeW (ws := W_Full cI cS a q S Z) hDc hS hA
  refine vx_calli (vx_runV (As := []) (rest := [.int (0 : Int32), .ref o]) ⟨hx, hb, hml, hown, hts⟩ (c_X4_undo l dC dI cI hl0 cS a q s.heap.size S Z res hF) (cwV 0 hts gL_undo_X4_undo rfl rfl rfl (by decide +kernel) ⟨Nat.le_of_ble_eq_true rfl, Nat.le_of_ble_eq_true rfl⟩) (jPreVX (q := (RX4, TX4, 8)) (ci := 4) (hK.sub [0, 1] rfl) hPc hDc hN hU hSN hS hFc rfl rfl) rfl rfl hl.1 rfl (lv_room (Nat.le_of_ble_eq_true rfl)) dL_undo_3 ⟨Nat.le_of_ble_eq_true rfl, Nat.le_of_ble_eq_true rfl⟩) hS (fun q _ h => hFc q h) hFc (fun q _ h => hFc q h) (fun E ce q8 u t H locs ht hvm _ hB hz1 hk1 hS hce hcv hcl => ?_) (fun r' u t H locs ht hvm hw hB hz1 hk1 hS => ?_)
  · obtain ⟨hres, q7, hP1, -, hD1⟩ := hB
    rw [ht] at hP1
    obtain ⟨hP, hD⟩ := jTail (wa := OL cL o f) (wc := W_Full cI cS a q S Z) (w1 := W_Full cI cS a q7 u Z) hP hD hk1 hFc hP1 hD1
    rcases h2 _ _ hres with ⟨rfl, hrr⟩
    · refine vx_catch (name := "java/lang/IllegalStateException") hown [] ⟨0, 8, 11, 17⟩ [] htab (fun z hz => nomatch hz) (by decide) (by decide) (hts (Cond.classLink RL 17 "java/lang/IllegalStateException") (List.mem_of_getElem? (i := 1) rfl)) (va_Nw.use rfl (hN.1 _ (List.mem_of_getElem? (i := 13) rfl))) hce hcv hcl ?_
      refine lv_astore_n (lv' := [(2, .ref q8), (0, .ref (a 0)), (1, .ref o)]) hx hb dL_undo_11 rfl hl (by decide) rfl (fun ls hl => ?_)
      refine lv_iconst (v := (1 : Int32)) hx hb dL_undo_12 (by decide) ?_
      refine W.widen (k := 1) (n := 6) (Nat.le_refl _) (Nat.le_refl _) ?_
      exact W.iret (v := (1 : Int32)) hx hb hr (fun t ht hW => ⟨⟨(1 : Int32), (u, f), rfl, ⟨hrr.symm, Or.inr ⟨_, hres⟩⟩, ⟨q7, by rw [ht]; exact hP, va_K.moved hW.alike hK, hD⟩⟩, hS.F ht⟩) hS.2.2 dL_undo_13
  · obtain ⟨q7, hP1, -, hD1⟩ := hB
    rw [ht] at hP1
    obtain ⟨hP, hD⟩ := jTail (wa := OL cL o f) (wc := W_Full cI cS a q S Z) (w1 := W_Full cI cS a q7 u Z) hP hD hk1 hFc hP1 hD1
    refine lv_i2l (v := r'.toInt64) hx hb dL_undo_6 rfl ?_
    refine va_last (D := (dC, dI)) (n := 1) (f := f) hx hb hK hP hD hS 0 2 rfl rfl (inb_in (show inb 0 1 = true by decide)) dL_undo_7 (fun H locs hP hD hS => ?_)
    have hP : va_P (dC, dI) vwCl (OL cL o (vp_updL f 0 r'.toInt64) ++ W_Full cI cS a q7 u Z) H := hP
    have hD : va_D A (OL cL o (vp_updL f 0 r'.toInt64) ++ W_Full cI cS a q7 u Z) := hD
    refine lv_goto (tgt := 14) hx hb dL_undo_8 (by decide) ?_
    refine lv_iconst (v := (0 : Int32)) hx hb dL_undo_14 (by decide) ?_
    refine W.widen (k := 1) (n := 6) (Nat.le_refl _) (Nat.le_refl _) ?_
    exact W.iret (v := (0 : Int32)) hx hb hr (fun t ht hW => ⟨⟨(0 : Int32), (u, vp_updL f 0 r'.toInt64), rfl, ⟨(h1 _ _ hw).symm, Or.inl ⟨r', hw, updL_at f _⟩⟩, ⟨q7, by rw [ht]; exact hP, va_K.moved hW.alike hK, hD⟩⟩, hS.F ht⟩) hS.2.2 dL_undo_15
set_option maxHeartbeats 4000000 in
set_option maxRecDepth 100000 in
theorem c_L_node (l : Launch) (dC : Nat → ClassId) (dI : Nat → Nat → Nat) (cI cL : ClassId) (hl0 : l.stackTraces = false) (a : Nat → Nat) (o sz : Nat) (f : Nat → Int64) (S : S_LS) (v1 v2 v3 : Int32) (res : Sum (String × Unit) Int32) (rr : Int32) (hF : F_X4_node S v1 v2 v3 = some res) (h1 : ∀ r0, res = .inr r0 → rr = 0) (h2 : ∀ E y, res = .inl (E, y) → (E = "java/lang/IndexOutOfBoundsException" ∧ rr = 1) ∨ (E = "java/lang/IllegalArgumentException" ∧ rr = 2)) : Met l yL_node wsL_node ({ frames := 7, cells := 1, slots := 6, locals := 117 } : Room) (va_Pc [.ref (a 0), .int v1, .int v2, .int v3, .ref o] (jPreX (dC, dI) [(cI, .int), (cL, .long)] sz (OL cL o f ++ W_LS cI a S))) (va_Qi (fun (r' : Int32) (u : Nat → Int64) => r' = rr ∧ ((∃ r0, res = .inr r0 ∧ u 0 = r0.toInt64) ∨ ∃ E, res = .inl (E, ()))) (fun (u : Nat → Int64) (t : State) => jB (dC, dI) [(cI, .int), (cL, .long)] (va_A (OL cL o f ++ W_LS cI a S) sz) (OL cL o u ++ W_LS cI a S) t) (va_A (OL cL o f ++ W_LS cI a S) sz)) 1 6 (va_A (OL cL o f ++ W_LS cI a S) sz) := by
  refine met_ofWH (cc := cL_node) (maxL := 6) (ret := (some .int)) (hh := [(0, 12, 15, 13), (0, 12, 19, 15)]) (by decide) rfl ?_
  intro p e s m args below meth c s₁ B hml hv
  obtain ⟨rfl, ⟨hsz, hP, hK, hD0, hN⟩, hU, hSN⟩ := hv
  have hx := B.exec
  have hb := B.bytes
  have hr := B.returns
  have hts := atoms_spec (ws := wsL_node) B.pre
  have hown : s.vm.findClass RL = some m.cls := findClass_of_methodNamed B.named
  have htab := vx_table (x := yL_node) B (hts _ List.mem_cons_self)
  subst hsz
  have hD := hD0.self (sz := s.heap.size)
  generalize hAe : (va_A (OL cL o f ++ W_LS cI a S) s.heap.size) = A at hD hU hSN ⊢
  have hA : ∀ q : Nat, s.heap.size ≤ q → A q := fun q h => by rw [← hAe]; exact Or.inr h
  have hS : va_S A s.heap s.heap [] := va_S.rf
  have hl := lv_entry ([.ref (a 0), .int v1, .int v2, .int v3, .ref o]) (n := 6) (Nat.le_of_ble_eq_true rfl)
  rw [lg_entry_eq]
  generalize (lg_sl ([.ref (a 0), .int v1, .int v2, .int v3, .ref o]) ++ List.replicate (6 - (lg_sl ([.ref (a 0), .int v1, .int v2, .int v3, .ref o])).length) Slot.unset).toArray = ls at hl ⊢
  have hl : lv_has ls 6 [(0, .ref (a 0)), (1, .int v1), (2, .int v2), (3, .int v3), (4, .ref o)] := hl
  refine lv_aload hx hb dL_node_0 (lv_at hl 4 rfl) ?_
  refine lv_iconst (v := (0 : Int32)) hx hb dL_node_2 (by decide) ?_
  refine lv_aload_n hx hb dL_node_3 rfl (lv_at hl 0 rfl) ?_
  refine lv_iload_n hx hb dL_node_4 rfl (lv_at hl 1 rfl) ?_
  refine lv_iload_n hx hb dL_node_5 rfl (lv_at hl 2 rfl) ?_
  refine lv_iload_n hx hb dL_node_6 rfl (lv_at hl 3 rfl) ?_
  have hPc := jLastP (wa := OL cL o f) (wc := W_LS cI a S) hP
  have hDc := jLastD (wa := OL cL o f) (wc := W_LS cI a S) hD
  have hFc := jFreeW (ws := W_LS cI a S) hDc hS hA
  refine vx_calli (vx_runV (As := [.int v1, .int v2, .int v3]) (rest := [.int (0 : Int32), .ref o]) ⟨hx, hb, hml, hown, hts⟩ (c_X4_node l dC dI cI hl0 a s.heap.size S v1 v2 v3 res hF) (cwV 3 hts gL_node_X4_node rfl rfl rfl (by decide +kernel) ⟨Nat.le_of_ble_eq_true rfl, Nat.le_of_ble_eq_true rfl⟩) (jPreVX (q := (RX4, TX4, 8)) (ci := 4) (hK.sub [0] rfl) hPc hDc hN hU hSN hS hFc rfl rfl) rfl rfl hl.1 rfl (lv_room (Nat.le_of_ble_eq_true rfl)) dL_node_7 ⟨Nat.le_of_ble_eq_true rfl, Nat.le_of_ble_eq_true rfl⟩) hS (fun q _ h => hFc q h) hFc (fun q _ h => hFc q h) (fun E ce q8 u t H locs ht hvm _ hB hz1 hk1 hS hce hcv hcl => ?_) (fun r' u t H locs ht hvm hw hB hz1 hk1 hS => ?_)
  · obtain ⟨hres, hP1, -, hD1⟩ := hB
    rw [ht] at hP1
    obtain ⟨hP, hD⟩ := jTail (wa := OL cL o f) (wc := W_LS cI a S) (w1 := W_LS cI a S) hP hD hk1 hFc hP1 hD1
    rcases h2 _ _ hres with ⟨rfl, hrr⟩ | ⟨rfl, hrr⟩
    · refine vx_catch (name := "java/lang/IndexOutOfBoundsException") hown [] ⟨0, 12, 15, 13⟩ [⟨0, 12, 19, 15⟩] htab (fun z hz => nomatch hz) (by decide) (by decide) (hts (Cond.classLink RL 13 "java/lang/IndexOutOfBoundsException") (List.mem_of_getElem? (i := 1) rfl)) (va_Nw.use rfl (hN.1 _ (List.mem_of_getElem? (i := 11) rfl))) hce hcv hcl ?_
      refine lv_astore (lv' := [(5, .ref q8), (0, .ref (a 0)), (1, .int v1), (2, .int v2), (3, .int v3), (4, .ref o)]) hx hb dL_node_15 hl (by decide) rfl (fun ls hl => ?_)
      refine lv_iconst (v := (1 : Int32)) hx hb dL_node_17 (by decide) ?_
      refine W.widen (k := 1) (n := 6) (Nat.le_refl _) (Nat.le_refl _) ?_
      exact W.iret (v := (1 : Int32)) hx hb hr (fun t ht hW => ⟨⟨(1 : Int32), f, rfl, ⟨hrr.symm, Or.inr ⟨_, hres⟩⟩, ⟨by rw [ht]; exact hP, va_K.moved hW.alike hK, hD⟩⟩, hS.F ht⟩) hS.2.2 dL_node_18
    · refine vx_catch (name := "java/lang/IllegalArgumentException") hown [⟨0, 12, 15, 13⟩] ⟨0, 12, 19, 15⟩ [] htab (fun z hz => by
          simp only [List.mem_cons, List.not_mem_nil, or_false] at hz
          rcases hz with rfl
          · exact Or.inr ⟨by decide, "java/lang/IndexOutOfBoundsException", hts (Cond.classLink RL 13 "java/lang/IndexOutOfBoundsException") (List.mem_of_getElem? (i := 1) rfl), hN.2.2 _ (List.mem_of_getElem? (i := 2) rfl)⟩) (by decide) (by decide) (hts (Cond.classLink RL 15 "java/lang/IllegalArgumentException") (List.mem_of_getElem? (i := 2) rfl)) (va_Nw.use rfl (hN.1 _ (List.mem_of_getElem? (i := 12) rfl))) hce hcv hcl ?_
      refine lv_astore (lv' := [(5, .ref q8), (0, .ref (a 0)), (1, .int v1), (2, .int v2), (3, .int v3), (4, .ref o)]) hx hb dL_node_19 hl (by decide) rfl (fun ls hl => ?_)
      refine lv_iconst (v := (2 : Int32)) hx hb dL_node_21 (by decide) ?_
      refine W.widen (k := 1) (n := 6) (Nat.le_refl _) (Nat.le_refl _) ?_
      exact W.iret (v := (2 : Int32)) hx hb hr (fun t ht hW => ⟨⟨(2 : Int32), f, rfl, ⟨hrr.symm, Or.inr ⟨_, hres⟩⟩, ⟨by rw [ht]; exact hP, va_K.moved hW.alike hK, hD⟩⟩, hS.F ht⟩) hS.2.2 dL_node_22
  · obtain ⟨hP1, -, hD1⟩ := hB
    rw [ht] at hP1
    obtain ⟨hP, hD⟩ := jTail (wa := OL cL o f) (wc := W_LS cI a S) (w1 := W_LS cI a S) hP hD hk1 hFc hP1 hD1
    refine lv_i2l (v := r'.toInt64) hx hb dL_node_10 rfl ?_
    refine va_last (D := (dC, dI)) (n := 1) (f := f) hx hb hK hP hD hS 0 1 rfl rfl (inb_in (show inb 0 1 = true by decide)) dL_node_11 (fun H locs hP hD hS => ?_)
    have hP : va_P (dC, dI) vwCl (OL cL o (vp_updL f 0 r'.toInt64) ++ W_LS cI a S) H := hP
    have hD : va_D A (OL cL o (vp_updL f 0 r'.toInt64) ++ W_LS cI a S) := hD
    refine lv_goto (tgt := 23) hx hb dL_node_12 (by decide) ?_
    refine lv_iconst (v := (0 : Int32)) hx hb dL_node_23 (by decide) ?_
    refine W.widen (k := 1) (n := 6) (Nat.le_refl _) (Nat.le_refl _) ?_
    exact W.iret (v := (0 : Int32)) hx hb hr (fun t ht hW => ⟨⟨(0 : Int32), vp_updL f 0 r'.toInt64, rfl, ⟨(h1 _ hw).symm, Or.inl ⟨r', hw, updL_at f _⟩⟩, ⟨by rw [ht]; exact hP, va_K.moved hW.alike hK, hD⟩⟩, hS.F ht⟩) hS.2.2 dL_node_24
set_option maxHeartbeats 4000000 in
set_option maxRecDepth 100000 in
theorem c_L_child (l : Launch) (dC : Nat → ClassId) (dI : Nat → Nat → Nat) (cI cL : ClassId) (hl0 : l.stackTraces = false) (a : Nat → Nat) (o sz : Nat) (f : Nat → Int64) (S : S_LS) (v1 v2 v3 : Int32) (res : Sum (String × Unit) Int32) (rr : Int32) (hF : F_X4_child S v1 v2 v3 = some res) (h1 : ∀ r0, res = .inr r0 → rr = 0) (h2 : ∀ E y, res = .inl (E, y) → (E = "java/lang/IndexOutOfBoundsException" ∧ rr = 1) ∨ (E = "java/lang/IllegalArgumentException" ∧ rr = 2)) : Met l yL_child wsL_child ({ frames := 7, cells := 1, slots := 6, locals := 113 } : Room) (va_Pc [.ref (a 0), .int v1, .int v2, .int v3, .ref o] (jPreX (dC, dI) [(cI, .int), (cL, .long)] sz (OL cL o f ++ W_LS cI a S))) (va_Qi (fun (r' : Int32) (u : Nat → Int64) => r' = rr ∧ ((∃ r0, res = .inr r0 ∧ u 0 = r0.toInt64) ∨ ∃ E, res = .inl (E, ()))) (fun (u : Nat → Int64) (t : State) => jB (dC, dI) [(cI, .int), (cL, .long)] (va_A (OL cL o f ++ W_LS cI a S) sz) (OL cL o u ++ W_LS cI a S) t) (va_A (OL cL o f ++ W_LS cI a S) sz)) 1 6 (va_A (OL cL o f ++ W_LS cI a S) sz) := by
  refine met_ofWH (cc := cL_child) (maxL := 6) (ret := (some .int)) (hh := [(0, 12, 15, 13), (0, 12, 19, 15)]) (by decide) rfl ?_
  intro p e s m args below meth c s₁ B hml hv
  obtain ⟨rfl, ⟨hsz, hP, hK, hD0, hN⟩, hU, hSN⟩ := hv
  have hx := B.exec
  have hb := B.bytes
  have hr := B.returns
  have hts := atoms_spec (ws := wsL_child) B.pre
  have hown : s.vm.findClass RL = some m.cls := findClass_of_methodNamed B.named
  have htab := vx_table (x := yL_child) B (hts _ List.mem_cons_self)
  subst hsz
  have hD := hD0.self (sz := s.heap.size)
  generalize hAe : (va_A (OL cL o f ++ W_LS cI a S) s.heap.size) = A at hD hU hSN ⊢
  have hA : ∀ q : Nat, s.heap.size ≤ q → A q := fun q h => by rw [← hAe]; exact Or.inr h
  have hS : va_S A s.heap s.heap [] := va_S.rf
  have hl := lv_entry ([.ref (a 0), .int v1, .int v2, .int v3, .ref o]) (n := 6) (Nat.le_of_ble_eq_true rfl)
  rw [lg_entry_eq]
  generalize (lg_sl ([.ref (a 0), .int v1, .int v2, .int v3, .ref o]) ++ List.replicate (6 - (lg_sl ([.ref (a 0), .int v1, .int v2, .int v3, .ref o])).length) Slot.unset).toArray = ls at hl ⊢
  have hl : lv_has ls 6 [(0, .ref (a 0)), (1, .int v1), (2, .int v2), (3, .int v3), (4, .ref o)] := hl
  refine lv_aload hx hb dL_child_0 (lv_at hl 4 rfl) ?_
  refine lv_iconst (v := (0 : Int32)) hx hb dL_child_2 (by decide) ?_
  refine lv_aload_n hx hb dL_child_3 rfl (lv_at hl 0 rfl) ?_
  refine lv_iload_n hx hb dL_child_4 rfl (lv_at hl 1 rfl) ?_
  refine lv_iload_n hx hb dL_child_5 rfl (lv_at hl 2 rfl) ?_
  refine lv_iload_n hx hb dL_child_6 rfl (lv_at hl 3 rfl) ?_
  have hPc := jLastP (wa := OL cL o f) (wc := W_LS cI a S) hP
  have hDc := jLastD (wa := OL cL o f) (wc := W_LS cI a S) hD
  have hFc := jFreeW (ws := W_LS cI a S) hDc hS hA
  refine vx_calli (vx_runV (As := [.int v1, .int v2, .int v3]) (rest := [.int (0 : Int32), .ref o]) ⟨hx, hb, hml, hown, hts⟩ (c_X4_child l dC dI cI hl0 a s.heap.size S v1 v2 v3 res hF) (cwV 3 hts gL_child_X4_child rfl rfl rfl (by decide +kernel) ⟨Nat.le_of_ble_eq_true rfl, Nat.le_of_ble_eq_true rfl⟩) (jPreVX (q := (RX4, TX4, 8)) (ci := 4) (hK.sub [0] rfl) hPc hDc hN hU hSN hS hFc rfl rfl) rfl rfl hl.1 rfl (lv_room (Nat.le_of_ble_eq_true rfl)) dL_child_7 ⟨Nat.le_of_ble_eq_true rfl, Nat.le_of_ble_eq_true rfl⟩) hS (fun q _ h => hFc q h) hFc (fun q _ h => hFc q h) (fun E ce q8 u t H locs ht hvm _ hB hz1 hk1 hS hce hcv hcl => ?_) (fun r' u t H locs ht hvm hw hB hz1 hk1 hS => ?_)
  · obtain ⟨hres, hP1, -, hD1⟩ := hB
    rw [ht] at hP1
    obtain ⟨hP, hD⟩ := jTail (wa := OL cL o f) (wc := W_LS cI a S) (w1 := W_LS cI a S) hP hD hk1 hFc hP1 hD1
    rcases h2 _ _ hres with ⟨rfl, hrr⟩ | ⟨rfl, hrr⟩
    · refine vx_catch (name := "java/lang/IndexOutOfBoundsException") hown [] ⟨0, 12, 15, 13⟩ [⟨0, 12, 19, 15⟩] htab (fun z hz => nomatch hz) (by decide) (by decide) (hts (Cond.classLink RL 13 "java/lang/IndexOutOfBoundsException") (List.mem_of_getElem? (i := 1) rfl)) (va_Nw.use rfl (hN.1 _ (List.mem_of_getElem? (i := 11) rfl))) hce hcv hcl ?_
      refine lv_astore (lv' := [(5, .ref q8), (0, .ref (a 0)), (1, .int v1), (2, .int v2), (3, .int v3), (4, .ref o)]) hx hb dL_child_15 hl (by decide) rfl (fun ls hl => ?_)
      refine lv_iconst (v := (1 : Int32)) hx hb dL_child_17 (by decide) ?_
      refine W.widen (k := 1) (n := 6) (Nat.le_refl _) (Nat.le_refl _) ?_
      exact W.iret (v := (1 : Int32)) hx hb hr (fun t ht hW => ⟨⟨(1 : Int32), f, rfl, ⟨hrr.symm, Or.inr ⟨_, hres⟩⟩, ⟨by rw [ht]; exact hP, va_K.moved hW.alike hK, hD⟩⟩, hS.F ht⟩) hS.2.2 dL_child_18
    · refine vx_catch (name := "java/lang/IllegalArgumentException") hown [⟨0, 12, 15, 13⟩] ⟨0, 12, 19, 15⟩ [] htab (fun z hz => by
          simp only [List.mem_cons, List.not_mem_nil, or_false] at hz
          rcases hz with rfl
          · exact Or.inr ⟨by decide, "java/lang/IndexOutOfBoundsException", hts (Cond.classLink RL 13 "java/lang/IndexOutOfBoundsException") (List.mem_of_getElem? (i := 1) rfl), hN.2.2 _ (List.mem_of_getElem? (i := 2) rfl)⟩) (by decide) (by decide) (hts (Cond.classLink RL 15 "java/lang/IllegalArgumentException") (List.mem_of_getElem? (i := 2) rfl)) (va_Nw.use rfl (hN.1 _ (List.mem_of_getElem? (i := 12) rfl))) hce hcv hcl ?_
      refine lv_astore (lv' := [(5, .ref q8), (0, .ref (a 0)), (1, .int v1), (2, .int v2), (3, .int v3), (4, .ref o)]) hx hb dL_child_19 hl (by decide) rfl (fun ls hl => ?_)
      refine lv_iconst (v := (2 : Int32)) hx hb dL_child_21 (by decide) ?_
      refine W.widen (k := 1) (n := 6) (Nat.le_refl _) (Nat.le_refl _) ?_
      exact W.iret (v := (2 : Int32)) hx hb hr (fun t ht hW => ⟨⟨(2 : Int32), f, rfl, ⟨hrr.symm, Or.inr ⟨_, hres⟩⟩, ⟨by rw [ht]; exact hP, va_K.moved hW.alike hK, hD⟩⟩, hS.F ht⟩) hS.2.2 dL_child_22
  · obtain ⟨hP1, -, hD1⟩ := hB
    rw [ht] at hP1
    obtain ⟨hP, hD⟩ := jTail (wa := OL cL o f) (wc := W_LS cI a S) (w1 := W_LS cI a S) hP hD hk1 hFc hP1 hD1
    refine lv_i2l (v := r'.toInt64) hx hb dL_child_10 rfl ?_
    refine va_last (D := (dC, dI)) (n := 1) (f := f) hx hb hK hP hD hS 0 1 rfl rfl (inb_in (show inb 0 1 = true by decide)) dL_child_11 (fun H locs hP hD hS => ?_)
    have hP : va_P (dC, dI) vwCl (OL cL o (vp_updL f 0 r'.toInt64) ++ W_LS cI a S) H := hP
    have hD : va_D A (OL cL o (vp_updL f 0 r'.toInt64) ++ W_LS cI a S) := hD
    refine lv_goto (tgt := 23) hx hb dL_child_12 (by decide) ?_
    refine lv_iconst (v := (0 : Int32)) hx hb dL_child_23 (by decide) ?_
    refine W.widen (k := 1) (n := 6) (Nat.le_refl _) (Nat.le_refl _) ?_
    exact W.iret (v := (0 : Int32)) hx hb hr (fun t ht hW => ⟨⟨(0 : Int32), vp_updL f 0 r'.toInt64, rfl, ⟨(h1 _ hw).symm, Or.inl ⟨r', hw, updL_at f _⟩⟩, ⟨by rw [ht]; exact hP, va_K.moved hW.alike hK, hD⟩⟩, hS.F ht⟩) hS.2.2 dL_child_24
set_option maxHeartbeats 4000000 in
set_option maxRecDepth 100000 in
theorem c_L_shape (l : Launch) (dC : Nat → ClassId) (dI : Nat → Nat → Nat) (cI cL : ClassId) (hl0 : l.stackTraces = false) (a : Nat → Nat) (o sz : Nat) (f : Nat → Int64) (S : S_LS) (v1 v2 : Int32) (res : Sum (String × Unit) Int32) (rr : Int32) (hF : F_X4_shape S v1 v2 = some res) (h1 : ∀ r0, res = .inr r0 → rr = 0) (h2 : ∀ E y, res = .inl (E, y) → (E = "java/lang/IndexOutOfBoundsException" ∧ rr = 1) ∨ (E = "java/lang/IllegalArgumentException" ∧ rr = 2)) : Met l yL_shape wsL_shape ({ frames := 7, cells := 1, slots := 6, locals := 112 } : Room) (va_Pc [.ref (a 0), .int v1, .int v2, .ref o] (jPreX (dC, dI) [(cI, .int), (cL, .long)] sz (OL cL o f ++ W_LS cI a S))) (va_Qi (fun (r' : Int32) (u : Nat → Int64) => r' = rr ∧ ((∃ r0, res = .inr r0 ∧ u 0 = r0.toInt64) ∨ ∃ E, res = .inl (E, ()))) (fun (u : Nat → Int64) (t : State) => jB (dC, dI) [(cI, .int), (cL, .long)] (va_A (OL cL o f ++ W_LS cI a S) sz) (OL cL o u ++ W_LS cI a S) t) (va_A (OL cL o f ++ W_LS cI a S) sz)) 1 6 (va_A (OL cL o f ++ W_LS cI a S) sz) := by
  refine met_ofWH (cc := cL_shape) (maxL := 5) (ret := (some .int)) (hh := [(0, 10, 13, 13), (0, 10, 17, 15)]) (by decide) rfl ?_
  intro p e s m args below meth c s₁ B hml hv
  obtain ⟨rfl, ⟨hsz, hP, hK, hD0, hN⟩, hU, hSN⟩ := hv
  have hx := B.exec
  have hb := B.bytes
  have hr := B.returns
  have hts := atoms_spec (ws := wsL_shape) B.pre
  have hown : s.vm.findClass RL = some m.cls := findClass_of_methodNamed B.named
  have htab := vx_table (x := yL_shape) B (hts _ List.mem_cons_self)
  subst hsz
  have hD := hD0.self (sz := s.heap.size)
  generalize hAe : (va_A (OL cL o f ++ W_LS cI a S) s.heap.size) = A at hD hU hSN ⊢
  have hA : ∀ q : Nat, s.heap.size ≤ q → A q := fun q h => by rw [← hAe]; exact Or.inr h
  have hS : va_S A s.heap s.heap [] := va_S.rf
  have hl := lv_entry ([.ref (a 0), .int v1, .int v2, .ref o]) (n := 5) (Nat.le_of_ble_eq_true rfl)
  rw [lg_entry_eq]
  generalize (lg_sl ([.ref (a 0), .int v1, .int v2, .ref o]) ++ List.replicate (5 - (lg_sl ([.ref (a 0), .int v1, .int v2, .ref o])).length) Slot.unset).toArray = ls at hl ⊢
  have hl : lv_has ls 5 [(0, .ref (a 0)), (1, .int v1), (2, .int v2), (3, .ref o)] := hl
  refine lv_aload_n hx hb dL_shape_0 rfl (lv_at hl 3 rfl) ?_
  refine lv_iconst (v := (0 : Int32)) hx hb dL_shape_1 (by decide) ?_
  refine lv_aload_n hx hb dL_shape_2 rfl (lv_at hl 0 rfl) ?_
  refine lv_iload_n hx hb dL_shape_3 rfl (lv_at hl 1 rfl) ?_
  refine lv_iload_n hx hb dL_shape_4 rfl (lv_at hl 2 rfl) ?_
  have hPc := jLastP (wa := OL cL o f) (wc := W_LS cI a S) hP
  have hDc := jLastD (wa := OL cL o f) (wc := W_LS cI a S) hD
  have hFc := jFreeW (ws := W_LS cI a S) hDc hS hA
  refine vx_calli (vx_runV (As := [.int v1, .int v2]) (rest := [.int (0 : Int32), .ref o]) ⟨hx, hb, hml, hown, hts⟩ (c_X4_shape l dC dI cI hl0 a s.heap.size S v1 v2 res hF) (cwV 2 hts gL_shape_X4_shape rfl rfl rfl (by decide +kernel) ⟨Nat.le_of_ble_eq_true rfl, Nat.le_of_ble_eq_true rfl⟩) (jPreVX (q := (RX4, TX4, 8)) (ci := 4) (hK.sub [0] rfl) hPc hDc hN hU hSN hS hFc rfl rfl) rfl rfl hl.1 rfl (lv_room (Nat.le_of_ble_eq_true rfl)) dL_shape_5 ⟨Nat.le_of_ble_eq_true rfl, Nat.le_of_ble_eq_true rfl⟩) hS (fun q _ h => hFc q h) hFc (fun q _ h => hFc q h) (fun E ce q8 u t H locs ht hvm _ hB hz1 hk1 hS hce hcv hcl => ?_) (fun r' u t H locs ht hvm hw hB hz1 hk1 hS => ?_)
  · obtain ⟨hres, hP1, -, hD1⟩ := hB
    rw [ht] at hP1
    obtain ⟨hP, hD⟩ := jTail (wa := OL cL o f) (wc := W_LS cI a S) (w1 := W_LS cI a S) hP hD hk1 hFc hP1 hD1
    rcases h2 _ _ hres with ⟨rfl, hrr⟩ | ⟨rfl, hrr⟩
    · refine vx_catch (name := "java/lang/IndexOutOfBoundsException") hown [] ⟨0, 10, 13, 13⟩ [⟨0, 10, 17, 15⟩] htab (fun z hz => nomatch hz) (by decide) (by decide) (hts (Cond.classLink RL 13 "java/lang/IndexOutOfBoundsException") (List.mem_of_getElem? (i := 1) rfl)) (va_Nw.use rfl (hN.1 _ (List.mem_of_getElem? (i := 11) rfl))) hce hcv hcl ?_
      refine lv_astore (lv' := [(4, .ref q8), (0, .ref (a 0)), (1, .int v1), (2, .int v2), (3, .ref o)]) hx hb dL_shape_13 hl (by decide) rfl (fun ls hl => ?_)
      refine lv_iconst (v := (1 : Int32)) hx hb dL_shape_15 (by decide) ?_
      refine W.widen (k := 1) (n := 6) (Nat.le_refl _) (Nat.le_refl _) ?_
      exact W.iret (v := (1 : Int32)) hx hb hr (fun t ht hW => ⟨⟨(1 : Int32), f, rfl, ⟨hrr.symm, Or.inr ⟨_, hres⟩⟩, ⟨by rw [ht]; exact hP, va_K.moved hW.alike hK, hD⟩⟩, hS.F ht⟩) hS.2.2 dL_shape_16
    · refine vx_catch (name := "java/lang/IllegalArgumentException") hown [⟨0, 10, 13, 13⟩] ⟨0, 10, 17, 15⟩ [] htab (fun z hz => by
          simp only [List.mem_cons, List.not_mem_nil, or_false] at hz
          rcases hz with rfl
          · exact Or.inr ⟨by decide, "java/lang/IndexOutOfBoundsException", hts (Cond.classLink RL 13 "java/lang/IndexOutOfBoundsException") (List.mem_of_getElem? (i := 1) rfl), hN.2.2 _ (List.mem_of_getElem? (i := 2) rfl)⟩) (by decide) (by decide) (hts (Cond.classLink RL 15 "java/lang/IllegalArgumentException") (List.mem_of_getElem? (i := 2) rfl)) (va_Nw.use rfl (hN.1 _ (List.mem_of_getElem? (i := 12) rfl))) hce hcv hcl ?_
      refine lv_astore (lv' := [(4, .ref q8), (0, .ref (a 0)), (1, .int v1), (2, .int v2), (3, .ref o)]) hx hb dL_shape_17 hl (by decide) rfl (fun ls hl => ?_)
      refine lv_iconst (v := (2 : Int32)) hx hb dL_shape_19 (by decide) ?_
      refine W.widen (k := 1) (n := 6) (Nat.le_refl _) (Nat.le_refl _) ?_
      exact W.iret (v := (2 : Int32)) hx hb hr (fun t ht hW => ⟨⟨(2 : Int32), f, rfl, ⟨hrr.symm, Or.inr ⟨_, hres⟩⟩, ⟨by rw [ht]; exact hP, va_K.moved hW.alike hK, hD⟩⟩, hS.F ht⟩) hS.2.2 dL_shape_20
  · obtain ⟨hP1, -, hD1⟩ := hB
    rw [ht] at hP1
    obtain ⟨hP, hD⟩ := jTail (wa := OL cL o f) (wc := W_LS cI a S) (w1 := W_LS cI a S) hP hD hk1 hFc hP1 hD1
    refine lv_i2l (v := r'.toInt64) hx hb dL_shape_8 rfl ?_
    refine va_last (D := (dC, dI)) (n := 1) (f := f) hx hb hK hP hD hS 0 1 rfl rfl (inb_in (show inb 0 1 = true by decide)) dL_shape_9 (fun H locs hP hD hS => ?_)
    have hP : va_P (dC, dI) vwCl (OL cL o (vp_updL f 0 r'.toInt64) ++ W_LS cI a S) H := hP
    have hD : va_D A (OL cL o (vp_updL f 0 r'.toInt64) ++ W_LS cI a S) := hD
    refine lv_goto (tgt := 21) hx hb dL_shape_10 (by decide) ?_
    refine lv_iconst (v := (0 : Int32)) hx hb dL_shape_21 (by decide) ?_
    refine W.widen (k := 1) (n := 6) (Nat.le_refl _) (Nat.le_refl _) ?_
    exact W.iret (v := (0 : Int32)) hx hb hr (fun t ht hW => ⟨⟨(0 : Int32), vp_updL f 0 r'.toInt64, rfl, ⟨(h1 _ hw).symm, Or.inl ⟨r', hw, updL_at f _⟩⟩, ⟨by rw [ht]; exact hP, va_K.moved hW.alike hK, hD⟩⟩, hS.F ht⟩) hS.2.2 dL_shape_22
set_option maxHeartbeats 4000000 in
set_option maxRecDepth 100000 in
theorem c_L_document (l : Launch) (dC : Nat → ClassId) (dI : Nat → Nat → Nat) (cI cL : ClassId) (hl0 : l.stackTraces = false) (a : Nat → Nat) (o sz : Nat) (f : Nat → Int64) (S : S_LS) (v1 : Int32) (res : Sum (String × S_LS) (Int32 × S_LS)) (rr : Int32) (hF : F_X4_document S v1 = some res) (h1 : ∀ r0 y, res = .inr (r0, y) → rr = 0) (h2 : ∀ E y, res = .inl (E, y) → (E = "java/lang/IllegalArgumentException" ∧ rr = 1)) : Met l yL_document wsL_document ({ frames := 7, cells := 1, slots := 6, locals := 160 } : Room) (va_Pc [.ref (a 0), .int v1, .ref o] (jPreX (dC, dI) [(cI, .int), (cL, .long)] sz (OL cL o f ++ W_LS cI a S))) (va_Qi (fun (r' : Int32) (u : S_LS × (Nat → Int64)) => r' = rr ∧ ((∃ r0, res = .inr (r0, u.1) ∧ u.2 0 = r0.toInt64) ∨ ∃ E, res = .inl (E, u.1))) (fun (u : S_LS × (Nat → Int64)) (t : State) => jB (dC, dI) [(cI, .int), (cL, .long)] (va_A (OL cL o f ++ W_LS cI a S) sz) (OL cL o u.2 ++ W_LS cI a u.1) t) (va_A (OL cL o f ++ W_LS cI a S) sz)) 1 6 (va_A (OL cL o f ++ W_LS cI a S) sz) := by
  refine met_ofWH (cc := cL_document) (maxL := 4) (ret := (some .int)) (hh := [(0, 9, 12, 15)]) (by decide) rfl ?_
  intro p e s m args below meth c s₁ B hml hv
  obtain ⟨rfl, ⟨hsz, hP, hK, hD0, hN⟩, hU, hSN⟩ := hv
  have hx := B.exec
  have hb := B.bytes
  have hr := B.returns
  have hts := atoms_spec (ws := wsL_document) B.pre
  have hown : s.vm.findClass RL = some m.cls := findClass_of_methodNamed B.named
  have htab := vx_table (x := yL_document) B (hts _ List.mem_cons_self)
  subst hsz
  have hD := hD0.self (sz := s.heap.size)
  generalize hAe : (va_A (OL cL o f ++ W_LS cI a S) s.heap.size) = A at hD hU hSN ⊢
  have hA : ∀ q : Nat, s.heap.size ≤ q → A q := fun q h => by rw [← hAe]; exact Or.inr h
  have hS : va_S A s.heap s.heap [] := va_S.rf
  have hl := lv_entry ([.ref (a 0), .int v1, .ref o]) (n := 4) (Nat.le_of_ble_eq_true rfl)
  rw [lg_entry_eq]
  generalize (lg_sl ([.ref (a 0), .int v1, .ref o]) ++ List.replicate (4 - (lg_sl ([.ref (a 0), .int v1, .ref o])).length) Slot.unset).toArray = ls at hl ⊢
  have hl : lv_has ls 4 [(0, .ref (a 0)), (1, .int v1), (2, .ref o)] := hl
  refine lv_aload_n hx hb dL_document_0 rfl (lv_at hl 2 rfl) ?_
  refine lv_iconst (v := (0 : Int32)) hx hb dL_document_1 (by decide) ?_
  refine lv_aload_n hx hb dL_document_2 rfl (lv_at hl 0 rfl) ?_
  refine lv_iload_n hx hb dL_document_3 rfl (lv_at hl 1 rfl) ?_
  have hPc := jLastP (wa := OL cL o f) (wc := W_LS cI a S) hP
  have hDc := jLastD (wa := OL cL o f) (wc := W_LS cI a S) hD
  have hFc := jFreeW (ws := W_LS cI a S) hDc hS hA
  refine vx_calli (vx_runV (As := [.int v1]) (rest := [.int (0 : Int32), .ref o]) ⟨hx, hb, hml, hown, hts⟩ (c_X4_document l dC dI cI hl0 a s.heap.size S v1 res hF) (cwV 1 hts gL_document_X4_document rfl rfl rfl (by decide +kernel) ⟨Nat.le_of_ble_eq_true rfl, Nat.le_of_ble_eq_true rfl⟩) (jPreVX (q := (RX4, TX4, 8)) (ci := 4) (hK.sub [0] rfl) hPc hDc hN hU hSN hS hFc rfl rfl) rfl rfl hl.1 rfl (lv_room (Nat.le_of_ble_eq_true rfl)) dL_document_4 ⟨Nat.le_of_ble_eq_true rfl, Nat.le_of_ble_eq_true rfl⟩) hS (fun q _ h => hFc q h) hFc (fun q _ h => hFc q h) (fun E ce q8 u t H locs ht hvm _ hB hz1 hk1 hS hce hcv hcl => ?_) (fun r' u t H locs ht hvm hw hB hz1 hk1 hS => ?_)
  · obtain ⟨hres, hP1, -, hD1⟩ := hB
    rw [ht] at hP1
    obtain ⟨hP, hD⟩ := jTail (wa := OL cL o f) (wc := W_LS cI a S) (w1 := W_LS cI a u) hP hD hk1 hFc hP1 hD1
    rcases h2 _ _ hres with ⟨rfl, hrr⟩
    · refine vx_catch (name := "java/lang/IllegalArgumentException") hown [] ⟨0, 9, 12, 15⟩ [] htab (fun z hz => nomatch hz) (by decide) (by decide) (hts (Cond.classLink RL 15 "java/lang/IllegalArgumentException") (List.mem_of_getElem? (i := 1) rfl)) (va_Nw.use rfl (hN.1 _ (List.mem_of_getElem? (i := 12) rfl))) hce hcv hcl ?_
      refine lv_astore_n (lv' := [(3, .ref q8), (0, .ref (a 0)), (1, .int v1), (2, .ref o)]) hx hb dL_document_12 rfl hl (by decide) rfl (fun ls hl => ?_)
      refine lv_iconst (v := (1 : Int32)) hx hb dL_document_13 (by decide) ?_
      refine W.widen (k := 1) (n := 6) (Nat.le_refl _) (Nat.le_refl _) ?_
      exact W.iret (v := (1 : Int32)) hx hb hr (fun t ht hW => ⟨⟨(1 : Int32), (u, f), rfl, ⟨hrr.symm, Or.inr ⟨_, hres⟩⟩, ⟨by rw [ht]; exact hP, va_K.moved hW.alike hK, hD⟩⟩, hS.F ht⟩) hS.2.2 dL_document_14
  · obtain ⟨hP1, -, hD1⟩ := hB
    rw [ht] at hP1
    obtain ⟨hP, hD⟩ := jTail (wa := OL cL o f) (wc := W_LS cI a S) (w1 := W_LS cI a u) hP hD hk1 hFc hP1 hD1
    refine lv_i2l (v := r'.toInt64) hx hb dL_document_7 rfl ?_
    refine va_last (D := (dC, dI)) (n := 1) (f := f) hx hb hK hP hD hS 0 1 rfl rfl (inb_in (show inb 0 1 = true by decide)) dL_document_8 (fun H locs hP hD hS => ?_)
    have hP : va_P (dC, dI) vwCl (OL cL o (vp_updL f 0 r'.toInt64) ++ W_LS cI a u) H := hP
    have hD : va_D A (OL cL o (vp_updL f 0 r'.toInt64) ++ W_LS cI a u) := hD
    refine lv_goto (tgt := 15) hx hb dL_document_9 (by decide) ?_
    refine lv_iconst (v := (0 : Int32)) hx hb dL_document_15 (by decide) ?_
    refine W.widen (k := 1) (n := 6) (Nat.le_refl _) (Nat.le_refl _) ?_
    exact W.iret (v := (0 : Int32)) hx hb hr (fun t ht hW => ⟨⟨(0 : Int32), (u, vp_updL f 0 r'.toInt64), rfl, ⟨(h1 _ _ hw).symm, Or.inl ⟨r', hw, updL_at f _⟩⟩, ⟨by rw [ht]; exact hP, va_K.moved hW.alike hK, hD⟩⟩, hS.F ht⟩) hS.2.2 dL_document_16
set_option maxHeartbeats 4000000 in
set_option maxRecDepth 100000 in
theorem c_L_count (l : Launch) (dC : Nat → ClassId) (dI : Nat → Nat → Nat) (cI cL : ClassId) (hl0 : l.stackTraces = false) (a : Nat → Nat) (o sz : Nat) (f : Nat → Int64) (S : S_LS) (v1 : Int32) (res : Sum (String × Unit) Int32) (rr : Int32) (hF : F_X4_count S v1 = some res) (h1 : ∀ r0, res = .inr r0 → rr = 0) (h2 : ∀ E y, res = .inl (E, y) → (E = "java/lang/IllegalArgumentException" ∧ rr = 1)) : Met l yL_count wsL_count ({ frames := 7, cells := 1, slots := 6, locals := 111 } : Room) (va_Pc [.ref (a 0), .int v1, .ref o] (jPreX (dC, dI) [(cI, .int), (cL, .long)] sz (OL cL o f ++ W_LS cI a S))) (va_Qi (fun (r' : Int32) (u : Nat → Int64) => r' = rr ∧ ((∃ r0, res = .inr r0 ∧ u 0 = r0.toInt64) ∨ ∃ E, res = .inl (E, ()))) (fun (u : Nat → Int64) (t : State) => jB (dC, dI) [(cI, .int), (cL, .long)] (va_A (OL cL o f ++ W_LS cI a S) sz) (OL cL o u ++ W_LS cI a S) t) (va_A (OL cL o f ++ W_LS cI a S) sz)) 1 6 (va_A (OL cL o f ++ W_LS cI a S) sz) := by
  refine met_ofWH (cc := cL_count) (maxL := 4) (ret := (some .int)) (hh := [(0, 9, 12, 15)]) (by decide) rfl ?_
  intro p e s m args below meth c s₁ B hml hv
  obtain ⟨rfl, ⟨hsz, hP, hK, hD0, hN⟩, hU, hSN⟩ := hv
  have hx := B.exec
  have hb := B.bytes
  have hr := B.returns
  have hts := atoms_spec (ws := wsL_count) B.pre
  have hown : s.vm.findClass RL = some m.cls := findClass_of_methodNamed B.named
  have htab := vx_table (x := yL_count) B (hts _ List.mem_cons_self)
  subst hsz
  have hD := hD0.self (sz := s.heap.size)
  generalize hAe : (va_A (OL cL o f ++ W_LS cI a S) s.heap.size) = A at hD hU hSN ⊢
  have hA : ∀ q : Nat, s.heap.size ≤ q → A q := fun q h => by rw [← hAe]; exact Or.inr h
  have hS : va_S A s.heap s.heap [] := va_S.rf
  have hl := lv_entry ([.ref (a 0), .int v1, .ref o]) (n := 4) (Nat.le_of_ble_eq_true rfl)
  rw [lg_entry_eq]
  generalize (lg_sl ([.ref (a 0), .int v1, .ref o]) ++ List.replicate (4 - (lg_sl ([.ref (a 0), .int v1, .ref o])).length) Slot.unset).toArray = ls at hl ⊢
  have hl : lv_has ls 4 [(0, .ref (a 0)), (1, .int v1), (2, .ref o)] := hl
  refine lv_aload_n hx hb dL_count_0 rfl (lv_at hl 2 rfl) ?_
  refine lv_iconst (v := (0 : Int32)) hx hb dL_count_1 (by decide) ?_
  refine lv_aload_n hx hb dL_count_2 rfl (lv_at hl 0 rfl) ?_
  refine lv_iload_n hx hb dL_count_3 rfl (lv_at hl 1 rfl) ?_
  have hPc := jLastP (wa := OL cL o f) (wc := W_LS cI a S) hP
  have hDc := jLastD (wa := OL cL o f) (wc := W_LS cI a S) hD
  have hFc := jFreeW (ws := W_LS cI a S) hDc hS hA
  refine vx_calli (vx_runV (As := [.int v1]) (rest := [.int (0 : Int32), .ref o]) ⟨hx, hb, hml, hown, hts⟩ (c_X4_count l dC dI cI hl0 a s.heap.size S v1 res hF) (cwV 1 hts gL_count_X4_count rfl rfl rfl (by decide +kernel) ⟨Nat.le_of_ble_eq_true rfl, Nat.le_of_ble_eq_true rfl⟩) (jPreVX (q := (RX4, TX4, 8)) (ci := 4) (hK.sub [0] rfl) hPc hDc hN hU hSN hS hFc rfl rfl) rfl rfl hl.1 rfl (lv_room (Nat.le_of_ble_eq_true rfl)) dL_count_4 ⟨Nat.le_of_ble_eq_true rfl, Nat.le_of_ble_eq_true rfl⟩) hS (fun q _ h => hFc q h) hFc (fun q _ h => hFc q h) (fun E ce q8 u t H locs ht hvm _ hB hz1 hk1 hS hce hcv hcl => ?_) (fun r' u t H locs ht hvm hw hB hz1 hk1 hS => ?_)
  · obtain ⟨hres, hP1, -, hD1⟩ := hB
    rw [ht] at hP1
    obtain ⟨hP, hD⟩ := jTail (wa := OL cL o f) (wc := W_LS cI a S) (w1 := W_LS cI a S) hP hD hk1 hFc hP1 hD1
    rcases h2 _ _ hres with ⟨rfl, hrr⟩
    · refine vx_catch (name := "java/lang/IllegalArgumentException") hown [] ⟨0, 9, 12, 15⟩ [] htab (fun z hz => nomatch hz) (by decide) (by decide) (hts (Cond.classLink RL 15 "java/lang/IllegalArgumentException") (List.mem_of_getElem? (i := 1) rfl)) (va_Nw.use rfl (hN.1 _ (List.mem_of_getElem? (i := 12) rfl))) hce hcv hcl ?_
      refine lv_astore_n (lv' := [(3, .ref q8), (0, .ref (a 0)), (1, .int v1), (2, .ref o)]) hx hb dL_count_12 rfl hl (by decide) rfl (fun ls hl => ?_)
      refine lv_iconst (v := (1 : Int32)) hx hb dL_count_13 (by decide) ?_
      refine W.widen (k := 1) (n := 6) (Nat.le_refl _) (Nat.le_refl _) ?_
      exact W.iret (v := (1 : Int32)) hx hb hr (fun t ht hW => ⟨⟨(1 : Int32), f, rfl, ⟨hrr.symm, Or.inr ⟨_, hres⟩⟩, ⟨by rw [ht]; exact hP, va_K.moved hW.alike hK, hD⟩⟩, hS.F ht⟩) hS.2.2 dL_count_14
  · obtain ⟨hP1, -, hD1⟩ := hB
    rw [ht] at hP1
    obtain ⟨hP, hD⟩ := jTail (wa := OL cL o f) (wc := W_LS cI a S) (w1 := W_LS cI a S) hP hD hk1 hFc hP1 hD1
    refine lv_i2l (v := r'.toInt64) hx hb dL_count_7 rfl ?_
    refine va_last (D := (dC, dI)) (n := 1) (f := f) hx hb hK hP hD hS 0 1 rfl rfl (inb_in (show inb 0 1 = true by decide)) dL_count_8 (fun H locs hP hD hS => ?_)
    have hP : va_P (dC, dI) vwCl (OL cL o (vp_updL f 0 r'.toInt64) ++ W_LS cI a S) H := hP
    have hD : va_D A (OL cL o (vp_updL f 0 r'.toInt64) ++ W_LS cI a S) := hD
    refine lv_goto (tgt := 15) hx hb dL_count_9 (by decide) ?_
    refine lv_iconst (v := (0 : Int32)) hx hb dL_count_15 (by decide) ?_
    refine W.widen (k := 1) (n := 6) (Nat.le_refl _) (Nat.le_refl _) ?_
    exact W.iret (v := (0 : Int32)) hx hb hr (fun t ht hW => ⟨⟨(0 : Int32), vp_updL f 0 r'.toInt64, rfl, ⟨(h1 _ hw).symm, Or.inl ⟨r', hw, updL_at f _⟩⟩, ⟨by rw [ht]; exact hP, va_K.moved hW.alike hK, hD⟩⟩, hS.F ht⟩) hS.2.2 dL_count_16
set_option maxHeartbeats 4000000 in
set_option maxRecDepth 100000 in
theorem c_L_fits (l : Launch) (dC : Nat → ClassId) (dI : Nat → Nat → Nat) (cI cL : ClassId) (hl0 : l.stackTraces = false) (a : Nat → Nat) (o sz : Nat) (f : Nat → Int64) (S : S_LS) (v1 v2 : Int32) (res : Sum (String × S_LS) (Int32 × S_LS)) (rr : Int32) (hF : F_X4_fits S v1 v2 = some res) (h1 : ∀ r0 y, res = .inr (r0, y) → rr = 0) (h2 : ∀ E y, res = .inl (E, y) → (E = "java/lang/IndexOutOfBoundsException" ∧ rr = 1) ∨ (E = "java/lang/IllegalArgumentException" ∧ rr = 2)) : Met l yL_fits wsL_fits ({ frames := 14, cells := 1, slots := 6, locals := 411 } : Room) (va_Pc [.ref (a 0), .int v1, .int v2, .ref o] (jPreX (dC, dI) [(cI, .int), (cL, .long)] sz (OL cL o f ++ W_LS cI a S))) (va_Qi (fun (r' : Int32) (u : S_LS × (Nat → Int64)) => r' = rr ∧ ((∃ r0, res = .inr (r0, u.1) ∧ u.2 0 = r0.toInt64) ∨ ∃ E, res = .inl (E, u.1))) (fun (u : S_LS × (Nat → Int64)) (t : State) => jB (dC, dI) [(cI, .int), (cL, .long)] (va_A (OL cL o f ++ W_LS cI a S) sz) (OL cL o u.2 ++ W_LS cI a u.1) t) (va_A (OL cL o f ++ W_LS cI a S) sz)) 1 6 (va_A (OL cL o f ++ W_LS cI a S) sz) := by
  refine met_ofWH (cc := cL_fits) (maxL := 5) (ret := (some .int)) (hh := [(0, 10, 13, 13), (0, 10, 17, 15)]) (by decide) rfl ?_
  intro p e s m args below meth c s₁ B hml hv
  obtain ⟨rfl, ⟨hsz, hP, hK, hD0, hN⟩, hU, hSN⟩ := hv
  have hx := B.exec
  have hb := B.bytes
  have hr := B.returns
  have hts := atoms_spec (ws := wsL_fits) B.pre
  have hown : s.vm.findClass RL = some m.cls := findClass_of_methodNamed B.named
  have htab := vx_table (x := yL_fits) B (hts _ List.mem_cons_self)
  subst hsz
  have hD := hD0.self (sz := s.heap.size)
  generalize hAe : (va_A (OL cL o f ++ W_LS cI a S) s.heap.size) = A at hD hU hSN ⊢
  have hA : ∀ q : Nat, s.heap.size ≤ q → A q := fun q h => by rw [← hAe]; exact Or.inr h
  have hS : va_S A s.heap s.heap [] := va_S.rf
  have hl := lv_entry ([.ref (a 0), .int v1, .int v2, .ref o]) (n := 5) (Nat.le_of_ble_eq_true rfl)
  rw [lg_entry_eq]
  generalize (lg_sl ([.ref (a 0), .int v1, .int v2, .ref o]) ++ List.replicate (5 - (lg_sl ([.ref (a 0), .int v1, .int v2, .ref o])).length) Slot.unset).toArray = ls at hl ⊢
  have hl : lv_has ls 5 [(0, .ref (a 0)), (1, .int v1), (2, .int v2), (3, .ref o)] := hl
  refine lv_aload_n hx hb dL_fits_0 rfl (lv_at hl 3 rfl) ?_
  refine lv_iconst (v := (0 : Int32)) hx hb dL_fits_1 (by decide) ?_
  refine lv_aload_n hx hb dL_fits_2 rfl (lv_at hl 0 rfl) ?_
  refine lv_iload_n hx hb dL_fits_3 rfl (lv_at hl 1 rfl) ?_
  refine lv_iload_n hx hb dL_fits_4 rfl (lv_at hl 2 rfl) ?_
  have hPc := jLastP (wa := OL cL o f) (wc := W_LS cI a S) hP
  have hDc := jLastD (wa := OL cL o f) (wc := W_LS cI a S) hD
  have hFc := jFreeW (ws := W_LS cI a S) hDc hS hA
  refine vx_calli (vx_runV (As := [.int v1, .int v2]) (rest := [.int (0 : Int32), .ref o]) ⟨hx, hb, hml, hown, hts⟩ (c_X4_fits l dC dI cI hl0 a s.heap.size S v1 v2 res hF) (cwV 2 hts gL_fits_X4_fits rfl rfl rfl (by decide +kernel) ⟨Nat.le_of_ble_eq_true rfl, Nat.le_of_ble_eq_true rfl⟩) (jPreVX (q := (RX4, TX4, 8)) (ci := 4) (hK.sub [0] rfl) hPc hDc hN hU hSN hS hFc rfl rfl) rfl rfl hl.1 rfl (lv_room (Nat.le_of_ble_eq_true rfl)) dL_fits_5 ⟨Nat.le_of_ble_eq_true rfl, Nat.le_of_ble_eq_true rfl⟩) hS (fun q _ h => hFc q h) hFc (fun q _ h => hFc q h) (fun E ce q8 u t H locs ht hvm _ hB hz1 hk1 hS hce hcv hcl => ?_) (fun r' u t H locs ht hvm hw hB hz1 hk1 hS => ?_)
  · obtain ⟨hres, hP1, -, hD1⟩ := hB
    rw [ht] at hP1
    obtain ⟨hP, hD⟩ := jTail (wa := OL cL o f) (wc := W_LS cI a S) (w1 := W_LS cI a u) hP hD hk1 hFc hP1 hD1
    rcases h2 _ _ hres with ⟨rfl, hrr⟩ | ⟨rfl, hrr⟩
    · refine vx_catch (name := "java/lang/IndexOutOfBoundsException") hown [] ⟨0, 10, 13, 13⟩ [⟨0, 10, 17, 15⟩] htab (fun z hz => nomatch hz) (by decide) (by decide) (hts (Cond.classLink RL 13 "java/lang/IndexOutOfBoundsException") (List.mem_of_getElem? (i := 1) rfl)) (va_Nw.use rfl (hN.1 _ (List.mem_of_getElem? (i := 11) rfl))) hce hcv hcl ?_
      refine lv_astore (lv' := [(4, .ref q8), (0, .ref (a 0)), (1, .int v1), (2, .int v2), (3, .ref o)]) hx hb dL_fits_13 hl (by decide) rfl (fun ls hl => ?_)
      refine lv_iconst (v := (1 : Int32)) hx hb dL_fits_15 (by decide) ?_
      refine W.widen (k := 1) (n := 6) (Nat.le_refl _) (Nat.le_refl _) ?_
      exact W.iret (v := (1 : Int32)) hx hb hr (fun t ht hW => ⟨⟨(1 : Int32), (u, f), rfl, ⟨hrr.symm, Or.inr ⟨_, hres⟩⟩, ⟨by rw [ht]; exact hP, va_K.moved hW.alike hK, hD⟩⟩, hS.F ht⟩) hS.2.2 dL_fits_16
    · refine vx_catch (name := "java/lang/IllegalArgumentException") hown [⟨0, 10, 13, 13⟩] ⟨0, 10, 17, 15⟩ [] htab (fun z hz => by
          simp only [List.mem_cons, List.not_mem_nil, or_false] at hz
          rcases hz with rfl
          · exact Or.inr ⟨by decide, "java/lang/IndexOutOfBoundsException", hts (Cond.classLink RL 13 "java/lang/IndexOutOfBoundsException") (List.mem_of_getElem? (i := 1) rfl), hN.2.2 _ (List.mem_of_getElem? (i := 2) rfl)⟩) (by decide) (by decide) (hts (Cond.classLink RL 15 "java/lang/IllegalArgumentException") (List.mem_of_getElem? (i := 2) rfl)) (va_Nw.use rfl (hN.1 _ (List.mem_of_getElem? (i := 12) rfl))) hce hcv hcl ?_
      refine lv_astore (lv' := [(4, .ref q8), (0, .ref (a 0)), (1, .int v1), (2, .int v2), (3, .ref o)]) hx hb dL_fits_17 hl (by decide) rfl (fun ls hl => ?_)
      refine lv_iconst (v := (2 : Int32)) hx hb dL_fits_19 (by decide) ?_
      refine W.widen (k := 1) (n := 6) (Nat.le_refl _) (Nat.le_refl _) ?_
      exact W.iret (v := (2 : Int32)) hx hb hr (fun t ht hW => ⟨⟨(2 : Int32), (u, f), rfl, ⟨hrr.symm, Or.inr ⟨_, hres⟩⟩, ⟨by rw [ht]; exact hP, va_K.moved hW.alike hK, hD⟩⟩, hS.F ht⟩) hS.2.2 dL_fits_20
  · obtain ⟨hP1, -, hD1⟩ := hB
    rw [ht] at hP1
    obtain ⟨hP, hD⟩ := jTail (wa := OL cL o f) (wc := W_LS cI a S) (w1 := W_LS cI a u) hP hD hk1 hFc hP1 hD1
    refine lv_i2l (v := r'.toInt64) hx hb dL_fits_8 rfl ?_
    refine va_last (D := (dC, dI)) (n := 1) (f := f) hx hb hK hP hD hS 0 1 rfl rfl (inb_in (show inb 0 1 = true by decide)) dL_fits_9 (fun H locs hP hD hS => ?_)
    have hP : va_P (dC, dI) vwCl (OL cL o (vp_updL f 0 r'.toInt64) ++ W_LS cI a u) H := hP
    have hD : va_D A (OL cL o (vp_updL f 0 r'.toInt64) ++ W_LS cI a u) := hD
    refine lv_goto (tgt := 21) hx hb dL_fits_10 (by decide) ?_
    refine lv_iconst (v := (0 : Int32)) hx hb dL_fits_21 (by decide) ?_
    refine W.widen (k := 1) (n := 6) (Nat.le_refl _) (Nat.le_refl _) ?_
    exact W.iret (v := (0 : Int32)) hx hb hr (fun t ht hW => ⟨⟨(0 : Int32), (u, vp_updL f 0 r'.toInt64), rfl, ⟨(h1 _ _ hw).symm, Or.inl ⟨r', hw, updL_at f _⟩⟩, ⟨by rw [ht]; exact hP, va_K.moved hW.alike hK, hD⟩⟩, hS.F ht⟩) hS.2.2 dL_fits_22
set_option maxHeartbeats 4000000 in
set_option maxRecDepth 100000 in
theorem c_L_ifLearned (l : Launch) (dC : Nat → ClassId) (dI : Nat → Nat → Nat) (cI cL : ClassId) (hl0 : l.stackTraces = false) (a : Nat → Nat) (o sz : Nat) (f : Nat → Int64) (S : S_LS) (v1 v2 : Int32) (res : Sum (String × S_LS) (Int32 × S_LS)) (rr : Int32) (hF : F_X4_ifLearned S v1 v2 = some res) (h1 : ∀ r0 y, res = .inr (r0, y) → rr = 0) (h2 : ∀ E y, res = .inl (E, y) → (E = "java/lang/IndexOutOfBoundsException" ∧ rr = 1) ∨ (E = "java/lang/IllegalArgumentException" ∧ rr = 2)) : Met l yL_ifLearned wsL_ifLearned ({ frames := 7, cells := 1, slots := 6, locals := 186 } : Room) (va_Pc [.ref (a 0), .int v1, .int v2, .ref o] (jPreX (dC, dI) [(cI, .int), (cL, .long)] sz (OL cL o f ++ W_LS cI a S))) (va_Qi (fun (r' : Int32) (u : S_LS × (Nat → Int64)) => r' = rr ∧ ((∃ r0, res = .inr (r0, u.1) ∧ u.2 0 = r0.toInt64) ∨ ∃ E, res = .inl (E, u.1))) (fun (u : S_LS × (Nat → Int64)) (t : State) => jB (dC, dI) [(cI, .int), (cL, .long)] (va_A (OL cL o f ++ W_LS cI a S) sz) (OL cL o u.2 ++ W_LS cI a u.1) t) (va_A (OL cL o f ++ W_LS cI a S) sz)) 1 6 (va_A (OL cL o f ++ W_LS cI a S) sz) := by
  refine met_ofWH (cc := cL_ifLearned) (maxL := 5) (ret := (some .int)) (hh := [(0, 10, 13, 13), (0, 10, 17, 15)]) (by decide) rfl ?_
  intro p e s m args below meth c s₁ B hml hv
  obtain ⟨rfl, ⟨hsz, hP, hK, hD0, hN⟩, hU, hSN⟩ := hv
  have hx := B.exec
  have hb := B.bytes
  have hr := B.returns
  have hts := atoms_spec (ws := wsL_ifLearned) B.pre
  have hown : s.vm.findClass RL = some m.cls := findClass_of_methodNamed B.named
  have htab := vx_table (x := yL_ifLearned) B (hts _ List.mem_cons_self)
  subst hsz
  have hD := hD0.self (sz := s.heap.size)
  generalize hAe : (va_A (OL cL o f ++ W_LS cI a S) s.heap.size) = A at hD hU hSN ⊢
  have hA : ∀ q : Nat, s.heap.size ≤ q → A q := fun q h => by rw [← hAe]; exact Or.inr h
  have hS : va_S A s.heap s.heap [] := va_S.rf
  have hl := lv_entry ([.ref (a 0), .int v1, .int v2, .ref o]) (n := 5) (Nat.le_of_ble_eq_true rfl)
  rw [lg_entry_eq]
  generalize (lg_sl ([.ref (a 0), .int v1, .int v2, .ref o]) ++ List.replicate (5 - (lg_sl ([.ref (a 0), .int v1, .int v2, .ref o])).length) Slot.unset).toArray = ls at hl ⊢
  have hl : lv_has ls 5 [(0, .ref (a 0)), (1, .int v1), (2, .int v2), (3, .ref o)] := hl
  refine lv_aload_n hx hb dL_ifLearned_0 rfl (lv_at hl 3 rfl) ?_
  refine lv_iconst (v := (0 : Int32)) hx hb dL_ifLearned_1 (by decide) ?_
  refine lv_aload_n hx hb dL_ifLearned_2 rfl (lv_at hl 0 rfl) ?_
  refine lv_iload_n hx hb dL_ifLearned_3 rfl (lv_at hl 1 rfl) ?_
  refine lv_iload_n hx hb dL_ifLearned_4 rfl (lv_at hl 2 rfl) ?_
  have hPc := jLastP (wa := OL cL o f) (wc := W_LS cI a S) hP
  have hDc := jLastD (wa := OL cL o f) (wc := W_LS cI a S) hD
  have hFc := jFreeW (ws := W_LS cI a S) hDc hS hA
  refine vx_calli (vx_runV (As := [.int v1, .int v2]) (rest := [.int (0 : Int32), .ref o]) ⟨hx, hb, hml, hown, hts⟩ (c_X4_ifLearned l dC dI cI hl0 a s.heap.size S v1 v2 res hF) (cwV 2 hts gL_ifLearned_X4_ifLearned rfl rfl rfl (by decide +kernel) ⟨Nat.le_of_ble_eq_true rfl, Nat.le_of_ble_eq_true rfl⟩) (jPreVX (q := (RX4, TX4, 8)) (ci := 4) (hK.sub [0] rfl) hPc hDc hN hU hSN hS hFc rfl rfl) rfl rfl hl.1 rfl (lv_room (Nat.le_of_ble_eq_true rfl)) dL_ifLearned_5 ⟨Nat.le_of_ble_eq_true rfl, Nat.le_of_ble_eq_true rfl⟩) hS (fun q _ h => hFc q h) hFc (fun q _ h => hFc q h) (fun E ce q8 u t H locs ht hvm _ hB hz1 hk1 hS hce hcv hcl => ?_) (fun r' u t H locs ht hvm hw hB hz1 hk1 hS => ?_)
  · obtain ⟨hres, hP1, -, hD1⟩ := hB
    rw [ht] at hP1
    obtain ⟨hP, hD⟩ := jTail (wa := OL cL o f) (wc := W_LS cI a S) (w1 := W_LS cI a u) hP hD hk1 hFc hP1 hD1
    rcases h2 _ _ hres with ⟨rfl, hrr⟩ | ⟨rfl, hrr⟩
    · refine vx_catch (name := "java/lang/IndexOutOfBoundsException") hown [] ⟨0, 10, 13, 13⟩ [⟨0, 10, 17, 15⟩] htab (fun z hz => nomatch hz) (by decide) (by decide) (hts (Cond.classLink RL 13 "java/lang/IndexOutOfBoundsException") (List.mem_of_getElem? (i := 1) rfl)) (va_Nw.use rfl (hN.1 _ (List.mem_of_getElem? (i := 11) rfl))) hce hcv hcl ?_
      refine lv_astore (lv' := [(4, .ref q8), (0, .ref (a 0)), (1, .int v1), (2, .int v2), (3, .ref o)]) hx hb dL_ifLearned_13 hl (by decide) rfl (fun ls hl => ?_)
      refine lv_iconst (v := (1 : Int32)) hx hb dL_ifLearned_15 (by decide) ?_
      refine W.widen (k := 1) (n := 6) (Nat.le_refl _) (Nat.le_refl _) ?_
      exact W.iret (v := (1 : Int32)) hx hb hr (fun t ht hW => ⟨⟨(1 : Int32), (u, f), rfl, ⟨hrr.symm, Or.inr ⟨_, hres⟩⟩, ⟨by rw [ht]; exact hP, va_K.moved hW.alike hK, hD⟩⟩, hS.F ht⟩) hS.2.2 dL_ifLearned_16
    · refine vx_catch (name := "java/lang/IllegalArgumentException") hown [⟨0, 10, 13, 13⟩] ⟨0, 10, 17, 15⟩ [] htab (fun z hz => by
          simp only [List.mem_cons, List.not_mem_nil, or_false] at hz
          rcases hz with rfl
          · exact Or.inr ⟨by decide, "java/lang/IndexOutOfBoundsException", hts (Cond.classLink RL 13 "java/lang/IndexOutOfBoundsException") (List.mem_of_getElem? (i := 1) rfl), hN.2.2 _ (List.mem_of_getElem? (i := 2) rfl)⟩) (by decide) (by decide) (hts (Cond.classLink RL 15 "java/lang/IllegalArgumentException") (List.mem_of_getElem? (i := 2) rfl)) (va_Nw.use rfl (hN.1 _ (List.mem_of_getElem? (i := 12) rfl))) hce hcv hcl ?_
      refine lv_astore (lv' := [(4, .ref q8), (0, .ref (a 0)), (1, .int v1), (2, .int v2), (3, .ref o)]) hx hb dL_ifLearned_17 hl (by decide) rfl (fun ls hl => ?_)
      refine lv_iconst (v := (2 : Int32)) hx hb dL_ifLearned_19 (by decide) ?_
      refine W.widen (k := 1) (n := 6) (Nat.le_refl _) (Nat.le_refl _) ?_
      exact W.iret (v := (2 : Int32)) hx hb hr (fun t ht hW => ⟨⟨(2 : Int32), (u, f), rfl, ⟨hrr.symm, Or.inr ⟨_, hres⟩⟩, ⟨by rw [ht]; exact hP, va_K.moved hW.alike hK, hD⟩⟩, hS.F ht⟩) hS.2.2 dL_ifLearned_20
  · obtain ⟨hP1, -, hD1⟩ := hB
    rw [ht] at hP1
    obtain ⟨hP, hD⟩ := jTail (wa := OL cL o f) (wc := W_LS cI a S) (w1 := W_LS cI a u) hP hD hk1 hFc hP1 hD1
    refine lv_i2l (v := r'.toInt64) hx hb dL_ifLearned_8 rfl ?_
    refine va_last (D := (dC, dI)) (n := 1) (f := f) hx hb hK hP hD hS 0 1 rfl rfl (inb_in (show inb 0 1 = true by decide)) dL_ifLearned_9 (fun H locs hP hD hS => ?_)
    have hP : va_P (dC, dI) vwCl (OL cL o (vp_updL f 0 r'.toInt64) ++ W_LS cI a u) H := hP
    have hD : va_D A (OL cL o (vp_updL f 0 r'.toInt64) ++ W_LS cI a u) := hD
    refine lv_goto (tgt := 21) hx hb dL_ifLearned_10 (by decide) ?_
    refine lv_iconst (v := (0 : Int32)) hx hb dL_ifLearned_21 (by decide) ?_
    refine W.widen (k := 1) (n := 6) (Nat.le_refl _) (Nat.le_refl _) ?_
    exact W.iret (v := (0 : Int32)) hx hb hr (fun t ht hW => ⟨⟨(0 : Int32), (u, vp_updL f 0 r'.toInt64), rfl, ⟨(h1 _ _ hw).symm, Or.inl ⟨r', hw, updL_at f _⟩⟩, ⟨by rw [ht]; exact hP, va_K.moved hW.alike hK, hD⟩⟩, hS.F ht⟩) hS.2.2 dL_ifLearned_22
set_option maxHeartbeats 4000000 in
set_option maxRecDepth 100000 in
theorem c_L_covers (l : Launch) (dC : Nat → ClassId) (dI : Nat → Nat → Nat) (cI cL : ClassId) (hl0 : l.stackTraces = false) (a : Nat → Nat) (o sz : Nat) (f : Nat → Int64) (S : S_LS) (v1 : Int32) (res : Sum (String × Unit) Int32) (rr : Int32) (hF : F_X4_covers S v1 = some res) (h1 : ∀ r0, res = .inr r0 → rr = 0) (h2 : ∀ E y, res = .inl (E, y) → (E = "java/lang/IndexOutOfBoundsException" ∧ rr = 1)) : Met l yL_covers wsL_covers ({ frames := 13, cells := 1, slots := 6, locals := 353 } : Room) (va_Pc [.ref (a 0), .int v1, .ref o] (jPreX (dC, dI) [(cI, .int), (cL, .long)] sz (OL cL o f ++ W_LS cI a S))) (va_Qi (fun (r' : Int32) (u : Nat → Int64) => r' = rr ∧ ((∃ r0, res = .inr r0 ∧ u 0 = r0.toInt64) ∨ ∃ E, res = .inl (E, ()))) (fun (u : Nat → Int64) (t : State) => jB (dC, dI) [(cI, .int), (cL, .long)] (va_A (OL cL o f ++ W_LS cI a S) sz) (OL cL o u ++ W_LS cI a S) t) (va_A (OL cL o f ++ W_LS cI a S) sz)) 1 6 (va_A (OL cL o f ++ W_LS cI a S) sz) := by
  refine met_ofWH (cc := cL_covers) (maxL := 4) (ret := (some .int)) (hh := [(0, 9, 12, 13)]) (by decide) rfl ?_
  intro p e s m args below meth c s₁ B hml hv
  obtain ⟨rfl, ⟨hsz, hP, hK, hD0, hN⟩, hU, hSN⟩ := hv
  have hx := B.exec
  have hb := B.bytes
  have hr := B.returns
  have hts := atoms_spec (ws := wsL_covers) B.pre
  have hown : s.vm.findClass RL = some m.cls := findClass_of_methodNamed B.named
  have htab := vx_table (x := yL_covers) B (hts _ List.mem_cons_self)
  subst hsz
  have hD := hD0.self (sz := s.heap.size)
  generalize hAe : (va_A (OL cL o f ++ W_LS cI a S) s.heap.size) = A at hD hU hSN ⊢
  have hA : ∀ q : Nat, s.heap.size ≤ q → A q := fun q h => by rw [← hAe]; exact Or.inr h
  have hS : va_S A s.heap s.heap [] := va_S.rf
  have hl := lv_entry ([.ref (a 0), .int v1, .ref o]) (n := 4) (Nat.le_of_ble_eq_true rfl)
  rw [lg_entry_eq]
  generalize (lg_sl ([.ref (a 0), .int v1, .ref o]) ++ List.replicate (4 - (lg_sl ([.ref (a 0), .int v1, .ref o])).length) Slot.unset).toArray = ls at hl ⊢
  have hl : lv_has ls 4 [(0, .ref (a 0)), (1, .int v1), (2, .ref o)] := hl
  refine lv_aload_n hx hb dL_covers_0 rfl (lv_at hl 2 rfl) ?_
  refine lv_iconst (v := (0 : Int32)) hx hb dL_covers_1 (by decide) ?_
  refine lv_aload_n hx hb dL_covers_2 rfl (lv_at hl 0 rfl) ?_
  refine lv_iload_n hx hb dL_covers_3 rfl (lv_at hl 1 rfl) ?_
  have hPc := jLastP (wa := OL cL o f) (wc := W_LS cI a S) hP
  have hDc := jLastD (wa := OL cL o f) (wc := W_LS cI a S) hD
  have hFc := jFreeW (ws := W_LS cI a S) hDc hS hA
  refine vx_calli (vx_runV (As := [.int v1]) (rest := [.int (0 : Int32), .ref o]) ⟨hx, hb, hml, hown, hts⟩ (c_X4_covers l dC dI cI hl0 a s.heap.size S v1 res hF) (cwV 1 hts gL_covers_X4_covers rfl rfl rfl (by decide +kernel) ⟨Nat.le_of_ble_eq_true rfl, Nat.le_of_ble_eq_true rfl⟩) (jPreVX (q := (RX4, TX4, 8)) (ci := 4) (hK.sub [0] rfl) hPc hDc hN hU hSN hS hFc rfl rfl) rfl rfl hl.1 rfl (lv_room (Nat.le_of_ble_eq_true rfl)) dL_covers_4 ⟨Nat.le_of_ble_eq_true rfl, Nat.le_of_ble_eq_true rfl⟩) hS (fun q _ h => hFc q h) hFc (fun q _ h => hFc q h) (fun E ce q8 u t H locs ht hvm _ hB hz1 hk1 hS hce hcv hcl => ?_) (fun r' u t H locs ht hvm hw hB hz1 hk1 hS => ?_)
  · obtain ⟨hres, hP1, -, hD1⟩ := hB
    rw [ht] at hP1
    obtain ⟨hP, hD⟩ := jTail (wa := OL cL o f) (wc := W_LS cI a S) (w1 := W_LS cI a S) hP hD hk1 hFc hP1 hD1
    rcases h2 _ _ hres with ⟨rfl, hrr⟩
    · refine vx_catch (name := "java/lang/IndexOutOfBoundsException") hown [] ⟨0, 9, 12, 13⟩ [] htab (fun z hz => nomatch hz) (by decide) (by decide) (hts (Cond.classLink RL 13 "java/lang/IndexOutOfBoundsException") (List.mem_of_getElem? (i := 1) rfl)) (va_Nw.use rfl (hN.1 _ (List.mem_of_getElem? (i := 11) rfl))) hce hcv hcl ?_
      refine lv_astore_n (lv' := [(3, .ref q8), (0, .ref (a 0)), (1, .int v1), (2, .ref o)]) hx hb dL_covers_12 rfl hl (by decide) rfl (fun ls hl => ?_)
      refine lv_iconst (v := (1 : Int32)) hx hb dL_covers_13 (by decide) ?_
      refine W.widen (k := 1) (n := 6) (Nat.le_refl _) (Nat.le_refl _) ?_
      exact W.iret (v := (1 : Int32)) hx hb hr (fun t ht hW => ⟨⟨(1 : Int32), f, rfl, ⟨hrr.symm, Or.inr ⟨_, hres⟩⟩, ⟨by rw [ht]; exact hP, va_K.moved hW.alike hK, hD⟩⟩, hS.F ht⟩) hS.2.2 dL_covers_14
  · obtain ⟨hP1, -, hD1⟩ := hB
    rw [ht] at hP1
    obtain ⟨hP, hD⟩ := jTail (wa := OL cL o f) (wc := W_LS cI a S) (w1 := W_LS cI a S) hP hD hk1 hFc hP1 hD1
    refine lv_i2l (v := r'.toInt64) hx hb dL_covers_7 rfl ?_
    refine va_last (D := (dC, dI)) (n := 1) (f := f) hx hb hK hP hD hS 0 1 rfl rfl (inb_in (show inb 0 1 = true by decide)) dL_covers_8 (fun H locs hP hD hS => ?_)
    have hP : va_P (dC, dI) vwCl (OL cL o (vp_updL f 0 r'.toInt64) ++ W_LS cI a S) H := hP
    have hD : va_D A (OL cL o (vp_updL f 0 r'.toInt64) ++ W_LS cI a S) := hD
    refine lv_goto (tgt := 15) hx hb dL_covers_9 (by decide) ?_
    refine lv_iconst (v := (0 : Int32)) hx hb dL_covers_15 (by decide) ?_
    refine W.widen (k := 1) (n := 6) (Nat.le_refl _) (Nat.le_refl _) ?_
    exact W.iret (v := (0 : Int32)) hx hb hr (fun t ht hW => ⟨⟨(0 : Int32), vp_updL f 0 r'.toInt64, rfl, ⟨(h1 _ hw).symm, Or.inl ⟨r', hw, updL_at f _⟩⟩, ⟨by rw [ht]; exact hP, va_K.moved hW.alike hK, hD⟩⟩, hS.F ht⟩) hS.2.2 dL_covers_16
set_option maxHeartbeats 4000000 in
set_option maxRecDepth 100000 in
theorem c_L_sureShare (l : Launch) (dC : Nat → ClassId) (dI : Nat → Nat → Nat) (cI cD : ClassId) (hl0 : l.stackTraces = false) (a : Nat → Nat) (o sz : Nat) (f : Nat → UInt64) (S : S_LS) (v1 : Int32) (res : Sum (String × Unit) UInt64) (rr : Int32) (hF : F_X4_sureShare S v1 = some res) (h1 : ∀ r0, res = .inr r0 → rr = 0) (h2 : ∀ E y, res = .inl (E, y) → (E = "java/lang/IndexOutOfBoundsException" ∧ rr = 1)) : Met l yL_sureShare wsL_sureShare ({ frames := 7, cells := 1, slots := 6, locals := 111 } : Room) (va_Pc [.ref (a 0), .int v1, .ref o] (jPreX (dC, dI) [(cI, .int), (cD, .double)] sz (OD cD o f ++ W_LS cI a S))) (va_Qi (fun (r' : Int32) (u : Nat → UInt64) => r' = rr ∧ ((∃ r0, res = .inr r0 ∧ u 0 = r0) ∨ ∃ E, res = .inl (E, ()))) (fun (u : Nat → UInt64) (t : State) => jB (dC, dI) [(cI, .int), (cD, .double)] (va_A (OD cD o f ++ W_LS cI a S) sz) (OD cD o u ++ W_LS cI a S) t) (va_A (OD cD o f ++ W_LS cI a S) sz)) 1 6 (va_A (OD cD o f ++ W_LS cI a S) sz) := by
  refine met_ofWH (cc := cL_sureShare) (maxL := 4) (ret := (some .int)) (hh := [(0, 8, 11, 13)]) (by decide) rfl ?_
  intro p e s m args below meth c s₁ B hml hv
  obtain ⟨rfl, ⟨hsz, hP, hK, hD0, hN⟩, hU, hSN⟩ := hv
  have hx := B.exec
  have hb := B.bytes
  have hr := B.returns
  have hts := atoms_spec (ws := wsL_sureShare) B.pre
  have hown : s.vm.findClass RL = some m.cls := findClass_of_methodNamed B.named
  have htab := vx_table (x := yL_sureShare) B (hts _ List.mem_cons_self)
  subst hsz
  have hD := hD0.self (sz := s.heap.size)
  generalize hAe : (va_A (OD cD o f ++ W_LS cI a S) s.heap.size) = A at hD hU hSN ⊢
  have hA : ∀ q : Nat, s.heap.size ≤ q → A q := fun q h => by rw [← hAe]; exact Or.inr h
  have hS : va_S A s.heap s.heap [] := va_S.rf
  have hl := lv_entry ([.ref (a 0), .int v1, .ref o]) (n := 4) (Nat.le_of_ble_eq_true rfl)
  rw [lg_entry_eq]
  generalize (lg_sl ([.ref (a 0), .int v1, .ref o]) ++ List.replicate (4 - (lg_sl ([.ref (a 0), .int v1, .ref o])).length) Slot.unset).toArray = ls at hl ⊢
  have hl : lv_has ls 4 [(0, .ref (a 0)), (1, .int v1), (2, .ref o)] := hl
  refine lv_aload_n hx hb dL_sureShare_0 rfl (lv_at hl 2 rfl) ?_
  refine lv_iconst (v := (0 : Int32)) hx hb dL_sureShare_1 (by decide) ?_
  refine lv_aload_n hx hb dL_sureShare_2 rfl (lv_at hl 0 rfl) ?_
  refine lv_iload_n hx hb dL_sureShare_3 rfl (lv_at hl 1 rfl) ?_
  have hPc := jLastP (wa := OD cD o f) (wc := W_LS cI a S) hP
  have hDc := jLastD (wa := OD cD o f) (wc := W_LS cI a S) hD
  have hFc := jFreeW (ws := W_LS cI a S) hDc hS hA
  refine vx_calld (vx_runV (As := [.int v1]) (rest := [.int (0 : Int32), .ref o]) ⟨hx, hb, hml, hown, hts⟩ (c_X4_sureShare l dC dI cI hl0 a s.heap.size S v1 res hF) (cwV 1 hts gL_sureShare_X4_sureShare rfl rfl rfl (by decide +kernel) ⟨Nat.le_of_ble_eq_true rfl, Nat.le_of_ble_eq_true rfl⟩) (jPreVX (q := (RX4, TX4, 8)) (ci := 4) (hK.sub [0] rfl) hPc hDc hN hU hSN hS hFc rfl rfl) rfl rfl hl.1 rfl (lv_room (Nat.le_of_ble_eq_true rfl)) dL_sureShare_4 ⟨Nat.le_of_ble_eq_true rfl, Nat.le_of_ble_eq_true rfl⟩) hS (fun q _ h => hFc q h) hFc (fun q _ h => hFc q h) (fun E ce q8 u t H locs ht hvm _ hB hz1 hk1 hS hce hcv hcl => ?_) (fun r' u t H locs ht hvm hw hB hz1 hk1 hS => ?_)
  · obtain ⟨hres, hP1, -, hD1⟩ := hB
    rw [ht] at hP1
    obtain ⟨hP, hD⟩ := jTail (wa := OD cD o f) (wc := W_LS cI a S) (w1 := W_LS cI a S) hP hD hk1 hFc hP1 hD1
    rcases h2 _ _ hres with ⟨rfl, hrr⟩
    · refine vx_catch (name := "java/lang/IndexOutOfBoundsException") hown [] ⟨0, 8, 11, 13⟩ [] htab (fun z hz => nomatch hz) (by decide) (by decide) (hts (Cond.classLink RL 13 "java/lang/IndexOutOfBoundsException") (List.mem_of_getElem? (i := 1) rfl)) (va_Nw.use rfl (hN.1 _ (List.mem_of_getElem? (i := 11) rfl))) hce hcv hcl ?_
      refine lv_astore_n (lv' := [(3, .ref q8), (0, .ref (a 0)), (1, .int v1), (2, .ref o)]) hx hb dL_sureShare_11 rfl hl (by decide) rfl (fun ls hl => ?_)
      refine lv_iconst (v := (1 : Int32)) hx hb dL_sureShare_12 (by decide) ?_
      refine W.widen (k := 1) (n := 6) (Nat.le_refl _) (Nat.le_refl _) ?_
      exact W.iret (v := (1 : Int32)) hx hb hr (fun t ht hW => ⟨⟨(1 : Int32), f, rfl, ⟨hrr.symm, Or.inr ⟨_, hres⟩⟩, ⟨by rw [ht]; exact hP, va_K.moved hW.alike hK, hD⟩⟩, hS.F ht⟩) hS.2.2 dL_sureShare_13
  · obtain ⟨hP1, -, hD1⟩ := hB
    rw [ht] at hP1
    obtain ⟨hP, hD⟩ := jTail (wa := OD cD o f) (wc := W_LS cI a S) (w1 := W_LS cI a S) hP hD hk1 hFc hP1 hD1
    refine va_dast (D := (dC, dI)) (n := 1) (f := f) hx hb hK hP hD hS 0 1 rfl rfl (inb_in (show inb 0 1 = true by decide)) dL_sureShare_7 (fun H locs hP hD hS => ?_)
    have hP : va_P (dC, dI) vwCl (OD cD o (vf_upd f 0 r') ++ W_LS cI a S) H := hP
    have hD : va_D A (OD cD o (vf_upd f 0 r') ++ W_LS cI a S) := hD
    refine lv_goto (tgt := 14) hx hb dL_sureShare_8 (by decide) ?_
    refine lv_iconst (v := (0 : Int32)) hx hb dL_sureShare_14 (by decide) ?_
    refine W.widen (k := 1) (n := 6) (Nat.le_refl _) (Nat.le_refl _) ?_
    exact W.iret (v := (0 : Int32)) hx hb hr (fun t ht hW => ⟨⟨(0 : Int32), vf_upd f 0 r', rfl, ⟨(h1 _ hw).symm, Or.inl ⟨r', hw, updD_at f _⟩⟩, ⟨by rw [ht]; exact hP, va_K.moved hW.alike hK, hD⟩⟩, hS.F ht⟩) hS.2.2 dL_sureShare_15
