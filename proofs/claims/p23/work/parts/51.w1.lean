set_option maxHeartbeats 4000000 in
set_option maxRecDepth 100000 in
theorem c_X2_copyFrom (l : Launch) (dC : Nat → ClassId) (dI : Nat → Nat → Nat) (cI : ClassId) (a b : Nat → Nat) (sz : Nat) (S : S_State) (S1 : S_State)  (Y : S_State) (hF : F_X2_copyFrom S S1  = some Y) : Met l yX2_copyFrom wsX2_copyFrom ({ frames := 3, cells := 0, slots := 0, locals := 108 } : Room) (va_Pc [.ref (a 0), .ref (b 0)] (jPre (dC, dI) [(cI, .int)] sz ((W_State cI a S) ++ (W_State cI b S1)))) (va_Qv (fun u : S_State => Y = u) (fun u : S_State => jB (dC, dI) [(cI, .int)] (va_A ((W_State cI a S) ++ (W_State cI b S1)) sz) ((W_State cI a u) ++ (W_State cI b S1))) (va_A ((W_State cI a S) ++ (W_State cI b S1)) sz)) 0 0 (va_A ((W_State cI a S) ++ (W_State cI b S1)) sz) := by
  refine Met.ofW (cc := cX2_copyFrom) (maxL := 2) (ret := none) (by decide) rfl ?_
  intro p e s m args below meth c s₁ B hml hv
  obtain ⟨rfl, hsz, hP, hK, hD0, hN⟩ := hv
  have hx := B.exec
  have hb := B.bytes
  have hr := B.returns
  have hts := atoms_spec (ws := wsX2_copyFrom) B.pre
  have hown : s.vm.findClass RX2 = some m.cls := findClass_of_methodNamed B.named
  have hlocks := B.notSynchronized
  have hinX2 : ∀ w ∈ u_ws RX2 TX2 3, w ∈ wsX2_copyFrom := by decide +kernel
  subst hsz
  have hD := hD0.self (sz := s.heap.size)
  generalize hAe : (va_A ((W_State cI a S) ++ (W_State cI b S1)) s.heap.size) = A at hD ⊢
  have hA : ∀ q : Nat, s.heap.size ≤ q → A q := fun q h => by rw [← hAe]; exact Or.inr h
  have hS : va_S A s.heap s.heap [] := va_S.rf
  have hl := lv_entry ([.ref (a 0), .ref (b 0)]) (n := 2) (Nat.le_of_ble_eq_true rfl)
  rw [lg_entry_eq]
  generalize (lg_sl ([.ref (a 0), .ref (b 0)]) ++ List.replicate (2 - (lg_sl ([.ref (a 0), .ref (b 0)])).length) Slot.unset).toArray = ls at hl ⊢
  have hl : lv_has ls 2 [(0, .ref (a 0)), (1, .ref (b 0))] := hl
  have KE : ∀ (H : Heap) (locs : List Loc), va_P (dC, dI) vwCl ((W_State cI a S) ++ (W_State cI b S1)) H → va_D A ((W_State cI a S) ++ (W_State cI b S1)) → va_S A s.heap H locs → W p l e (headSpec wsX2_copyFrom ({ frames := 3, cells := 0, slots := 0, locals := 108 } : Room)).room s m ([.ref (a 0), .ref (b 0)] : List Value).toArray below meth c H locs 0 0 (MQ below (va_Qv (fun u : S_State => Y = u) (fun u : S_State => jB (dC, dI) [(cI, .int)] A ((W_State cI a u) ++ (W_State cI b S1))) A) ([.ref (a 0), .ref (b 0)] : List Value).toArray s 0 0 A) (F0 m 0 ls []) := by
    intro H locs hP hD hS
    unfold F_X2_copyFrom at hF
    refine lv_aload_n hx hb dX2_copyFrom_0 rfl (lv_at hl 0 rfl) ?_
    refine va_get (D := (dC, dI)) (ci := 2) (v := .ref (a 1)) (C := RX2) (T := TX2) (N := 3) hx hb hts hinX2 hown hK hP 0 rfl rfl 0 (by decide) (hts (Cond.fieldLink RX2 10 "LearnedShapes$State" "first" "LLearnedShapes$Tree;") (List.mem_of_getElem? (i := 1) rfl)) (fun _ h9 => h9) rfl dX2_copyFrom_1 ?_
    refine lv_aload_n hx hb dX2_copyFrom_4 rfl (lv_at hl 1 rfl) ?_
    refine va_get (D := (dC, dI)) (ci := 2) (v := .ref (b 1)) (C := RX2) (T := TX2) (N := 3) hx hb hts hinX2 hown hK hP 5 rfl rfl 0 (by decide) (hts (Cond.fieldLink RX2 10 "LearnedShapes$State" "first" "LLearnedShapes$Tree;") (List.mem_of_getElem? (i := 1) rfl)) (fun _ h9 => h9) rfl dX2_copyFrom_5 ?_
    obtain ⟨u1, h2, hF⟩ := ob1_some hF
    have hPc := hP.sub (ws' := (W_Tree cI (sh a 1) (g_State_first S)) ++ (W_Tree cI (sh b 1) (g_State_first S1))) [1, 2, 6, 7] rfl
    have hDc := hD.sub (ws' := (W_Tree cI (sh a 1) (g_State_first S)) ++ (W_Tree cI (sh b 1) (g_State_first S1))) [1, 2, 6, 7] (by decide) rfl
    have hFc := va_free (wc := (W_Tree cI (sh a 1) (g_State_first S)) ++ (W_Tree cI (sh b 1) (g_State_first S1))) hD hS hA [1, 2, 6, 7] rfl
    refine va_callv (va_runV (As := [.ref (b 1)]) (rest := []) ⟨hx, hb, hml, hown, hts⟩ (c_X3_copyFrom l dC dI cI (sh a 1) (sh b 1) H.size _ _ _ h2) (cwV 1 hts gX2_copyFrom_X3_copyFrom rfl rfl rfl (by decide +kernel) ⟨Nat.le_of_ble_eq_true rfl, Nat.le_of_ble_eq_true rfl⟩) (jPreV hK hPc hDc hN (ci := 3) rfl rfl) rfl rfl hl.1 rfl (lv_room (Nat.le_of_ble_eq_true rfl)) dX2_copyFrom_8 ⟨Nat.le_of_ble_eq_true rfl, Nat.le_of_ble_eq_true rfl⟩) hS (fun q _ h => hFc q h) hFc (fun u' t H locs ht hvm hw hB hz1 hk1 hS => ?_)
    subst hw
    obtain ⟨hP1, -, hD1⟩ := hB
    rw [ht] at hP1
    obtain ⟨hP, hD⟩ := jJoin (wc := (W_Tree cI (sh a 1) (g_State_first S)) ++ (W_Tree cI (sh b 1) (g_State_first S1))) (w1 := (W_Tree cI (sh a 1) u1) ++ (W_Tree cI (sh b 1) (g_State_first S1))) (ws' := (W_State cI a (s_State_first S u1)) ++ (W_State cI b S1)) hP hD [1, 2, 6, 7] [0, 3, 4, 5, 8, 9] [0, 6, 7, 1, 2, 3, 8, 9, 4, 5] rfl rfl (by decide) (by decide) hk1 hFc hP1 hD1 (by decide) rfl
    refine lv_aload_n hx hb dX2_copyFrom_11 rfl (lv_at hl 0 rfl) ?_
    refine va_get (D := (dC, dI)) (ci := 2) (v := .ref (a 3)) (C := RX2) (T := TX2) (N := 3) hx hb hts hinX2 hown hK hP 0 rfl rfl 1 (by decide) (hts (Cond.fieldLink RX2 16 "LearnedShapes$State" "second" "LLearnedShapes$Tree;") (List.mem_of_getElem? (i := 2) rfl)) (fun _ h9 => h9) rfl dX2_copyFrom_12 ?_
    refine lv_aload_n hx hb dX2_copyFrom_15 rfl (lv_at hl 1 rfl) ?_
    refine va_get (D := (dC, dI)) (ci := 2) (v := .ref (b 3)) (C := RX2) (T := TX2) (N := 3) hx hb hts hinX2 hown hK hP 5 rfl rfl 1 (by decide) (hts (Cond.fieldLink RX2 16 "LearnedShapes$State" "second" "LLearnedShapes$Tree;") (List.mem_of_getElem? (i := 2) rfl)) (fun _ h9 => h9) rfl dX2_copyFrom_16 ?_
    obtain ⟨u3, h4, hF⟩ := ob1_some hF
    have hPc := hP.sub (ws' := (W_Tree cI (sh a 3) (g_State_second S)) ++ (W_Tree cI (sh b 3) (g_State_second S1))) [3, 4, 8, 9] rfl
    have hDc := hD.sub (ws' := (W_Tree cI (sh a 3) (g_State_second S)) ++ (W_Tree cI (sh b 3) (g_State_second S1))) [3, 4, 8, 9] (by decide) rfl
    have hFc := va_free (wc := (W_Tree cI (sh a 3) (g_State_second S)) ++ (W_Tree cI (sh b 3) (g_State_second S1))) hD hS hA [3, 4, 8, 9] rfl
    refine va_callv (va_runV (As := [.ref (b 3)]) (rest := []) ⟨hx, hb, hml, hown, hts⟩ (c_X3_copyFrom l dC dI cI (sh a 3) (sh b 3) H.size _ _ _ h4) (cwV 1 hts gX2_copyFrom_X3_copyFrom rfl rfl rfl (by decide +kernel) ⟨Nat.le_of_ble_eq_true rfl, Nat.le_of_ble_eq_true rfl⟩) (jPreV hK hPc hDc hN (ci := 3) rfl rfl) rfl rfl hl.1 rfl (lv_room (Nat.le_of_ble_eq_true rfl)) dX2_copyFrom_19 ⟨Nat.le_of_ble_eq_true rfl, Nat.le_of_ble_eq_true rfl⟩) hS (fun q _ h => hFc q h) hFc (fun u' t H locs ht hvm hw hB hz1 hk1 hS => ?_)
    subst hw
    obtain ⟨hP1, -, hD1⟩ := hB
    rw [ht] at hP1
    obtain ⟨hP, hD⟩ := jJoin (wc := (W_Tree cI (sh a 3) (g_State_second S)) ++ (W_Tree cI (sh b 3) (g_State_second S1))) (w1 := (W_Tree cI (sh a 3) u3) ++ (W_Tree cI (sh b 3) (g_State_second S1))) (ws' := (W_State cI a (s_State_second (s_State_first S u1) u3)) ++ (W_State cI b S1)) hP hD [3, 4, 8, 9] [0, 1, 2, 5, 6, 7] [0, 1, 2, 6, 7, 3, 4, 5, 8, 9] rfl rfl (by decide) (by decide) hk1 hFc hP1 hD1 (by decide) rfl
    refine lv_aload_n hx hb dX2_copyFrom_22 rfl (lv_at hl 0 rfl) ?_
    refine lv_aload_n hx hb dX2_copyFrom_23 rfl (lv_at hl 1 rfl) ?_
    refine va_get (D := (dC, dI)) (ci := 2) (v := .int (g_State_setting S1)) (C := RX2) (T := TX2) (N := 3) hx hb hts hinX2 hown hK hP 5 rfl rfl 2 (by decide) (hts (Cond.fieldLink RX2 23 "LearnedShapes$State" "setting" "I") (List.mem_of_getElem? (i := 3) rfl)) (fun _ h9 => h9) rfl dX2_copyFrom_24 ?_
    refine va_put (D := (dC, dI)) (ci := 2) (v := .int (g_State_setting S1)) (ty := .int) (C := RX2) (T := TX2) (N := 3) hx hb hts hinX2 tyX2 tyX2_ok nmX2 hown hK hP hD hS 0 rfl rfl 2 (by decide) (hts (Cond.fieldLink RX2 23 "LearnedShapes$State" "setting" "I") (List.mem_of_getElem? (i := 3) rfl)) (fun _ h9 => h9) rfl (by decide +kernel) (rfl) rfl (Nat.le_of_ble_eq_true rfl) dX2_copyFrom_27 (fun H locs hP hD hS => ?_)
    have hP : va_P (dC, dI) vwCl ((W_State cI a (s_State_setting (s_State_second (s_State_first S u1) u3) (g_State_setting S1))) ++ (W_State cI b S1)) H := hP
    have hD : va_D A ((W_State cI a (s_State_setting (s_State_second (s_State_first S u1) u3) (g_State_setting S1))) ++ (W_State cI b S1)) := hD
    have e50 := Option.some.inj hF
    subst e50
    exact W.vret hx hb hr (fun t ht hW => ⟨⟨(s_State_setting (s_State_second (s_State_first S u1) u3) (g_State_setting S1)), rfl, rfl, by rw [ht]; exact hP, va_K.moved hW.alike hK, hD⟩, hS.F ht⟩) hS.2.2 dX2_copyFrom_30
  exact KE _ _ hP hD hS
set_option maxHeartbeats 4000000 in
set_option maxRecDepth 100000 in
theorem c_X2_tree_first (l : Launch) (dC : Nat → ClassId) (dI : Nat → Nat → Nat) (cI : ClassId) (a : Nat → Nat) (sz : Nat) (S : S_State) (v1 : Int32) (hv1 : v1 = 0) : Met l yX2_tree wsX2_tree ({ frames := 0, cells := 0, slots := 0, locals := 0 } : Room) (va_Pc [.ref (a 0), .int v1] (jPre (dC, dI) [(cI, .int)] sz (W_State cI a S))) (va_Qr (fun _ : Unit => True) (fun (_ : Unit) (q : Nat) (t : State) => q = a 1 ∧ jB (dC, dI) [(cI, .int)] (va_A (W_State cI a S) sz) (W_State cI a S) t) (va_A (W_State cI a S) sz)) 0 0 (va_A (W_State cI a S) sz) := by
  refine Met.ofW (cc := cX2_tree) (maxL := 2) (ret := (some (.object "LearnedShapes$Tree"))) (by decide) rfl ?_
  intro p e s m args below meth c s₁ B hml hv
  obtain ⟨rfl, hsz, hP, hK, hD0, hN⟩ := hv
  have hx := B.exec
  have hb := B.bytes
  have hr := B.returns
  have hts := atoms_spec (ws := wsX2_tree) B.pre
  have hown : s.vm.findClass RX2 = some m.cls := findClass_of_methodNamed B.named
  have hlocks := B.notSynchronized
  have hinX2 : ∀ w ∈ u_ws RX2 TX2 3, w ∈ wsX2_tree := by decide +kernel
  subst hsz
  have hD := hD0.self (sz := s.heap.size)
  generalize hAe : (va_A (W_State cI a S) s.heap.size) = A at hD ⊢
  have hS : va_S A s.heap s.heap [] := va_S.rf
  have hl := lv_entry ([.ref (a 0), .int v1]) (n := 2) (Nat.le_of_ble_eq_true rfl)
  rw [lg_entry_eq]
  generalize (lg_sl ([.ref (a 0), .int v1]) ++ List.replicate (2 - (lg_sl ([.ref (a 0), .int v1])).length) Slot.unset).toArray = ls at hl ⊢
  have hl : lv_has ls 2 [(0, .ref (a 0)), (1, .int v1)] := hl
  refine lv_iload_n hx hb dX2_tree_0 rfl (lv_at hl 1 rfl) ?_
  refine lv_if_ne (tgt := 11) hx hb dX2_tree_1 (by decide) (fun c1 => absurd hv1 c1) (fun c1 => ?_)
  refine lv_aload_n hx hb dX2_tree_4 rfl (lv_at hl 0 rfl) ?_
  refine va_get (D := (dC, dI)) (ci := 2) (v := .ref (a 1)) (C := RX2) (T := TX2) (N := 3) hx hb hts hinX2 hown hK hP 0 rfl rfl 0 (by decide) (hts (Cond.fieldLink RX2 10 "LearnedShapes$State" "first" "LLearnedShapes$Tree;") (List.mem_of_getElem? (i := 1) rfl)) (fun _ h9 => h9) rfl dX2_tree_5 ?_
  refine lv_goto (tgt := 15) hx hb dX2_tree_8 (by decide) ?_
  exact W.aret (v := .ref (a 1)) hx hb hr (Or.inl ⟨_, rfl⟩) (Or.inr ⟨_, rfl⟩) (fun t ht hW => ⟨⟨(), (a 1), rfl, trivial, rfl, by rw [ht]; exact hP, va_K.moved hW.alike hK, hD⟩, hS.F ht⟩) hS.2.2 dX2_tree_15
set_option maxHeartbeats 4000000 in
set_option maxRecDepth 100000 in
theorem c_X2_tree_second (l : Launch) (dC : Nat → ClassId) (dI : Nat → Nat → Nat) (cI : ClassId) (a : Nat → Nat) (sz : Nat) (S : S_State) (v1 : Int32) (hv1 : ¬ v1 = 0) : Met l yX2_tree wsX2_tree ({ frames := 0, cells := 0, slots := 0, locals := 0 } : Room) (va_Pc [.ref (a 0), .int v1] (jPre (dC, dI) [(cI, .int)] sz (W_State cI a S))) (va_Qr (fun _ : Unit => True) (fun (_ : Unit) (q : Nat) (t : State) => q = a 3 ∧ jB (dC, dI) [(cI, .int)] (va_A (W_State cI a S) sz) (W_State cI a S) t) (va_A (W_State cI a S) sz)) 0 0 (va_A (W_State cI a S) sz) := by
  refine Met.ofW (cc := cX2_tree) (maxL := 2) (ret := (some (.object "LearnedShapes$Tree"))) (by decide) rfl ?_
  intro p e s m args below meth c s₁ B hml hv
  obtain ⟨rfl, hsz, hP, hK, hD0, hN⟩ := hv
  have hx := B.exec
  have hb := B.bytes
  have hr := B.returns
  have hts := atoms_spec (ws := wsX2_tree) B.pre
  have hown : s.vm.findClass RX2 = some m.cls := findClass_of_methodNamed B.named
  have hlocks := B.notSynchronized
  have hinX2 : ∀ w ∈ u_ws RX2 TX2 3, w ∈ wsX2_tree := by decide +kernel
  subst hsz
  have hD := hD0.self (sz := s.heap.size)
  generalize hAe : (va_A (W_State cI a S) s.heap.size) = A at hD ⊢
  have hS : va_S A s.heap s.heap [] := va_S.rf
  have hl := lv_entry ([.ref (a 0), .int v1]) (n := 2) (Nat.le_of_ble_eq_true rfl)
  rw [lg_entry_eq]
  generalize (lg_sl ([.ref (a 0), .int v1]) ++ List.replicate (2 - (lg_sl ([.ref (a 0), .int v1])).length) Slot.unset).toArray = ls at hl ⊢
  have hl : lv_has ls 2 [(0, .ref (a 0)), (1, .int v1)] := hl
  refine lv_iload_n hx hb dX2_tree_0 rfl (lv_at hl 1 rfl) ?_
  refine lv_if_ne (tgt := 11) hx hb dX2_tree_1 (by decide) (fun c1 => ?_) (fun c1 => absurd c1 hv1)
  refine lv_aload_n hx hb dX2_tree_11 rfl (lv_at hl 0 rfl) ?_
  refine va_get (D := (dC, dI)) (ci := 2) (v := .ref (a 3)) (C := RX2) (T := TX2) (N := 3) hx hb hts hinX2 hown hK hP 0 rfl rfl 1 (by decide) (hts (Cond.fieldLink RX2 16 "LearnedShapes$State" "second" "LLearnedShapes$Tree;") (List.mem_of_getElem? (i := 2) rfl)) (fun _ h9 => h9) rfl dX2_tree_12 ?_
  exact W.aret (v := .ref (a 3)) hx hb hr (Or.inl ⟨_, rfl⟩) (Or.inr ⟨_, rfl⟩) (fun t ht hW => ⟨⟨(), (a 3), rfl, trivial, rfl, by rw [ht]; exact hP, va_K.moved hW.alike hK, hD⟩, hS.F ht⟩) hS.2.2 dX2_tree_15
set_option maxHeartbeats 4000000 in
set_option maxRecDepth 100000 in
theorem c_X1_isDigit (l : Launch) (dC : Nat → ClassId) (dI : Nat → Nat → Nat) (cI : ClassId) (sz : Nat)  (v1 : Int32) (rr : Bool) (hF : F_X1_isDigit  v1 = some rr) : Met l yX1_isDigit wsX1_isDigit ({ frames := 0, cells := 0, slots := 0, locals := 0 } : Room) (va_Pc [.int v1] (jPre (dC, dI) [(cI, .int)] sz (([] : va_W)))) (va_Qi (fun (r' : Int32) (_ : Unit) => b2i rr = r') (fun _ : Unit => jB (dC, dI) [(cI, .int)] (va_A (([] : va_W)) sz) (([] : va_W))) (va_A (([] : va_W)) sz)) 0 0 (va_A (([] : va_W)) sz) := by
  refine Met.ofW (cc := cX1_isDigit) (maxL := 1) (ret := (some .boolean)) (by decide) rfl ?_
  intro p e s m args below meth c s₁ B hml hv
  obtain ⟨rfl, hsz, hP, hK, hD0, hN⟩ := hv
  have hx := B.exec
  have hb := B.bytes
  have hr := B.returns
  have hts := atoms_spec (ws := wsX1_isDigit) B.pre
  have hown : s.vm.findClass RX1 = some m.cls := findClass_of_methodNamed B.named
  have hlocks := B.notSynchronized
  subst hsz
  have hD := hD0.self (sz := s.heap.size)
  generalize hAe : (va_A (([] : va_W)) s.heap.size) = A at hD ⊢
  have hA : ∀ q : Nat, s.heap.size ≤ q → A q := fun q h => by rw [← hAe]; exact Or.inr h
  have hS : va_S A s.heap s.heap [] := va_S.rf
  have hl := lv_entry ([.int v1]) (n := 1) (Nat.le_of_ble_eq_true rfl)
  rw [lg_entry_eq]
  generalize (lg_sl ([.int v1]) ++ List.replicate (1 - (lg_sl ([.int v1])).length) Slot.unset).toArray = ls at hl ⊢
  have hl : lv_has ls 1 [(0, .int v1)] := hl
  have KE : ∀ (H : Heap) (locs : List Loc), va_P (dC, dI) vwCl (([] : va_W)) H → va_D A (([] : va_W)) → va_S A s.heap H locs → W p l e (headSpec wsX1_isDigit ({ frames := 0, cells := 0, slots := 0, locals := 0 } : Room)).room s m ([.int v1] : List Value).toArray below meth c H locs 0 0 (MQ below (va_Qi (fun (r' : Int32) (_ : Unit) => b2i rr = r') (fun _ : Unit => jB (dC, dI) [(cI, .int)] A (([] : va_W))) A) ([.int v1] : List Value).toArray s 0 0 A) (F0 m 0 ls []) := by
    intro H locs hP hD hS
    unfold F_X1_isDigit at hF
    refine lv_iload_n hx hb dX1_isDigit_0 rfl (lv_at hl 0 rfl) ?_
    refine lv_bipush (v := (48 : Int32)) hx hb dX1_isDigit_1 (by decide) ?_
    refine lv_icmp_lt (tgt := 16) hx hb dX1_isDigit_3 (by decide) (fun c1 => ?_) (fun c1 => ?_)
    · have hF := F_pos c1 hF
      refine lv_iconst (v := (0 : Int32)) hx hb dX1_isDigit_16 (by decide) ?_
      have e50 := Option.some.inj hF
      subst e50
      exact W.zret (v := (0 : Int32)) hx hb hr (rfl) (fun t ht hW => ⟨⟨(0 : Int32), (), rfl, rfl, by rw [ht]; exact hP, va_K.moved hW.alike hK, hD⟩, hS.F ht⟩) hS.2.2 dX1_isDigit_17
    · have hF := F_neg c1 hF
      refine lv_iload_n hx hb dX1_isDigit_6 rfl (lv_at hl 0 rfl) ?_
      refine lv_bipush (v := (57 : Int32)) hx hb dX1_isDigit_7 (by decide) ?_
      refine lv_icmp_gt (tgt := 16) hx hb dX1_isDigit_9 (by decide) (fun c2 => ?_) (fun c2 => ?_)
      · have hF := F_pos c2 hF
        refine lv_iconst (v := (0 : Int32)) hx hb dX1_isDigit_16 (by decide) ?_
        have e50 := Option.some.inj hF
        subst e50
        exact W.zret (v := (0 : Int32)) hx hb hr (rfl) (fun t ht hW => ⟨⟨(0 : Int32), (), rfl, rfl, by rw [ht]; exact hP, va_K.moved hW.alike hK, hD⟩, hS.F ht⟩) hS.2.2 dX1_isDigit_17
      · have hF := F_neg c2 hF
        refine lv_iconst (v := (1 : Int32)) hx hb dX1_isDigit_12 (by decide) ?_
        refine lv_goto (tgt := 17) hx hb dX1_isDigit_13 (by decide) ?_
        have e50 := Option.some.inj hF
        subst e50
        exact W.zret (v := (1 : Int32)) hx hb hr (rfl) (fun t ht hW => ⟨⟨(1 : Int32), (), rfl, rfl, by rw [ht]; exact hP, va_K.moved hW.alike hK, hD⟩, hS.F ht⟩) hS.2.2 dX1_isDigit_17
  exact KE _ _ hP hD hS
set_option maxHeartbeats 4000000 in
set_option maxRecDepth 100000 in
theorem c_X1_endsNumber (l : Launch) (dC : Nat → ClassId) (dI : Nat → Nat → Nat) (cI : ClassId) (a : Nat → Nat) (sz : Nat) (S : S_Reader) (v1 : Int32) (rr : Bool) (hF : F_X1_endsNumber S v1 = some rr) : Met l yX1_endsNumber wsX1_endsNumber ({ frames := 1, cells := 0, slots := 0, locals := 20 } : Room) (va_Pc [.ref (a 0), .int v1] (jPre (dC, dI) [(cI, .int)] sz ((W_Reader cI a S)))) (va_Qi (fun (r' : Int32) (_ : Unit) => b2i rr = r') (fun _ : Unit => jB (dC, dI) [(cI, .int)] (va_A ((W_Reader cI a S)) sz) ((W_Reader cI a S))) (va_A ((W_Reader cI a S)) sz)) 0 0 (va_A ((W_Reader cI a S)) sz) := by
  refine Met.ofW (cc := cX1_endsNumber) (maxL := 4) (ret := (some .boolean)) (by decide) rfl ?_
  intro p e s m args below meth c s₁ B hml hv
  obtain ⟨rfl, hsz, hP, hK, hD0, hN⟩ := hv
  have hx := B.exec
  have hb := B.bytes
  have hr := B.returns
  have hts := atoms_spec (ws := wsX1_endsNumber) B.pre
  have hown : s.vm.findClass RX1 = some m.cls := findClass_of_methodNamed B.named
  have hlocks := B.notSynchronized
  have hinX1 : ∀ w ∈ u_ws RX1 TX1 7, w ∈ wsX1_endsNumber := by decide +kernel
  subst hsz
  have hD := hD0.self (sz := s.heap.size)
  generalize hAe : (va_A ((W_Reader cI a S)) s.heap.size) = A at hD ⊢
  have hA : ∀ q : Nat, s.heap.size ≤ q → A q := fun q h => by rw [← hAe]; exact Or.inr h
  have hS : va_S A s.heap s.heap [] := va_S.rf
  have hl := lv_entry ([.ref (a 0), .int v1]) (n := 4) (Nat.le_of_ble_eq_true rfl)
  rw [lg_entry_eq]
  generalize (lg_sl ([.ref (a 0), .int v1]) ++ List.replicate (4 - (lg_sl ([.ref (a 0), .int v1])).length) Slot.unset).toArray = ls at hl ⊢
  have hl : lv_has ls 4 [(0, .ref (a 0)), (1, .int v1)] := hl
  have K32 : ∀ (t0 : Bool) (H : Heap) (locs : List Loc), F_X1_endsNumber_32 v1 t0 = some rr → va_P (dC, dI) vwCl ((W_Reader cI a S)) H → va_D A ((W_Reader cI a S)) → va_S A s.heap H locs → ∀ ls : Array Slot, lv_has ls 4 [(1, .int v1)] → W p l e (headSpec wsX1_endsNumber ({ frames := 1, cells := 0, slots := 0, locals := 20 } : Room)).room s m ([.ref (a 0), .int v1] : List Value).toArray below meth c H locs 0 0 (MQ below (va_Qi (fun (r' : Int32) (_ : Unit) => b2i rr = r') (fun _ : Unit => jB (dC, dI) [(cI, .int)] A ((W_Reader cI a S))) A) ([.ref (a 0), .int v1] : List Value).toArray s 0 0 A) (F0 m 32 ls [.int (b2i t0)]) := by
    intro t0 H locs hF hP hD hS ls hl
    unfold F_X1_endsNumber_32 at hF
    refine lv_istore_n (lv' := [(2, .int (b2i t0)), (1, .int v1)]) hx hb dX1_endsNumber_32 rfl hl (by decide) rfl (fun ls hl => ?_)
    refine lv_iload_n hx hb dX1_endsNumber_33 rfl (lv_at hl 1 rfl) ?_
    obtain ⟨r1, h2, hF⟩ := ob1_some hF
    have hPc : va_P (dC, dI) vwCl ([] : va_W) H := fun k q h => by simp at h
    have hDc : va_D A ([] : va_W) := ⟨fun i j p q h => by simp at h, fun k q h => by simp at h⟩
    have hFc := jFreeW (ws := []) hDc hS hA
    refine va_calli (va_runS (As := [.int v1]) (rest := []) ⟨hx, hb, hml, hown, hts⟩ (c_X1_isDigit l dC dI cI  H.size _ _ h2) (va_cwS 1 hts gX1_endsNumber_X1_isDigit rfl rfl rfl (by decide +kernel) ⟨Nat.le_of_ble_eq_true rfl, Nat.le_of_ble_eq_true rfl⟩) (jPreS hK hPc hDc hN) rfl rfl hl.1 rfl (lv_room (Nat.le_of_ble_eq_true rfl)) dX1_endsNumber_34 ⟨Nat.le_of_ble_eq_true rfl, Nat.le_of_ble_eq_true rfl⟩) hS (fun q _ h => hFc q h) hFc (fun r' u' t H locs ht hvm hw hB hz1 hk1 hS => ?_)
    subst hw
    obtain ⟨hP1, -, hD1⟩ := hB
    rw [ht] at hP1
    have hP : va_P (dC, dI) vwCl ((W_Reader cI a S)) H := jNone hP hk1
    refine lv_if_ne (tgt := 46) hx hb dX1_endsNumber_37 (by decide) (fun c3 => ?_) (fun c3 => ?_)
    · have hF := F_neg c3 hF
      refine lv_iconst (v := (1 : Int32)) hx hb dX1_endsNumber_46 (by decide) ?_
      refine lv_goto (tgt := 51) hx hb dX1_endsNumber_47 (by decide) ?_
      refine lv_istore_n (lv' := [(3, .int (1 : Int32)), (2, .int (b2i t0)), (1, .int v1)]) hx hb dX1_endsNumber_51 rfl hl (by decide) rfl (fun ls hl => ?_)
      refine lv_iload_n hx hb dX1_endsNumber_52 rfl (lv_at hl 1 rfl) ?_
      refine lv_if_eq (tgt := 64) hx hb dX1_endsNumber_53 (by decide) (fun c4 => ?_) (fun c4 => ?_)
      · have hF := F_pos c4 hF
        refine lv_iconst (v := (0 : Int32)) hx hb dX1_endsNumber_64 (by decide) ?_
        have e50 := Option.some.inj hF
        subst e50
        exact W.zret (v := (0 : Int32)) hx hb hr (rfl) (fun t ht hW => ⟨⟨(0 : Int32), (), rfl, rfl, by rw [ht]; exact hP, va_K.moved hW.alike hK, hD⟩, hS.F ht⟩) hS.2.2 dX1_endsNumber_65
      · have hF := F_neg c4 hF
        refine lv_iload_n hx hb dX1_endsNumber_56 rfl (lv_at hl 0 rfl) ?_
        refine lv_if_ne (tgt := 64) hx hb dX1_endsNumber_57 (by decide) (fun _ => ?_) (fun c => absurd c (by decide))
        refine lv_iconst (v := (0 : Int32)) hx hb dX1_endsNumber_64 (by decide) ?_
        have e50 := Option.some.inj hF
        subst e50
        exact W.zret (v := (0 : Int32)) hx hb hr (rfl) (fun t ht hW => ⟨⟨(0 : Int32), (), rfl, rfl, by rw [ht]; exact hP, va_K.moved hW.alike hK, hD⟩, hS.F ht⟩) hS.2.2 dX1_endsNumber_65
    · have hF := F_pos c3 hF
      refine lv_iload_n hx hb dX1_endsNumber_40 rfl (lv_at hl 1 rfl) ?_
      refine lv_bipush (v := (46 : Int32)) hx hb dX1_endsNumber_41 (by decide) ?_
      refine lv_icmp_ne (tgt := 50) hx hb dX1_endsNumber_43 (by decide) (fun c5 => ?_) (fun c5 => ?_)
      · have hF := F_neg c5 hF
        refine lv_iconst (v := (0 : Int32)) hx hb dX1_endsNumber_50 (by decide) ?_
        refine lv_istore_n (lv' := [(3, .int (0 : Int32)), (2, .int (b2i t0)), (1, .int v1)]) hx hb dX1_endsNumber_51 rfl hl (by decide) rfl (fun ls hl => ?_)
        refine lv_iload_n hx hb dX1_endsNumber_52 rfl (lv_at hl 1 rfl) ?_
        refine lv_if_eq (tgt := 64) hx hb dX1_endsNumber_53 (by decide) (fun c6 => ?_) (fun c6 => ?_)
        · have hF := F_pos c6 hF
          refine lv_iconst (v := (0 : Int32)) hx hb dX1_endsNumber_64 (by decide) ?_
          have e50 := Option.some.inj hF
          subst e50
          exact W.zret (v := (0 : Int32)) hx hb hr (rfl) (fun t ht hW => ⟨⟨(0 : Int32), (), rfl, rfl, by rw [ht]; exact hP, va_K.moved hW.alike hK, hD⟩, hS.F ht⟩) hS.2.2 dX1_endsNumber_65
        · have hF := F_neg c6 hF
          refine lv_iload_n hx hb dX1_endsNumber_56 rfl (lv_at hl 0 rfl) ?_
          refine lv_if_ne (tgt := 64) hx hb dX1_endsNumber_57 (by decide) (fun c => absurd c (by decide)) (fun _ => ?_)
          refine lv_iconst (v := (1 : Int32)) hx hb dX1_endsNumber_60 (by decide) ?_
          refine lv_goto (tgt := 65) hx hb dX1_endsNumber_61 (by decide) ?_
          have e50 := Option.some.inj hF
          subst e50
          exact W.zret (v := (1 : Int32)) hx hb hr (rfl) (fun t ht hW => ⟨⟨(1 : Int32), (), rfl, rfl, by rw [ht]; exact hP, va_K.moved hW.alike hK, hD⟩, hS.F ht⟩) hS.2.2 dX1_endsNumber_65
      · have hF := F_pos c5 hF
        refine lv_iconst (v := (1 : Int32)) hx hb dX1_endsNumber_46 (by decide) ?_
        refine lv_goto (tgt := 51) hx hb dX1_endsNumber_47 (by decide) ?_
        refine lv_istore_n (lv' := [(3, .int (1 : Int32)), (2, .int (b2i t0)), (1, .int v1)]) hx hb dX1_endsNumber_51 rfl hl (by decide) rfl (fun ls hl => ?_)
        refine lv_iload_n hx hb dX1_endsNumber_52 rfl (lv_at hl 1 rfl) ?_
        refine lv_if_eq (tgt := 64) hx hb dX1_endsNumber_53 (by decide) (fun c7 => ?_) (fun c7 => ?_)
        · have hF := F_pos c7 hF
          refine lv_iconst (v := (0 : Int32)) hx hb dX1_endsNumber_64 (by decide) ?_
          have e50 := Option.some.inj hF
          subst e50
          exact W.zret (v := (0 : Int32)) hx hb hr (rfl) (fun t ht hW => ⟨⟨(0 : Int32), (), rfl, rfl, by rw [ht]; exact hP, va_K.moved hW.alike hK, hD⟩, hS.F ht⟩) hS.2.2 dX1_endsNumber_65
        · have hF := F_neg c7 hF
          refine lv_iload_n hx hb dX1_endsNumber_56 rfl (lv_at hl 0 rfl) ?_
          refine lv_if_ne (tgt := 64) hx hb dX1_endsNumber_57 (by decide) (fun _ => ?_) (fun c => absurd c (by decide))
          refine lv_iconst (v := (0 : Int32)) hx hb dX1_endsNumber_64 (by decide) ?_
          have e50 := Option.some.inj hF
          subst e50
          exact W.zret (v := (0 : Int32)) hx hb hr (rfl) (fun t ht hW => ⟨⟨(0 : Int32), (), rfl, rfl, by rw [ht]; exact hP, va_K.moved hW.alike hK, hD⟩, hS.F ht⟩) hS.2.2 dX1_endsNumber_65
  have KE : ∀ (H : Heap) (locs : List Loc), va_P (dC, dI) vwCl ((W_Reader cI a S)) H → va_D A ((W_Reader cI a S)) → va_S A s.heap H locs → W p l e (headSpec wsX1_endsNumber ({ frames := 1, cells := 0, slots := 0, locals := 20 } : Room)).room s m ([.ref (a 0), .int v1] : List Value).toArray below meth c H locs 0 0 (MQ below (va_Qi (fun (r' : Int32) (_ : Unit) => b2i rr = r') (fun _ : Unit => jB (dC, dI) [(cI, .int)] A ((W_Reader cI a S))) A) ([.ref (a 0), .int v1] : List Value).toArray s 0 0 A) (F0 m 0 ls []) := by
    intro H locs hP hD hS
    unfold F_X1_endsNumber at hF
    refine lv_aload_n hx hb dX1_endsNumber_0 rfl (lv_at hl 0 rfl) ?_
    refine va_get (D := (dC, dI)) (ci := 1) (v := .int (g_Reader_state S)) (C := RX1) (T := TX1) (N := 7) hx hb hts hinX1 hown hK hP 0 rfl rfl 3 (by decide) (hts (Cond.fieldLink RX1 21 "LearnedShapes$Reader" "state" "I") (List.mem_of_getElem? (i := 1) rfl)) (fun _ h9 => h9) rfl dX1_endsNumber_1 ?_
    refine lv_bipush (v := (7 : Int32)) hx hb dX1_endsNumber_4 (by decide) ?_
    refine lv_icmp_eq (tgt := 27) hx hb dX1_endsNumber_6 (by decide) (fun c8 => ?_) (fun c8 => ?_)
    · have hF := F_pos c8 hF
      refine lv_iconst (v := (1 : Int32)) hx hb dX1_endsNumber_27 (by decide) ?_
      refine lv_goto (tgt := 32) hx hb dX1_endsNumber_28 (by decide) ?_
      exact K32 _ _ _ hF hP hD hS _ (lv_sub hl [1] rfl)
    · have hF := F_neg c8 hF
      refine lv_aload_n hx hb dX1_endsNumber_9 rfl (lv_at hl 0 rfl) ?_
      refine va_get (D := (dC, dI)) (ci := 1) (v := .int (g_Reader_state S)) (C := RX1) (T := TX1) (N := 7) hx hb hts hinX1 hown hK hP 0 rfl rfl 3 (by decide) (hts (Cond.fieldLink RX1 21 "LearnedShapes$Reader" "state" "I") (List.mem_of_getElem? (i := 1) rfl)) (fun _ h9 => h9) rfl dX1_endsNumber_10 ?_
      refine lv_bipush (v := (8 : Int32)) hx hb dX1_endsNumber_13 (by decide) ?_
      refine lv_icmp_eq (tgt := 27) hx hb dX1_endsNumber_15 (by decide) (fun c9 => ?_) (fun c9 => ?_)
      · have hF := F_pos c9 hF
        refine lv_iconst (v := (1 : Int32)) hx hb dX1_endsNumber_27 (by decide) ?_
        refine lv_goto (tgt := 32) hx hb dX1_endsNumber_28 (by decide) ?_
        exact K32 _ _ _ hF hP hD hS _ (lv_sub hl [1] rfl)
      · have hF := F_neg c9 hF
        refine lv_aload_n hx hb dX1_endsNumber_18 rfl (lv_at hl 0 rfl) ?_
        refine va_get (D := (dC, dI)) (ci := 1) (v := .int (g_Reader_state S)) (C := RX1) (T := TX1) (N := 7) hx hb hts hinX1 hown hK hP 0 rfl rfl 3 (by decide) (hts (Cond.fieldLink RX1 21 "LearnedShapes$Reader" "state" "I") (List.mem_of_getElem? (i := 1) rfl)) (fun _ h9 => h9) rfl dX1_endsNumber_19 ?_
        refine lv_bipush (v := (10 : Int32)) hx hb dX1_endsNumber_22 (by decide) ?_
        refine lv_icmp_ne (tgt := 31) hx hb dX1_endsNumber_24 (by decide) (fun c10 => ?_) (fun c10 => ?_)
        · have hF := F_neg c10 hF
          refine lv_iconst (v := (0 : Int32)) hx hb dX1_endsNumber_31 (by decide) ?_
          exact K32 _ _ _ hF hP hD hS _ (lv_sub hl [1] rfl)
        · have hF := F_pos c10 hF
          refine lv_iconst (v := (1 : Int32)) hx hb dX1_endsNumber_27 (by decide) ?_
          refine lv_goto (tgt := 32) hx hb dX1_endsNumber_28 (by decide) ?_
          exact K32 _ _ _ hF hP hD hS _ (lv_sub hl [1] rfl)
  exact KE _ _ hP hD hS
set_option maxHeartbeats 4000000 in
set_option maxRecDepth 100000 in
theorem c_X1_stateBehindValue (l : Launch) (dC : Nat → ClassId) (dI : Nat → Nat → Nat) (cI : ClassId) (a : Nat → Nat) (sz : Nat) (S : S_Reader)  (rr : Int32) (hF : F_X1_stateBehindValue S  = some rr) : Met l yX1_stateBehindValue wsX1_stateBehindValue ({ frames := 1, cells := 0, slots := 0, locals := 24 } : Room) (va_Pc [.ref (a 0)] (jPre (dC, dI) [(cI, .int)] sz ((W_Reader cI a S)))) (va_Qi (fun (r' : Int32) (_ : Unit) => rr = r') (fun _ : Unit => jB (dC, dI) [(cI, .int)] (va_A ((W_Reader cI a S)) sz) ((W_Reader cI a S))) (va_A ((W_Reader cI a S)) sz)) 0 0 (va_A ((W_Reader cI a S)) sz) := by
  refine Met.ofW (cc := cX1_stateBehindValue) (maxL := 1) (ret := (some .int)) (by decide) rfl ?_
  intro p e s m args below meth c s₁ B hml hv
  obtain ⟨rfl, hsz, hP, hK, hD0, hN⟩ := hv
  have hx := B.exec
  have hb := B.bytes
  have hr := B.returns
  have hts := atoms_spec (ws := wsX1_stateBehindValue) B.pre
  have hown : s.vm.findClass RX1 = some m.cls := findClass_of_methodNamed B.named
  have hlocks := B.notSynchronized
  have hinX1 : ∀ w ∈ u_ws RX1 TX1 7, w ∈ wsX1_stateBehindValue := by decide +kernel
  subst hsz
  have hD := hD0.self (sz := s.heap.size)
  generalize hAe : (va_A ((W_Reader cI a S)) s.heap.size) = A at hD ⊢
  have hA : ∀ q : Nat, s.heap.size ≤ q → A q := fun q h => by rw [← hAe]; exact Or.inr h
  have hS : va_S A s.heap s.heap [] := va_S.rf
  have hl := lv_entry ([.ref (a 0)]) (n := 1) (Nat.le_of_ble_eq_true rfl)
  rw [lg_entry_eq]
  generalize (lg_sl ([.ref (a 0)]) ++ List.replicate (1 - (lg_sl ([.ref (a 0)])).length) Slot.unset).toArray = ls at hl ⊢
  have hl : lv_has ls 1 [(0, .ref (a 0))] := hl
  have KE : ∀ (H : Heap) (locs : List Loc), va_P (dC, dI) vwCl ((W_Reader cI a S)) H → va_D A ((W_Reader cI a S)) → va_S A s.heap H locs → W p l e (headSpec wsX1_stateBehindValue ({ frames := 1, cells := 0, slots := 0, locals := 24 } : Room)).room s m ([.ref (a 0)] : List Value).toArray below meth c H locs 0 0 (MQ below (va_Qi (fun (r' : Int32) (_ : Unit) => rr = r') (fun _ : Unit => jB (dC, dI) [(cI, .int)] A ((W_Reader cI a S))) A) ([.ref (a 0)] : List Value).toArray s 0 0 A) (F0 m 0 ls []) := by
    intro H locs hP hD hS
    unfold F_X1_stateBehindValue at hF
    refine lv_aload_n hx hb dX1_stateBehindValue_0 rfl (lv_at hl 0 rfl) ?_
    refine va_get (D := (dC, dI)) (ci := 1) (v := .int (g_Reader_open S)) (C := RX1) (T := TX1) (N := 7) hx hb hts hinX1 hown hK hP 0 rfl rfl 4 (by decide) (hts (Cond.fieldLink RX1 25 "LearnedShapes$Reader" "open" "I") (List.mem_of_getElem? (i := 1) rfl)) (fun _ h9 => h9) rfl dX1_stateBehindValue_1 ?_
    refine lv_iconst (v := (-1 : Int32)) hx hb dX1_stateBehindValue_4 (by decide) ?_
    refine lv_icmp_ne (tgt := 11) hx hb dX1_stateBehindValue_5 (by decide) (fun c1 => ?_) (fun c1 => ?_)
    · have hF := F_neg c1 hF
      refine lv_aload_n hx hb dX1_stateBehindValue_11 rfl (lv_at hl 0 rfl) ?_
      refine va_get (D := (dC, dI)) (ci := 1) (v := .ref (a 1)) (C := RX1) (T := TX1) (N := 7) hx hb hts hinX1 hown hK hP 0 rfl rfl 0 (by decide) (hts (Cond.fieldLink RX1 12 "LearnedShapes$Reader" "values" "LLearnedShapes$Tree;") (List.mem_of_getElem? (i := 2) rfl)) (fun _ h9 => h9) rfl dX1_stateBehindValue_12 ?_
      refine lv_aload_n hx hb dX1_stateBehindValue_15 rfl (lv_at hl 0 rfl) ?_
      refine va_get (D := (dC, dI)) (ci := 1) (v := .int (g_Reader_open S)) (C := RX1) (T := TX1) (N := 7) hx hb hts hinX1 hown hK hP 0 rfl rfl 4 (by decide) (hts (Cond.fieldLink RX1 25 "LearnedShapes$Reader" "open" "I") (List.mem_of_getElem? (i := 1) rfl)) (fun _ h9 => h9) rfl dX1_stateBehindValue_16 ?_
      refine lv_iconst (v := (0 : Int32)) hx hb dX1_stateBehindValue_19 (by decide) ?_
      obtain ⟨r2, h3, hF⟩ := ob1_some hF
      have hPc := hP.sub (ws' := (W_Tree cI (sh a 1) (g_Reader_values S))) [1, 2] rfl
      have hDc := hD.sub (ws' := (W_Tree cI (sh a 1) (g_Reader_values S))) [1, 2] (by decide) rfl
      have hFc := va_free (wc := (W_Tree cI (sh a 1) (g_Reader_values S))) hD hS hA [1, 2] rfl
      refine va_calli (va_runV (As := [.int (g_Reader_open S), .int (0 : Int32)]) (rest := []) ⟨hx, hb, hml, hown, hts⟩ (c_X3_get l dC dI cI (sh a 1) H.size _ _ _ _ h3) (cwV 2 hts gX1_stateBehindValue_X3_get rfl rfl rfl (by decide +kernel) ⟨Nat.le_of_ble_eq_true rfl, Nat.le_of_ble_eq_true rfl⟩) (jPreV hK hPc hDc hN (ci := 3) rfl rfl) rfl rfl hl.1 rfl (lv_room (Nat.le_of_ble_eq_true rfl)) dX1_stateBehindValue_20 ⟨Nat.le_of_ble_eq_true rfl, Nat.le_of_ble_eq_true rfl⟩) hS (fun q _ h => hFc q h) hFc (fun r' u' t H locs ht hvm hw hB hz1 hk1 hS => ?_)
      subst hw
      obtain ⟨hP1, -, hD1⟩ := hB
      rw [ht] at hP1
      obtain ⟨hP, hD⟩ := jJoin (wc := (W_Tree cI (sh a 1) (g_Reader_values S))) (w1 := (W_Tree cI (sh a 1) (g_Reader_values S))) (ws' := (W_Reader cI a S)) hP hD [1, 2] [0] [0, 1, 2] rfl rfl (by decide) (by decide) hk1 hFc hP1 hD1 (by decide) rfl
      refine lv_bipush (v := (6 : Int32)) hx hb dX1_stateBehindValue_23 (by decide) ?_
      refine lv_icmp_ne (tgt := 32) hx hb dX1_stateBehindValue_25 (by decide) (fun c4 => ?_) (fun c4 => ?_)
      · have hF := F_neg c4 hF
        refine lv_iconst (v := (4 : Int32)) hx hb dX1_stateBehindValue_32 (by decide) ?_
        have e50 := Option.some.inj hF
        subst e50
        exact W.iret (v := (4 : Int32)) hx hb hr (fun t ht hW => ⟨⟨(4 : Int32), (), rfl, rfl, by rw [ht]; exact hP, va_K.moved hW.alike hK, hD⟩, hS.F ht⟩) hS.2.2 dX1_stateBehindValue_33
      · have hF := F_pos c4 hF
        refine lv_iconst (v := (1 : Int32)) hx hb dX1_stateBehindValue_28 (by decide) ?_
        refine lv_goto (tgt := 33) hx hb dX1_stateBehindValue_29 (by decide) ?_
        have e50 := Option.some.inj hF
        subst e50
        exact W.iret (v := (1 : Int32)) hx hb hr (fun t ht hW => ⟨⟨(1 : Int32), (), rfl, rfl, by rw [ht]; exact hP, va_K.moved hW.alike hK, hD⟩, hS.F ht⟩) hS.2.2 dX1_stateBehindValue_33
    · have hF := F_pos c1 hF
      refine lv_bipush (v := (12 : Int32)) hx hb dX1_stateBehindValue_8 (by decide) ?_
      have e50 := Option.some.inj hF
      subst e50
      exact W.iret (v := (12 : Int32)) hx hb hr (fun t ht hW => ⟨⟨(12 : Int32), (), rfl, rfl, by rw [ht]; exact hP, va_K.moved hW.alike hK, hD⟩, hS.F ht⟩) hS.2.2 dX1_stateBehindValue_10
  exact KE _ _ hP hD hS
set_option maxHeartbeats 4000000 in
set_option maxRecDepth 100000 in
theorem c_X1_kindAt (l : Launch) (dC : Nat → ClassId) (dI : Nat → Nat → Nat) (cI : ClassId) (sz : Nat)  (v1 : Int32) (rr : Int32) (hF : F_X1_kindAt  v1 = some rr) : Met l yX1_kindAt wsX1_kindAt ({ frames := 1, cells := 0, slots := 0, locals := 20 } : Room) (va_Pc [.int v1] (jPre (dC, dI) [(cI, .int)] sz (([] : va_W)))) (va_Qi (fun (r' : Int32) (_ : Unit) => rr = r') (fun _ : Unit => jB (dC, dI) [(cI, .int)] (va_A (([] : va_W)) sz) (([] : va_W))) (va_A (([] : va_W)) sz)) 0 0 (va_A (([] : va_W)) sz) := by
  refine Met.ofW (cc := cX1_kindAt) (maxL := 1) (ret := (some .int)) (by decide) rfl ?_
  intro p e s m args below meth c s₁ B hml hv
  obtain ⟨rfl, hsz, hP, hK, hD0, hN⟩ := hv
  have hx := B.exec
  have hb := B.bytes
  have hr := B.returns
  have hts := atoms_spec (ws := wsX1_kindAt) B.pre
  have hown : s.vm.findClass RX1 = some m.cls := findClass_of_methodNamed B.named
  have hlocks := B.notSynchronized
  subst hsz
  have hD := hD0.self (sz := s.heap.size)
  generalize hAe : (va_A (([] : va_W)) s.heap.size) = A at hD ⊢
  have hA : ∀ q : Nat, s.heap.size ≤ q → A q := fun q h => by rw [← hAe]; exact Or.inr h
  have hS : va_S A s.heap s.heap [] := va_S.rf
  have hl := lv_entry ([.int v1]) (n := 1) (Nat.le_of_ble_eq_true rfl)
  rw [lg_entry_eq]
  generalize (lg_sl ([.int v1]) ++ List.replicate (1 - (lg_sl ([.int v1])).length) Slot.unset).toArray = ls at hl ⊢
  have hl : lv_has ls 1 [(0, .int v1)] := hl
  have KE : ∀ (H : Heap) (locs : List Loc), va_P (dC, dI) vwCl (([] : va_W)) H → va_D A (([] : va_W)) → va_S A s.heap H locs → W p l e (headSpec wsX1_kindAt ({ frames := 1, cells := 0, slots := 0, locals := 20 } : Room)).room s m ([.int v1] : List Value).toArray below meth c H locs 0 0 (MQ below (va_Qi (fun (r' : Int32) (_ : Unit) => rr = r') (fun _ : Unit => jB (dC, dI) [(cI, .int)] A (([] : va_W))) A) ([.int v1] : List Value).toArray s 0 0 A) (F0 m 0 ls []) := by
    intro H locs hP hD hS
    unfold F_X1_kindAt at hF
    refine lv_iload_n hx hb dX1_kindAt_0 rfl (lv_at hl 0 rfl) ?_
    by_cases c1 : v1 = (39 : Int32)
    · have hF := F_pos c1 hF
      refine lv_lookup (tgt := 65) hx hb dX1_kindAt_1 (by decide) (by rw [c1] <;> rfl) (by decide) ?_
      refine lv_iconst (v := (4 : Int32)) hx hb dX1_kindAt_65 (by decide) ?_
      have e50 := Option.some.inj hF
      subst e50
      exact W.iret (v := (4 : Int32)) hx hb hr (fun t ht hW => ⟨⟨(4 : Int32), (), rfl, rfl, by rw [ht]; exact hP, va_K.moved hW.alike hK, hD⟩, hS.F ht⟩) hS.2.2 dX1_kindAt_66
    · have hF := F_neg c1 hF
      by_cases c2 : v1 = (40 : Int32)
      · have hF := F_pos c2 hF
        refine lv_lookup (tgt := 60) hx hb dX1_kindAt_1 (by decide) (by rw [c2] <;> rfl) (by decide) ?_
        refine lv_bipush (v := (6 : Int32)) hx hb dX1_kindAt_60 (by decide) ?_
        have e50 := Option.some.inj hF
        subst e50
        exact W.iret (v := (6 : Int32)) hx hb hr (fun t ht hW => ⟨⟨(6 : Int32), (), rfl, rfl, by rw [ht]; exact hP, va_K.moved hW.alike hK, hD⟩, hS.F ht⟩) hS.2.2 dX1_kindAt_62
      · have hF := F_neg c2 hF
        by_cases c3 : v1 = (91 : Int32)
        · have hF := F_pos c3 hF
          refine lv_lookup (tgt := 63) hx hb dX1_kindAt_1 (by decide) (by rw [c3] <;> rfl) (by decide) ?_
          refine lv_iconst (v := (5 : Int32)) hx hb dX1_kindAt_63 (by decide) ?_
          have e50 := Option.some.inj hF
          subst e50
          exact W.iret (v := (5 : Int32)) hx hb hr (fun t ht hW => ⟨⟨(5 : Int32), (), rfl, rfl, by rw [ht]; exact hP, va_K.moved hW.alike hK, hD⟩, hS.F ht⟩) hS.2.2 dX1_kindAt_64
        · have hF := F_neg c3 hF
          by_cases c4 : v1 = (102 : Int32)
          · have hF := F_pos c4 hF
            refine lv_lookup (tgt := 71) hx hb dX1_kindAt_1 (by decide) (by rw [c4] <;> rfl) (by decide) ?_
            refine lv_iconst (v := (1 : Int32)) hx hb dX1_kindAt_71 (by decide) ?_
            have e50 := Option.some.inj hF
            subst e50
            exact W.iret (v := (1 : Int32)) hx hb hr (fun t ht hW => ⟨⟨(1 : Int32), (), rfl, rfl, by rw [ht]; exact hP, va_K.moved hW.alike hK, hD⟩, hS.F ht⟩) hS.2.2 dX1_kindAt_72
          · have hF := F_neg c4 hF
            by_cases c5 : v1 = (110 : Int32)
            · have hF := F_pos c5 hF
              refine lv_lookup (tgt := 67) hx hb dX1_kindAt_1 (by decide) (by rw [c5] <;> rfl) (by decide) ?_
              refine lv_iconst (v := (0 : Int32)) hx hb dX1_kindAt_67 (by decide) ?_
              have e50 := Option.some.inj hF
              subst e50
              exact W.iret (v := (0 : Int32)) hx hb hr (fun t ht hW => ⟨⟨(0 : Int32), (), rfl, rfl, by rw [ht]; exact hP, va_K.moved hW.alike hK, hD⟩, hS.F ht⟩) hS.2.2 dX1_kindAt_68
            · have hF := F_neg c5 hF
              by_cases c6 : v1 = (116 : Int32)
              · have hF := F_pos c6 hF
                refine lv_lookup (tgt := 69) hx hb dX1_kindAt_1 (by decide) (by rw [c6] <;> rfl) (by decide) ?_
                refine lv_iconst (v := (1 : Int32)) hx hb dX1_kindAt_69 (by decide) ?_
                have e50 := Option.some.inj hF
                subst e50
                exact W.iret (v := (1 : Int32)) hx hb hr (fun t ht hW => ⟨⟨(1 : Int32), (), rfl, rfl, by rw [ht]; exact hP, va_K.moved hW.alike hK, hD⟩, hS.F ht⟩) hS.2.2 dX1_kindAt_70
              · have hF := F_neg c6 hF
                refine lv_lookup (off := 72) (tgt := 73) hx hb dX1_kindAt_1 (by decide) (by show Op.lookupswitch.offset [(39, 64), (40, 59), (91, 62), (102, 70), (110, 66), (116, 68)] 72 (v1).toInt = 72; rw [lv_osw (a := 39) c1 rfl, lv_osw (a := 40) c2 rfl, lv_osw (a := 91) c3 rfl, lv_osw (a := 102) c4 rfl, lv_osw (a := 110) c5 rfl, lv_osw (a := 116) c6 rfl] <;> rfl) (by decide) ?_
                refine lv_iload_n hx hb dX1_kindAt_73 rfl (lv_at hl 0 rfl) ?_
                refine lv_bipush (v := (45 : Int32)) hx hb dX1_kindAt_74 (by decide) ?_
                refine lv_icmp_eq (tgt := 86) hx hb dX1_kindAt_76 (by decide) (fun c7 => ?_) (fun c7 => ?_)
                · have hF := F_pos c7 hF
                  refine lv_iconst (v := (2 : Int32)) hx hb dX1_kindAt_86 (by decide) ?_
                  refine lv_goto (tgt := 91) hx hb dX1_kindAt_87 (by decide) ?_
                  have e50 := Option.some.inj hF
                  subst e50
                  exact W.iret (v := (2 : Int32)) hx hb hr (fun t ht hW => ⟨⟨(2 : Int32), (), rfl, rfl, by rw [ht]; exact hP, va_K.moved hW.alike hK, hD⟩, hS.F ht⟩) hS.2.2 dX1_kindAt_91
                · have hF := F_neg c7 hF
                  refine lv_iload_n hx hb dX1_kindAt_79 rfl (lv_at hl 0 rfl) ?_
                  obtain ⟨r8, h9, hF⟩ := ob1_some hF
                  have hPc : va_P (dC, dI) vwCl (([] : va_W)) H := hP
                  have hDc : va_D A (([] : va_W)) := hD
                  have hFc := jFreeW (ws := ([] : va_W)) hD hS hA
                  refine va_calli (va_runS (As := [.int v1]) (rest := []) ⟨hx, hb, hml, hown, hts⟩ (c_X1_isDigit l dC dI cI  H.size _ _ h9) (va_cwS 1 hts gX1_kindAt_X1_isDigit rfl rfl rfl (by decide +kernel) ⟨Nat.le_of_ble_eq_true rfl, Nat.le_of_ble_eq_true rfl⟩) (jPreS hK hPc hDc hN) rfl rfl hl.1 rfl (lv_room (Nat.le_of_ble_eq_true rfl)) dX1_kindAt_80 ⟨Nat.le_of_ble_eq_true rfl, Nat.le_of_ble_eq_true rfl⟩) hS (fun q _ h => hFc q h) hFc (fun r' u' t H locs ht hvm hw hB hz1 hk1 hS => ?_)
                  subst hw
                  obtain ⟨hP1, -, hD1⟩ := hB
                  rw [ht] at hP1
                  have hP : va_P (dC, dI) vwCl (([] : va_W)) H := hP1
                  have hD : va_D A (([] : va_W)) := hD1.weaken (fun _ _ _ h => hFc _ h)
                  refine lv_if_eq (tgt := 90) hx hb dX1_kindAt_83 (by decide) (fun c10 => ?_) (fun c10 => ?_)
                  · have hF := F_pos c10 hF
                    refine lv_iconst (v := (-1 : Int32)) hx hb dX1_kindAt_90 (by decide) ?_
                    have e50 := Option.some.inj hF
                    subst e50
                    exact W.iret (v := (-1 : Int32)) hx hb hr (fun t ht hW => ⟨⟨(-1 : Int32), (), rfl, rfl, by rw [ht]; exact hP, va_K.moved hW.alike hK, hD⟩, hS.F ht⟩) hS.2.2 dX1_kindAt_91
                  · have hF := F_neg c10 hF
                    refine lv_iconst (v := (2 : Int32)) hx hb dX1_kindAt_86 (by decide) ?_
                    refine lv_goto (tgt := 91) hx hb dX1_kindAt_87 (by decide) ?_
                    have e50 := Option.some.inj hF
                    subst e50
                    exact W.iret (v := (2 : Int32)) hx hb hr (fun t ht hW => ⟨⟨(2 : Int32), (), rfl, rfl, by rw [ht]; exact hP, va_K.moved hW.alike hK, hD⟩, hS.F ht⟩) hS.2.2 dX1_kindAt_91
  exact KE _ _ hP hD hS
set_option maxHeartbeats 4000000 in
set_option maxRecDepth 100000 in
theorem c_X1_depthOfNext (l : Launch) (dC : Nat → ClassId) (dI : Nat → Nat → Nat) (cI : ClassId) (a : Nat → Nat) (sz : Nat) (S : S_Reader)  (rr : Int32) (hF : F_X1_depthOfNext S  = some rr) : Met l yX1_depthOfNext wsX1_depthOfNext ({ frames := 1, cells := 0, slots := 0, locals := 24 } : Room) (va_Pc [.ref (a 0)] (jPre (dC, dI) [(cI, .int)] sz ((W_Reader cI a S)))) (va_Qi (fun (r' : Int32) (_ : Unit) => rr = r') (fun _ : Unit => jB (dC, dI) [(cI, .int)] (va_A ((W_Reader cI a S)) sz) ((W_Reader cI a S))) (va_A ((W_Reader cI a S)) sz)) 0 0 (va_A ((W_Reader cI a S)) sz) := by
  refine Met.ofW (cc := cX1_depthOfNext) (maxL := 1) (ret := (some .int)) (by decide) rfl ?_
  intro p e s m args below meth c s₁ B hml hv
  obtain ⟨rfl, hsz, hP, hK, hD0, hN⟩ := hv
  have hx := B.exec
  have hb := B.bytes
  have hr := B.returns
  have hts := atoms_spec (ws := wsX1_depthOfNext) B.pre
  have hown : s.vm.findClass RX1 = some m.cls := findClass_of_methodNamed B.named
  have hlocks := B.notSynchronized
  have hinX1 : ∀ w ∈ u_ws RX1 TX1 7, w ∈ wsX1_depthOfNext := by decide +kernel
  subst hsz
  have hD := hD0.self (sz := s.heap.size)
  generalize hAe : (va_A ((W_Reader cI a S)) s.heap.size) = A at hD ⊢
  have hA : ∀ q : Nat, s.heap.size ≤ q → A q := fun q h => by rw [← hAe]; exact Or.inr h
  have hS : va_S A s.heap s.heap [] := va_S.rf
  have hl := lv_entry ([.ref (a 0)]) (n := 1) (Nat.le_of_ble_eq_true rfl)
  rw [lg_entry_eq]
  generalize (lg_sl ([.ref (a 0)]) ++ List.replicate (1 - (lg_sl ([.ref (a 0)])).length) Slot.unset).toArray = ls at hl ⊢
  have hl : lv_has ls 1 [(0, .ref (a 0))] := hl
  have KE : ∀ (H : Heap) (locs : List Loc), va_P (dC, dI) vwCl ((W_Reader cI a S)) H → va_D A ((W_Reader cI a S)) → va_S A s.heap H locs → W p l e (headSpec wsX1_depthOfNext ({ frames := 1, cells := 0, slots := 0, locals := 24 } : Room)).room s m ([.ref (a 0)] : List Value).toArray below meth c H locs 0 0 (MQ below (va_Qi (fun (r' : Int32) (_ : Unit) => rr = r') (fun _ : Unit => jB (dC, dI) [(cI, .int)] A ((W_Reader cI a S))) A) ([.ref (a 0)] : List Value).toArray s 0 0 A) (F0 m 0 ls []) := by
    intro H locs hP hD hS
    unfold F_X1_depthOfNext at hF
    refine lv_aload_n hx hb dX1_depthOfNext_0 rfl (lv_at hl 0 rfl) ?_
    refine va_get (D := (dC, dI)) (ci := 1) (v := .int (g_Reader_open S)) (C := RX1) (T := TX1) (N := 7) hx hb hts hinX1 hown hK hP 0 rfl rfl 4 (by decide) (hts (Cond.fieldLink RX1 25 "LearnedShapes$Reader" "open" "I") (List.mem_of_getElem? (i := 1) rfl)) (fun _ h9 => h9) rfl dX1_depthOfNext_1 ?_
    refine lv_iconst (v := (-1 : Int32)) hx hb dX1_depthOfNext_4 (by decide) ?_
    refine lv_icmp_ne (tgt := 12) hx hb dX1_depthOfNext_5 (by decide) (fun c1 => ?_) (fun c1 => ?_)
    · have hF := F_neg c1 hF
      refine lv_aload_n hx hb dX1_depthOfNext_12 rfl (lv_at hl 0 rfl) ?_
      refine va_get (D := (dC, dI)) (ci := 1) (v := .ref (a 1)) (C := RX1) (T := TX1) (N := 7) hx hb hts hinX1 hown hK hP 0 rfl rfl 0 (by decide) (hts (Cond.fieldLink RX1 12 "LearnedShapes$Reader" "values" "LLearnedShapes$Tree;") (List.mem_of_getElem? (i := 2) rfl)) (fun _ h9 => h9) rfl dX1_depthOfNext_13 ?_
      refine lv_aload_n hx hb dX1_depthOfNext_16 rfl (lv_at hl 0 rfl) ?_
      refine va_get (D := (dC, dI)) (ci := 1) (v := .int (g_Reader_open S)) (C := RX1) (T := TX1) (N := 7) hx hb hts hinX1 hown hK hP 0 rfl rfl 4 (by decide) (hts (Cond.fieldLink RX1 25 "LearnedShapes$Reader" "open" "I") (List.mem_of_getElem? (i := 1) rfl)) (fun _ h9 => h9) rfl dX1_depthOfNext_17 ?_
      refine lv_iconst (v := (2 : Int32)) hx hb dX1_depthOfNext_20 (by decide) ?_
      obtain ⟨r2, h3, hF⟩ := ob1_some hF
      have hPc := hP.sub (ws' := (W_Tree cI (sh a 1) (g_Reader_values S))) [1, 2] rfl
      have hDc := hD.sub (ws' := (W_Tree cI (sh a 1) (g_Reader_values S))) [1, 2] (by decide) rfl
      have hFc := va_free (wc := (W_Tree cI (sh a 1) (g_Reader_values S))) hD hS hA [1, 2] rfl
      refine va_calli (va_runV (As := [.int (g_Reader_open S), .int (2 : Int32)]) (rest := []) ⟨hx, hb, hml, hown, hts⟩ (c_X3_get l dC dI cI (sh a 1) H.size _ _ _ _ h3) (cwV 2 hts gX1_depthOfNext_X3_get rfl rfl rfl (by decide +kernel) ⟨Nat.le_of_ble_eq_true rfl, Nat.le_of_ble_eq_true rfl⟩) (jPreV hK hPc hDc hN (ci := 3) rfl rfl) rfl rfl hl.1 rfl (lv_room (Nat.le_of_ble_eq_true rfl)) dX1_depthOfNext_21 ⟨Nat.le_of_ble_eq_true rfl, Nat.le_of_ble_eq_true rfl⟩) hS (fun q _ h => hFc q h) hFc (fun r' u' t H locs ht hvm hw hB hz1 hk1 hS => ?_)
      subst hw
      obtain ⟨hP1, -, hD1⟩ := hB
      rw [ht] at hP1
      obtain ⟨hP, hD⟩ := jJoin (wc := (W_Tree cI (sh a 1) (g_Reader_values S))) (w1 := (W_Tree cI (sh a 1) (g_Reader_values S))) (ws' := (W_Reader cI a S)) hP hD [1, 2] [0] [0, 1, 2] rfl rfl (by decide) (by decide) hk1 hFc hP1 hD1 (by decide) rfl
      refine lv_iconst (v := (1 : Int32)) hx hb dX1_depthOfNext_24 (by decide) ?_
      refine lv_iadd hx hb dX1_depthOfNext_25 ?_
      have e50 := Option.some.inj hF
      subst e50
      exact W.iret (v := (r2 + (1 : Int32))) hx hb hr (fun t ht hW => ⟨⟨(r2 + (1 : Int32)), (), rfl, rfl, by rw [ht]; exact hP, va_K.moved hW.alike hK, hD⟩, hS.F ht⟩) hS.2.2 dX1_depthOfNext_26
    · have hF := F_pos c1 hF
      refine lv_iconst (v := (0 : Int32)) hx hb dX1_depthOfNext_8 (by decide) ?_
      refine lv_goto (tgt := 26) hx hb dX1_depthOfNext_9 (by decide) ?_
      have e50 := Option.some.inj hF
      subst e50
      exact W.iret (v := (0 : Int32)) hx hb hr (fun t ht hW => ⟨⟨(0 : Int32), (), rfl, rfl, by rw [ht]; exact hP, va_K.moved hW.alike hK, hD⟩, hS.F ht⟩) hS.2.2 dX1_depthOfNext_26
  exact KE _ _ hP hD hS
set_option maxHeartbeats 4000000 in
set_option maxRecDepth 100000 in
theorem c_X1_stateInValue (l : Launch) (dC : Nat → ClassId) (dI : Nat → Nat → Nat) (cI : ClassId) (a : Nat → Nat) (sz : Nat) (S : S_Reader) (v1 : Int32) (v2 : Int32) (rr : Int32) (hF : F_X1_stateInValue S v1 v2 = some rr) : Met l yX1_stateInValue wsX1_stateInValue ({ frames := 2, cells := 0, slots := 0, locals := 44 } : Room) (va_Pc [.ref (a 0), .int v1, .int v2] (jPre (dC, dI) [(cI, .int)] sz ((W_Reader cI a S)))) (va_Qi (fun (r' : Int32) (_ : Unit) => rr = r') (fun _ : Unit => jB (dC, dI) [(cI, .int)] (va_A ((W_Reader cI a S)) sz) ((W_Reader cI a S))) (va_A ((W_Reader cI a S)) sz)) 0 0 (va_A ((W_Reader cI a S)) sz) := by
  refine Met.ofW (cc := cX1_stateInValue) (maxL := 3) (ret := (some .int)) (by decide) rfl ?_
  intro p e s m args below meth c s₁ B hml hv
  obtain ⟨rfl, hsz, hP, hK, hD0, hN⟩ := hv
  have hx := B.exec
  have hb := B.bytes
  have hr := B.returns
  have hts := atoms_spec (ws := wsX1_stateInValue) B.pre
  have hown : s.vm.findClass RX1 = some m.cls := findClass_of_methodNamed B.named
  have hlocks := B.notSynchronized
  subst hsz
  have hD := hD0.self (sz := s.heap.size)
  generalize hAe : (va_A ((W_Reader cI a S)) s.heap.size) = A at hD ⊢
  have hA : ∀ q : Nat, s.heap.size ≤ q → A q := fun q h => by rw [← hAe]; exact Or.inr h
  have hS : va_S A s.heap s.heap [] := va_S.rf
  have hl := lv_entry ([.ref (a 0), .int v1, .int v2]) (n := 3) (Nat.le_of_ble_eq_true rfl)
  rw [lg_entry_eq]
  generalize (lg_sl ([.ref (a 0), .int v1, .int v2]) ++ List.replicate (3 - (lg_sl ([.ref (a 0), .int v1, .int v2])).length) Slot.unset).toArray = ls at hl ⊢
  have hl : lv_has ls 3 [(0, .ref (a 0)), (1, .int v1), (2, .int v2)] := hl
  have KE : ∀ (H : Heap) (locs : List Loc), va_P (dC, dI) vwCl ((W_Reader cI a S)) H → va_D A ((W_Reader cI a S)) → va_S A s.heap H locs → W p l e (headSpec wsX1_stateInValue ({ frames := 2, cells := 0, slots := 0, locals := 44 } : Room)).room s m ([.ref (a 0), .int v1, .int v2] : List Value).toArray below meth c H locs 0 0 (MQ below (va_Qi (fun (r' : Int32) (_ : Unit) => rr = r') (fun _ : Unit => jB (dC, dI) [(cI, .int)] A ((W_Reader cI a S))) A) ([.ref (a 0), .int v1, .int v2] : List Value).toArray s 0 0 A) (F0 m 0 ls []) := by
    intro H locs hP hD hS
    unfold F_X1_stateInValue at hF
    refine lv_iload_n hx hb dX1_stateInValue_0 rfl (lv_at hl 1 rfl) ?_
    by_cases c1 : v1 = (2 : Int32)
    · have hF := F_pos c1 hF
      refine lv_tableIn (tgt := 43) hx hb dX1_stateInValue_1 (by rw [c1]; decide) (by rw [c1]; decide) (by rw [c1] <;> rfl) (by decide) ?_
      refine lv_iload_n hx hb dX1_stateInValue_43 rfl (lv_at hl 2 rfl) ?_
      refine lv_bipush (v := (45 : Int32)) hx hb dX1_stateInValue_44 (by decide) ?_
      refine lv_icmp_ne (tgt := 53) hx hb dX1_stateInValue_46 (by decide) (fun c2 => ?_) (fun c2 => ?_)
      · have hF := F_neg c2 hF
        refine lv_iload_n hx hb dX1_stateInValue_53 rfl (lv_at hl 2 rfl) ?_
        refine lv_bipush (v := (48 : Int32)) hx hb dX1_stateInValue_54 (by decide) ?_
        refine lv_icmp_ne (tgt := 64) hx hb dX1_stateInValue_56 (by decide) (fun c3 => ?_) (fun c3 => ?_)
        · have hF := F_neg c3 hF
          refine lv_bipush (v := (8 : Int32)) hx hb dX1_stateInValue_64 (by decide) ?_
          have e50 := Option.some.inj hF
          subst e50
          exact W.iret (v := (8 : Int32)) hx hb hr (fun t ht hW => ⟨⟨(8 : Int32), (), rfl, rfl, by rw [ht]; exact hP, va_K.moved hW.alike hK, hD⟩, hS.F ht⟩) hS.2.2 dX1_stateInValue_66
        · have hF := F_pos c3 hF
          refine lv_bipush (v := (7 : Int32)) hx hb dX1_stateInValue_59 (by decide) ?_
          refine lv_goto (tgt := 66) hx hb dX1_stateInValue_61 (by decide) ?_
          have e50 := Option.some.inj hF
          subst e50
          exact W.iret (v := (7 : Int32)) hx hb hr (fun t ht hW => ⟨⟨(7 : Int32), (), rfl, rfl, by rw [ht]; exact hP, va_K.moved hW.alike hK, hD⟩, hS.F ht⟩) hS.2.2 dX1_stateInValue_66
      · have hF := F_pos c2 hF
        refine lv_iconst (v := (5 : Int32)) hx hb dX1_stateInValue_49 (by decide) ?_
        refine lv_goto (tgt := 66) hx hb dX1_stateInValue_50 (by decide) ?_
        have e50 := Option.some.inj hF
        subst e50
        exact W.iret (v := (5 : Int32)) hx hb hr (fun t ht hW => ⟨⟨(5 : Int32), (), rfl, rfl, by rw [ht]; exact hP, va_K.moved hW.alike hK, hD⟩, hS.F ht⟩) hS.2.2 dX1_stateInValue_66
    · have hF := F_neg c1 hF
      by_cases c4 : v1 = (3 : Int32)
      · have hF := F_pos c4 hF
        refine lv_tableIn (tgt := 67) hx hb dX1_stateInValue_1 (by rw [c4]; decide) (by rw [c4]; decide) (by rw [c4] <;> rfl) (by decide) ?_
        refine lv_aload_n hx hb dX1_stateInValue_67 rfl (lv_at hl 0 rfl) ?_
        obtain ⟨r5, h6, hF⟩ := ob1_some hF
        have hPc : va_P (dC, dI) vwCl ((W_Reader cI a S)) H := hP
        have hDc : va_D A ((W_Reader cI a S)) := hD
        have hFc := jFreeW (ws := (W_Reader cI a S)) hD hS hA
        refine va_calli (va_runV (As := []) (rest := []) ⟨hx, hb, hml, hown, hts⟩ (c_X1_stateBehindValue l dC dI cI a H.size _ _ h6) (cwV 0 hts gX1_stateInValue_X1_stateBehindValue rfl rfl rfl (by decide +kernel) ⟨Nat.le_of_ble_eq_true rfl, Nat.le_of_ble_eq_true rfl⟩) (jPreV hK hPc hDc hN (ci := 1) rfl rfl) rfl rfl hl.1 rfl (lv_room (Nat.le_of_ble_eq_true rfl)) dX1_stateInValue_68 ⟨Nat.le_of_ble_eq_true rfl, Nat.le_of_ble_eq_true rfl⟩) hS (fun q _ h => hFc q h) hFc (fun r' u' t H locs ht hvm hw hB hz1 hk1 hS => ?_)
        subst hw
        obtain ⟨hP1, -, hD1⟩ := hB
        rw [ht] at hP1
        have hP : va_P (dC, dI) vwCl ((W_Reader cI a S)) H := hP1
        have hD : va_D A ((W_Reader cI a S)) := hD1.weaken (fun _ _ _ h => hFc _ h)
        have e50 := Option.some.inj hF
        subst e50
        exact W.iret (v := r5) hx hb hr (fun t ht hW => ⟨⟨r5, (), rfl, rfl, by rw [ht]; exact hP, va_K.moved hW.alike hK, hD⟩, hS.F ht⟩) hS.2.2 dX1_stateInValue_71
      · have hF := F_neg c4 hF
        by_cases c7 : v1 = (4 : Int32)
        · have hF := F_pos c7 hF
          refine lv_tableIn (tgt := 40) hx hb dX1_stateInValue_1 (by rw [c7]; decide) (by rw [c7]; decide) (by rw [c7] <;> rfl) (by decide) ?_
          refine lv_bipush (v := (11 : Int32)) hx hb dX1_stateInValue_40 (by decide) ?_
          have e50 := Option.some.inj hF
          subst e50
          exact W.iret (v := (11 : Int32)) hx hb hr (fun t ht hW => ⟨⟨(11 : Int32), (), rfl, rfl, by rw [ht]; exact hP, va_K.moved hW.alike hK, hD⟩, hS.F ht⟩) hS.2.2 dX1_stateInValue_42
        · have hF := F_neg c7 hF
          by_cases c8 : v1 = (5 : Int32)
          · have hF := F_pos c8 hF
            refine lv_tableIn (tgt := 38) hx hb dX1_stateInValue_1 (by rw [c8]; decide) (by rw [c8]; decide) (by rw [c8] <;> rfl) (by decide) ?_
            refine lv_iconst (v := (3 : Int32)) hx hb dX1_stateInValue_38 (by decide) ?_
            have e50 := Option.some.inj hF
            subst e50
            exact W.iret (v := (3 : Int32)) hx hb hr (fun t ht hW => ⟨⟨(3 : Int32), (), rfl, rfl, by rw [ht]; exact hP, va_K.moved hW.alike hK, hD⟩, hS.F ht⟩) hS.2.2 dX1_stateInValue_39
          · have hF := F_neg c8 hF
            by_cases c9 : v1 = (6 : Int32)
            · have hF := F_pos c9 hF
              refine lv_tableIn (tgt := 36) hx hb dX1_stateInValue_1 (by rw [c9]; decide) (by rw [c9]; decide) (by rw [c9] <;> rfl) (by decide) ?_
              refine lv_iconst (v := (1 : Int32)) hx hb dX1_stateInValue_36 (by decide) ?_
              have e50 := Option.some.inj hF
              subst e50
              exact W.iret (v := (1 : Int32)) hx hb hr (fun t ht hW => ⟨⟨(1 : Int32), (), rfl, rfl, by rw [ht]; exact hP, va_K.moved hW.alike hK, hD⟩, hS.F ht⟩) hS.2.2 dX1_stateInValue_37
            · have hF := F_neg c9 hF
              refine lv_tableOut (tgt := 67) hx hb dX1_stateInValue_1 (sw_out 2 6 (by decide) (fun k hk1 hk2 => ?_)) (by decide) ?_
              · rcases (show k = 2 ∨ k = 3 ∨ k = 4 ∨ k = 5 ∨ k = 6 by omega) with rfl | rfl | rfl | rfl | rfl
                · exact lv_neT c1 rfl
                · exact lv_neT c4 rfl
                · exact lv_neT c7 rfl
                · exact lv_neT c8 rfl
                · exact lv_neT c9 rfl
              refine lv_aload_n hx hb dX1_stateInValue_67 rfl (lv_at hl 0 rfl) ?_
              obtain ⟨r10, h11, hF⟩ := ob1_some hF
              have hPc : va_P (dC, dI) vwCl ((W_Reader cI a S)) H := hP
              have hDc : va_D A ((W_Reader cI a S)) := hD
              have hFc := jFreeW (ws := (W_Reader cI a S)) hD hS hA
              refine va_calli (va_runV (As := []) (rest := []) ⟨hx, hb, hml, hown, hts⟩ (c_X1_stateBehindValue l dC dI cI a H.size _ _ h11) (cwV 0 hts gX1_stateInValue_X1_stateBehindValue rfl rfl rfl (by decide +kernel) ⟨Nat.le_of_ble_eq_true rfl, Nat.le_of_ble_eq_true rfl⟩) (jPreV hK hPc hDc hN (ci := 1) rfl rfl) rfl rfl hl.1 rfl (lv_room (Nat.le_of_ble_eq_true rfl)) dX1_stateInValue_68 ⟨Nat.le_of_ble_eq_true rfl, Nat.le_of_ble_eq_true rfl⟩) hS (fun q _ h => hFc q h) hFc (fun r' u' t H locs ht hvm hw hB hz1 hk1 hS => ?_)
              subst hw
              obtain ⟨hP1, -, hD1⟩ := hB
              rw [ht] at hP1
              have hP : va_P (dC, dI) vwCl ((W_Reader cI a S)) H := hP1
              have hD : va_D A ((W_Reader cI a S)) := hD1.weaken (fun _ _ _ h => hFc _ h)
              have e50 := Option.some.inj hF
              subst e50
              exact W.iret (v := r10) hx hb hr (fun t ht hW => ⟨⟨r10, (), rfl, rfl, by rw [ht]; exact hP, va_K.moved hW.alike hK, hD⟩, hS.F ht⟩) hS.2.2 dX1_stateInValue_71
  exact KE _ _ hP hD hS
set_option maxHeartbeats 4000000 in
set_option maxRecDepth 100000 in
theorem c_X1_takeValue (l : Launch) (dC : Nat → ClassId) (dI : Nat → Nat → Nat) (cI : ClassId) (a : Nat → Nat) (sz : Nat) (S : S_Reader) (v1 : Int32) (rr : Bool) (Y : S_Reader) (hF : F_X1_takeValue S v1 = some (rr, Y)) : Met l yX1_takeValue wsX1_takeValue ({ frames := 3, cells := 0, slots := 0, locals := 70 } : Room) (va_Pc [.ref (a 0), .int v1] (jPre (dC, dI) [(cI, .int)] sz ((W_Reader cI a S)))) (va_Qi (fun (r' : Int32) (u : S_Reader) => b2i rr = r' ∧ Y = u) (fun u : S_Reader => jB (dC, dI) [(cI, .int)] (va_A ((W_Reader cI a S)) sz) ((W_Reader cI a u))) (va_A ((W_Reader cI a S)) sz)) 0 0 (va_A ((W_Reader cI a S)) sz) := by
  refine Met.ofW (cc := cX1_takeValue) (maxL := 6) (ret := (some .boolean)) (by decide) rfl ?_
  intro p e s m args below meth c s₁ B hml hv
  obtain ⟨rfl, hsz, hP, hK, hD0, hN⟩ := hv
  have hx := B.exec
  have hb := B.bytes
  have hr := B.returns
  have hts := atoms_spec (ws := wsX1_takeValue) B.pre
  have hown : s.vm.findClass RX1 = some m.cls := findClass_of_methodNamed B.named
  have hlocks := B.notSynchronized
  have hinX1 : ∀ w ∈ u_ws RX1 TX1 7, w ∈ wsX1_takeValue := by decide +kernel
  subst hsz
  have hD := hD0.self (sz := s.heap.size)
  generalize hAe : (va_A ((W_Reader cI a S)) s.heap.size) = A at hD ⊢
  have hA : ∀ q : Nat, s.heap.size ≤ q → A q := fun q h => by rw [← hAe]; exact Or.inr h
  have hS : va_S A s.heap s.heap [] := va_S.rf
  have hl := lv_entry ([.ref (a 0), .int v1]) (n := 6) (Nat.le_of_ble_eq_true rfl)
  rw [lg_entry_eq]
  generalize (lg_sl ([.ref (a 0), .int v1]) ++ List.replicate (6 - (lg_sl ([.ref (a 0), .int v1])).length) Slot.unset).toArray = ls at hl ⊢
  have hl : lv_has ls 6 [(0, .ref (a 0)), (1, .int v1)] := hl
  have K144 : ∀ (S : S_Reader) (x2 : Int32) (t1 : Int32) (H : Heap) (locs : List Loc), F_X1_takeValue_144 v1 S x2 t1 = some (rr, Y) → va_P (dC, dI) vwCl ((W_Reader cI a S)) H → va_D A ((W_Reader cI a S)) → va_S A s.heap H locs → ∀ ls : Array Slot, lv_has ls 6 [(0, .ref (a 0)), (1, .int v1), (2, .int x2)] → W p l e (headSpec wsX1_takeValue ({ frames := 3, cells := 0, slots := 0, locals := 70 } : Room)).room s m ([.ref (a 0), .int v1] : List Value).toArray below meth c H locs 0 0 (MQ below (va_Qi (fun (r' : Int32) (u : S_Reader) => b2i rr = r' ∧ Y = u) (fun u : S_Reader => jB (dC, dI) [(cI, .int)] A ((W_Reader cI a u))) A) ([.ref (a 0), .int v1] : List Value).toArray s 0 0 A) (F0 m 144 ls [.int t1, .ref (a 0)]) := by
    intro S x2 t1 H locs hF hP hD hS ls hl
    unfold F_X1_takeValue_144 at hF
    refine va_put (D := (dC, dI)) (ci := 1) (v := .int t1) (ty := .int) (C := RX1) (T := TX1) (N := 7) hx hb hts hinX1 tyX1 tyX1_ok nmX1 hown hK hP hD hS 0 rfl rfl 4 (by decide) (hts (Cond.fieldLink RX1 25 "LearnedShapes$Reader" "open" "I") (List.mem_of_getElem? (i := 2) rfl)) (fun _ h9 => h9) rfl (by decide +kernel) (rfl) rfl (Nat.le_of_ble_eq_true rfl) dX1_takeValue_144 (fun H locs hP hD hS => ?_)
    have hP : va_P (dC, dI) vwCl ((W_Reader cI a (s_Reader_open S t1))) H := hP
    have hD : va_D A ((W_Reader cI a (s_Reader_open S t1))) := hD
    refine lv_aload_n hx hb dX1_takeValue_147 rfl (lv_at hl 0 rfl) ?_
    refine lv_iload_n hx hb dX1_takeValue_148 rfl (lv_at hl 2 rfl) ?_
    refine lv_iconst (v := (2 : Int32)) hx hb dX1_takeValue_149 (by decide) ?_
    refine lv_icmp_ne (tgt := 157) hx hb dX1_takeValue_150 (by decide) (fun c1 => ?_) (fun c1 => ?_)
    · have hF := F_neg c1 hF
      refine lv_iconst (v := (0 : Int32)) hx hb dX1_takeValue_157 (by decide) ?_
      refine va_put (D := (dC, dI)) (ci := 1) (v := .int (0 : Int32)) (ty := .int) (C := RX1) (T := TX1) (N := 7) hx hb hts hinX1 tyX1 tyX1_ok nmX1 hown hK hP hD hS 0 rfl rfl 6 (by decide) (hts (Cond.fieldLink RX1 31 "LearnedShapes$Reader" "run" "I") (List.mem_of_getElem? (i := 5) rfl)) (fun _ h9 => h9) rfl (by decide +kernel) (rfl) rfl (Nat.le_of_ble_eq_true rfl) dX1_takeValue_158 (fun H locs hP hD hS => ?_)
      have hP : va_P (dC, dI) vwCl ((W_Reader cI a (s_Reader_run (s_Reader_open S t1) (0 : Int32)))) H := hP
      have hD : va_D A ((W_Reader cI a (s_Reader_run (s_Reader_open S t1) (0 : Int32)))) := hD
      refine lv_aload_n hx hb dX1_takeValue_161 rfl (lv_at hl 0 rfl) ?_
      refine lv_aload_n hx hb dX1_takeValue_162 rfl (lv_at hl 0 rfl) ?_
      refine lv_iload_n hx hb dX1_takeValue_163 rfl (lv_at hl 2 rfl) ?_
      refine lv_iload_n hx hb dX1_takeValue_164 rfl (lv_at hl 1 rfl) ?_
      obtain ⟨r2, h3, hF⟩ := ob1_some hF
      have hPc : va_P (dC, dI) vwCl ((W_Reader cI a (s_Reader_run (s_Reader_open S t1) (0 : Int32)))) H := hP
      have hDc : va_D A ((W_Reader cI a (s_Reader_run (s_Reader_open S t1) (0 : Int32)))) := hD
      have hFc := jFreeW (ws := (W_Reader cI a (s_Reader_run (s_Reader_open S t1) (0 : Int32)))) hD hS hA
      refine va_calli (va_runV (As := [.int x2, .int v1]) (rest := [.ref (a 0)]) ⟨hx, hb, hml, hown, hts⟩ (c_X1_stateInValue l dC dI cI a H.size _ _ _ _ h3) (cwV 2 hts gX1_takeValue_X1_stateInValue rfl rfl rfl (by decide +kernel) ⟨Nat.le_of_ble_eq_true rfl, Nat.le_of_ble_eq_true rfl⟩) (jPreV hK hPc hDc hN (ci := 1) rfl rfl) rfl rfl hl.1 rfl (lv_room (Nat.le_of_ble_eq_true rfl)) dX1_takeValue_165 ⟨Nat.le_of_ble_eq_true rfl, Nat.le_of_ble_eq_true rfl⟩) hS (fun q _ h => hFc q h) hFc (fun r' u' t H locs ht hvm hw hB hz1 hk1 hS => ?_)
      subst hw
      obtain ⟨hP1, -, hD1⟩ := hB
      rw [ht] at hP1
      have hP : va_P (dC, dI) vwCl ((W_Reader cI a (s_Reader_run (s_Reader_open S t1) (0 : Int32)))) H := hP1
      have hD : va_D A ((W_Reader cI a (s_Reader_run (s_Reader_open S t1) (0 : Int32)))) := hD1.weaken (fun _ _ _ h => hFc _ h)
      refine va_put (D := (dC, dI)) (ci := 1) (v := .int r2) (ty := .int) (C := RX1) (T := TX1) (N := 7) hx hb hts hinX1 tyX1 tyX1_ok nmX1 hown hK hP hD hS 0 rfl rfl 3 (by decide) (hts (Cond.fieldLink RX1 21 "LearnedShapes$Reader" "state" "I") (List.mem_of_getElem? (i := 6) rfl)) (fun _ h9 => h9) rfl (by decide +kernel) (rfl) rfl (Nat.le_of_ble_eq_true rfl) dX1_takeValue_168 (fun H locs hP hD hS => ?_)
      have hP : va_P (dC, dI) vwCl ((W_Reader cI a (s_Reader_run (s_Reader_open (s_Reader_state S r2) t1) (0 : Int32)))) H := hP
      have hD : va_D A ((W_Reader cI a (s_Reader_run (s_Reader_open (s_Reader_state S r2) t1) (0 : Int32)))) := hD
      refine lv_iconst (v := (1 : Int32)) hx hb dX1_takeValue_171 (by decide) ?_
      have e50 := Option.some.inj hF
      obtain ⟨e60, e51⟩ := Prod.mk.inj e50
      subst e60
      subst e51
      exact W.zret (v := (1 : Int32)) hx hb hr (rfl) (fun t ht hW => ⟨⟨(1 : Int32), (s_Reader_run (s_Reader_open (s_Reader_state S r2) t1) (0 : Int32)), rfl, ⟨rfl, rfl⟩, by rw [ht]; exact hP, va_K.moved hW.alike hK, hD⟩, hS.F ht⟩) hS.2.2 dX1_takeValue_172
    · have hF := F_pos c1 hF
      refine lv_iconst (v := (1 : Int32)) hx hb dX1_takeValue_153 (by decide) ?_
      refine lv_goto (tgt := 158) hx hb dX1_takeValue_154 (by decide) ?_
      refine va_put (D := (dC, dI)) (ci := 1) (v := .int (1 : Int32)) (ty := .int) (C := RX1) (T := TX1) (N := 7) hx hb hts hinX1 tyX1 tyX1_ok nmX1 hown hK hP hD hS 0 rfl rfl 6 (by decide) (hts (Cond.fieldLink RX1 31 "LearnedShapes$Reader" "run" "I") (List.mem_of_getElem? (i := 5) rfl)) (fun _ h9 => h9) rfl (by decide +kernel) (rfl) rfl (Nat.le_of_ble_eq_true rfl) dX1_takeValue_158 (fun H locs hP hD hS => ?_)
      have hP : va_P (dC, dI) vwCl ((W_Reader cI a (s_Reader_run (s_Reader_open S t1) (1 : Int32)))) H := hP
      have hD : va_D A ((W_Reader cI a (s_Reader_run (s_Reader_open S t1) (1 : Int32)))) := hD
      refine lv_aload_n hx hb dX1_takeValue_161 rfl (lv_at hl 0 rfl) ?_
      refine lv_aload_n hx hb dX1_takeValue_162 rfl (lv_at hl 0 rfl) ?_
      refine lv_iload_n hx hb dX1_takeValue_163 rfl (lv_at hl 2 rfl) ?_
      refine lv_iload_n hx hb dX1_takeValue_164 rfl (lv_at hl 1 rfl) ?_
      obtain ⟨r4, h5, hF⟩ := ob1_some hF
      have hPc : va_P (dC, dI) vwCl ((W_Reader cI a (s_Reader_run (s_Reader_open S t1) (1 : Int32)))) H := hP
      have hDc : va_D A ((W_Reader cI a (s_Reader_run (s_Reader_open S t1) (1 : Int32)))) := hD
      have hFc := jFreeW (ws := (W_Reader cI a (s_Reader_run (s_Reader_open S t1) (1 : Int32)))) hD hS hA
      refine va_calli (va_runV (As := [.int x2, .int v1]) (rest := [.ref (a 0)]) ⟨hx, hb, hml, hown, hts⟩ (c_X1_stateInValue l dC dI cI a H.size _ _ _ _ h5) (cwV 2 hts gX1_takeValue_X1_stateInValue rfl rfl rfl (by decide +kernel) ⟨Nat.le_of_ble_eq_true rfl, Nat.le_of_ble_eq_true rfl⟩) (jPreV hK hPc hDc hN (ci := 1) rfl rfl) rfl rfl hl.1 rfl (lv_room (Nat.le_of_ble_eq_true rfl)) dX1_takeValue_165 ⟨Nat.le_of_ble_eq_true rfl, Nat.le_of_ble_eq_true rfl⟩) hS (fun q _ h => hFc q h) hFc (fun r' u' t H locs ht hvm hw hB hz1 hk1 hS => ?_)
      subst hw
      obtain ⟨hP1, -, hD1⟩ := hB
      rw [ht] at hP1
      have hP : va_P (dC, dI) vwCl ((W_Reader cI a (s_Reader_run (s_Reader_open S t1) (1 : Int32)))) H := hP1
      have hD : va_D A ((W_Reader cI a (s_Reader_run (s_Reader_open S t1) (1 : Int32)))) := hD1.weaken (fun _ _ _ h => hFc _ h)
      refine va_put (D := (dC, dI)) (ci := 1) (v := .int r4) (ty := .int) (C := RX1) (T := TX1) (N := 7) hx hb hts hinX1 tyX1 tyX1_ok nmX1 hown hK hP hD hS 0 rfl rfl 3 (by decide) (hts (Cond.fieldLink RX1 21 "LearnedShapes$Reader" "state" "I") (List.mem_of_getElem? (i := 6) rfl)) (fun _ h9 => h9) rfl (by decide +kernel) (rfl) rfl (Nat.le_of_ble_eq_true rfl) dX1_takeValue_168 (fun H locs hP hD hS => ?_)
      have hP : va_P (dC, dI) vwCl ((W_Reader cI a (s_Reader_run (s_Reader_open (s_Reader_state S r4) t1) (1 : Int32)))) H := hP
      have hD : va_D A ((W_Reader cI a (s_Reader_run (s_Reader_open (s_Reader_state S r4) t1) (1 : Int32)))) := hD
      refine lv_iconst (v := (1 : Int32)) hx hb dX1_takeValue_171 (by decide) ?_
      have e50 := Option.some.inj hF
      obtain ⟨e60, e51⟩ := Prod.mk.inj e50
      subst e60
      subst e51
      exact W.zret (v := (1 : Int32)) hx hb hr (rfl) (fun t ht hW => ⟨⟨(1 : Int32), (s_Reader_run (s_Reader_open (s_Reader_state S r4) t1) (1 : Int32)), rfl, ⟨rfl, rfl⟩, by rw [ht]; exact hP, va_K.moved hW.alike hK, hD⟩, hS.F ht⟩) hS.2.2 dX1_takeValue_172
  have K82 : ∀ (S : S_Reader) (x2 : Int32) (x3 : Bool) (t1 : Int32) (H : Heap) (locs : List Loc), F_X1_takeValue_82 v1 S x2 x3 t1 = some (rr, Y) → va_P (dC, dI) vwCl ((W_Reader cI a S)) H → va_D A ((W_Reader cI a S)) → va_S A s.heap H locs → ∀ ls : Array Slot, lv_has ls 6 [(0, .ref (a 0)), (1, .int v1), (2, .int x2), (3, .int (b2i x3))] → W p l e (headSpec wsX1_takeValue ({ frames := 3, cells := 0, slots := 0, locals := 70 } : Room)).room s m ([.ref (a 0), .int v1] : List Value).toArray below meth c H locs 0 0 (MQ below (va_Qi (fun (r' : Int32) (u : S_Reader) => b2i rr = r' ∧ Y = u) (fun u : S_Reader => jB (dC, dI) [(cI, .int)] A ((W_Reader cI a u))) A) ([.ref (a 0), .int v1] : List Value).toArray s 0 0 A) (F0 m 82 ls [.int t1, .ref (a 1)]) := by
    intro S x2 x3 t1 H locs hF hP hD hS ls hl
    unfold F_X1_takeValue_82 at hF
    refine lv_aload_n hx hb dX1_takeValue_82 rfl (lv_at hl 0 rfl) ?_
    obtain ⟨r6, h7, hF⟩ := ob1_some hF
    have hPc : va_P (dC, dI) vwCl ((W_Reader cI a S)) H := hP
    have hDc : va_D A ((W_Reader cI a S)) := hD
    have hFc := jFreeW (ws := (W_Reader cI a S)) hD hS hA
    refine va_calli (va_runV (As := []) (rest := [.int t1, .ref (a 1)]) ⟨hx, hb, hml, hown, hts⟩ (c_X1_depthOfNext l dC dI cI a H.size _ _ h7) (cwV 0 hts gX1_takeValue_X1_depthOfNext rfl rfl rfl (by decide +kernel) ⟨Nat.le_of_ble_eq_true rfl, Nat.le_of_ble_eq_true rfl⟩) (jPreV hK hPc hDc hN (ci := 1) rfl rfl) rfl rfl hl.1 rfl (lv_room (Nat.le_of_ble_eq_true rfl)) dX1_takeValue_83 ⟨Nat.le_of_ble_eq_true rfl, Nat.le_of_ble_eq_true rfl⟩) hS (fun q _ h => hFc q h) hFc (fun r' u' t H locs ht hvm hw hB hz1 hk1 hS => ?_)
    subst hw
    obtain ⟨hP1, -, hD1⟩ := hB
    rw [ht] at hP1
    have hP : va_P (dC, dI) vwCl ((W_Reader cI a S)) H := hP1
    have hD : va_D A ((W_Reader cI a S)) := hD1.weaken (fun _ _ _ h => hFc _ h)
    obtain ⟨r8, u9, h10, hF⟩ := ob2_some hF
    have hPc := hP.sub (ws' := (W_Tree cI (sh a 1) (g_Reader_values S))) [1, 2] rfl
    have hDc := hD.sub (ws' := (W_Tree cI (sh a 1) (g_Reader_values S))) [1, 2] (by decide) rfl
    have hFc := va_free (wc := (W_Tree cI (sh a 1) (g_Reader_values S))) hD hS hA [1, 2] rfl
    refine va_calli (va_runV (As := [.int t1, .int r6]) (rest := []) ⟨hx, hb, hml, hown, hts⟩ (c_X3_addRow l dC dI cI (sh a 1) H.size _ _ _ _ _ h10) (cwV 2 hts gX1_takeValue_X3_addRow rfl rfl rfl (by decide +kernel) ⟨Nat.le_of_ble_eq_true rfl, Nat.le_of_ble_eq_true rfl⟩) (jPreV hK hPc hDc hN (ci := 3) rfl rfl) rfl rfl hl.1 rfl (lv_room (Nat.le_of_ble_eq_true rfl)) dX1_takeValue_86 ⟨Nat.le_of_ble_eq_true rfl, Nat.le_of_ble_eq_true rfl⟩) hS (fun q _ h => hFc q h) hFc (fun r' u' t H locs ht hvm hw hB hz1 hk1 hS => ?_)
    obtain ⟨e1, e2⟩ := hw
    subst e1
    subst e2
    obtain ⟨hP1, -, hD1⟩ := hB
    rw [ht] at hP1
    obtain ⟨hP, hD⟩ := jJoin (wc := (W_Tree cI (sh a 1) (g_Reader_values S))) (w1 := (W_Tree cI (sh a 1) u9)) (ws' := (W_Reader cI a (s_Reader_values S u9))) hP hD [1, 2] [0] [0, 1, 2] rfl rfl (by decide) (by decide) hk1 hFc hP1 hD1 (by decide) rfl
    refine lv_istore (lv' := [(5, .int r8), (0, .ref (a 0)), (1, .int v1), (2, .int x2), (3, .int (b2i x3))]) hx hb dX1_takeValue_89 hl (by decide) rfl (fun ls hl => ?_)
    refine lv_aload_n hx hb dX1_takeValue_91 rfl (lv_at hl 1 rfl) ?_
    refine va_get (D := (dC, dI)) (ci := 1) (v := .ref (a 1)) (C := RX1) (T := TX1) (N := 7) hx hb hts hinX1 hown hK hP 0 rfl rfl 0 (by decide) (hts (Cond.fieldLink RX1 12 "LearnedShapes$Reader" "values" "LLearnedShapes$Tree;") (List.mem_of_getElem? (i := 1) rfl)) (fun _ h9 => h9) rfl dX1_takeValue_92 ?_
    refine lv_iload hx hb dX1_takeValue_95 (lv_at hl 0 rfl) ?_
    refine lv_iconst (v := (0 : Int32)) hx hb dX1_takeValue_97 (by decide) ?_
    refine lv_iload_n hx hb dX1_takeValue_98 rfl (lv_at hl 3 rfl) ?_
    obtain ⟨u11, h12, hF⟩ := ob1_some hF
    have hPc := hP.sub (ws' := (W_Tree cI (sh a 1) u9)) [1, 2] rfl
    have hDc := hD.sub (ws' := (W_Tree cI (sh a 1) u9)) [1, 2] (by decide) rfl
    have hFc := va_free (wc := (W_Tree cI (sh a 1) u9)) hD hS hA [1, 2] rfl
    refine va_callv (va_runV (As := [.int r8, .int (0 : Int32), .int x2]) (rest := []) ⟨hx, hb, hml, hown, hts⟩ (c_X3_put l dC dI cI (sh a 1) H.size _ _ _ _ _ h12) (cwV 3 hts gX1_takeValue_X3_put rfl rfl rfl (by decide +kernel) ⟨Nat.le_of_ble_eq_true rfl, Nat.le_of_ble_eq_true rfl⟩) (jPreV hK hPc hDc hN (ci := 3) rfl rfl) rfl rfl hl.1 rfl (lv_room (Nat.le_of_ble_eq_true rfl)) dX1_takeValue_99 ⟨Nat.le_of_ble_eq_true rfl, Nat.le_of_ble_eq_true rfl⟩) hS (fun q _ h => hFc q h) hFc (fun u' t H locs ht hvm hw hB hz1 hk1 hS => ?_)
    subst hw
    obtain ⟨hP1, -, hD1⟩ := hB
    rw [ht] at hP1
    obtain ⟨hP, hD⟩ := jJoin (wc := (W_Tree cI (sh a 1) u9)) (w1 := (W_Tree cI (sh a 1) u11)) (ws' := (W_Reader cI a (s_Reader_values S u11))) hP hD [1, 2] [0] [0, 1, 2] rfl rfl (by decide) (by decide) hk1 hFc hP1 hD1 (by decide) rfl
    refine lv_aload_n hx hb dX1_takeValue_102 rfl (lv_at hl 1 rfl) ?_
    refine va_get (D := (dC, dI)) (ci := 1) (v := .ref (a 1)) (C := RX1) (T := TX1) (N := 7) hx hb hts hinX1 hown hK hP 0 rfl rfl 0 (by decide) (hts (Cond.fieldLink RX1 12 "LearnedShapes$Reader" "values" "LLearnedShapes$Tree;") (List.mem_of_getElem? (i := 1) rfl)) (fun _ h9 => h9) rfl dX1_takeValue_103 ?_
    refine lv_iload hx hb dX1_takeValue_106 (lv_at hl 0 rfl) ?_
    refine lv_iconst (v := (3 : Int32)) hx hb dX1_takeValue_108 (by decide) ?_
    refine lv_aload_n hx hb dX1_takeValue_109 rfl (lv_at hl 1 rfl) ?_
    refine va_get (D := (dC, dI)) (ci := 1) (v := .int (g_Reader_place S)) (C := RX1) (T := TX1) (N := 7) hx hb hts hinX1 hown hK hP 0 rfl rfl 2 (by decide) (hts (Cond.fieldLink RX1 37 "LearnedShapes$Reader" "place" "I") (List.mem_of_getElem? (i := 4) rfl)) (fun _ h9 => h9) rfl dX1_takeValue_110 ?_
    obtain ⟨u13, h14, hF⟩ := ob1_some hF
    have hPc := hP.sub (ws' := (W_Tree cI (sh a 1) u11)) [1, 2] rfl
    have hDc := hD.sub (ws' := (W_Tree cI (sh a 1) u11)) [1, 2] (by decide) rfl
    have hFc := va_free (wc := (W_Tree cI (sh a 1) u11)) hD hS hA [1, 2] rfl
    refine va_callv (va_runV (As := [.int r8, .int (3 : Int32), .int (g_Reader_place S)]) (rest := []) ⟨hx, hb, hml, hown, hts⟩ (c_X3_put l dC dI cI (sh a 1) H.size _ _ _ _ _ h14) (cwV 3 hts gX1_takeValue_X3_put rfl rfl rfl (by decide +kernel) ⟨Nat.le_of_ble_eq_true rfl, Nat.le_of_ble_eq_true rfl⟩) (jPreV hK hPc hDc hN (ci := 3) rfl rfl) rfl rfl hl.1 rfl (lv_room (Nat.le_of_ble_eq_true rfl)) dX1_takeValue_113 ⟨Nat.le_of_ble_eq_true rfl, Nat.le_of_ble_eq_true rfl⟩) hS (fun q _ h => hFc q h) hFc (fun u' t H locs ht hvm hw hB hz1 hk1 hS => ?_)
    subst hw
    obtain ⟨hP1, -, hD1⟩ := hB
    rw [ht] at hP1
    obtain ⟨hP, hD⟩ := jJoin (wc := (W_Tree cI (sh a 1) u11)) (w1 := (W_Tree cI (sh a 1) u13)) (ws' := (W_Reader cI a (s_Reader_values S u13))) hP hD [1, 2] [0] [0, 1, 2] rfl rfl (by decide) (by decide) hk1 hFc hP1 hD1 (by decide) rfl
    refine lv_aload_n hx hb dX1_takeValue_116 rfl (lv_at hl 1 rfl) ?_
    refine va_get (D := (dC, dI)) (ci := 1) (v := .ref (a 1)) (C := RX1) (T := TX1) (N := 7) hx hb hts hinX1 hown hK hP 0 rfl rfl 0 (by decide) (hts (Cond.fieldLink RX1 12 "LearnedShapes$Reader" "values" "LLearnedShapes$Tree;") (List.mem_of_getElem? (i := 1) rfl)) (fun _ h9 => h9) rfl dX1_takeValue_117 ?_
    refine lv_iload hx hb dX1_takeValue_120 (lv_at hl 0 rfl) ?_
    refine lv_iconst (v := (5 : Int32)) hx hb dX1_takeValue_122 (by decide) ?_
    refine lv_aload_n hx hb dX1_takeValue_123 rfl (lv_at hl 1 rfl) ?_
    refine va_get (D := (dC, dI)) (ci := 1) (v := .int (g_Reader_open S)) (C := RX1) (T := TX1) (N := 7) hx hb hts hinX1 hown hK hP 0 rfl rfl 4 (by decide) (hts (Cond.fieldLink RX1 25 "LearnedShapes$Reader" "open" "I") (List.mem_of_getElem? (i := 2) rfl)) (fun _ h9 => h9) rfl dX1_takeValue_124 ?_
    obtain ⟨u15, h16, hF⟩ := ob1_some hF
    have hPc := hP.sub (ws' := (W_Tree cI (sh a 1) u13)) [1, 2] rfl
    have hDc := hD.sub (ws' := (W_Tree cI (sh a 1) u13)) [1, 2] (by decide) rfl
    have hFc := va_free (wc := (W_Tree cI (sh a 1) u13)) hD hS hA [1, 2] rfl
    refine va_callv (va_runV (As := [.int r8, .int (5 : Int32), .int (g_Reader_open S)]) (rest := []) ⟨hx, hb, hml, hown, hts⟩ (c_X3_put l dC dI cI (sh a 1) H.size _ _ _ _ _ h16) (cwV 3 hts gX1_takeValue_X3_put rfl rfl rfl (by decide +kernel) ⟨Nat.le_of_ble_eq_true rfl, Nat.le_of_ble_eq_true rfl⟩) (jPreV hK hPc hDc hN (ci := 3) rfl rfl) rfl rfl hl.1 rfl (lv_room (Nat.le_of_ble_eq_true rfl)) dX1_takeValue_127 ⟨Nat.le_of_ble_eq_true rfl, Nat.le_of_ble_eq_true rfl⟩) hS (fun q _ h => hFc q h) hFc (fun u' t H locs ht hvm hw hB hz1 hk1 hS => ?_)
    subst hw
    obtain ⟨hP1, -, hD1⟩ := hB
    rw [ht] at hP1
    obtain ⟨hP, hD⟩ := jJoin (wc := (W_Tree cI (sh a 1) u13)) (w1 := (W_Tree cI (sh a 1) u15)) (ws' := (W_Reader cI a (s_Reader_values S u15))) hP hD [1, 2] [0] [0, 1, 2] rfl rfl (by decide) (by decide) hk1 hFc hP1 hD1 (by decide) rfl
    refine lv_aload_n hx hb dX1_takeValue_130 rfl (lv_at hl 1 rfl) ?_
    refine lv_iload_n hx hb dX1_takeValue_131 rfl (lv_at hl 4 rfl) ?_
    refine lv_if_eq (tgt := 140) hx hb dX1_takeValue_132 (by decide) (fun c17 => ?_) (fun c17 => ?_)
    · have hF := F_pos c17 hF
      refine lv_aload_n hx hb dX1_takeValue_140 rfl (lv_at hl 1 rfl) ?_
      refine va_get (D := (dC, dI)) (ci := 1) (v := .int (g_Reader_open S)) (C := RX1) (T := TX1) (N := 7) hx hb hts hinX1 hown hK hP 0 rfl rfl 4 (by decide) (hts (Cond.fieldLink RX1 25 "LearnedShapes$Reader" "open" "I") (List.mem_of_getElem? (i := 2) rfl)) (fun _ h9 => h9) rfl dX1_takeValue_141 ?_
      exact K144 _ _ _ _ _ hF hP hD hS _ (lv_sub hl [1, 2, 3] rfl)
    · have hF := F_neg c17 hF
      refine lv_iload hx hb dX1_takeValue_135 (lv_at hl 0 rfl) ?_
      refine lv_goto (tgt := 144) hx hb dX1_takeValue_137 (by decide) ?_
      exact K144 _ _ _ _ _ hF hP hD hS _ (lv_sub hl [1, 2, 3] rfl)
  have K41 : ∀ (S : S_Reader) (x2 : Int32) (x3 : Bool) (H : Heap) (locs : List Loc), F_X1_takeValue_41 v1 S x2 x3 = some (rr, Y) → va_P (dC, dI) vwCl ((W_Reader cI a S)) H → va_D A ((W_Reader cI a S)) → va_S A s.heap H locs → ∀ ls : Array Slot, lv_has ls 6 [(0, .ref (a 0)), (1, .int v1), (2, .int x2), (3, .int (b2i x3))] → W p l e (headSpec wsX1_takeValue ({ frames := 3, cells := 0, slots := 0, locals := 70 } : Room)).room s m ([.ref (a 0), .int v1] : List Value).toArray below meth c H locs 0 0 (MQ below (va_Qi (fun (r' : Int32) (u : S_Reader) => b2i rr = r' ∧ Y = u) (fun u : S_Reader => jB (dC, dI) [(cI, .int)] A ((W_Reader cI a u))) A) ([.ref (a 0), .int v1] : List Value).toArray s 0 0 A) (F0 m 41 ls []) := by
    intro S x2 x3 H locs hF hP hD hS ls hl
    unfold F_X1_takeValue_41 at hF
    refine lv_aload_n hx hb dX1_takeValue_41 rfl (lv_at hl 0 rfl) ?_
    refine va_get (D := (dC, dI)) (ci := 1) (v := .ref (a 1)) (C := RX1) (T := TX1) (N := 7) hx hb hts hinX1 hown hK hP 0 rfl rfl 0 (by decide) (hts (Cond.fieldLink RX1 12 "LearnedShapes$Reader" "values" "LLearnedShapes$Tree;") (List.mem_of_getElem? (i := 1) rfl)) (fun _ h9 => h9) rfl dX1_takeValue_42 ?_
    refine lv_aload_n hx hb dX1_takeValue_45 rfl (lv_at hl 0 rfl) ?_
    refine va_get (D := (dC, dI)) (ci := 1) (v := .int (g_Reader_open S)) (C := RX1) (T := TX1) (N := 7) hx hb hts hinX1 hown hK hP 0 rfl rfl 4 (by decide) (hts (Cond.fieldLink RX1 25 "LearnedShapes$Reader" "open" "I") (List.mem_of_getElem? (i := 2) rfl)) (fun _ h9 => h9) rfl dX1_takeValue_46 ?_
    refine lv_iconst (v := (0 : Int32)) hx hb dX1_takeValue_49 (by decide) ?_
    obtain ⟨r18, h19, hF⟩ := ob1_some hF
    have hPc := hP.sub (ws' := (W_Tree cI (sh a 1) (g_Reader_values S))) [1, 2] rfl
    have hDc := hD.sub (ws' := (W_Tree cI (sh a 1) (g_Reader_values S))) [1, 2] (by decide) rfl
    have hFc := va_free (wc := (W_Tree cI (sh a 1) (g_Reader_values S))) hD hS hA [1, 2] rfl
    refine va_calli (va_runV (As := [.int (g_Reader_open S), .int (0 : Int32)]) (rest := []) ⟨hx, hb, hml, hown, hts⟩ (c_X3_get l dC dI cI (sh a 1) H.size _ _ _ _ h19) (cwV 2 hts gX1_takeValue_X3_get rfl rfl rfl (by decide +kernel) ⟨Nat.le_of_ble_eq_true rfl, Nat.le_of_ble_eq_true rfl⟩) (jPreV hK hPc hDc hN (ci := 3) rfl rfl) rfl rfl hl.1 rfl (lv_room (Nat.le_of_ble_eq_true rfl)) dX1_takeValue_50 ⟨Nat.le_of_ble_eq_true rfl, Nat.le_of_ble_eq_true rfl⟩) hS (fun q _ h => hFc q h) hFc (fun r' u' t H locs ht hvm hw hB hz1 hk1 hS => ?_)
    subst hw
    obtain ⟨hP1, -, hD1⟩ := hB
    rw [ht] at hP1
    obtain ⟨hP, hD⟩ := jJoin (wc := (W_Tree cI (sh a 1) (g_Reader_values S))) (w1 := (W_Tree cI (sh a 1) (g_Reader_values S))) (ws' := (W_Reader cI a S)) hP hD [1, 2] [0] [0, 1, 2] rfl rfl (by decide) (by decide) hk1 hFc hP1 hD1 (by decide) rfl
    refine lv_iconst (v := (5 : Int32)) hx hb dX1_takeValue_53 (by decide) ?_
    refine lv_icmp_ne (tgt := 61) hx hb dX1_takeValue_54 (by decide) (fun c20 => ?_) (fun c20 => ?_)
    · have hF := F_neg c20 hF
      refine lv_iconst (v := (0 : Int32)) hx hb dX1_takeValue_61 (by decide) ?_
      refine lv_istore (lv' := [(4, .int (0 : Int32)), (0, .ref (a 0)), (1, .int v1), (2, .int x2), (3, .int (b2i x3))]) hx hb dX1_takeValue_62 hl (by decide) rfl (fun ls hl => ?_)
      refine lv_aload_n hx hb dX1_takeValue_64 rfl (lv_at hl 1 rfl) ?_
      refine va_get (D := (dC, dI)) (ci := 1) (v := .ref (a 1)) (C := RX1) (T := TX1) (N := 7) hx hb hts hinX1 hown hK hP 0 rfl rfl 0 (by decide) (hts (Cond.fieldLink RX1 12 "LearnedShapes$Reader" "values" "LLearnedShapes$Tree;") (List.mem_of_getElem? (i := 1) rfl)) (fun _ h9 => h9) rfl dX1_takeValue_65 ?_
      refine lv_iload hx hb dX1_takeValue_68 (lv_at hl 0 rfl) ?_
      refine lv_if_eq (tgt := 78) hx hb dX1_takeValue_70 (by decide) (fun _ => ?_) (fun c => absurd c (by decide))
      refine lv_aload_n hx hb dX1_takeValue_78 rfl (lv_at hl 1 rfl) ?_
      refine va_get (D := (dC, dI)) (ci := 1) (v := .int (g_Reader_letter S)) (C := RX1) (T := TX1) (N := 7) hx hb hts hinX1 hown hK hP 0 rfl rfl 5 (by decide) (hts (Cond.fieldLink RX1 28 "LearnedShapes$Reader" "letter" "I") (List.mem_of_getElem? (i := 3) rfl)) (fun _ h9 => h9) rfl dX1_takeValue_79 ?_
      exact K82 _ _ _ _ _ _ hF hP hD hS _ (lv_sub hl [1, 2, 3, 4] rfl)
    · have hF := F_pos c20 hF
      refine lv_iconst (v := (1 : Int32)) hx hb dX1_takeValue_57 (by decide) ?_
      refine lv_goto (tgt := 62) hx hb dX1_takeValue_58 (by decide) ?_
      refine lv_istore (lv' := [(4, .int (1 : Int32)), (0, .ref (a 0)), (1, .int v1), (2, .int x2), (3, .int (b2i x3))]) hx hb dX1_takeValue_62 hl (by decide) rfl (fun ls hl => ?_)
      refine lv_aload_n hx hb dX1_takeValue_64 rfl (lv_at hl 1 rfl) ?_
      refine va_get (D := (dC, dI)) (ci := 1) (v := .ref (a 1)) (C := RX1) (T := TX1) (N := 7) hx hb hts hinX1 hown hK hP 0 rfl rfl 0 (by decide) (hts (Cond.fieldLink RX1 12 "LearnedShapes$Reader" "values" "LLearnedShapes$Tree;") (List.mem_of_getElem? (i := 1) rfl)) (fun _ h9 => h9) rfl dX1_takeValue_65 ?_
      refine lv_iload hx hb dX1_takeValue_68 (lv_at hl 0 rfl) ?_
      refine lv_if_eq (tgt := 78) hx hb dX1_takeValue_70 (by decide) (fun c => absurd c (by decide)) (fun _ => ?_)
      refine lv_bipush (v := (8 : Int32)) hx hb dX1_takeValue_73 (by decide) ?_
      refine lv_goto (tgt := 82) hx hb dX1_takeValue_75 (by decide) ?_
      exact K82 _ _ _ _ _ _ hF hP hD hS _ (lv_sub hl [1, 2, 3, 4] rfl)
  have K16 : ∀ (S : S_Reader) (x2 : Int32) (H : Heap) (locs : List Loc), F_X1_takeValue_16 v1 S x2 = some (rr, Y) → va_P (dC, dI) vwCl ((W_Reader cI a S)) H → va_D A ((W_Reader cI a S)) → va_S A s.heap H locs → ∀ ls : Array Slot, lv_has ls 6 [(0, .ref (a 0)), (1, .int v1), (2, .int x2)] → W p l e (headSpec wsX1_takeValue ({ frames := 3, cells := 0, slots := 0, locals := 70 } : Room)).room s m ([.ref (a 0), .int v1] : List Value).toArray below meth c H locs 0 0 (MQ below (va_Qi (fun (r' : Int32) (u : S_Reader) => b2i rr = r' ∧ Y = u) (fun u : S_Reader => jB (dC, dI) [(cI, .int)] A ((W_Reader cI a u))) A) ([.ref (a 0), .int v1] : List Value).toArray s 0 0 A) (F0 m 16 ls []) := by
    intro S x2 H locs hF hP hD hS ls hl
    unfold F_X1_takeValue_16 at hF
    refine lv_iconst (v := (1 : Int32)) hx hb dX1_takeValue_16 (by decide) ?_
    refine lv_goto (tgt := 21) hx hb dX1_takeValue_17 (by decide) ?_
    refine lv_istore_n (lv' := [(3, .int (1 : Int32)), (0, .ref (a 0)), (1, .int v1), (2, .int x2)]) hx hb dX1_takeValue_21 rfl hl (by decide) rfl (fun ls hl => ?_)
    refine lv_iload_n hx hb dX1_takeValue_22 rfl (lv_at hl 3 rfl) ?_
    refine lv_iconst (v := (-1 : Int32)) hx hb dX1_takeValue_23 (by decide) ?_
    refine lv_icmp_eq (tgt := 39) hx hb dX1_takeValue_24 (by decide) (fun c21 => ?_) (fun c21 => ?_)
    · have hF := F_pos c21 hF
      refine lv_iconst (v := (0 : Int32)) hx hb dX1_takeValue_39 (by decide) ?_
      have e50 := Option.some.inj hF
      obtain ⟨e60, e51⟩ := Prod.mk.inj e50
      subst e60
      subst e51
      exact W.zret (v := (0 : Int32)) hx hb hr (rfl) (fun t ht hW => ⟨⟨(0 : Int32), S, rfl, ⟨rfl, rfl⟩, by rw [ht]; exact hP, va_K.moved hW.alike hK, hD⟩, hS.F ht⟩) hS.2.2 dX1_takeValue_40
    · have hF := F_neg c21 hF
      refine lv_iload_n hx hb dX1_takeValue_27 rfl (lv_at hl 0 rfl) ?_
      refine lv_if_eq (tgt := 41) hx hb dX1_takeValue_28 (by decide) (fun c => absurd c (by decide)) (fun _ => ?_)
      refine lv_aload_n hx hb dX1_takeValue_31 rfl (lv_at hl 1 rfl) ?_
      obtain ⟨r22, h23, hF⟩ := ob1_some hF
      have hPc : va_P (dC, dI) vwCl ((W_Reader cI a S)) H := hP
      have hDc : va_D A ((W_Reader cI a S)) := hD
      have hFc := jFreeW (ws := (W_Reader cI a S)) hD hS hA
      refine va_calli (va_runV (As := []) (rest := []) ⟨hx, hb, hml, hown, hts⟩ (c_X1_depthOfNext l dC dI cI a H.size _ _ h23) (cwV 0 hts gX1_takeValue_X1_depthOfNext rfl rfl rfl (by decide +kernel) ⟨Nat.le_of_ble_eq_true rfl, Nat.le_of_ble_eq_true rfl⟩) (jPreV hK hPc hDc hN (ci := 1) rfl rfl) rfl rfl hl.1 rfl (lv_room (Nat.le_of_ble_eq_true rfl)) dX1_takeValue_32 ⟨Nat.le_of_ble_eq_true rfl, Nat.le_of_ble_eq_true rfl⟩) hS (fun q _ h => hFc q h) hFc (fun r' u' t H locs ht hvm hw hB hz1 hk1 hS => ?_)
      subst hw
      obtain ⟨hP1, -, hD1⟩ := hB
      rw [ht] at hP1
      have hP : va_P (dC, dI) vwCl ((W_Reader cI a S)) H := hP1
      have hD : va_D A ((W_Reader cI a S)) := hD1.weaken (fun _ _ _ h => hFc _ h)
      refine lv_iconst (v := (4 : Int32)) hx hb dX1_takeValue_35 (by decide) ?_
      refine lv_icmp_lt (tgt := 41) hx hb dX1_takeValue_36 (by decide) (fun c24 => ?_) (fun c24 => ?_)
      · have hF := F_pos c24 hF
        exact K41 _ _ _ _ _ hF hP hD hS _ (lv_sub hl [1, 2, 3, 0] rfl)
      · have hF := F_neg c24 hF
        refine lv_iconst (v := (0 : Int32)) hx hb dX1_takeValue_39 (by decide) ?_
        have e50 := Option.some.inj hF
        obtain ⟨e60, e51⟩ := Prod.mk.inj e50
        subst e60
        subst e51
        exact W.zret (v := (0 : Int32)) hx hb hr (rfl) (fun t ht hW => ⟨⟨(0 : Int32), S, rfl, ⟨rfl, rfl⟩, by rw [ht]; exact hP, va_K.moved hW.alike hK, hD⟩, hS.F ht⟩) hS.2.2 dX1_takeValue_40
  have KE : ∀ (H : Heap) (locs : List Loc), va_P (dC, dI) vwCl ((W_Reader cI a S)) H → va_D A ((W_Reader cI a S)) → va_S A s.heap H locs → W p l e (headSpec wsX1_takeValue ({ frames := 3, cells := 0, slots := 0, locals := 70 } : Room)).room s m ([.ref (a 0), .int v1] : List Value).toArray below meth c H locs 0 0 (MQ below (va_Qi (fun (r' : Int32) (u : S_Reader) => b2i rr = r' ∧ Y = u) (fun u : S_Reader => jB (dC, dI) [(cI, .int)] A ((W_Reader cI a u))) A) ([.ref (a 0), .int v1] : List Value).toArray s 0 0 A) (F0 m 0 ls []) := by
    intro H locs hP hD hS
    unfold F_X1_takeValue at hF
    refine lv_iload_n hx hb dX1_takeValue_0 rfl (lv_at hl 1 rfl) ?_
    obtain ⟨r25, h26, hF⟩ := ob1_some hF
    have hPc : va_P (dC, dI) vwCl ([] : va_W) H := fun k q h => by simp at h
    have hDc : va_D A ([] : va_W) := ⟨fun i j p q h => by simp at h, fun k q h => by simp at h⟩
    have hFc := jFreeW (ws := []) hDc hS hA
    refine va_calli (va_runS (As := [.int v1]) (rest := []) ⟨hx, hb, hml, hown, hts⟩ (c_X1_kindAt l dC dI cI  H.size _ _ h26) (va_cwS 1 hts gX1_takeValue_X1_kindAt rfl rfl rfl (by decide +kernel) ⟨Nat.le_of_ble_eq_true rfl, Nat.le_of_ble_eq_true rfl⟩) (jPreS hK hPc hDc hN) rfl rfl hl.1 rfl (lv_room (Nat.le_of_ble_eq_true rfl)) dX1_takeValue_1 ⟨Nat.le_of_ble_eq_true rfl, Nat.le_of_ble_eq_true rfl⟩) hS (fun q _ h => hFc q h) hFc (fun r' u' t H locs ht hvm hw hB hz1 hk1 hS => ?_)
    subst hw
    obtain ⟨hP1, -, hD1⟩ := hB
    rw [ht] at hP1
    have hP : va_P (dC, dI) vwCl ((W_Reader cI a S)) H := jNone hP hk1
    refine lv_istore_n (lv' := [(2, .int r25), (0, .ref (a 0)), (1, .int v1)]) hx hb dX1_takeValue_4 rfl hl (by decide) rfl (fun ls hl => ?_)
    refine lv_iload_n hx hb dX1_takeValue_5 rfl (lv_at hl 0 rfl) ?_
    refine lv_iconst (v := (5 : Int32)) hx hb dX1_takeValue_6 (by decide) ?_
    refine lv_icmp_eq (tgt := 16) hx hb dX1_takeValue_7 (by decide) (fun c27 => ?_) (fun c27 => ?_)
    · have hF := F_pos c27 hF
      exact K16 _ _ _ _ hF hP hD hS _ (lv_sub hl [1, 2, 0] rfl)
    · have hF := F_neg c27 hF
      refine lv_iload_n hx hb dX1_takeValue_10 rfl (lv_at hl 0 rfl) ?_
      refine lv_bipush (v := (6 : Int32)) hx hb dX1_takeValue_11 (by decide) ?_
      refine lv_icmp_ne (tgt := 20) hx hb dX1_takeValue_13 (by decide) (fun c28 => ?_) (fun c28 => ?_)
      · have hF := F_neg c28 hF
        refine lv_iconst (v := (0 : Int32)) hx hb dX1_takeValue_20 (by decide) ?_
        refine lv_istore_n (lv' := [(3, .int (0 : Int32)), (2, .int r25), (0, .ref (a 0)), (1, .int v1)]) hx hb dX1_takeValue_21 rfl hl (by decide) rfl (fun ls hl => ?_)
        refine lv_iload_n hx hb dX1_takeValue_22 rfl (lv_at hl 1 rfl) ?_
        refine lv_iconst (v := (-1 : Int32)) hx hb dX1_takeValue_23 (by decide) ?_
        refine lv_icmp_eq (tgt := 39) hx hb dX1_takeValue_24 (by decide) (fun c29 => ?_) (fun c29 => ?_)
        · have hF := F_pos c29 hF
          refine lv_iconst (v := (0 : Int32)) hx hb dX1_takeValue_39 (by decide) ?_
          have e50 := Option.some.inj hF
          obtain ⟨e60, e51⟩ := Prod.mk.inj e50
          subst e60
          subst e51
          exact W.zret (v := (0 : Int32)) hx hb hr (rfl) (fun t ht hW => ⟨⟨(0 : Int32), S, rfl, ⟨rfl, rfl⟩, by rw [ht]; exact hP, va_K.moved hW.alike hK, hD⟩, hS.F ht⟩) hS.2.2 dX1_takeValue_40
        · have hF := F_neg c29 hF
          refine lv_iload_n hx hb dX1_takeValue_27 rfl (lv_at hl 0 rfl) ?_
          refine lv_if_eq (tgt := 41) hx hb dX1_takeValue_28 (by decide) (fun _ => ?_) (fun c => absurd c (by decide))
          exact K41 _ _ _ _ _ hF hP hD hS _ (lv_sub hl [2, 3, 1, 0] rfl)
      · have hF := F_pos c28 hF
        exact K16 _ _ _ _ hF hP hD hS _ (lv_sub hl [1, 2, 0] rfl)
  exact KE _ _ hP hD hS
set_option maxHeartbeats 4000000 in
set_option maxRecDepth 100000 in
theorem c_X1_closeValue (l : Launch) (dC : Nat → ClassId) (dI : Nat → Nat → Nat) (cI : ClassId) (a : Nat → Nat) (sz : Nat) (S : S_Reader)  (rr : Bool) (Y : S_Reader) (hF : F_X1_closeValue S  = some (rr, Y)) : Met l yX1_closeValue wsX1_closeValue ({ frames := 2, cells := 0, slots := 0, locals := 44 } : Room) (va_Pc [.ref (a 0)] (jPre (dC, dI) [(cI, .int)] sz ((W_Reader cI a S)))) (va_Qi (fun (r' : Int32) (u : S_Reader) => b2i rr = r' ∧ Y = u) (fun u : S_Reader => jB (dC, dI) [(cI, .int)] (va_A ((W_Reader cI a S)) sz) ((W_Reader cI a u))) (va_A ((W_Reader cI a S)) sz)) 0 0 (va_A ((W_Reader cI a S)) sz) := by
  refine Met.ofW (cc := cX1_closeValue) (maxL := 1) (ret := (some .boolean)) (by decide) rfl ?_
  intro p e s m args below meth c s₁ B hml hv
  obtain ⟨rfl, hsz, hP, hK, hD0, hN⟩ := hv
  have hx := B.exec
  have hb := B.bytes
  have hr := B.returns
  have hts := atoms_spec (ws := wsX1_closeValue) B.pre
  have hown : s.vm.findClass RX1 = some m.cls := findClass_of_methodNamed B.named
  have hlocks := B.notSynchronized
  have hinX1 : ∀ w ∈ u_ws RX1 TX1 7, w ∈ wsX1_closeValue := by decide +kernel
  subst hsz
  have hD := hD0.self (sz := s.heap.size)
  generalize hAe : (va_A ((W_Reader cI a S)) s.heap.size) = A at hD ⊢
  have hA : ∀ q : Nat, s.heap.size ≤ q → A q := fun q h => by rw [← hAe]; exact Or.inr h
  have hS : va_S A s.heap s.heap [] := va_S.rf
  have hl := lv_entry ([.ref (a 0)]) (n := 1) (Nat.le_of_ble_eq_true rfl)
  rw [lg_entry_eq]
  generalize (lg_sl ([.ref (a 0)]) ++ List.replicate (1 - (lg_sl ([.ref (a 0)])).length) Slot.unset).toArray = ls at hl ⊢
  have hl : lv_has ls 1 [(0, .ref (a 0))] := hl
  have KE : ∀ (H : Heap) (locs : List Loc), va_P (dC, dI) vwCl ((W_Reader cI a S)) H → va_D A ((W_Reader cI a S)) → va_S A s.heap H locs → W p l e (headSpec wsX1_closeValue ({ frames := 2, cells := 0, slots := 0, locals := 44 } : Room)).room s m ([.ref (a 0)] : List Value).toArray below meth c H locs 0 0 (MQ below (va_Qi (fun (r' : Int32) (u : S_Reader) => b2i rr = r' ∧ Y = u) (fun u : S_Reader => jB (dC, dI) [(cI, .int)] A ((W_Reader cI a u))) A) ([.ref (a 0)] : List Value).toArray s 0 0 A) (F0 m 0 ls []) := by
    intro H locs hP hD hS
    unfold F_X1_closeValue at hF
    refine lv_aload_n hx hb dX1_closeValue_0 rfl (lv_at hl 0 rfl) ?_
    refine va_get (D := (dC, dI)) (ci := 1) (v := .ref (a 1)) (C := RX1) (T := TX1) (N := 7) hx hb hts hinX1 hown hK hP 0 rfl rfl 0 (by decide) (hts (Cond.fieldLink RX1 12 "LearnedShapes$Reader" "values" "LLearnedShapes$Tree;") (List.mem_of_getElem? (i := 1) rfl)) (fun _ h9 => h9) rfl dX1_closeValue_1 ?_
    refine lv_aload_n hx hb dX1_closeValue_4 rfl (lv_at hl 0 rfl) ?_
    refine va_get (D := (dC, dI)) (ci := 1) (v := .int (g_Reader_open S)) (C := RX1) (T := TX1) (N := 7) hx hb hts hinX1 hown hK hP 0 rfl rfl 4 (by decide) (hts (Cond.fieldLink RX1 25 "LearnedShapes$Reader" "open" "I") (List.mem_of_getElem? (i := 2) rfl)) (fun _ h9 => h9) rfl dX1_closeValue_5 ?_
    refine lv_iconst (v := (4 : Int32)) hx hb dX1_closeValue_8 (by decide) ?_
    refine lv_aload_n hx hb dX1_closeValue_9 rfl (lv_at hl 0 rfl) ?_
    refine va_get (D := (dC, dI)) (ci := 1) (v := .int (g_Reader_place S)) (C := RX1) (T := TX1) (N := 7) hx hb hts hinX1 hown hK hP 0 rfl rfl 2 (by decide) (hts (Cond.fieldLink RX1 37 "LearnedShapes$Reader" "place" "I") (List.mem_of_getElem? (i := 3) rfl)) (fun _ h9 => h9) rfl dX1_closeValue_10 ?_
    obtain ⟨u1, h2, hF⟩ := ob1_some hF
    have hPc := hP.sub (ws' := (W_Tree cI (sh a 1) (g_Reader_values S))) [1, 2] rfl
    have hDc := hD.sub (ws' := (W_Tree cI (sh a 1) (g_Reader_values S))) [1, 2] (by decide) rfl
    have hFc := va_free (wc := (W_Tree cI (sh a 1) (g_Reader_values S))) hD hS hA [1, 2] rfl
    refine va_callv (va_runV (As := [.int (g_Reader_open S), .int (4 : Int32), .int (g_Reader_place S)]) (rest := []) ⟨hx, hb, hml, hown, hts⟩ (c_X3_put l dC dI cI (sh a 1) H.size _ _ _ _ _ h2) (cwV 3 hts gX1_closeValue_X3_put rfl rfl rfl (by decide +kernel) ⟨Nat.le_of_ble_eq_true rfl, Nat.le_of_ble_eq_true rfl⟩) (jPreV hK hPc hDc hN (ci := 3) rfl rfl) rfl rfl hl.1 rfl (lv_room (Nat.le_of_ble_eq_true rfl)) dX1_closeValue_13 ⟨Nat.le_of_ble_eq_true rfl, Nat.le_of_ble_eq_true rfl⟩) hS (fun q _ h => hFc q h) hFc (fun u' t H locs ht hvm hw hB hz1 hk1 hS => ?_)
    subst hw
    obtain ⟨hP1, -, hD1⟩ := hB
    rw [ht] at hP1
    obtain ⟨hP, hD⟩ := jJoin (wc := (W_Tree cI (sh a 1) (g_Reader_values S))) (w1 := (W_Tree cI (sh a 1) u1)) (ws' := (W_Reader cI a (s_Reader_values S u1))) hP hD [1, 2] [0] [0, 1, 2] rfl rfl (by decide) (by decide) hk1 hFc hP1 hD1 (by decide) rfl
    refine lv_aload_n hx hb dX1_closeValue_16 rfl (lv_at hl 0 rfl) ?_
    refine lv_aload_n hx hb dX1_closeValue_17 rfl (lv_at hl 0 rfl) ?_
    refine va_get (D := (dC, dI)) (ci := 1) (v := .ref (a 1)) (C := RX1) (T := TX1) (N := 7) hx hb hts hinX1 hown hK hP 0 rfl rfl 0 (by decide) (hts (Cond.fieldLink RX1 12 "LearnedShapes$Reader" "values" "LLearnedShapes$Tree;") (List.mem_of_getElem? (i := 1) rfl)) (fun _ h9 => h9) rfl dX1_closeValue_18 ?_
    refine lv_aload_n hx hb dX1_closeValue_21 rfl (lv_at hl 0 rfl) ?_
    refine va_get (D := (dC, dI)) (ci := 1) (v := .int (g_Reader_open S)) (C := RX1) (T := TX1) (N := 7) hx hb hts hinX1 hown hK hP 0 rfl rfl 4 (by decide) (hts (Cond.fieldLink RX1 25 "LearnedShapes$Reader" "open" "I") (List.mem_of_getElem? (i := 2) rfl)) (fun _ h9 => h9) rfl dX1_closeValue_22 ?_
    refine lv_iconst (v := (5 : Int32)) hx hb dX1_closeValue_25 (by decide) ?_
    obtain ⟨r3, h4, hF⟩ := ob1_some hF
    have hPc := hP.sub (ws' := (W_Tree cI (sh a 1) u1)) [1, 2] rfl
    have hDc := hD.sub (ws' := (W_Tree cI (sh a 1) u1)) [1, 2] (by decide) rfl
    have hFc := va_free (wc := (W_Tree cI (sh a 1) u1)) hD hS hA [1, 2] rfl
    refine va_calli (va_runV (As := [.int (g_Reader_open S), .int (5 : Int32)]) (rest := [.ref (a 0)]) ⟨hx, hb, hml, hown, hts⟩ (c_X3_get l dC dI cI (sh a 1) H.size _ _ _ _ h4) (cwV 2 hts gX1_closeValue_X3_get rfl rfl rfl (by decide +kernel) ⟨Nat.le_of_ble_eq_true rfl, Nat.le_of_ble_eq_true rfl⟩) (jPreV hK hPc hDc hN (ci := 3) rfl rfl) rfl rfl hl.1 rfl (lv_room (Nat.le_of_ble_eq_true rfl)) dX1_closeValue_26 ⟨Nat.le_of_ble_eq_true rfl, Nat.le_of_ble_eq_true rfl⟩) hS (fun q _ h => hFc q h) hFc (fun r' u' t H locs ht hvm hw hB hz1 hk1 hS => ?_)
    subst hw
    obtain ⟨hP1, -, hD1⟩ := hB
    rw [ht] at hP1
    obtain ⟨hP, hD⟩ := jJoin (wc := (W_Tree cI (sh a 1) u1)) (w1 := (W_Tree cI (sh a 1) u1)) (ws' := (W_Reader cI a (s_Reader_values S u1))) hP hD [1, 2] [0] [0, 1, 2] rfl rfl (by decide) (by decide) hk1 hFc hP1 hD1 (by decide) rfl
    refine va_put (D := (dC, dI)) (ci := 1) (v := .int r3) (ty := .int) (C := RX1) (T := TX1) (N := 7) hx hb hts hinX1 tyX1 tyX1_ok nmX1 hown hK hP hD hS 0 rfl rfl 4 (by decide) (hts (Cond.fieldLink RX1 25 "LearnedShapes$Reader" "open" "I") (List.mem_of_getElem? (i := 2) rfl)) (fun _ h9 => h9) rfl (by decide +kernel) (rfl) rfl (Nat.le_of_ble_eq_true rfl) dX1_closeValue_29 (fun H locs hP hD hS => ?_)
    have hP : va_P (dC, dI) vwCl ((W_Reader cI a (s_Reader_open (s_Reader_values S u1) r3))) H := hP
    have hD : va_D A ((W_Reader cI a (s_Reader_open (s_Reader_values S u1) r3))) := hD
    refine lv_aload_n hx hb dX1_closeValue_32 rfl (lv_at hl 0 rfl) ?_
    refine lv_aload_n hx hb dX1_closeValue_33 rfl (lv_at hl 0 rfl) ?_
    obtain ⟨r5, h6, hF⟩ := ob1_some hF
    have hPc : va_P (dC, dI) vwCl ((W_Reader cI a (s_Reader_open (s_Reader_values S u1) r3))) H := hP
    have hDc : va_D A ((W_Reader cI a (s_Reader_open (s_Reader_values S u1) r3))) := hD
    have hFc := jFreeW (ws := (W_Reader cI a (s_Reader_open (s_Reader_values S u1) r3))) hD hS hA
    refine va_calli (va_runV (As := []) (rest := [.ref (a 0)]) ⟨hx, hb, hml, hown, hts⟩ (c_X1_stateBehindValue l dC dI cI a H.size _ _ h6) (cwV 0 hts gX1_closeValue_X1_stateBehindValue rfl rfl rfl (by decide +kernel) ⟨Nat.le_of_ble_eq_true rfl, Nat.le_of_ble_eq_true rfl⟩) (jPreV hK hPc hDc hN (ci := 1) rfl rfl) rfl rfl hl.1 rfl (lv_room (Nat.le_of_ble_eq_true rfl)) dX1_closeValue_34 ⟨Nat.le_of_ble_eq_true rfl, Nat.le_of_ble_eq_true rfl⟩) hS (fun q _ h => hFc q h) hFc (fun r' u' t H locs ht hvm hw hB hz1 hk1 hS => ?_)
    subst hw
    obtain ⟨hP1, -, hD1⟩ := hB
    rw [ht] at hP1
    have hP : va_P (dC, dI) vwCl ((W_Reader cI a (s_Reader_open (s_Reader_values S u1) r3))) H := hP1
    have hD : va_D A ((W_Reader cI a (s_Reader_open (s_Reader_values S u1) r3))) := hD1.weaken (fun _ _ _ h => hFc _ h)
    refine va_put (D := (dC, dI)) (ci := 1) (v := .int r5) (ty := .int) (C := RX1) (T := TX1) (N := 7) hx hb hts hinX1 tyX1 tyX1_ok nmX1 hown hK hP hD hS 0 rfl rfl 3 (by decide) (hts (Cond.fieldLink RX1 21 "LearnedShapes$Reader" "state" "I") (List.mem_of_getElem? (i := 4) rfl)) (fun _ h9 => h9) rfl (by decide +kernel) (rfl) rfl (Nat.le_of_ble_eq_true rfl) dX1_closeValue_37 (fun H locs hP hD hS => ?_)
    have hP : va_P (dC, dI) vwCl ((W_Reader cI a (s_Reader_open (s_Reader_state (s_Reader_values S u1) r5) r3))) H := hP
    have hD : va_D A ((W_Reader cI a (s_Reader_open (s_Reader_state (s_Reader_values S u1) r5) r3))) := hD
    refine lv_iconst (v := (1 : Int32)) hx hb dX1_closeValue_40 (by decide) ?_
    have e50 := Option.some.inj hF
    obtain ⟨e60, e51⟩ := Prod.mk.inj e50
    subst e60
    subst e51
    exact W.zret (v := (1 : Int32)) hx hb hr (rfl) (fun t ht hW => ⟨⟨(1 : Int32), (s_Reader_open (s_Reader_state (s_Reader_values S u1) r5) r3), rfl, ⟨rfl, rfl⟩, by rw [ht]; exact hP, va_K.moved hW.alike hK, hD⟩, hS.F ht⟩) hS.2.2 dX1_closeValue_41
  exact KE _ _ hP hD hS
set_option maxHeartbeats 4000000 in
set_option maxRecDepth 100000 in
theorem c_X1_takePart (l : Launch) (dC : Nat → ClassId) (dI : Nat → Nat → Nat) (cI : ClassId) (a : Nat → Nat) (sz : Nat) (S : S_Reader) (v1 : Int32) (rr : Bool) (Y : S_Reader) (hF : F_X1_takePart S v1 = some (rr, Y)) : Met l yX1_takePart wsX1_takePart ({ frames := 3, cells := 0, slots := 0, locals := 64 } : Room) (va_Pc [.ref (a 0), .int v1] (jPre (dC, dI) [(cI, .int)] sz ((W_Reader cI a S)))) (va_Qi (fun (r' : Int32) (u : S_Reader) => b2i rr = r' ∧ Y = u) (fun u : S_Reader => jB (dC, dI) [(cI, .int)] (va_A ((W_Reader cI a S)) sz) ((W_Reader cI a u))) (va_A ((W_Reader cI a S)) sz)) 0 0 (va_A ((W_Reader cI a S)) sz) := by
  refine Met.ofW (cc := cX1_takePart) (maxL := 4) (ret := (some .boolean)) (by decide) rfl ?_
  intro p e s m args below meth c s₁ B hml hv
  obtain ⟨rfl, hsz, hP, hK, hD0, hN⟩ := hv
  have hx := B.exec
  have hb := B.bytes
  have hr := B.returns
  have hts := atoms_spec (ws := wsX1_takePart) B.pre
  have hown : s.vm.findClass RX1 = some m.cls := findClass_of_methodNamed B.named
  have hlocks := B.notSynchronized
  have hinX1 : ∀ w ∈ u_ws RX1 TX1 7, w ∈ wsX1_takePart := by decide +kernel
  subst hsz
  have hD := hD0.self (sz := s.heap.size)
  generalize hAe : (va_A ((W_Reader cI a S)) s.heap.size) = A at hD ⊢
  have hA : ∀ q : Nat, s.heap.size ≤ q → A q := fun q h => by rw [← hAe]; exact Or.inr h
  have hS : va_S A s.heap s.heap [] := va_S.rf
  have hl := lv_entry ([.ref (a 0), .int v1]) (n := 4) (Nat.le_of_ble_eq_true rfl)
  rw [lg_entry_eq]
  generalize (lg_sl ([.ref (a 0), .int v1]) ++ List.replicate (4 - (lg_sl ([.ref (a 0), .int v1])).length) Slot.unset).toArray = ls at hl ⊢
  have hl : lv_has ls 4 [(0, .ref (a 0)), (1, .int v1)] := hl
  have KE : ∀ (H : Heap) (locs : List Loc), va_P (dC, dI) vwCl ((W_Reader cI a S)) H → va_D A ((W_Reader cI a S)) → va_S A s.heap H locs → W p l e (headSpec wsX1_takePart ({ frames := 3, cells := 0, slots := 0, locals := 64 } : Room)).room s m ([.ref (a 0), .int v1] : List Value).toArray below meth c H locs 0 0 (MQ below (va_Qi (fun (r' : Int32) (u : S_Reader) => b2i rr = r' ∧ Y = u) (fun u : S_Reader => jB (dC, dI) [(cI, .int)] A ((W_Reader cI a u))) A) ([.ref (a 0), .int v1] : List Value).toArray s 0 0 A) (F0 m 0 ls []) := by
    intro H locs hP hD hS
    unfold F_X1_takePart at hF
    refine lv_iload_n hx hb dX1_takePart_0 rfl (lv_at hl 1 rfl) ?_
    refine lv_bipush (v := (41 : Int32)) hx hb dX1_takePart_1 (by decide) ?_
    refine lv_icmp_ne (tgt := 11) hx hb dX1_takePart_3 (by decide) (fun c1 => ?_) (fun c1 => ?_)
    · have hF := F_neg c1 hF
      refine lv_iload_n hx hb dX1_takePart_11 rfl (lv_at hl 1 rfl) ?_
      refine lv_bipush (v := (65 : Int32)) hx hb dX1_takePart_12 (by decide) ?_
      refine lv_icmp_lt (tgt := 23) hx hb dX1_takePart_14 (by decide) (fun c2 => ?_) (fun c2 => ?_)
      · have hF := F_pos c2 hF
        refine lv_iconst (v := (0 : Int32)) hx hb dX1_takePart_23 (by decide) ?_
        have e50 := Option.some.inj hF
        obtain ⟨e60, e51⟩ := Prod.mk.inj e50
        subst e60
        subst e51
        exact W.zret (v := (0 : Int32)) hx hb hr (rfl) (fun t ht hW => ⟨⟨(0 : Int32), S, rfl, ⟨rfl, rfl⟩, by rw [ht]; exact hP, va_K.moved hW.alike hK, hD⟩, hS.F ht⟩) hS.2.2 dX1_takePart_24
      · have hF := F_neg c2 hF
        refine lv_iload_n hx hb dX1_takePart_17 rfl (lv_at hl 1 rfl) ?_
        refine lv_bipush (v := (73 : Int32)) hx hb dX1_takePart_18 (by decide) ?_
        refine lv_icmp_lt (tgt := 25) hx hb dX1_takePart_20 (by decide) (fun c3 => ?_) (fun c3 => ?_)
        · have hF := F_pos c3 hF
          refine lv_aload_n hx hb dX1_takePart_25 rfl (lv_at hl 0 rfl) ?_
          refine lv_iload_n hx hb dX1_takePart_26 rfl (lv_at hl 1 rfl) ?_
          refine lv_bipush (v := (65 : Int32)) hx hb dX1_takePart_27 (by decide) ?_
          refine lv_isub hx hb dX1_takePart_29 ?_
          refine va_put (D := (dC, dI)) (ci := 1) (v := .int (v1 - (65 : Int32))) (ty := .int) (C := RX1) (T := TX1) (N := 7) hx hb hts hinX1 tyX1 tyX1_ok nmX1 hown hK hP hD hS 0 rfl rfl 5 (by decide) (hts (Cond.fieldLink RX1 28 "LearnedShapes$Reader" "letter" "I") (List.mem_of_getElem? (i := 1) rfl)) (fun _ h9 => h9) rfl (by decide +kernel) (rfl) rfl (Nat.le_of_ble_eq_true rfl) dX1_takePart_30 (fun H locs hP hD hS => ?_)
          have hP : va_P (dC, dI) vwCl ((W_Reader cI a (s_Reader_letter S (v1 - (65 : Int32))))) H := hP
          have hD : va_D A ((W_Reader cI a (s_Reader_letter S (v1 - (65 : Int32))))) := hD
          refine lv_aload_n hx hb dX1_takePart_33 rfl (lv_at hl 0 rfl) ?_
          refine va_get (D := (dC, dI)) (ci := 1) (v := .ref (a 1)) (C := RX1) (T := TX1) (N := 7) hx hb hts hinX1 hown hK hP 0 rfl rfl 0 (by decide) (hts (Cond.fieldLink RX1 12 "LearnedShapes$Reader" "values" "LLearnedShapes$Tree;") (List.mem_of_getElem? (i := 2) rfl)) (fun _ h9 => h9) rfl dX1_takePart_34 ?_
          refine lv_aload_n hx hb dX1_takePart_37 rfl (lv_at hl 0 rfl) ?_
          refine va_get (D := (dC, dI)) (ci := 1) (v := .int (g_Reader_open S)) (C := RX1) (T := TX1) (N := 7) hx hb hts hinX1 hown hK hP 0 rfl rfl 4 (by decide) (hts (Cond.fieldLink RX1 25 "LearnedShapes$Reader" "open" "I") (List.mem_of_getElem? (i := 3) rfl)) (fun _ h9 => h9) rfl dX1_takePart_38 ?_
          refine lv_bipush (v := (6 : Int32)) hx hb dX1_takePart_41 (by decide) ?_
          obtain ⟨r4, h5, hF⟩ := ob1_some hF
          have hPc := hP.sub (ws' := (W_Tree cI (sh a 1) (g_Reader_values S))) [1, 2] rfl
          have hDc := hD.sub (ws' := (W_Tree cI (sh a 1) (g_Reader_values S))) [1, 2] (by decide) rfl
          have hFc := va_free (wc := (W_Tree cI (sh a 1) (g_Reader_values S))) hD hS hA [1, 2] rfl
          refine va_calli (va_runV (As := [.int (g_Reader_open S), .int (6 : Int32)]) (rest := []) ⟨hx, hb, hml, hown, hts⟩ (c_X3_get l dC dI cI (sh a 1) H.size _ _ _ _ h5) (cwV 2 hts gX1_takePart_X3_get rfl rfl rfl (by decide +kernel) ⟨Nat.le_of_ble_eq_true rfl, Nat.le_of_ble_eq_true rfl⟩) (jPreV hK hPc hDc hN (ci := 3) rfl rfl) rfl rfl hl.1 rfl (lv_room (Nat.le_of_ble_eq_true rfl)) dX1_takePart_43 ⟨Nat.le_of_ble_eq_true rfl, Nat.le_of_ble_eq_true rfl⟩) hS (fun q _ h => hFc q h) hFc (fun r' u' t H locs ht hvm hw hB hz1 hk1 hS => ?_)
          subst hw
          obtain ⟨hP1, -, hD1⟩ := hB
          rw [ht] at hP1
          obtain ⟨hP, hD⟩ := jJoin (wc := (W_Tree cI (sh a 1) (g_Reader_values S))) (w1 := (W_Tree cI (sh a 1) (g_Reader_values S))) (ws' := (W_Reader cI a (s_Reader_letter S (v1 - (65 : Int32))))) hP hD [1, 2] [0] [0, 1, 2] rfl rfl (by decide) (by decide) hk1 hFc hP1 hD1 (by decide) rfl
          refine lv_istore_n (lv' := [(2, .int r4), (0, .ref (a 0)), (1, .int v1)]) hx hb dX1_takePart_46 rfl hl (by decide) rfl (fun ls hl => ?_)
          refine lv_iconst (v := (1 : Int32)) hx hb dX1_takePart_47 (by decide) ?_
          refine lv_aload_n hx hb dX1_takePart_48 rfl (lv_at hl 1 rfl) ?_
          refine va_get (D := (dC, dI)) (ci := 1) (v := .int (v1 - (65 : Int32))) (C := RX1) (T := TX1) (N := 7) hx hb hts hinX1 hown hK hP 0 rfl rfl 5 (by decide) (hts (Cond.fieldLink RX1 28 "LearnedShapes$Reader" "letter" "I") (List.mem_of_getElem? (i := 1) rfl)) (fun _ h9 => h9) rfl dX1_takePart_49 ?_
          refine lv_ishl hx hb dX1_takePart_52 ?_
          refine lv_istore_n (lv' := [(3, .int ((1 : Int32) <<< ((v1 - (65 : Int32)) &&& 31))), (2, .int r4), (0, .ref (a 0)), (1, .int v1)]) hx hb dX1_takePart_53 rfl hl (by decide) rfl (fun ls hl => ?_)
          refine lv_aload_n hx hb dX1_takePart_54 rfl (lv_at hl 2 rfl) ?_
          refine va_get (D := (dC, dI)) (ci := 1) (v := .ref (a 1)) (C := RX1) (T := TX1) (N := 7) hx hb hts hinX1 hown hK hP 0 rfl rfl 0 (by decide) (hts (Cond.fieldLink RX1 12 "LearnedShapes$Reader" "values" "LLearnedShapes$Tree;") (List.mem_of_getElem? (i := 2) rfl)) (fun _ h9 => h9) rfl dX1_takePart_55 ?_
          refine lv_aload_n hx hb dX1_takePart_58 rfl (lv_at hl 2 rfl) ?_
          refine va_get (D := (dC, dI)) (ci := 1) (v := .int (g_Reader_open S)) (C := RX1) (T := TX1) (N := 7) hx hb hts hinX1 hown hK hP 0 rfl rfl 4 (by decide) (hts (Cond.fieldLink RX1 25 "LearnedShapes$Reader" "open" "I") (List.mem_of_getElem? (i := 3) rfl)) (fun _ h9 => h9) rfl dX1_takePart_59 ?_
          refine lv_bipush (v := (6 : Int32)) hx hb dX1_takePart_62 (by decide) ?_
          refine lv_iload_n hx hb dX1_takePart_64 rfl (lv_at hl 1 rfl) ?_
          refine lv_iload_n hx hb dX1_takePart_65 rfl (lv_at hl 0 rfl) ?_
          refine lv_ior hx hb dX1_takePart_66 ?_
          obtain ⟨u6, h7, hF⟩ := ob1_some hF
          have hPc := hP.sub (ws' := (W_Tree cI (sh a 1) (g_Reader_values S))) [1, 2] rfl
          have hDc := hD.sub (ws' := (W_Tree cI (sh a 1) (g_Reader_values S))) [1, 2] (by decide) rfl
          have hFc := va_free (wc := (W_Tree cI (sh a 1) (g_Reader_values S))) hD hS hA [1, 2] rfl
          refine va_callv (va_runV (As := [.int (g_Reader_open S), .int (6 : Int32), .int (r4 ||| ((1 : Int32) <<< ((v1 - (65 : Int32)) &&& 31)))]) (rest := []) ⟨hx, hb, hml, hown, hts⟩ (c_X3_put l dC dI cI (sh a 1) H.size _ _ _ _ _ h7) (cwV 3 hts gX1_takePart_X3_put rfl rfl rfl (by decide +kernel) ⟨Nat.le_of_ble_eq_true rfl, Nat.le_of_ble_eq_true rfl⟩) (jPreV hK hPc hDc hN (ci := 3) rfl rfl) rfl rfl hl.1 rfl (lv_room (Nat.le_of_ble_eq_true rfl)) dX1_takePart_67 ⟨Nat.le_of_ble_eq_true rfl, Nat.le_of_ble_eq_true rfl⟩) hS (fun q _ h => hFc q h) hFc (fun u' t H locs ht hvm hw hB hz1 hk1 hS => ?_)
          subst hw
          obtain ⟨hP1, -, hD1⟩ := hB
          rw [ht] at hP1
          obtain ⟨hP, hD⟩ := jJoin (wc := (W_Tree cI (sh a 1) (g_Reader_values S))) (w1 := (W_Tree cI (sh a 1) u6)) (ws' := (W_Reader cI a (s_Reader_letter (s_Reader_values S u6) (v1 - (65 : Int32))))) hP hD [1, 2] [0] [0, 1, 2] rfl rfl (by decide) (by decide) hk1 hFc hP1 hD1 (by decide) rfl
          refine lv_aload_n hx hb dX1_takePart_70 rfl (lv_at hl 2 rfl) ?_
          refine lv_iconst (v := (2 : Int32)) hx hb dX1_takePart_71 (by decide) ?_
          refine va_put (D := (dC, dI)) (ci := 1) (v := .int (2 : Int32)) (ty := .int) (C := RX1) (T := TX1) (N := 7) hx hb hts hinX1 tyX1 tyX1_ok nmX1 hown hK hP hD hS 0 rfl rfl 3 (by decide) (hts (Cond.fieldLink RX1 21 "LearnedShapes$Reader" "state" "I") (List.mem_of_getElem? (i := 4) rfl)) (fun _ h9 => h9) rfl (by decide +kernel) (rfl) rfl (Nat.le_of_ble_eq_true rfl) dX1_takePart_72 (fun H locs hP hD hS => ?_)
          have hP : va_P (dC, dI) vwCl ((W_Reader cI a (s_Reader_letter (s_Reader_state (s_Reader_values S u6) (2 : Int32)) (v1 - (65 : Int32))))) H := hP
          have hD : va_D A ((W_Reader cI a (s_Reader_letter (s_Reader_state (s_Reader_values S u6) (2 : Int32)) (v1 - (65 : Int32))))) := hD
          refine lv_iload_n hx hb dX1_takePart_75 rfl (lv_at hl 1 rfl) ?_
          refine lv_iload_n hx hb dX1_takePart_76 rfl (lv_at hl 0 rfl) ?_
          refine lv_iand hx hb dX1_takePart_77 ?_
          refine lv_if_ne (tgt := 85) hx hb dX1_takePart_78 (by decide) (fun c8 => ?_) (fun c8 => ?_)
          · have hF := F_neg c8 hF
            refine lv_iconst (v := (0 : Int32)) hx hb dX1_takePart_85 (by decide) ?_
            have e50 := Option.some.inj hF
            obtain ⟨e60, e51⟩ := Prod.mk.inj e50
            subst e60
            subst e51
            exact W.zret (v := (0 : Int32)) hx hb hr (rfl) (fun t ht hW => ⟨⟨(0 : Int32), (s_Reader_letter (s_Reader_state (s_Reader_values S u6) (2 : Int32)) (v1 - (65 : Int32))), rfl, ⟨rfl, rfl⟩, by rw [ht]; exact hP, va_K.moved hW.alike hK, hD⟩, hS.F ht⟩) hS.2.2 dX1_takePart_86
          · have hF := F_pos c8 hF
            refine lv_iconst (v := (1 : Int32)) hx hb dX1_takePart_81 (by decide) ?_
            refine lv_goto (tgt := 86) hx hb dX1_takePart_82 (by decide) ?_
            have e50 := Option.some.inj hF
            obtain ⟨e60, e51⟩ := Prod.mk.inj e50
            subst e60
            subst e51
            exact W.zret (v := (1 : Int32)) hx hb hr (rfl) (fun t ht hW => ⟨⟨(1 : Int32), (s_Reader_letter (s_Reader_state (s_Reader_values S u6) (2 : Int32)) (v1 - (65 : Int32))), rfl, ⟨rfl, rfl⟩, by rw [ht]; exact hP, va_K.moved hW.alike hK, hD⟩, hS.F ht⟩) hS.2.2 dX1_takePart_86
        · have hF := F_neg c3 hF
          refine lv_iconst (v := (0 : Int32)) hx hb dX1_takePart_23 (by decide) ?_
          have e50 := Option.some.inj hF
          obtain ⟨e60, e51⟩ := Prod.mk.inj e50
          subst e60
          subst e51
          exact W.zret (v := (0 : Int32)) hx hb hr (rfl) (fun t ht hW => ⟨⟨(0 : Int32), S, rfl, ⟨rfl, rfl⟩, by rw [ht]; exact hP, va_K.moved hW.alike hK, hD⟩, hS.F ht⟩) hS.2.2 dX1_takePart_24
    · have hF := F_pos c1 hF
      refine lv_aload_n hx hb dX1_takePart_6 rfl (lv_at hl 0 rfl) ?_
      obtain ⟨r9, u10, h11, hF⟩ := ob2_some hF
      have hPc : va_P (dC, dI) vwCl ((W_Reader cI a S)) H := hP
      have hDc : va_D A ((W_Reader cI a S)) := hD
      have hFc := jFreeW (ws := (W_Reader cI a S)) hD hS hA
      refine va_calli (va_runV (As := []) (rest := []) ⟨hx, hb, hml, hown, hts⟩ (c_X1_closeValue l dC dI cI a H.size _ _ _ h11) (cwV 0 hts gX1_takePart_X1_closeValue rfl rfl rfl (by decide +kernel) ⟨Nat.le_of_ble_eq_true rfl, Nat.le_of_ble_eq_true rfl⟩) (jPreV hK hPc hDc hN (ci := 1) rfl rfl) rfl rfl hl.1 rfl (lv_room (Nat.le_of_ble_eq_true rfl)) dX1_takePart_7 ⟨Nat.le_of_ble_eq_true rfl, Nat.le_of_ble_eq_true rfl⟩) hS (fun q _ h => hFc q h) hFc (fun r' u' t H locs ht hvm hw hB hz1 hk1 hS => ?_)
      obtain ⟨e1, e2⟩ := hw
      subst e1
      subst e2
      obtain ⟨hP1, -, hD1⟩ := hB
      rw [ht] at hP1
      have hP : va_P (dC, dI) vwCl ((W_Reader cI a u10)) H := hP1
      have hD : va_D A ((W_Reader cI a u10)) := hD1.weaken (fun _ _ _ h => hFc _ h)
      have e50 := Option.some.inj hF
      obtain ⟨e60, e51⟩ := Prod.mk.inj e50
      subst e60
      subst e51
      exact W.zret (v := (b2i r9)) hx hb hr (nb2i _) (fun t ht hW => ⟨⟨(b2i r9), u10, rfl, ⟨rfl, rfl⟩, by rw [ht]; exact hP, va_K.moved hW.alike hK, hD⟩, hS.F ht⟩) hS.2.2 dX1_takePart_10
  exact KE _ _ hP hD hS
set_option maxHeartbeats 4000000 in
set_option maxRecDepth 100000 in
theorem c_X1_takeComma (l : Launch) (dC : Nat → ClassId) (dI : Nat → Nat → Nat) (cI : ClassId) (a : Nat → Nat) (sz : Nat) (S : S_Reader) (v1 : Int32) (rr : Bool) (Y : S_Reader) (hF : F_X1_takeComma S v1 = some (rr, Y)) : Met l yX1_takeComma wsX1_takeComma ({ frames := 0, cells := 0, slots := 0, locals := 0 } : Room) (va_Pc [.ref (a 0), .int v1] (jPre (dC, dI) [(cI, .int)] sz ((W_Reader cI a S)))) (va_Qi (fun (r' : Int32) (u : S_Reader) => b2i rr = r' ∧ Y = u) (fun u : S_Reader => jB (dC, dI) [(cI, .int)] (va_A ((W_Reader cI a S)) sz) ((W_Reader cI a u))) (va_A ((W_Reader cI a S)) sz)) 0 0 (va_A ((W_Reader cI a S)) sz) := by
  refine Met.ofW (cc := cX1_takeComma) (maxL := 2) (ret := (some .boolean)) (by decide) rfl ?_
  intro p e s m args below meth c s₁ B hml hv
  obtain ⟨rfl, hsz, hP, hK, hD0, hN⟩ := hv
  have hx := B.exec
  have hb := B.bytes
  have hr := B.returns
  have hts := atoms_spec (ws := wsX1_takeComma) B.pre
  have hown : s.vm.findClass RX1 = some m.cls := findClass_of_methodNamed B.named
  have hlocks := B.notSynchronized
  have hinX1 : ∀ w ∈ u_ws RX1 TX1 7, w ∈ wsX1_takeComma := by decide +kernel
  subst hsz
  have hD := hD0.self (sz := s.heap.size)
  generalize hAe : (va_A ((W_Reader cI a S)) s.heap.size) = A at hD ⊢
  have hA : ∀ q : Nat, s.heap.size ≤ q → A q := fun q h => by rw [← hAe]; exact Or.inr h
  have hS : va_S A s.heap s.heap [] := va_S.rf
  have hl := lv_entry ([.ref (a 0), .int v1]) (n := 2) (Nat.le_of_ble_eq_true rfl)
  rw [lg_entry_eq]
  generalize (lg_sl ([.ref (a 0), .int v1]) ++ List.replicate (2 - (lg_sl ([.ref (a 0), .int v1])).length) Slot.unset).toArray = ls at hl ⊢
  have hl : lv_has ls 2 [(0, .ref (a 0)), (1, .int v1)] := hl
  have KE : ∀ (H : Heap) (locs : List Loc), va_P (dC, dI) vwCl ((W_Reader cI a S)) H → va_D A ((W_Reader cI a S)) → va_S A s.heap H locs → W p l e (headSpec wsX1_takeComma ({ frames := 0, cells := 0, slots := 0, locals := 0 } : Room)).room s m ([.ref (a 0), .int v1] : List Value).toArray below meth c H locs 0 0 (MQ below (va_Qi (fun (r' : Int32) (u : S_Reader) => b2i rr = r' ∧ Y = u) (fun u : S_Reader => jB (dC, dI) [(cI, .int)] A ((W_Reader cI a u))) A) ([.ref (a 0), .int v1] : List Value).toArray s 0 0 A) (F0 m 0 ls []) := by
    intro H locs hP hD hS
    unfold F_X1_takeComma at hF
    refine lv_aload_n hx hb dX1_takeComma_0 rfl (lv_at hl 0 rfl) ?_
    refine lv_iconst (v := (2 : Int32)) hx hb dX1_takeComma_1 (by decide) ?_
    refine va_put (D := (dC, dI)) (ci := 1) (v := .int (2 : Int32)) (ty := .int) (C := RX1) (T := TX1) (N := 7) hx hb hts hinX1 tyX1 tyX1_ok nmX1 hown hK hP hD hS 0 rfl rfl 3 (by decide) (hts (Cond.fieldLink RX1 21 "LearnedShapes$Reader" "state" "I") (List.mem_of_getElem? (i := 1) rfl)) (fun _ h9 => h9) rfl (by decide +kernel) (rfl) rfl (Nat.le_of_ble_eq_true rfl) dX1_takeComma_2 (fun H locs hP hD hS => ?_)
    have hP : va_P (dC, dI) vwCl ((W_Reader cI a (s_Reader_state S (2 : Int32)))) H := hP
    have hD : va_D A ((W_Reader cI a (s_Reader_state S (2 : Int32)))) := hD
    refine lv_iload_n hx hb dX1_takeComma_5 rfl (lv_at hl 1 rfl) ?_
    refine lv_bipush (v := (44 : Int32)) hx hb dX1_takeComma_6 (by decide) ?_
    refine lv_icmp_ne (tgt := 15) hx hb dX1_takeComma_8 (by decide) (fun c1 => ?_) (fun c1 => ?_)
    · have hF := F_neg c1 hF
      refine lv_iconst (v := (0 : Int32)) hx hb dX1_takeComma_15 (by decide) ?_
      have e50 := Option.some.inj hF
      obtain ⟨e60, e51⟩ := Prod.mk.inj e50
      subst e60
      subst e51
      exact W.zret (v := (0 : Int32)) hx hb hr (rfl) (fun t ht hW => ⟨⟨(0 : Int32), (s_Reader_state S (2 : Int32)), rfl, ⟨rfl, rfl⟩, by rw [ht]; exact hP, va_K.moved hW.alike hK, hD⟩, hS.F ht⟩) hS.2.2 dX1_takeComma_16
    · have hF := F_pos c1 hF
      refine lv_iconst (v := (1 : Int32)) hx hb dX1_takeComma_11 (by decide) ?_
      refine lv_goto (tgt := 16) hx hb dX1_takeComma_12 (by decide) ?_
      have e50 := Option.some.inj hF
      obtain ⟨e60, e51⟩ := Prod.mk.inj e50
      subst e60
      subst e51
      exact W.zret (v := (1 : Int32)) hx hb hr (rfl) (fun t ht hW => ⟨⟨(1 : Int32), (s_Reader_state S (2 : Int32)), rfl, ⟨rfl, rfl⟩, by rw [ht]; exact hP, va_K.moved hW.alike hK, hD⟩, hS.F ht⟩) hS.2.2 dX1_takeComma_16
  exact KE _ _ hP hD hS
set_option maxHeartbeats 4000000 in
set_option maxRecDepth 100000 in
theorem c_X1_takeInWord (l : Launch) (dC : Nat → ClassId) (dI : Nat → Nat → Nat) (cI : ClassId) (a : Nat → Nat) (sz : Nat) (S : S_Reader) (v1 : Int32) (rr : Bool) (Y : S_Reader) (hF : F_X1_takeInWord S v1 = some (rr, Y)) : Met l yX1_takeInWord wsX1_takeInWord ({ frames := 2, cells := 0, slots := 0, locals := 44 } : Room) (va_Pc [.ref (a 0), .int v1] (jPre (dC, dI) [(cI, .int)] sz ((W_Reader cI a S)))) (va_Qi (fun (r' : Int32) (u : S_Reader) => b2i rr = r' ∧ Y = u) (fun u : S_Reader => jB (dC, dI) [(cI, .int)] (va_A ((W_Reader cI a S)) sz) ((W_Reader cI a u))) (va_A ((W_Reader cI a S)) sz)) 0 0 (va_A ((W_Reader cI a S)) sz) := by
  refine Met.ofW (cc := cX1_takeInWord) (maxL := 2) (ret := (some .boolean)) (by decide) rfl ?_
  intro p e s m args below meth c s₁ B hml hv
  obtain ⟨rfl, hsz, hP, hK, hD0, hN⟩ := hv
  have hx := B.exec
  have hb := B.bytes
  have hr := B.returns
  have hts := atoms_spec (ws := wsX1_takeInWord) B.pre
  have hown : s.vm.findClass RX1 = some m.cls := findClass_of_methodNamed B.named
  have hlocks := B.notSynchronized
  have hinX1 : ∀ w ∈ u_ws RX1 TX1 7, w ∈ wsX1_takeInWord := by decide +kernel
  subst hsz
  have hD := hD0.self (sz := s.heap.size)
  generalize hAe : (va_A ((W_Reader cI a S)) s.heap.size) = A at hD ⊢
  have hA : ∀ q : Nat, s.heap.size ≤ q → A q := fun q h => by rw [← hAe]; exact Or.inr h
  have hS : va_S A s.heap s.heap [] := va_S.rf
  have hl := lv_entry ([.ref (a 0), .int v1]) (n := 2) (Nat.le_of_ble_eq_true rfl)
  rw [lg_entry_eq]
  generalize (lg_sl ([.ref (a 0), .int v1]) ++ List.replicate (2 - (lg_sl ([.ref (a 0), .int v1])).length) Slot.unset).toArray = ls at hl ⊢
  have hl : lv_has ls 2 [(0, .ref (a 0)), (1, .int v1)] := hl
  have K23 : ∀ (S : S_Reader) (H : Heap) (locs : List Loc), F_X1_takeInWord_23 v1 S = some (rr, Y) → va_P (dC, dI) vwCl ((W_Reader cI a S)) H → va_D A ((W_Reader cI a S)) → va_S A s.heap H locs → ∀ ls : Array Slot, lv_has ls 2 [(0, .ref (a 0)), (1, .int v1)] → W p l e (headSpec wsX1_takeInWord ({ frames := 2, cells := 0, slots := 0, locals := 44 } : Room)).room s m ([.ref (a 0), .int v1] : List Value).toArray below meth c H locs 0 0 (MQ below (va_Qi (fun (r' : Int32) (u : S_Reader) => b2i rr = r' ∧ Y = u) (fun u : S_Reader => jB (dC, dI) [(cI, .int)] A ((W_Reader cI a u))) A) ([.ref (a 0), .int v1] : List Value).toArray s 0 0 A) (F0 m 23 ls []) := by
    intro S H locs hF hP hD hS ls hl
    unfold F_X1_takeInWord_23 at hF
    refine lv_aload_n hx hb dX1_takeInWord_23 rfl (lv_at hl 0 rfl) ?_
    refine lv_dup hx hb dX1_takeInWord_24 rfl ?_
    refine va_get (D := (dC, dI)) (ci := 1) (v := .int (g_Reader_run S)) (C := RX1) (T := TX1) (N := 7) hx hb hts hinX1 hown hK hP 0 rfl rfl 6 (by decide) (hts (Cond.fieldLink RX1 31 "LearnedShapes$Reader" "run" "I") (List.mem_of_getElem? (i := 1) rfl)) (fun _ h9 => h9) rfl dX1_takeInWord_25 ?_
    refine lv_iconst (v := (1 : Int32)) hx hb dX1_takeInWord_28 (by decide) ?_
    refine lv_iadd hx hb dX1_takeInWord_29 ?_
    refine va_put (D := (dC, dI)) (ci := 1) (v := .int ((g_Reader_run S) + (1 : Int32))) (ty := .int) (C := RX1) (T := TX1) (N := 7) hx hb hts hinX1 tyX1 tyX1_ok nmX1 hown hK hP hD hS 0 rfl rfl 6 (by decide) (hts (Cond.fieldLink RX1 31 "LearnedShapes$Reader" "run" "I") (List.mem_of_getElem? (i := 1) rfl)) (fun _ h9 => h9) rfl (by decide +kernel) (rfl) rfl (Nat.le_of_ble_eq_true rfl) dX1_takeInWord_30 (fun H locs hP hD hS => ?_)
    have hP : va_P (dC, dI) vwCl ((W_Reader cI a (s_Reader_run S ((g_Reader_run S) + (1 : Int32))))) H := hP
    have hD : va_D A ((W_Reader cI a (s_Reader_run S ((g_Reader_run S) + (1 : Int32))))) := hD
    refine lv_aload_n hx hb dX1_takeInWord_33 rfl (lv_at hl 0 rfl) ?_
    refine va_get (D := (dC, dI)) (ci := 1) (v := .int ((g_Reader_run S) + (1 : Int32))) (C := RX1) (T := TX1) (N := 7) hx hb hts hinX1 hown hK hP 0 rfl rfl 6 (by decide) (hts (Cond.fieldLink RX1 31 "LearnedShapes$Reader" "run" "I") (List.mem_of_getElem? (i := 1) rfl)) (fun _ h9 => h9) rfl dX1_takeInWord_34 ?_
    refine lv_iconst (v := (5 : Int32)) hx hb dX1_takeInWord_37 (by decide) ?_
    refine lv_icmp_gt (tgt := 57) hx hb dX1_takeInWord_38 (by decide) (fun c1 => ?_) (fun c1 => ?_)
    · have hF := F_pos c1 hF
      refine lv_iconst (v := (0 : Int32)) hx hb dX1_takeInWord_57 (by decide) ?_
      have e50 := Option.some.inj hF
      obtain ⟨e60, e51⟩ := Prod.mk.inj e50
      subst e60
      subst e51
      exact W.zret (v := (0 : Int32)) hx hb hr (rfl) (fun t ht hW => ⟨⟨(0 : Int32), (s_Reader_run S ((g_Reader_run S) + (1 : Int32))), rfl, ⟨rfl, rfl⟩, by rw [ht]; exact hP, va_K.moved hW.alike hK, hD⟩, hS.F ht⟩) hS.2.2 dX1_takeInWord_58
    · have hF := F_neg c1 hF
      refine lv_iload_n hx hb dX1_takeInWord_41 rfl (lv_at hl 1 rfl) ?_
      refine lv_bipush (v := (97 : Int32)) hx hb dX1_takeInWord_42 (by decide) ?_
      refine lv_icmp_lt (tgt := 57) hx hb dX1_takeInWord_44 (by decide) (fun c2 => ?_) (fun c2 => ?_)
      · have hF := F_pos c2 hF
        refine lv_iconst (v := (0 : Int32)) hx hb dX1_takeInWord_57 (by decide) ?_
        have e50 := Option.some.inj hF
        obtain ⟨e60, e51⟩ := Prod.mk.inj e50
        subst e60
        subst e51
        exact W.zret (v := (0 : Int32)) hx hb hr (rfl) (fun t ht hW => ⟨⟨(0 : Int32), (s_Reader_run S ((g_Reader_run S) + (1 : Int32))), rfl, ⟨rfl, rfl⟩, by rw [ht]; exact hP, va_K.moved hW.alike hK, hD⟩, hS.F ht⟩) hS.2.2 dX1_takeInWord_58
      · have hF := F_neg c2 hF
        refine lv_iload_n hx hb dX1_takeInWord_47 rfl (lv_at hl 1 rfl) ?_
        refine lv_bipush (v := (122 : Int32)) hx hb dX1_takeInWord_48 (by decide) ?_
        refine lv_icmp_gt (tgt := 57) hx hb dX1_takeInWord_50 (by decide) (fun c3 => ?_) (fun c3 => ?_)
        · have hF := F_pos c3 hF
          refine lv_iconst (v := (0 : Int32)) hx hb dX1_takeInWord_57 (by decide) ?_
          have e50 := Option.some.inj hF
          obtain ⟨e60, e51⟩ := Prod.mk.inj e50
          subst e60
          subst e51
          exact W.zret (v := (0 : Int32)) hx hb hr (rfl) (fun t ht hW => ⟨⟨(0 : Int32), (s_Reader_run S ((g_Reader_run S) + (1 : Int32))), rfl, ⟨rfl, rfl⟩, by rw [ht]; exact hP, va_K.moved hW.alike hK, hD⟩, hS.F ht⟩) hS.2.2 dX1_takeInWord_58
        · have hF := F_neg c3 hF
          refine lv_iconst (v := (1 : Int32)) hx hb dX1_takeInWord_53 (by decide) ?_
          refine lv_goto (tgt := 58) hx hb dX1_takeInWord_54 (by decide) ?_
          have e50 := Option.some.inj hF
          obtain ⟨e60, e51⟩ := Prod.mk.inj e50
          subst e60
          subst e51
          exact W.zret (v := (1 : Int32)) hx hb hr (rfl) (fun t ht hW => ⟨⟨(1 : Int32), (s_Reader_run S ((g_Reader_run S) + (1 : Int32))), rfl, ⟨rfl, rfl⟩, by rw [ht]; exact hP, va_K.moved hW.alike hK, hD⟩, hS.F ht⟩) hS.2.2 dX1_takeInWord_58
  have KE : ∀ (H : Heap) (locs : List Loc), va_P (dC, dI) vwCl ((W_Reader cI a S)) H → va_D A ((W_Reader cI a S)) → va_S A s.heap H locs → W p l e (headSpec wsX1_takeInWord ({ frames := 2, cells := 0, slots := 0, locals := 44 } : Room)).room s m ([.ref (a 0), .int v1] : List Value).toArray below meth c H locs 0 0 (MQ below (va_Qi (fun (r' : Int32) (u : S_Reader) => b2i rr = r' ∧ Y = u) (fun u : S_Reader => jB (dC, dI) [(cI, .int)] A ((W_Reader cI a u))) A) ([.ref (a 0), .int v1] : List Value).toArray s 0 0 A) (F0 m 0 ls []) := by
    intro H locs hP hD hS
    unfold F_X1_takeInWord at hF
    refine lv_iload_n hx hb dX1_takeInWord_0 rfl (lv_at hl 1 rfl) ?_
    refine lv_bipush (v := (39 : Int32)) hx hb dX1_takeInWord_1 (by decide) ?_
    refine lv_icmp_ne (tgt := 23) hx hb dX1_takeInWord_3 (by decide) (fun c4 => ?_) (fun c4 => ?_)
    · have hF := F_neg c4 hF
      exact K23 _ _ _ hF hP hD hS _ (lv_sub hl [0, 1] rfl)
    · have hF := F_pos c4 hF
      refine lv_aload_n hx hb dX1_takeInWord_6 rfl (lv_at hl 0 rfl) ?_
      refine va_get (D := (dC, dI)) (ci := 1) (v := .int (g_Reader_run S)) (C := RX1) (T := TX1) (N := 7) hx hb hts hinX1 hown hK hP 0 rfl rfl 6 (by decide) (hts (Cond.fieldLink RX1 31 "LearnedShapes$Reader" "run" "I") (List.mem_of_getElem? (i := 1) rfl)) (fun _ h9 => h9) rfl dX1_takeInWord_7 ?_
      refine lv_if_le (tgt := 23) hx hb dX1_takeInWord_10 (by decide) (fun c5 => ?_) (fun c5 => ?_)
      · have hF := F_pos c5 hF
        exact K23 _ _ _ hF hP hD hS _ (lv_sub hl [0, 1] rfl)
      · have hF := F_neg c5 hF
        refine lv_aload_n hx hb dX1_takeInWord_13 rfl (lv_at hl 0 rfl) ?_
        refine lv_aload_n hx hb dX1_takeInWord_14 rfl (lv_at hl 0 rfl) ?_
        obtain ⟨r6, h7, hF⟩ := ob1_some hF
        have hPc : va_P (dC, dI) vwCl ((W_Reader cI a S)) H := hP
        have hDc : va_D A ((W_Reader cI a S)) := hD
        have hFc := jFreeW (ws := (W_Reader cI a S)) hD hS hA
        refine va_calli (va_runV (As := []) (rest := [.ref (a 0)]) ⟨hx, hb, hml, hown, hts⟩ (c_X1_stateBehindValue l dC dI cI a H.size _ _ h7) (cwV 0 hts gX1_takeInWord_X1_stateBehindValue rfl rfl rfl (by decide +kernel) ⟨Nat.le_of_ble_eq_true rfl, Nat.le_of_ble_eq_true rfl⟩) (jPreV hK hPc hDc hN (ci := 1) rfl rfl) rfl rfl hl.1 rfl (lv_room (Nat.le_of_ble_eq_true rfl)) dX1_takeInWord_15 ⟨Nat.le_of_ble_eq_true rfl, Nat.le_of_ble_eq_true rfl⟩) hS (fun q _ h => hFc q h) hFc (fun r' u' t H locs ht hvm hw hB hz1 hk1 hS => ?_)
        subst hw
        obtain ⟨hP1, -, hD1⟩ := hB
        rw [ht] at hP1
        have hP : va_P (dC, dI) vwCl ((W_Reader cI a S)) H := hP1
        have hD : va_D A ((W_Reader cI a S)) := hD1.weaken (fun _ _ _ h => hFc _ h)
        refine va_put (D := (dC, dI)) (ci := 1) (v := .int r6) (ty := .int) (C := RX1) (T := TX1) (N := 7) hx hb hts hinX1 tyX1 tyX1_ok nmX1 hown hK hP hD hS 0 rfl rfl 3 (by decide) (hts (Cond.fieldLink RX1 21 "LearnedShapes$Reader" "state" "I") (List.mem_of_getElem? (i := 2) rfl)) (fun _ h9 => h9) rfl (by decide +kernel) (rfl) rfl (Nat.le_of_ble_eq_true rfl) dX1_takeInWord_18 (fun H locs hP hD hS => ?_)
        have hP : va_P (dC, dI) vwCl ((W_Reader cI a (s_Reader_state S r6))) H := hP
        have hD : va_D A ((W_Reader cI a (s_Reader_state S r6))) := hD
        refine lv_iconst (v := (1 : Int32)) hx hb dX1_takeInWord_21 (by decide) ?_
        have e50 := Option.some.inj hF
        obtain ⟨e60, e51⟩ := Prod.mk.inj e50
        subst e60
        subst e51
        exact W.zret (v := (1 : Int32)) hx hb hr (rfl) (fun t ht hW => ⟨⟨(1 : Int32), (s_Reader_state S r6), rfl, ⟨rfl, rfl⟩, by rw [ht]; exact hP, va_K.moved hW.alike hK, hD⟩, hS.F ht⟩) hS.2.2 dX1_takeInWord_22
  exact KE _ _ hP hD hS
set_option maxHeartbeats 4000000 in
set_option maxRecDepth 100000 in
theorem c_X1_takePoint (l : Launch) (dC : Nat → ClassId) (dI : Nat → Nat → Nat) (cI : ClassId) (a : Nat → Nat) (sz : Nat) (S : S_Reader)  (rr : Bool) (Y : S_Reader) (hF : F_X1_takePoint S  = some (rr, Y)) : Met l yX1_takePoint wsX1_takePoint ({ frames := 1, cells := 0, slots := 0, locals := 24 } : Room) (va_Pc [.ref (a 0)] (jPre (dC, dI) [(cI, .int)] sz ((W_Reader cI a S)))) (va_Qi (fun (r' : Int32) (u : S_Reader) => b2i rr = r' ∧ Y = u) (fun u : S_Reader => jB (dC, dI) [(cI, .int)] (va_A ((W_Reader cI a S)) sz) ((W_Reader cI a u))) (va_A ((W_Reader cI a S)) sz)) 0 0 (va_A ((W_Reader cI a S)) sz) := by
  refine Met.ofW (cc := cX1_takePoint) (maxL := 2) (ret := (some .boolean)) (by decide) rfl ?_
  intro p e s m args below meth c s₁ B hml hv
  obtain ⟨rfl, hsz, hP, hK, hD0, hN⟩ := hv
  have hx := B.exec
  have hb := B.bytes
  have hr := B.returns
  have hts := atoms_spec (ws := wsX1_takePoint) B.pre
  have hown : s.vm.findClass RX1 = some m.cls := findClass_of_methodNamed B.named
  have hlocks := B.notSynchronized
  have hinX1 : ∀ w ∈ u_ws RX1 TX1 7, w ∈ wsX1_takePoint := by decide +kernel
  have hinX3 : ∀ w ∈ u_ws RX3 TX3 3, w ∈ wsX1_takePoint := by decide +kernel
  subst hsz
  have hD := hD0.self (sz := s.heap.size)
  generalize hAe : (va_A ((W_Reader cI a S)) s.heap.size) = A at hD ⊢
  have hA : ∀ q : Nat, s.heap.size ≤ q → A q := fun q h => by rw [← hAe]; exact Or.inr h
  have hS : va_S A s.heap s.heap [] := va_S.rf
  have hl := lv_entry ([.ref (a 0)]) (n := 2) (Nat.le_of_ble_eq_true rfl)
  rw [lg_entry_eq]
  generalize (lg_sl ([.ref (a 0)]) ++ List.replicate (2 - (lg_sl ([.ref (a 0)])).length) Slot.unset).toArray = ls at hl ⊢
  have hl : lv_has ls 2 [(0, .ref (a 0))] := hl
  have K32 : ∀ (S : S_Reader) (t0 : Bool) (H : Heap) (locs : List Loc), F_X1_takePoint_32 S t0 = some (rr, Y) → va_P (dC, dI) vwCl ((W_Reader cI a S)) H → va_D A ((W_Reader cI a S)) → va_S A s.heap H locs → ∀ ls : Array Slot, lv_has ls 2 [(0, .ref (a 0))] → W p l e (headSpec wsX1_takePoint ({ frames := 1, cells := 0, slots := 0, locals := 24 } : Room)).room s m ([.ref (a 0)] : List Value).toArray below meth c H locs 0 0 (MQ below (va_Qi (fun (r' : Int32) (u : S_Reader) => b2i rr = r' ∧ Y = u) (fun u : S_Reader => jB (dC, dI) [(cI, .int)] A ((W_Reader cI a u))) A) ([.ref (a 0)] : List Value).toArray s 0 0 A) (F0 m 32 ls [.int (b2i t0)]) := by
    intro S t0 H locs hF hP hD hS ls hl
    unfold F_X1_takePoint_32 at hF
    refine lv_istore_n (lv' := [(1, .int (b2i t0)), (0, .ref (a 0))]) hx hb dX1_takePoint_32 rfl hl (by decide) rfl (fun ls hl => ?_)
    refine lv_aload_n hx hb dX1_takePoint_33 rfl (lv_at hl 1 rfl) ?_
    refine va_get (D := (dC, dI)) (ci := 1) (v := .ref (a 1)) (C := RX1) (T := TX1) (N := 7) hx hb hts hinX1 hown hK hP 0 rfl rfl 0 (by decide) (hts (Cond.fieldLink RX1 12 "LearnedShapes$Reader" "values" "LLearnedShapes$Tree;") (List.mem_of_getElem? (i := 2) rfl)) (fun _ h9 => h9) rfl dX1_takePoint_34 ?_
    refine lv_aload_n hx hb dX1_takePoint_37 rfl (lv_at hl 1 rfl) ?_
    refine va_get (D := (dC, dI)) (ci := 1) (v := .ref (a 1)) (C := RX1) (T := TX1) (N := 7) hx hb hts hinX1 hown hK hP 0 rfl rfl 0 (by decide) (hts (Cond.fieldLink RX1 12 "LearnedShapes$Reader" "values" "LLearnedShapes$Tree;") (List.mem_of_getElem? (i := 2) rfl)) (fun _ h9 => h9) rfl dX1_takePoint_38 ?_
    refine va_get (D := (dC, dI)) (ci := 3) (v := .int (g_Tree_size (g_Reader_values S))) (C := RX3) (T := TX3) (N := 3) hx hb hts hinX3 hown hK hP 1 rfl rfl 1 (by decide) (hts (Cond.fieldLink RX1 97 "LearnedShapes$Tree" "size" "I") (List.mem_of_getElem? (i := 3) rfl)) (fun _ h9 => h9) rfl dX1_takePoint_41 ?_
    refine lv_iconst (v := (1 : Int32)) hx hb dX1_takePoint_44 (by decide) ?_
    refine lv_isub hx hb dX1_takePoint_45 ?_
    refine lv_iconst (v := (0 : Int32)) hx hb dX1_takePoint_46 (by decide) ?_
    refine lv_iconst (v := (3 : Int32)) hx hb dX1_takePoint_47 (by decide) ?_
    obtain ⟨u1, h2, hF⟩ := ob1_some hF
    have hPc := hP.sub (ws' := (W_Tree cI (sh a 1) (g_Reader_values S))) [1, 2] rfl
    have hDc := hD.sub (ws' := (W_Tree cI (sh a 1) (g_Reader_values S))) [1, 2] (by decide) rfl
    have hFc := va_free (wc := (W_Tree cI (sh a 1) (g_Reader_values S))) hD hS hA [1, 2] rfl
    refine va_callv (va_runV (As := [.int ((g_Tree_size (g_Reader_values S)) - (1 : Int32)), .int (0 : Int32), .int (3 : Int32)]) (rest := []) ⟨hx, hb, hml, hown, hts⟩ (c_X3_put l dC dI cI (sh a 1) H.size _ _ _ _ _ h2) (cwV 3 hts gX1_takePoint_X3_put rfl rfl rfl (by decide +kernel) ⟨Nat.le_of_ble_eq_true rfl, Nat.le_of_ble_eq_true rfl⟩) (jPreV hK hPc hDc hN (ci := 3) rfl rfl) rfl rfl hl.1 rfl (lv_room (Nat.le_of_ble_eq_true rfl)) dX1_takePoint_48 ⟨Nat.le_of_ble_eq_true rfl, Nat.le_of_ble_eq_true rfl⟩) hS (fun q _ h => hFc q h) hFc (fun u' t H locs ht hvm hw hB hz1 hk1 hS => ?_)
    subst hw
    obtain ⟨hP1, -, hD1⟩ := hB
    rw [ht] at hP1
    obtain ⟨hP, hD⟩ := jJoin (wc := (W_Tree cI (sh a 1) (g_Reader_values S))) (w1 := (W_Tree cI (sh a 1) u1)) (ws' := (W_Reader cI a (s_Reader_values S u1))) hP hD [1, 2] [0] [0, 1, 2] rfl rfl (by decide) (by decide) hk1 hFc hP1 hD1 (by decide) rfl
    refine lv_aload_n hx hb dX1_takePoint_51 rfl (lv_at hl 1 rfl) ?_
    refine lv_bipush (v := (9 : Int32)) hx hb dX1_takePoint_52 (by decide) ?_
    refine va_put (D := (dC, dI)) (ci := 1) (v := .int (9 : Int32)) (ty := .int) (C := RX1) (T := TX1) (N := 7) hx hb hts hinX1 tyX1 tyX1_ok nmX1 hown hK hP hD hS 0 rfl rfl 3 (by decide) (hts (Cond.fieldLink RX1 21 "LearnedShapes$Reader" "state" "I") (List.mem_of_getElem? (i := 1) rfl)) (fun _ h9 => h9) rfl (by decide +kernel) (rfl) rfl (Nat.le_of_ble_eq_true rfl) dX1_takePoint_54 (fun H locs hP hD hS => ?_)
    have hP : va_P (dC, dI) vwCl ((W_Reader cI a (s_Reader_state (s_Reader_values S u1) (9 : Int32)))) H := hP
    have hD : va_D A ((W_Reader cI a (s_Reader_state (s_Reader_values S u1) (9 : Int32)))) := hD
    refine lv_aload_n hx hb dX1_takePoint_57 rfl (lv_at hl 1 rfl) ?_
    refine lv_iconst (v := (1 : Int32)) hx hb dX1_takePoint_58 (by decide) ?_
    refine va_put (D := (dC, dI)) (ci := 1) (v := .int (1 : Int32)) (ty := .int) (C := RX1) (T := TX1) (N := 7) hx hb hts hinX1 tyX1 tyX1_ok nmX1 hown hK hP hD hS 0 rfl rfl 6 (by decide) (hts (Cond.fieldLink RX1 31 "LearnedShapes$Reader" "run" "I") (List.mem_of_getElem? (i := 4) rfl)) (fun _ h9 => h9) rfl (by decide +kernel) (rfl) rfl (Nat.le_of_ble_eq_true rfl) dX1_takePoint_59 (fun H locs hP hD hS => ?_)
    have hP : va_P (dC, dI) vwCl ((W_Reader cI a (s_Reader_run (s_Reader_state (s_Reader_values S u1) (9 : Int32)) (1 : Int32)))) H := hP
    have hD : va_D A ((W_Reader cI a (s_Reader_run (s_Reader_state (s_Reader_values S u1) (9 : Int32)) (1 : Int32)))) := hD
    refine lv_iload_n hx hb dX1_takePoint_62 rfl (lv_at hl 0 rfl) ?_
    have e50 := Option.some.inj hF
    obtain ⟨e60, e51⟩ := Prod.mk.inj e50
    subst e60
    subst e51
    exact W.zret (v := (b2i t0)) hx hb hr (nb2i _) (fun t ht hW => ⟨⟨(b2i t0), (s_Reader_run (s_Reader_state (s_Reader_values S u1) (9 : Int32)) (1 : Int32)), rfl, ⟨rfl, rfl⟩, by rw [ht]; exact hP, va_K.moved hW.alike hK, hD⟩, hS.F ht⟩) hS.2.2 dX1_takePoint_63
  have KE : ∀ (H : Heap) (locs : List Loc), va_P (dC, dI) vwCl ((W_Reader cI a S)) H → va_D A ((W_Reader cI a S)) → va_S A s.heap H locs → W p l e (headSpec wsX1_takePoint ({ frames := 1, cells := 0, slots := 0, locals := 24 } : Room)).room s m ([.ref (a 0)] : List Value).toArray below meth c H locs 0 0 (MQ below (va_Qi (fun (r' : Int32) (u : S_Reader) => b2i rr = r' ∧ Y = u) (fun u : S_Reader => jB (dC, dI) [(cI, .int)] A ((W_Reader cI a u))) A) ([.ref (a 0)] : List Value).toArray s 0 0 A) (F0 m 0 ls []) := by
    intro H locs hP hD hS
    unfold F_X1_takePoint at hF
    refine lv_aload_n hx hb dX1_takePoint_0 rfl (lv_at hl 0 rfl) ?_
    refine va_get (D := (dC, dI)) (ci := 1) (v := .int (g_Reader_state S)) (C := RX1) (T := TX1) (N := 7) hx hb hts hinX1 hown hK hP 0 rfl rfl 3 (by decide) (hts (Cond.fieldLink RX1 21 "LearnedShapes$Reader" "state" "I") (List.mem_of_getElem? (i := 1) rfl)) (fun _ h9 => h9) rfl dX1_takePoint_1 ?_
    refine lv_bipush (v := (6 : Int32)) hx hb dX1_takePoint_4 (by decide) ?_
    refine lv_icmp_eq (tgt := 27) hx hb dX1_takePoint_6 (by decide) (fun c3 => ?_) (fun c3 => ?_)
    · have hF := F_pos c3 hF
      refine lv_iconst (v := (1 : Int32)) hx hb dX1_takePoint_27 (by decide) ?_
      refine lv_goto (tgt := 32) hx hb dX1_takePoint_28 (by decide) ?_
      exact K32 _ _ _ _ hF hP hD hS _ (lv_sub hl [0] rfl)
    · have hF := F_neg c3 hF
      refine lv_aload_n hx hb dX1_takePoint_9 rfl (lv_at hl 0 rfl) ?_
      refine va_get (D := (dC, dI)) (ci := 1) (v := .int (g_Reader_state S)) (C := RX1) (T := TX1) (N := 7) hx hb hts hinX1 hown hK hP 0 rfl rfl 3 (by decide) (hts (Cond.fieldLink RX1 21 "LearnedShapes$Reader" "state" "I") (List.mem_of_getElem? (i := 1) rfl)) (fun _ h9 => h9) rfl dX1_takePoint_10 ?_
      refine lv_bipush (v := (7 : Int32)) hx hb dX1_takePoint_13 (by decide) ?_
      refine lv_icmp_eq (tgt := 27) hx hb dX1_takePoint_15 (by decide) (fun c4 => ?_) (fun c4 => ?_)
      · have hF := F_pos c4 hF
        refine lv_iconst (v := (1 : Int32)) hx hb dX1_takePoint_27 (by decide) ?_
        refine lv_goto (tgt := 32) hx hb dX1_takePoint_28 (by decide) ?_
        exact K32 _ _ _ _ hF hP hD hS _ (lv_sub hl [0] rfl)
      · have hF := F_neg c4 hF
        refine lv_aload_n hx hb dX1_takePoint_18 rfl (lv_at hl 0 rfl) ?_
        refine va_get (D := (dC, dI)) (ci := 1) (v := .int (g_Reader_state S)) (C := RX1) (T := TX1) (N := 7) hx hb hts hinX1 hown hK hP 0 rfl rfl 3 (by decide) (hts (Cond.fieldLink RX1 21 "LearnedShapes$Reader" "state" "I") (List.mem_of_getElem? (i := 1) rfl)) (fun _ h9 => h9) rfl dX1_takePoint_19 ?_
        refine lv_bipush (v := (8 : Int32)) hx hb dX1_takePoint_22 (by decide) ?_
        refine lv_icmp_ne (tgt := 31) hx hb dX1_takePoint_24 (by decide) (fun c5 => ?_) (fun c5 => ?_)
        · have hF := F_neg c5 hF
          refine lv_iconst (v := (0 : Int32)) hx hb dX1_takePoint_31 (by decide) ?_
          exact K32 _ _ _ _ hF hP hD hS _ (lv_sub hl [0] rfl)
        · have hF := F_pos c5 hF
          refine lv_iconst (v := (1 : Int32)) hx hb dX1_takePoint_27 (by decide) ?_
          refine lv_goto (tgt := 32) hx hb dX1_takePoint_28 (by decide) ?_
          exact K32 _ _ _ _ hF hP hD hS _ (lv_sub hl [0] rfl)
  exact KE _ _ hP hD hS
set_option maxHeartbeats 4000000 in
set_option maxRecDepth 100000 in
theorem c_X1_takeInNumber (l : Launch) (dC : Nat → ClassId) (dI : Nat → Nat → Nat) (cI : ClassId) (a : Nat → Nat) (sz : Nat) (S : S_Reader) (v1 : Int32) (rr : Bool) (Y : S_Reader) (hF : F_X1_takeInNumber S v1 = some (rr, Y)) : Met l yX1_takeInNumber wsX1_takeInNumber ({ frames := 2, cells := 0, slots := 0, locals := 45 } : Room) (va_Pc [.ref (a 0), .int v1] (jPre (dC, dI) [(cI, .int)] sz ((W_Reader cI a S)))) (va_Qi (fun (r' : Int32) (u : S_Reader) => b2i rr = r' ∧ Y = u) (fun u : S_Reader => jB (dC, dI) [(cI, .int)] (va_A ((W_Reader cI a S)) sz) ((W_Reader cI a u))) (va_A ((W_Reader cI a S)) sz)) 0 0 (va_A ((W_Reader cI a S)) sz) := by
  refine Met.ofW (cc := cX1_takeInNumber) (maxL := 2) (ret := (some .boolean)) (by decide) rfl ?_
  intro p e s m args below meth c s₁ B hml hv
  obtain ⟨rfl, hsz, hP, hK, hD0, hN⟩ := hv
  have hx := B.exec
  have hb := B.bytes
  have hr := B.returns
  have hts := atoms_spec (ws := wsX1_takeInNumber) B.pre
  have hown : s.vm.findClass RX1 = some m.cls := findClass_of_methodNamed B.named
  have hlocks := B.notSynchronized
  have hinX1 : ∀ w ∈ u_ws RX1 TX1 7, w ∈ wsX1_takeInNumber := by decide +kernel
  subst hsz
  have hD := hD0.self (sz := s.heap.size)
  generalize hAe : (va_A ((W_Reader cI a S)) s.heap.size) = A at hD ⊢
  have hA : ∀ q : Nat, s.heap.size ≤ q → A q := fun q h => by rw [← hAe]; exact Or.inr h
  have hS : va_S A s.heap s.heap [] := va_S.rf
  have hl := lv_entry ([.ref (a 0), .int v1]) (n := 2) (Nat.le_of_ble_eq_true rfl)
  rw [lg_entry_eq]
  generalize (lg_sl ([.ref (a 0), .int v1]) ++ List.replicate (2 - (lg_sl ([.ref (a 0), .int v1])).length) Slot.unset).toArray = ls at hl ⊢
  have hl : lv_has ls 2 [(0, .ref (a 0)), (1, .int v1)] := hl
  have KE : ∀ (H : Heap) (locs : List Loc), va_P (dC, dI) vwCl ((W_Reader cI a S)) H → va_D A ((W_Reader cI a S)) → va_S A s.heap H locs → W p l e (headSpec wsX1_takeInNumber ({ frames := 2, cells := 0, slots := 0, locals := 45 } : Room)).room s m ([.ref (a 0), .int v1] : List Value).toArray below meth c H locs 0 0 (MQ below (va_Qi (fun (r' : Int32) (u : S_Reader) => b2i rr = r' ∧ Y = u) (fun u : S_Reader => jB (dC, dI) [(cI, .int)] A ((W_Reader cI a u))) A) ([.ref (a 0), .int v1] : List Value).toArray s 0 0 A) (F0 m 0 ls []) := by
    intro H locs hP hD hS
    unfold F_X1_takeInNumber at hF
    refine lv_iload_n hx hb dX1_takeInNumber_0 rfl (lv_at hl 1 rfl) ?_
    refine lv_bipush (v := (46 : Int32)) hx hb dX1_takeInNumber_1 (by decide) ?_
    refine lv_icmp_ne (tgt := 11) hx hb dX1_takeInNumber_3 (by decide) (fun c1 => ?_) (fun c1 => ?_)
    · have hF := F_neg c1 hF
      refine lv_aload_n hx hb dX1_takeInNumber_11 rfl (lv_at hl 0 rfl) ?_
      refine va_get (D := (dC, dI)) (ci := 1) (v := .int (g_Reader_state S)) (C := RX1) (T := TX1) (N := 7) hx hb hts hinX1 hown hK hP 0 rfl rfl 3 (by decide) (hts (Cond.fieldLink RX1 21 "LearnedShapes$Reader" "state" "I") (List.mem_of_getElem? (i := 1) rfl)) (fun _ h9 => h9) rfl dX1_takeInNumber_12 ?_
      by_cases c2 : (g_Reader_state S) = (5 : Int32)
      · have hF := F_pos c2 hF
        refine lv_tableIn (tgt := 52) hx hb dX1_takeInNumber_15 (by rw [c2]; decide) (by rw [c2]; decide) (by rw [c2] <;> rfl) (by decide) ?_
        refine lv_aload_n hx hb dX1_takeInNumber_52 rfl (lv_at hl 0 rfl) ?_
        refine lv_iload_n hx hb dX1_takeInNumber_53 rfl (lv_at hl 1 rfl) ?_
        refine lv_bipush (v := (48 : Int32)) hx hb dX1_takeInNumber_54 (by decide) ?_
        refine lv_icmp_ne (tgt := 64) hx hb dX1_takeInNumber_56 (by decide) (fun c3 => ?_) (fun c3 => ?_)
        · have hF := F_neg c3 hF
          refine lv_bipush (v := (8 : Int32)) hx hb dX1_takeInNumber_64 (by decide) ?_
          refine va_put (D := (dC, dI)) (ci := 1) (v := .int (8 : Int32)) (ty := .int) (C := RX1) (T := TX1) (N := 7) hx hb hts hinX1 tyX1 tyX1_ok nmX1 hown hK hP hD hS 0 rfl rfl 3 (by decide) (hts (Cond.fieldLink RX1 21 "LearnedShapes$Reader" "state" "I") (List.mem_of_getElem? (i := 1) rfl)) (fun _ h9 => h9) rfl (by decide +kernel) (rfl) rfl (Nat.le_of_ble_eq_true rfl) dX1_takeInNumber_66 (fun H locs hP hD hS => ?_)
          have hP : va_P (dC, dI) vwCl ((W_Reader cI a (s_Reader_state S (8 : Int32)))) H := hP
          have hD : va_D A ((W_Reader cI a (s_Reader_state S (8 : Int32)))) := hD
          refine lv_iload_n hx hb dX1_takeInNumber_69 rfl (lv_at hl 1 rfl) ?_
          obtain ⟨r4, h5, hF⟩ := ob1_some hF
          have hPc : va_P (dC, dI) vwCl ([] : va_W) H := fun k q h => by simp at h
          have hDc : va_D A ([] : va_W) := ⟨fun i j p q h => by simp at h, fun k q h => by simp at h⟩
          have hFc := jFreeW (ws := []) hDc hS hA
          refine va_calli (va_runS (As := [.int v1]) (rest := []) ⟨hx, hb, hml, hown, hts⟩ (c_X1_isDigit l dC dI cI  H.size _ _ h5) (va_cwS 1 hts gX1_takeInNumber_X1_isDigit rfl rfl rfl (by decide +kernel) ⟨Nat.le_of_ble_eq_true rfl, Nat.le_of_ble_eq_true rfl⟩) (jPreS hK hPc hDc hN) rfl rfl hl.1 rfl (lv_room (Nat.le_of_ble_eq_true rfl)) dX1_takeInNumber_70 ⟨Nat.le_of_ble_eq_true rfl, Nat.le_of_ble_eq_true rfl⟩) hS (fun q _ h => hFc q h) hFc (fun r' u' t H locs ht hvm hw hB hz1 hk1 hS => ?_)
          subst hw
          obtain ⟨hP1, -, hD1⟩ := hB
          rw [ht] at hP1
          have hP : va_P (dC, dI) vwCl ((W_Reader cI a (s_Reader_state S (8 : Int32)))) H := jNone hP hk1
          have e50 := Option.some.inj hF
          obtain ⟨e60, e51⟩ := Prod.mk.inj e50
          subst e60
          subst e51
          exact W.zret (v := (b2i r4)) hx hb hr (nb2i _) (fun t ht hW => ⟨⟨(b2i r4), (s_Reader_state S (8 : Int32)), rfl, ⟨rfl, rfl⟩, by rw [ht]; exact hP, va_K.moved hW.alike hK, hD⟩, hS.F ht⟩) hS.2.2 dX1_takeInNumber_73
        · have hF := F_pos c3 hF
          refine lv_bipush (v := (6 : Int32)) hx hb dX1_takeInNumber_59 (by decide) ?_
          refine lv_goto (tgt := 66) hx hb dX1_takeInNumber_61 (by decide) ?_
          refine va_put (D := (dC, dI)) (ci := 1) (v := .int (6 : Int32)) (ty := .int) (C := RX1) (T := TX1) (N := 7) hx hb hts hinX1 tyX1 tyX1_ok nmX1 hown hK hP hD hS 0 rfl rfl 3 (by decide) (hts (Cond.fieldLink RX1 21 "LearnedShapes$Reader" "state" "I") (List.mem_of_getElem? (i := 1) rfl)) (fun _ h9 => h9) rfl (by decide +kernel) (rfl) rfl (Nat.le_of_ble_eq_true rfl) dX1_takeInNumber_66 (fun H locs hP hD hS => ?_)
          have hP : va_P (dC, dI) vwCl ((W_Reader cI a (s_Reader_state S (6 : Int32)))) H := hP
          have hD : va_D A ((W_Reader cI a (s_Reader_state S (6 : Int32)))) := hD
          refine lv_iload_n hx hb dX1_takeInNumber_69 rfl (lv_at hl 1 rfl) ?_
          obtain ⟨r6, h7, hF⟩ := ob1_some hF
          have hPc : va_P (dC, dI) vwCl ([] : va_W) H := fun k q h => by simp at h
          have hDc : va_D A ([] : va_W) := ⟨fun i j p q h => by simp at h, fun k q h => by simp at h⟩
          have hFc := jFreeW (ws := []) hDc hS hA
          refine va_calli (va_runS (As := [.int v1]) (rest := []) ⟨hx, hb, hml, hown, hts⟩ (c_X1_isDigit l dC dI cI  H.size _ _ h7) (va_cwS 1 hts gX1_takeInNumber_X1_isDigit rfl rfl rfl (by decide +kernel) ⟨Nat.le_of_ble_eq_true rfl, Nat.le_of_ble_eq_true rfl⟩) (jPreS hK hPc hDc hN) rfl rfl hl.1 rfl (lv_room (Nat.le_of_ble_eq_true rfl)) dX1_takeInNumber_70 ⟨Nat.le_of_ble_eq_true rfl, Nat.le_of_ble_eq_true rfl⟩) hS (fun q _ h => hFc q h) hFc (fun r' u' t H locs ht hvm hw hB hz1 hk1 hS => ?_)
          subst hw
          obtain ⟨hP1, -, hD1⟩ := hB
          rw [ht] at hP1
          have hP : va_P (dC, dI) vwCl ((W_Reader cI a (s_Reader_state S (6 : Int32)))) H := jNone hP hk1
          have e50 := Option.some.inj hF
          obtain ⟨e60, e51⟩ := Prod.mk.inj e50
          subst e60
          subst e51
          exact W.zret (v := (b2i r6)) hx hb hr (nb2i _) (fun t ht hW => ⟨⟨(b2i r6), (s_Reader_state S (6 : Int32)), rfl, ⟨rfl, rfl⟩, by rw [ht]; exact hP, va_K.moved hW.alike hK, hD⟩, hS.F ht⟩) hS.2.2 dX1_takeInNumber_73
      · have hF := F_neg c2 hF
        by_cases c8 : (g_Reader_state S) = (6 : Int32)
        · have hF := F_pos c8 hF
          refine lv_tableIn (tgt := 147) hx hb dX1_takeInNumber_15 (by rw [c8]; decide) (by rw [c8]; decide) (by rw [c8] <;> rfl) (by decide) ?_
          refine lv_iconst (v := (0 : Int32)) hx hb dX1_takeInNumber_147 (by decide) ?_
          have e50 := Option.some.inj hF
          obtain ⟨e60, e51⟩ := Prod.mk.inj e50
          subst e60
          subst e51
          exact W.zret (v := (0 : Int32)) hx hb hr (rfl) (fun t ht hW => ⟨⟨(0 : Int32), S, rfl, ⟨rfl, rfl⟩, by rw [ht]; exact hP, va_K.moved hW.alike hK, hD⟩, hS.F ht⟩) hS.2.2 dX1_takeInNumber_148
        · have hF := F_neg c8 hF
          by_cases c9 : (g_Reader_state S) = (7 : Int32)
          · have hF := F_pos c9 hF
            refine lv_tableIn (tgt := 147) hx hb dX1_takeInNumber_15 (by rw [c9]; decide) (by rw [c9]; decide) (by rw [c9] <;> rfl) (by decide) ?_
            refine lv_iconst (v := (0 : Int32)) hx hb dX1_takeInNumber_147 (by decide) ?_
            have e50 := Option.some.inj hF
            obtain ⟨e60, e51⟩ := Prod.mk.inj e50
            subst e60
            subst e51
            exact W.zret (v := (0 : Int32)) hx hb hr (rfl) (fun t ht hW => ⟨⟨(0 : Int32), S, rfl, ⟨rfl, rfl⟩, by rw [ht]; exact hP, va_K.moved hW.alike hK, hD⟩, hS.F ht⟩) hS.2.2 dX1_takeInNumber_148
          · have hF := F_neg c9 hF
            by_cases c10 : (g_Reader_state S) = (8 : Int32)
            · have hF := F_pos c10 hF
              refine lv_tableIn (tgt := 74) hx hb dX1_takeInNumber_15 (by rw [c10]; decide) (by rw [c10]; decide) (by rw [c10] <;> rfl) (by decide) ?_
              refine lv_aload_n hx hb dX1_takeInNumber_74 rfl (lv_at hl 0 rfl) ?_
              refine lv_dup hx hb dX1_takeInNumber_75 rfl ?_
              refine va_get (D := (dC, dI)) (ci := 1) (v := .int (g_Reader_run S)) (C := RX1) (T := TX1) (N := 7) hx hb hts hinX1 hown hK hP 0 rfl rfl 6 (by decide) (hts (Cond.fieldLink RX1 31 "LearnedShapes$Reader" "run" "I") (List.mem_of_getElem? (i := 2) rfl)) (fun _ h9 => h9) rfl dX1_takeInNumber_76 ?_
              refine lv_iconst (v := (1 : Int32)) hx hb dX1_takeInNumber_79 (by decide) ?_
              refine lv_iadd hx hb dX1_takeInNumber_80 ?_
              refine va_put (D := (dC, dI)) (ci := 1) (v := .int ((g_Reader_run S) + (1 : Int32))) (ty := .int) (C := RX1) (T := TX1) (N := 7) hx hb hts hinX1 tyX1 tyX1_ok nmX1 hown hK hP hD hS 0 rfl rfl 6 (by decide) (hts (Cond.fieldLink RX1 31 "LearnedShapes$Reader" "run" "I") (List.mem_of_getElem? (i := 2) rfl)) (fun _ h9 => h9) rfl (by decide +kernel) (rfl) rfl (Nat.le_of_ble_eq_true rfl) dX1_takeInNumber_81 (fun H locs hP hD hS => ?_)
              have hP : va_P (dC, dI) vwCl ((W_Reader cI a (s_Reader_run S ((g_Reader_run S) + (1 : Int32))))) H := hP
              have hD : va_D A ((W_Reader cI a (s_Reader_run S ((g_Reader_run S) + (1 : Int32))))) := hD
              refine lv_aload_n hx hb dX1_takeInNumber_84 rfl (lv_at hl 0 rfl) ?_
              refine va_get (D := (dC, dI)) (ci := 1) (v := .int ((g_Reader_run S) + (1 : Int32))) (C := RX1) (T := TX1) (N := 7) hx hb hts hinX1 hown hK hP 0 rfl rfl 6 (by decide) (hts (Cond.fieldLink RX1 31 "LearnedShapes$Reader" "run" "I") (List.mem_of_getElem? (i := 2) rfl)) (fun _ h9 => h9) rfl dX1_takeInNumber_85 ?_
              refine lv_iconst (v := (4 : Int32)) hx hb dX1_takeInNumber_88 (by decide) ?_
              refine lv_icmp_gt (tgt := 103) hx hb dX1_takeInNumber_89 (by decide) (fun c11 => ?_) (fun c11 => ?_)
              · have hF := F_pos c11 hF
                refine lv_iconst (v := (0 : Int32)) hx hb dX1_takeInNumber_103 (by decide) ?_
                have e50 := Option.some.inj hF
                obtain ⟨e60, e51⟩ := Prod.mk.inj e50
                subst e60
                subst e51
                exact W.zret (v := (0 : Int32)) hx hb hr (rfl) (fun t ht hW => ⟨⟨(0 : Int32), (s_Reader_run S ((g_Reader_run S) + (1 : Int32))), rfl, ⟨rfl, rfl⟩, by rw [ht]; exact hP, va_K.moved hW.alike hK, hD⟩, hS.F ht⟩) hS.2.2 dX1_takeInNumber_104
              · have hF := F_neg c11 hF
                refine lv_iload_n hx hb dX1_takeInNumber_92 rfl (lv_at hl 1 rfl) ?_
                obtain ⟨r12, h13, hF⟩ := ob1_some hF
                have hPc : va_P (dC, dI) vwCl ([] : va_W) H := fun k q h => by simp at h
                have hDc : va_D A ([] : va_W) := ⟨fun i j p q h => by simp at h, fun k q h => by simp at h⟩
                have hFc := jFreeW (ws := []) hDc hS hA
                refine va_calli (va_runS (As := [.int v1]) (rest := []) ⟨hx, hb, hml, hown, hts⟩ (c_X1_isDigit l dC dI cI  H.size _ _ h13) (va_cwS 1 hts gX1_takeInNumber_X1_isDigit rfl rfl rfl (by decide +kernel) ⟨Nat.le_of_ble_eq_true rfl, Nat.le_of_ble_eq_true rfl⟩) (jPreS hK hPc hDc hN) rfl rfl hl.1 rfl (lv_room (Nat.le_of_ble_eq_true rfl)) dX1_takeInNumber_93 ⟨Nat.le_of_ble_eq_true rfl, Nat.le_of_ble_eq_true rfl⟩) hS (fun q _ h => hFc q h) hFc (fun r' u' t H locs ht hvm hw hB hz1 hk1 hS => ?_)
                subst hw
                obtain ⟨hP1, -, hD1⟩ := hB
                rw [ht] at hP1
                have hP : va_P (dC, dI) vwCl ((W_Reader cI a (s_Reader_run S ((g_Reader_run S) + (1 : Int32))))) H := jNone hP hk1
                refine lv_if_eq (tgt := 103) hx hb dX1_takeInNumber_96 (by decide) (fun c14 => ?_) (fun c14 => ?_)
                · have hF := F_pos c14 hF
                  refine lv_iconst (v := (0 : Int32)) hx hb dX1_takeInNumber_103 (by decide) ?_
                  have e50 := Option.some.inj hF
                  obtain ⟨e60, e51⟩ := Prod.mk.inj e50
                  subst e60
                  subst e51
                  exact W.zret (v := (0 : Int32)) hx hb hr (rfl) (fun t ht hW => ⟨⟨(0 : Int32), (s_Reader_run S ((g_Reader_run S) + (1 : Int32))), rfl, ⟨rfl, rfl⟩, by rw [ht]; exact hP, va_K.moved hW.alike hK, hD⟩, hS.F ht⟩) hS.2.2 dX1_takeInNumber_104
                · have hF := F_neg c14 hF
                  refine lv_iconst (v := (1 : Int32)) hx hb dX1_takeInNumber_99 (by decide) ?_
                  refine lv_goto (tgt := 104) hx hb dX1_takeInNumber_100 (by decide) ?_
                  have e50 := Option.some.inj hF
                  obtain ⟨e60, e51⟩ := Prod.mk.inj e50
                  subst e60
                  subst e51
                  exact W.zret (v := (1 : Int32)) hx hb hr (rfl) (fun t ht hW => ⟨⟨(1 : Int32), (s_Reader_run S ((g_Reader_run S) + (1 : Int32))), rfl, ⟨rfl, rfl⟩, by rw [ht]; exact hP, va_K.moved hW.alike hK, hD⟩, hS.F ht⟩) hS.2.2 dX1_takeInNumber_104
            · have hF := F_neg c10 hF
              by_cases c15 : (g_Reader_state S) = (9 : Int32)
              · have hF := F_pos c15 hF
                refine lv_tableIn (tgt := 105) hx hb dX1_takeInNumber_15 (by rw [c15]; decide) (by rw [c15]; decide) (by rw [c15] <;> rfl) (by decide) ?_
                refine lv_aload_n hx hb dX1_takeInNumber_105 rfl (lv_at hl 0 rfl) ?_
                refine lv_bipush (v := (10 : Int32)) hx hb dX1_takeInNumber_106 (by decide) ?_
                refine va_put (D := (dC, dI)) (ci := 1) (v := .int (10 : Int32)) (ty := .int) (C := RX1) (T := TX1) (N := 7) hx hb hts hinX1 tyX1 tyX1_ok nmX1 hown hK hP hD hS 0 rfl rfl 3 (by decide) (hts (Cond.fieldLink RX1 21 "LearnedShapes$Reader" "state" "I") (List.mem_of_getElem? (i := 1) rfl)) (fun _ h9 => h9) rfl (by decide +kernel) (rfl) rfl (Nat.le_of_ble_eq_true rfl) dX1_takeInNumber_108 (fun H locs hP hD hS => ?_)
                have hP : va_P (dC, dI) vwCl ((W_Reader cI a (s_Reader_state S (10 : Int32)))) H := hP
                have hD : va_D A ((W_Reader cI a (s_Reader_state S (10 : Int32)))) := hD
                refine lv_iload_n hx hb dX1_takeInNumber_111 rfl (lv_at hl 1 rfl) ?_
                obtain ⟨r16, h17, hF⟩ := ob1_some hF
                have hPc : va_P (dC, dI) vwCl ([] : va_W) H := fun k q h => by simp at h
                have hDc : va_D A ([] : va_W) := ⟨fun i j p q h => by simp at h, fun k q h => by simp at h⟩
                have hFc := jFreeW (ws := []) hDc hS hA
                refine va_calli (va_runS (As := [.int v1]) (rest := []) ⟨hx, hb, hml, hown, hts⟩ (c_X1_isDigit l dC dI cI  H.size _ _ h17) (va_cwS 1 hts gX1_takeInNumber_X1_isDigit rfl rfl rfl (by decide +kernel) ⟨Nat.le_of_ble_eq_true rfl, Nat.le_of_ble_eq_true rfl⟩) (jPreS hK hPc hDc hN) rfl rfl hl.1 rfl (lv_room (Nat.le_of_ble_eq_true rfl)) dX1_takeInNumber_112 ⟨Nat.le_of_ble_eq_true rfl, Nat.le_of_ble_eq_true rfl⟩) hS (fun q _ h => hFc q h) hFc (fun r' u' t H locs ht hvm hw hB hz1 hk1 hS => ?_)
                subst hw
                obtain ⟨hP1, -, hD1⟩ := hB
                rw [ht] at hP1
                have hP : va_P (dC, dI) vwCl ((W_Reader cI a (s_Reader_state S (10 : Int32)))) H := jNone hP hk1
                have e50 := Option.some.inj hF
                obtain ⟨e60, e51⟩ := Prod.mk.inj e50
                subst e60
                subst e51
                exact W.zret (v := (b2i r16)) hx hb hr (nb2i _) (fun t ht hW => ⟨⟨(b2i r16), (s_Reader_state S (10 : Int32)), rfl, ⟨rfl, rfl⟩, by rw [ht]; exact hP, va_K.moved hW.alike hK, hD⟩, hS.F ht⟩) hS.2.2 dX1_takeInNumber_115
              · have hF := F_neg c15 hF
                by_cases c18 : (g_Reader_state S) = (10 : Int32)
                · have hF := F_pos c18 hF
                  refine lv_tableIn (tgt := 116) hx hb dX1_takeInNumber_15 (by rw [c18]; decide) (by rw [c18]; decide) (by rw [c18] <;> rfl) (by decide) ?_
                  refine lv_aload_n hx hb dX1_takeInNumber_116 rfl (lv_at hl 0 rfl) ?_
                  refine lv_dup hx hb dX1_takeInNumber_117 rfl ?_
                  refine va_get (D := (dC, dI)) (ci := 1) (v := .int (g_Reader_run S)) (C := RX1) (T := TX1) (N := 7) hx hb hts hinX1 hown hK hP 0 rfl rfl 6 (by decide) (hts (Cond.fieldLink RX1 31 "LearnedShapes$Reader" "run" "I") (List.mem_of_getElem? (i := 2) rfl)) (fun _ h9 => h9) rfl dX1_takeInNumber_118 ?_
                  refine lv_iconst (v := (1 : Int32)) hx hb dX1_takeInNumber_121 (by decide) ?_
                  refine lv_iadd hx hb dX1_takeInNumber_122 ?_
                  refine va_put (D := (dC, dI)) (ci := 1) (v := .int ((g_Reader_run S) + (1 : Int32))) (ty := .int) (C := RX1) (T := TX1) (N := 7) hx hb hts hinX1 tyX1 tyX1_ok nmX1 hown hK hP hD hS 0 rfl rfl 6 (by decide) (hts (Cond.fieldLink RX1 31 "LearnedShapes$Reader" "run" "I") (List.mem_of_getElem? (i := 2) rfl)) (fun _ h9 => h9) rfl (by decide +kernel) (rfl) rfl (Nat.le_of_ble_eq_true rfl) dX1_takeInNumber_123 (fun H locs hP hD hS => ?_)
                  have hP : va_P (dC, dI) vwCl ((W_Reader cI a (s_Reader_run S ((g_Reader_run S) + (1 : Int32))))) H := hP
                  have hD : va_D A ((W_Reader cI a (s_Reader_run S ((g_Reader_run S) + (1 : Int32))))) := hD
                  refine lv_aload_n hx hb dX1_takeInNumber_126 rfl (lv_at hl 0 rfl) ?_
                  refine va_get (D := (dC, dI)) (ci := 1) (v := .int ((g_Reader_run S) + (1 : Int32))) (C := RX1) (T := TX1) (N := 7) hx hb hts hinX1 hown hK hP 0 rfl rfl 6 (by decide) (hts (Cond.fieldLink RX1 31 "LearnedShapes$Reader" "run" "I") (List.mem_of_getElem? (i := 2) rfl)) (fun _ h9 => h9) rfl dX1_takeInNumber_127 ?_
                  refine lv_iconst (v := (2 : Int32)) hx hb dX1_takeInNumber_130 (by decide) ?_
                  refine lv_icmp_gt (tgt := 145) hx hb dX1_takeInNumber_131 (by decide) (fun c19 => ?_) (fun c19 => ?_)
                  · have hF := F_pos c19 hF
                    refine lv_iconst (v := (0 : Int32)) hx hb dX1_takeInNumber_145 (by decide) ?_
                    have e50 := Option.some.inj hF
                    obtain ⟨e60, e51⟩ := Prod.mk.inj e50
                    subst e60
                    subst e51
                    exact W.zret (v := (0 : Int32)) hx hb hr (rfl) (fun t ht hW => ⟨⟨(0 : Int32), (s_Reader_run S ((g_Reader_run S) + (1 : Int32))), rfl, ⟨rfl, rfl⟩, by rw [ht]; exact hP, va_K.moved hW.alike hK, hD⟩, hS.F ht⟩) hS.2.2 dX1_takeInNumber_146
                  · have hF := F_neg c19 hF
                    refine lv_iload_n hx hb dX1_takeInNumber_134 rfl (lv_at hl 1 rfl) ?_
                    obtain ⟨r20, h21, hF⟩ := ob1_some hF
                    have hPc : va_P (dC, dI) vwCl ([] : va_W) H := fun k q h => by simp at h
                    have hDc : va_D A ([] : va_W) := ⟨fun i j p q h => by simp at h, fun k q h => by simp at h⟩
                    have hFc := jFreeW (ws := []) hDc hS hA
                    refine va_calli (va_runS (As := [.int v1]) (rest := []) ⟨hx, hb, hml, hown, hts⟩ (c_X1_isDigit l dC dI cI  H.size _ _ h21) (va_cwS 1 hts gX1_takeInNumber_X1_isDigit rfl rfl rfl (by decide +kernel) ⟨Nat.le_of_ble_eq_true rfl, Nat.le_of_ble_eq_true rfl⟩) (jPreS hK hPc hDc hN) rfl rfl hl.1 rfl (lv_room (Nat.le_of_ble_eq_true rfl)) dX1_takeInNumber_135 ⟨Nat.le_of_ble_eq_true rfl, Nat.le_of_ble_eq_true rfl⟩) hS (fun q _ h => hFc q h) hFc (fun r' u' t H locs ht hvm hw hB hz1 hk1 hS => ?_)
                    subst hw
                    obtain ⟨hP1, -, hD1⟩ := hB
                    rw [ht] at hP1
                    have hP : va_P (dC, dI) vwCl ((W_Reader cI a (s_Reader_run S ((g_Reader_run S) + (1 : Int32))))) H := jNone hP hk1
                    refine lv_if_eq (tgt := 145) hx hb dX1_takeInNumber_138 (by decide) (fun c22 => ?_) (fun c22 => ?_)
                    · have hF := F_pos c22 hF
                      refine lv_iconst (v := (0 : Int32)) hx hb dX1_takeInNumber_145 (by decide) ?_
                      have e50 := Option.some.inj hF
                      obtain ⟨e60, e51⟩ := Prod.mk.inj e50
                      subst e60
                      subst e51
                      exact W.zret (v := (0 : Int32)) hx hb hr (rfl) (fun t ht hW => ⟨⟨(0 : Int32), (s_Reader_run S ((g_Reader_run S) + (1 : Int32))), rfl, ⟨rfl, rfl⟩, by rw [ht]; exact hP, va_K.moved hW.alike hK, hD⟩, hS.F ht⟩) hS.2.2 dX1_takeInNumber_146
                    · have hF := F_neg c22 hF
                      refine lv_iconst (v := (1 : Int32)) hx hb dX1_takeInNumber_141 (by decide) ?_
                      refine lv_goto (tgt := 146) hx hb dX1_takeInNumber_142 (by decide) ?_
                      have e50 := Option.some.inj hF
                      obtain ⟨e60, e51⟩ := Prod.mk.inj e50
                      subst e60
                      subst e51
                      exact W.zret (v := (1 : Int32)) hx hb hr (rfl) (fun t ht hW => ⟨⟨(1 : Int32), (s_Reader_run S ((g_Reader_run S) + (1 : Int32))), rfl, ⟨rfl, rfl⟩, by rw [ht]; exact hP, va_K.moved hW.alike hK, hD⟩, hS.F ht⟩) hS.2.2 dX1_takeInNumber_146
                · have hF := F_neg c18 hF
                  refine lv_tableOut (tgt := 147) hx hb dX1_takeInNumber_15 (sw_out 5 10 (by decide) (fun k hk1 hk2 => ?_)) (by decide) ?_
                  · rcases (show k = 5 ∨ k = 6 ∨ k = 7 ∨ k = 8 ∨ k = 9 ∨ k = 10 by omega) with rfl | rfl | rfl | rfl | rfl | rfl
                    · exact lv_neT c2 rfl
                    · exact lv_neT c8 rfl
                    · exact lv_neT c9 rfl
                    · exact lv_neT c10 rfl
                    · exact lv_neT c15 rfl
                    · exact lv_neT c18 rfl
                  refine lv_iconst (v := (0 : Int32)) hx hb dX1_takeInNumber_147 (by decide) ?_
                  have e50 := Option.some.inj hF
                  obtain ⟨e60, e51⟩ := Prod.mk.inj e50
                  subst e60
                  subst e51
                  exact W.zret (v := (0 : Int32)) hx hb hr (rfl) (fun t ht hW => ⟨⟨(0 : Int32), S, rfl, ⟨rfl, rfl⟩, by rw [ht]; exact hP, va_K.moved hW.alike hK, hD⟩, hS.F ht⟩) hS.2.2 dX1_takeInNumber_148
    · have hF := F_pos c1 hF
      refine lv_aload_n hx hb dX1_takeInNumber_6 rfl (lv_at hl 0 rfl) ?_
      obtain ⟨r23, u24, h25, hF⟩ := ob2_some hF
      have hPc : va_P (dC, dI) vwCl ((W_Reader cI a S)) H := hP
      have hDc : va_D A ((W_Reader cI a S)) := hD
      have hFc := jFreeW (ws := (W_Reader cI a S)) hD hS hA
      refine va_calli (va_runV (As := []) (rest := []) ⟨hx, hb, hml, hown, hts⟩ (c_X1_takePoint l dC dI cI a H.size _ _ _ h25) (cwV 0 hts gX1_takeInNumber_X1_takePoint rfl rfl rfl (by decide +kernel) ⟨Nat.le_of_ble_eq_true rfl, Nat.le_of_ble_eq_true rfl⟩) (jPreV hK hPc hDc hN (ci := 1) rfl rfl) rfl rfl hl.1 rfl (lv_room (Nat.le_of_ble_eq_true rfl)) dX1_takeInNumber_7 ⟨Nat.le_of_ble_eq_true rfl, Nat.le_of_ble_eq_true rfl⟩) hS (fun q _ h => hFc q h) hFc (fun r' u' t H locs ht hvm hw hB hz1 hk1 hS => ?_)
      obtain ⟨e1, e2⟩ := hw
      subst e1
      subst e2
      obtain ⟨hP1, -, hD1⟩ := hB
      rw [ht] at hP1
      have hP : va_P (dC, dI) vwCl ((W_Reader cI a u24)) H := hP1
      have hD : va_D A ((W_Reader cI a u24)) := hD1.weaken (fun _ _ _ h => hFc _ h)
      have e50 := Option.some.inj hF
      obtain ⟨e60, e51⟩ := Prod.mk.inj e50
      subst e60
      subst e51
      exact W.zret (v := (b2i r23)) hx hb hr (nb2i _) (fun t ht hW => ⟨⟨(b2i r23), u24, rfl, ⟨rfl, rfl⟩, by rw [ht]; exact hP, va_K.moved hW.alike hK, hD⟩, hS.F ht⟩) hS.2.2 dX1_takeInNumber_10
  exact KE _ _ hP hD hS
set_option maxHeartbeats 4000000 in
set_option maxRecDepth 100000 in
theorem c_X1_take (l : Launch) (dC : Nat → ClassId) (dI : Nat → Nat → Nat) (cI : ClassId) (a : Nat → Nat) (sz : Nat) (S : S_Reader) (v1 : Int32) (rr : Bool) (Y : S_Reader) (hF : F_X1_take S v1 = some (rr, Y)) : Met l yX1_take wsX1_take ({ frames := 4, cells := 0, slots := 0, locals := 95 } : Room) (va_Pc [.ref (a 0), .int v1] (jPre (dC, dI) [(cI, .int)] sz ((W_Reader cI a S)))) (va_Qi (fun (r' : Int32) (u : S_Reader) => b2i rr = r' ∧ Y = u) (fun u : S_Reader => jB (dC, dI) [(cI, .int)] (va_A ((W_Reader cI a S)) sz) ((W_Reader cI a u))) (va_A ((W_Reader cI a S)) sz)) 0 0 (va_A ((W_Reader cI a S)) sz) := by
  refine Met.ofW (cc := cX1_take) (maxL := 2) (ret := (some .boolean)) (by decide) rfl ?_
  intro p e s m args below meth c s₁ B hml hv
  obtain ⟨rfl, hsz, hP, hK, hD0, hN⟩ := hv
  have hx := B.exec
  have hb := B.bytes
  have hr := B.returns
  have hts := atoms_spec (ws := wsX1_take) B.pre
  have hown : s.vm.findClass RX1 = some m.cls := findClass_of_methodNamed B.named
  have hlocks := B.notSynchronized
  have hinX1 : ∀ w ∈ u_ws RX1 TX1 7, w ∈ wsX1_take := by decide +kernel
  subst hsz
  have hD := hD0.self (sz := s.heap.size)
  generalize hAe : (va_A ((W_Reader cI a S)) s.heap.size) = A at hD ⊢
  have hA : ∀ q : Nat, s.heap.size ≤ q → A q := fun q h => by rw [← hAe]; exact Or.inr h
  have hS : va_S A s.heap s.heap [] := va_S.rf
  have hl := lv_entry ([.ref (a 0), .int v1]) (n := 2) (Nat.le_of_ble_eq_true rfl)
  rw [lg_entry_eq]
  generalize (lg_sl ([.ref (a 0), .int v1]) ++ List.replicate (2 - (lg_sl ([.ref (a 0), .int v1])).length) Slot.unset).toArray = ls at hl ⊢
  have hl : lv_has ls 2 [(0, .ref (a 0)), (1, .int v1)] := hl
  have K16 : ∀ (S : S_Reader) (H : Heap) (locs : List Loc), F_X1_take_16 v1 S = some (rr, Y) → va_P (dC, dI) vwCl ((W_Reader cI a S)) H → va_D A ((W_Reader cI a S)) → va_S A s.heap H locs → ∀ ls : Array Slot, lv_has ls 2 [(0, .ref (a 0)), (1, .int v1)] → W p l e (headSpec wsX1_take ({ frames := 4, cells := 0, slots := 0, locals := 95 } : Room)).room s m ([.ref (a 0), .int v1] : List Value).toArray below meth c H locs 0 0 (MQ below (va_Qi (fun (r' : Int32) (u : S_Reader) => b2i rr = r' ∧ Y = u) (fun u : S_Reader => jB (dC, dI) [(cI, .int)] A ((W_Reader cI a u))) A) ([.ref (a 0), .int v1] : List Value).toArray s 0 0 A) (F0 m 16 ls []) := by
    intro S H locs hF hP hD hS ls hl
    unfold F_X1_take_16 at hF
    refine lv_aload_n hx hb dX1_take_16 rfl (lv_at hl 0 rfl) ?_
    refine va_get (D := (dC, dI)) (ci := 1) (v := .int (g_Reader_state S)) (C := RX1) (T := TX1) (N := 7) hx hb hts hinX1 hown hK hP 0 rfl rfl 3 (by decide) (hts (Cond.fieldLink RX1 21 "LearnedShapes$Reader" "state" "I") (List.mem_of_getElem? (i := 1) rfl)) (fun _ h9 => h9) rfl dX1_take_17 ?_
    by_cases c1 : (g_Reader_state S) = (0 : Int32)
    · have hF := F_pos c1 hF
      refine lv_tableIn (tgt := 88) hx hb dX1_take_20 (by rw [c1]; decide) (by rw [c1]; decide) (by rw [c1] <;> rfl) (by decide) ?_
      refine lv_iload_n hx hb dX1_take_88 rfl (lv_at hl 1 rfl) ?_
      refine lv_bipush (v := (40 : Int32)) hx hb dX1_take_89 (by decide) ?_
      refine lv_icmp_ne (tgt := 106) hx hb dX1_take_91 (by decide) (fun c2 => ?_) (fun c2 => ?_)
      · have hF := F_neg c2 hF
        refine lv_iconst (v := (0 : Int32)) hx hb dX1_take_106 (by decide) ?_
        have e50 := Option.some.inj hF
        obtain ⟨e60, e51⟩ := Prod.mk.inj e50
        subst e60
        subst e51
        exact W.zret (v := (0 : Int32)) hx hb hr (rfl) (fun t ht hW => ⟨⟨(0 : Int32), S, rfl, ⟨rfl, rfl⟩, by rw [ht]; exact hP, va_K.moved hW.alike hK, hD⟩, hS.F ht⟩) hS.2.2 dX1_take_107
      · have hF := F_pos c2 hF
        refine lv_aload_n hx hb dX1_take_94 rfl (lv_at hl 0 rfl) ?_
        refine lv_iload_n hx hb dX1_take_95 rfl (lv_at hl 1 rfl) ?_
        obtain ⟨r3, u4, h5, hF⟩ := ob2_some hF
        have hPc : va_P (dC, dI) vwCl ((W_Reader cI a S)) H := hP
        have hDc : va_D A ((W_Reader cI a S)) := hD
        have hFc := jFreeW (ws := (W_Reader cI a S)) hD hS hA
        refine va_calli (va_runV (As := [.int v1]) (rest := []) ⟨hx, hb, hml, hown, hts⟩ (c_X1_takeValue l dC dI cI a H.size _ _ _ _ h5) (cwV 1 hts gX1_take_X1_takeValue rfl rfl rfl (by decide +kernel) ⟨Nat.le_of_ble_eq_true rfl, Nat.le_of_ble_eq_true rfl⟩) (jPreV hK hPc hDc hN (ci := 1) rfl rfl) rfl rfl hl.1 rfl (lv_room (Nat.le_of_ble_eq_true rfl)) dX1_take_96 ⟨Nat.le_of_ble_eq_true rfl, Nat.le_of_ble_eq_true rfl⟩) hS (fun q _ h => hFc q h) hFc (fun r' u' t H locs ht hvm hw hB hz1 hk1 hS => ?_)
        obtain ⟨e1, e2⟩ := hw
        subst e1
        subst e2
        obtain ⟨hP1, -, hD1⟩ := hB
        rw [ht] at hP1
        have hP : va_P (dC, dI) vwCl ((W_Reader cI a u4)) H := hP1
        have hD : va_D A ((W_Reader cI a u4)) := hD1.weaken (fun _ _ _ h => hFc _ h)
        refine lv_if_eq (tgt := 106) hx hb dX1_take_99 (by decide) (fun c6 => ?_) (fun c6 => ?_)
        · have hF := F_pos c6 hF
          refine lv_iconst (v := (0 : Int32)) hx hb dX1_take_106 (by decide) ?_
          have e50 := Option.some.inj hF
          obtain ⟨e60, e51⟩ := Prod.mk.inj e50
          subst e60
          subst e51
          exact W.zret (v := (0 : Int32)) hx hb hr (rfl) (fun t ht hW => ⟨⟨(0 : Int32), u4, rfl, ⟨rfl, rfl⟩, by rw [ht]; exact hP, va_K.moved hW.alike hK, hD⟩, hS.F ht⟩) hS.2.2 dX1_take_107
        · have hF := F_neg c6 hF
          refine lv_iconst (v := (1 : Int32)) hx hb dX1_take_102 (by decide) ?_
          refine lv_goto (tgt := 107) hx hb dX1_take_103 (by decide) ?_
          have e50 := Option.some.inj hF
          obtain ⟨e60, e51⟩ := Prod.mk.inj e50
          subst e60
          subst e51
          exact W.zret (v := (1 : Int32)) hx hb hr (rfl) (fun t ht hW => ⟨⟨(1 : Int32), u4, rfl, ⟨rfl, rfl⟩, by rw [ht]; exact hP, va_K.moved hW.alike hK, hD⟩, hS.F ht⟩) hS.2.2 dX1_take_107
    · have hF := F_neg c1 hF
      by_cases c7 : (g_Reader_state S) = (1 : Int32)
      · have hF := F_pos c7 hF
        refine lv_tableIn (tgt := 108) hx hb dX1_take_20 (by rw [c7]; decide) (by rw [c7]; decide) (by rw [c7] <;> rfl) (by decide) ?_
        refine lv_aload_n hx hb dX1_take_108 rfl (lv_at hl 0 rfl) ?_
        refine lv_iload_n hx hb dX1_take_109 rfl (lv_at hl 1 rfl) ?_
        obtain ⟨r8, u9, h10, hF⟩ := ob2_some hF
        have hPc : va_P (dC, dI) vwCl ((W_Reader cI a S)) H := hP
        have hDc : va_D A ((W_Reader cI a S)) := hD
        have hFc := jFreeW (ws := (W_Reader cI a S)) hD hS hA
        refine va_calli (va_runV (As := [.int v1]) (rest := []) ⟨hx, hb, hml, hown, hts⟩ (c_X1_takePart l dC dI cI a H.size _ _ _ _ h10) (cwV 1 hts gX1_take_X1_takePart rfl rfl rfl (by decide +kernel) ⟨Nat.le_of_ble_eq_true rfl, Nat.le_of_ble_eq_true rfl⟩) (jPreV hK hPc hDc hN (ci := 1) rfl rfl) rfl rfl hl.1 rfl (lv_room (Nat.le_of_ble_eq_true rfl)) dX1_take_110 ⟨Nat.le_of_ble_eq_true rfl, Nat.le_of_ble_eq_true rfl⟩) hS (fun q _ h => hFc q h) hFc (fun r' u' t H locs ht hvm hw hB hz1 hk1 hS => ?_)
        obtain ⟨e1, e2⟩ := hw
        subst e1
        subst e2
        obtain ⟨hP1, -, hD1⟩ := hB
        rw [ht] at hP1
        have hP : va_P (dC, dI) vwCl ((W_Reader cI a u9)) H := hP1
        have hD : va_D A ((W_Reader cI a u9)) := hD1.weaken (fun _ _ _ h => hFc _ h)
        have e50 := Option.some.inj hF
        obtain ⟨e60, e51⟩ := Prod.mk.inj e50
        subst e60
        subst e51
        exact W.zret (v := (b2i r8)) hx hb hr (nb2i _) (fun t ht hW => ⟨⟨(b2i r8), u9, rfl, ⟨rfl, rfl⟩, by rw [ht]; exact hP, va_K.moved hW.alike hK, hD⟩, hS.F ht⟩) hS.2.2 dX1_take_113
      · have hF := F_neg c7 hF
        by_cases c11 : (g_Reader_state S) = (2 : Int32)
        · have hF := F_pos c11 hF
          refine lv_tableIn (tgt := 114) hx hb dX1_take_20 (by rw [c11]; decide) (by rw [c11]; decide) (by rw [c11] <;> rfl) (by decide) ?_
          refine lv_aload_n hx hb dX1_take_114 rfl (lv_at hl 0 rfl) ?_
          refine lv_iload_n hx hb dX1_take_115 rfl (lv_at hl 1 rfl) ?_
          obtain ⟨r12, u13, h14, hF⟩ := ob2_some hF
          have hPc : va_P (dC, dI) vwCl ((W_Reader cI a S)) H := hP
          have hDc : va_D A ((W_Reader cI a S)) := hD
          have hFc := jFreeW (ws := (W_Reader cI a S)) hD hS hA
          refine va_calli (va_runV (As := [.int v1]) (rest := []) ⟨hx, hb, hml, hown, hts⟩ (c_X1_takeValue l dC dI cI a H.size _ _ _ _ h14) (cwV 1 hts gX1_take_X1_takeValue rfl rfl rfl (by decide +kernel) ⟨Nat.le_of_ble_eq_true rfl, Nat.le_of_ble_eq_true rfl⟩) (jPreV hK hPc hDc hN (ci := 1) rfl rfl) rfl rfl hl.1 rfl (lv_room (Nat.le_of_ble_eq_true rfl)) dX1_take_116 ⟨Nat.le_of_ble_eq_true rfl, Nat.le_of_ble_eq_true rfl⟩) hS (fun q _ h => hFc q h) hFc (fun r' u' t H locs ht hvm hw hB hz1 hk1 hS => ?_)
          obtain ⟨e1, e2⟩ := hw
          subst e1
          subst e2
          obtain ⟨hP1, -, hD1⟩ := hB
          rw [ht] at hP1
          have hP : va_P (dC, dI) vwCl ((W_Reader cI a u13)) H := hP1
          have hD : va_D A ((W_Reader cI a u13)) := hD1.weaken (fun _ _ _ h => hFc _ h)
          have e50 := Option.some.inj hF
          obtain ⟨e60, e51⟩ := Prod.mk.inj e50
          subst e60
          subst e51
          exact W.zret (v := (b2i r12)) hx hb hr (nb2i _) (fun t ht hW => ⟨⟨(b2i r12), u13, rfl, ⟨rfl, rfl⟩, by rw [ht]; exact hP, va_K.moved hW.alike hK, hD⟩, hS.F ht⟩) hS.2.2 dX1_take_119
        · have hF := F_neg c11 hF
          by_cases c15 : (g_Reader_state S) = (3 : Int32)
          · have hF := F_pos c15 hF
            refine lv_tableIn (tgt := 120) hx hb dX1_take_20 (by rw [c15]; decide) (by rw [c15]; decide) (by rw [c15] <;> rfl) (by decide) ?_
            refine lv_iload_n hx hb dX1_take_120 rfl (lv_at hl 1 rfl) ?_
            refine lv_bipush (v := (93 : Int32)) hx hb dX1_take_121 (by decide) ?_
            refine lv_icmp_ne (tgt := 133) hx hb dX1_take_123 (by decide) (fun c16 => ?_) (fun c16 => ?_)
            · have hF := F_neg c16 hF
              refine lv_aload_n hx hb dX1_take_133 rfl (lv_at hl 0 rfl) ?_
              refine lv_iload_n hx hb dX1_take_134 rfl (lv_at hl 1 rfl) ?_
              obtain ⟨r17, u18, h19, hF⟩ := ob2_some hF
              have hPc : va_P (dC, dI) vwCl ((W_Reader cI a S)) H := hP
              have hDc : va_D A ((W_Reader cI a S)) := hD
              have hFc := jFreeW (ws := (W_Reader cI a S)) hD hS hA
              refine va_calli (va_runV (As := [.int v1]) (rest := []) ⟨hx, hb, hml, hown, hts⟩ (c_X1_takeValue l dC dI cI a H.size _ _ _ _ h19) (cwV 1 hts gX1_take_X1_takeValue rfl rfl rfl (by decide +kernel) ⟨Nat.le_of_ble_eq_true rfl, Nat.le_of_ble_eq_true rfl⟩) (jPreV hK hPc hDc hN (ci := 1) rfl rfl) rfl rfl hl.1 rfl (lv_room (Nat.le_of_ble_eq_true rfl)) dX1_take_135 ⟨Nat.le_of_ble_eq_true rfl, Nat.le_of_ble_eq_true rfl⟩) hS (fun q _ h => hFc q h) hFc (fun r' u' t H locs ht hvm hw hB hz1 hk1 hS => ?_)
              obtain ⟨e1, e2⟩ := hw
              subst e1
              subst e2
              obtain ⟨hP1, -, hD1⟩ := hB
              rw [ht] at hP1
              have hP : va_P (dC, dI) vwCl ((W_Reader cI a u18)) H := hP1
              have hD : va_D A ((W_Reader cI a u18)) := hD1.weaken (fun _ _ _ h => hFc _ h)
              have e50 := Option.some.inj hF
              obtain ⟨e60, e51⟩ := Prod.mk.inj e50
              subst e60
              subst e51
              exact W.zret (v := (b2i r17)) hx hb hr (nb2i _) (fun t ht hW => ⟨⟨(b2i r17), u18, rfl, ⟨rfl, rfl⟩, by rw [ht]; exact hP, va_K.moved hW.alike hK, hD⟩, hS.F ht⟩) hS.2.2 dX1_take_138
            · have hF := F_pos c16 hF
              refine lv_aload_n hx hb dX1_take_126 rfl (lv_at hl 0 rfl) ?_
              obtain ⟨r20, u21, h22, hF⟩ := ob2_some hF
              have hPc : va_P (dC, dI) vwCl ((W_Reader cI a S)) H := hP
              have hDc : va_D A ((W_Reader cI a S)) := hD
              have hFc := jFreeW (ws := (W_Reader cI a S)) hD hS hA
              refine va_calli (va_runV (As := []) (rest := []) ⟨hx, hb, hml, hown, hts⟩ (c_X1_closeValue l dC dI cI a H.size _ _ _ h22) (cwV 0 hts gX1_take_X1_closeValue rfl rfl rfl (by decide +kernel) ⟨Nat.le_of_ble_eq_true rfl, Nat.le_of_ble_eq_true rfl⟩) (jPreV hK hPc hDc hN (ci := 1) rfl rfl) rfl rfl hl.1 rfl (lv_room (Nat.le_of_ble_eq_true rfl)) dX1_take_127 ⟨Nat.le_of_ble_eq_true rfl, Nat.le_of_ble_eq_true rfl⟩) hS (fun q _ h => hFc q h) hFc (fun r' u' t H locs ht hvm hw hB hz1 hk1 hS => ?_)
              obtain ⟨e1, e2⟩ := hw
              subst e1
              subst e2
              obtain ⟨hP1, -, hD1⟩ := hB
              rw [ht] at hP1
              have hP : va_P (dC, dI) vwCl ((W_Reader cI a u21)) H := hP1
              have hD : va_D A ((W_Reader cI a u21)) := hD1.weaken (fun _ _ _ h => hFc _ h)
              refine lv_goto (tgt := 138) hx hb dX1_take_130 (by decide) ?_
              have e50 := Option.some.inj hF
              obtain ⟨e60, e51⟩ := Prod.mk.inj e50
              subst e60
              subst e51
              exact W.zret (v := (b2i r20)) hx hb hr (nb2i _) (fun t ht hW => ⟨⟨(b2i r20), u21, rfl, ⟨rfl, rfl⟩, by rw [ht]; exact hP, va_K.moved hW.alike hK, hD⟩, hS.F ht⟩) hS.2.2 dX1_take_138
          · have hF := F_neg c15 hF
            by_cases c23 : (g_Reader_state S) = (4 : Int32)
            · have hF := F_pos c23 hF
              refine lv_tableIn (tgt := 139) hx hb dX1_take_20 (by rw [c23]; decide) (by rw [c23]; decide) (by rw [c23] <;> rfl) (by decide) ?_
              refine lv_iload_n hx hb dX1_take_139 rfl (lv_at hl 1 rfl) ?_
              refine lv_bipush (v := (93 : Int32)) hx hb dX1_take_140 (by decide) ?_
              refine lv_icmp_ne (tgt := 152) hx hb dX1_take_142 (by decide) (fun c24 => ?_) (fun c24 => ?_)
              · have hF := F_neg c24 hF
                refine lv_aload_n hx hb dX1_take_152 rfl (lv_at hl 0 rfl) ?_
                refine lv_iload_n hx hb dX1_take_153 rfl (lv_at hl 1 rfl) ?_
                obtain ⟨r25, u26, h27, hF⟩ := ob2_some hF
                have hPc : va_P (dC, dI) vwCl ((W_Reader cI a S)) H := hP
                have hDc : va_D A ((W_Reader cI a S)) := hD
                have hFc := jFreeW (ws := (W_Reader cI a S)) hD hS hA
                refine va_calli (va_runV (As := [.int v1]) (rest := []) ⟨hx, hb, hml, hown, hts⟩ (c_X1_takeComma l dC dI cI a H.size _ _ _ _ h27) (cwV 1 hts gX1_take_X1_takeComma rfl rfl rfl (by decide +kernel) ⟨Nat.le_of_ble_eq_true rfl, Nat.le_of_ble_eq_true rfl⟩) (jPreV hK hPc hDc hN (ci := 1) rfl rfl) rfl rfl hl.1 rfl (lv_room (Nat.le_of_ble_eq_true rfl)) dX1_take_154 ⟨Nat.le_of_ble_eq_true rfl, Nat.le_of_ble_eq_true rfl⟩) hS (fun q _ h => hFc q h) hFc (fun r' u' t H locs ht hvm hw hB hz1 hk1 hS => ?_)
                obtain ⟨e1, e2⟩ := hw
                subst e1
                subst e2
                obtain ⟨hP1, -, hD1⟩ := hB
                rw [ht] at hP1
                have hP : va_P (dC, dI) vwCl ((W_Reader cI a u26)) H := hP1
                have hD : va_D A ((W_Reader cI a u26)) := hD1.weaken (fun _ _ _ h => hFc _ h)
                have e50 := Option.some.inj hF
                obtain ⟨e60, e51⟩ := Prod.mk.inj e50
                subst e60
                subst e51
                exact W.zret (v := (b2i r25)) hx hb hr (nb2i _) (fun t ht hW => ⟨⟨(b2i r25), u26, rfl, ⟨rfl, rfl⟩, by rw [ht]; exact hP, va_K.moved hW.alike hK, hD⟩, hS.F ht⟩) hS.2.2 dX1_take_157
              · have hF := F_pos c24 hF
                refine lv_aload_n hx hb dX1_take_145 rfl (lv_at hl 0 rfl) ?_
                obtain ⟨r28, u29, h30, hF⟩ := ob2_some hF
                have hPc : va_P (dC, dI) vwCl ((W_Reader cI a S)) H := hP
                have hDc : va_D A ((W_Reader cI a S)) := hD
                have hFc := jFreeW (ws := (W_Reader cI a S)) hD hS hA
                refine va_calli (va_runV (As := []) (rest := []) ⟨hx, hb, hml, hown, hts⟩ (c_X1_closeValue l dC dI cI a H.size _ _ _ h30) (cwV 0 hts gX1_take_X1_closeValue rfl rfl rfl (by decide +kernel) ⟨Nat.le_of_ble_eq_true rfl, Nat.le_of_ble_eq_true rfl⟩) (jPreV hK hPc hDc hN (ci := 1) rfl rfl) rfl rfl hl.1 rfl (lv_room (Nat.le_of_ble_eq_true rfl)) dX1_take_146 ⟨Nat.le_of_ble_eq_true rfl, Nat.le_of_ble_eq_true rfl⟩) hS (fun q _ h => hFc q h) hFc (fun r' u' t H locs ht hvm hw hB hz1 hk1 hS => ?_)
                obtain ⟨e1, e2⟩ := hw
                subst e1
                subst e2
                obtain ⟨hP1, -, hD1⟩ := hB
                rw [ht] at hP1
                have hP : va_P (dC, dI) vwCl ((W_Reader cI a u29)) H := hP1
                have hD : va_D A ((W_Reader cI a u29)) := hD1.weaken (fun _ _ _ h => hFc _ h)
                refine lv_goto (tgt := 157) hx hb dX1_take_149 (by decide) ?_
                have e50 := Option.some.inj hF
                obtain ⟨e60, e51⟩ := Prod.mk.inj e50
                subst e60
                subst e51
                exact W.zret (v := (b2i r28)) hx hb hr (nb2i _) (fun t ht hW => ⟨⟨(b2i r28), u29, rfl, ⟨rfl, rfl⟩, by rw [ht]; exact hP, va_K.moved hW.alike hK, hD⟩, hS.F ht⟩) hS.2.2 dX1_take_157
            · have hF := F_neg c23 hF
              by_cases c31 : (g_Reader_state S) = (5 : Int32)
              · have hF := F_pos c31 hF
                refine lv_tableIn (tgt := 166) hx hb dX1_take_20 (by rw [c31]; decide) (by rw [c31]; decide) (by rw [c31] <;> rfl) (by decide) ?_
                refine lv_aload_n hx hb dX1_take_166 rfl (lv_at hl 0 rfl) ?_
                refine lv_iload_n hx hb dX1_take_167 rfl (lv_at hl 1 rfl) ?_
                obtain ⟨r32, u33, h34, hF⟩ := ob2_some hF
                have hPc : va_P (dC, dI) vwCl ((W_Reader cI a S)) H := hP
                have hDc : va_D A ((W_Reader cI a S)) := hD
                have hFc := jFreeW (ws := (W_Reader cI a S)) hD hS hA
                refine va_calli (va_runV (As := [.int v1]) (rest := []) ⟨hx, hb, hml, hown, hts⟩ (c_X1_takeInNumber l dC dI cI a H.size _ _ _ _ h34) (cwV 1 hts gX1_take_X1_takeInNumber rfl rfl rfl (by decide +kernel) ⟨Nat.le_of_ble_eq_true rfl, Nat.le_of_ble_eq_true rfl⟩) (jPreV hK hPc hDc hN (ci := 1) rfl rfl) rfl rfl hl.1 rfl (lv_room (Nat.le_of_ble_eq_true rfl)) dX1_take_168 ⟨Nat.le_of_ble_eq_true rfl, Nat.le_of_ble_eq_true rfl⟩) hS (fun q _ h => hFc q h) hFc (fun r' u' t H locs ht hvm hw hB hz1 hk1 hS => ?_)
                obtain ⟨e1, e2⟩ := hw
                subst e1
                subst e2
                obtain ⟨hP1, -, hD1⟩ := hB
                rw [ht] at hP1
                have hP : va_P (dC, dI) vwCl ((W_Reader cI a u33)) H := hP1
                have hD : va_D A ((W_Reader cI a u33)) := hD1.weaken (fun _ _ _ h => hFc _ h)
                have e50 := Option.some.inj hF
                obtain ⟨e60, e51⟩ := Prod.mk.inj e50
                subst e60
                subst e51
                exact W.zret (v := (b2i r32)) hx hb hr (nb2i _) (fun t ht hW => ⟨⟨(b2i r32), u33, rfl, ⟨rfl, rfl⟩, by rw [ht]; exact hP, va_K.moved hW.alike hK, hD⟩, hS.F ht⟩) hS.2.2 dX1_take_171
              · have hF := F_neg c31 hF
                by_cases c35 : (g_Reader_state S) = (6 : Int32)
                · have hF := F_pos c35 hF
                  refine lv_tableIn (tgt := 166) hx hb dX1_take_20 (by rw [c35]; decide) (by rw [c35]; decide) (by rw [c35] <;> rfl) (by decide) ?_
                  refine lv_aload_n hx hb dX1_take_166 rfl (lv_at hl 0 rfl) ?_
                  refine lv_iload_n hx hb dX1_take_167 rfl (lv_at hl 1 rfl) ?_
                  obtain ⟨r36, u37, h38, hF⟩ := ob2_some hF
                  have hPc : va_P (dC, dI) vwCl ((W_Reader cI a S)) H := hP
                  have hDc : va_D A ((W_Reader cI a S)) := hD
                  have hFc := jFreeW (ws := (W_Reader cI a S)) hD hS hA
                  refine va_calli (va_runV (As := [.int v1]) (rest := []) ⟨hx, hb, hml, hown, hts⟩ (c_X1_takeInNumber l dC dI cI a H.size _ _ _ _ h38) (cwV 1 hts gX1_take_X1_takeInNumber rfl rfl rfl (by decide +kernel) ⟨Nat.le_of_ble_eq_true rfl, Nat.le_of_ble_eq_true rfl⟩) (jPreV hK hPc hDc hN (ci := 1) rfl rfl) rfl rfl hl.1 rfl (lv_room (Nat.le_of_ble_eq_true rfl)) dX1_take_168 ⟨Nat.le_of_ble_eq_true rfl, Nat.le_of_ble_eq_true rfl⟩) hS (fun q _ h => hFc q h) hFc (fun r' u' t H locs ht hvm hw hB hz1 hk1 hS => ?_)
                  obtain ⟨e1, e2⟩ := hw
                  subst e1
                  subst e2
                  obtain ⟨hP1, -, hD1⟩ := hB
                  rw [ht] at hP1
                  have hP : va_P (dC, dI) vwCl ((W_Reader cI a u37)) H := hP1
                  have hD : va_D A ((W_Reader cI a u37)) := hD1.weaken (fun _ _ _ h => hFc _ h)
                  have e50 := Option.some.inj hF
                  obtain ⟨e60, e51⟩ := Prod.mk.inj e50
                  subst e60
                  subst e51
                  exact W.zret (v := (b2i r36)) hx hb hr (nb2i _) (fun t ht hW => ⟨⟨(b2i r36), u37, rfl, ⟨rfl, rfl⟩, by rw [ht]; exact hP, va_K.moved hW.alike hK, hD⟩, hS.F ht⟩) hS.2.2 dX1_take_171
                · have hF := F_neg c35 hF
                  by_cases c39 : (g_Reader_state S) = (7 : Int32)
                  · have hF := F_pos c39 hF
                    refine lv_tableIn (tgt := 166) hx hb dX1_take_20 (by rw [c39]; decide) (by rw [c39]; decide) (by rw [c39] <;> rfl) (by decide) ?_
                    refine lv_aload_n hx hb dX1_take_166 rfl (lv_at hl 0 rfl) ?_
                    refine lv_iload_n hx hb dX1_take_167 rfl (lv_at hl 1 rfl) ?_
                    obtain ⟨r40, u41, h42, hF⟩ := ob2_some hF
                    have hPc : va_P (dC, dI) vwCl ((W_Reader cI a S)) H := hP
                    have hDc : va_D A ((W_Reader cI a S)) := hD
                    have hFc := jFreeW (ws := (W_Reader cI a S)) hD hS hA
                    refine va_calli (va_runV (As := [.int v1]) (rest := []) ⟨hx, hb, hml, hown, hts⟩ (c_X1_takeInNumber l dC dI cI a H.size _ _ _ _ h42) (cwV 1 hts gX1_take_X1_takeInNumber rfl rfl rfl (by decide +kernel) ⟨Nat.le_of_ble_eq_true rfl, Nat.le_of_ble_eq_true rfl⟩) (jPreV hK hPc hDc hN (ci := 1) rfl rfl) rfl rfl hl.1 rfl (lv_room (Nat.le_of_ble_eq_true rfl)) dX1_take_168 ⟨Nat.le_of_ble_eq_true rfl, Nat.le_of_ble_eq_true rfl⟩) hS (fun q _ h => hFc q h) hFc (fun r' u' t H locs ht hvm hw hB hz1 hk1 hS => ?_)
                    obtain ⟨e1, e2⟩ := hw
                    subst e1
                    subst e2
                    obtain ⟨hP1, -, hD1⟩ := hB
                    rw [ht] at hP1
                    have hP : va_P (dC, dI) vwCl ((W_Reader cI a u41)) H := hP1
                    have hD : va_D A ((W_Reader cI a u41)) := hD1.weaken (fun _ _ _ h => hFc _ h)
                    have e50 := Option.some.inj hF
                    obtain ⟨e60, e51⟩ := Prod.mk.inj e50
                    subst e60
                    subst e51
                    exact W.zret (v := (b2i r40)) hx hb hr (nb2i _) (fun t ht hW => ⟨⟨(b2i r40), u41, rfl, ⟨rfl, rfl⟩, by rw [ht]; exact hP, va_K.moved hW.alike hK, hD⟩, hS.F ht⟩) hS.2.2 dX1_take_171
                  · have hF := F_neg c39 hF
                    by_cases c43 : (g_Reader_state S) = (8 : Int32)
                    · have hF := F_pos c43 hF
                      refine lv_tableIn (tgt := 166) hx hb dX1_take_20 (by rw [c43]; decide) (by rw [c43]; decide) (by rw [c43] <;> rfl) (by decide) ?_
                      refine lv_aload_n hx hb dX1_take_166 rfl (lv_at hl 0 rfl) ?_
                      refine lv_iload_n hx hb dX1_take_167 rfl (lv_at hl 1 rfl) ?_
                      obtain ⟨r44, u45, h46, hF⟩ := ob2_some hF
                      have hPc : va_P (dC, dI) vwCl ((W_Reader cI a S)) H := hP
                      have hDc : va_D A ((W_Reader cI a S)) := hD
                      have hFc := jFreeW (ws := (W_Reader cI a S)) hD hS hA
                      refine va_calli (va_runV (As := [.int v1]) (rest := []) ⟨hx, hb, hml, hown, hts⟩ (c_X1_takeInNumber l dC dI cI a H.size _ _ _ _ h46) (cwV 1 hts gX1_take_X1_takeInNumber rfl rfl rfl (by decide +kernel) ⟨Nat.le_of_ble_eq_true rfl, Nat.le_of_ble_eq_true rfl⟩) (jPreV hK hPc hDc hN (ci := 1) rfl rfl) rfl rfl hl.1 rfl (lv_room (Nat.le_of_ble_eq_true rfl)) dX1_take_168 ⟨Nat.le_of_ble_eq_true rfl, Nat.le_of_ble_eq_true rfl⟩) hS (fun q _ h => hFc q h) hFc (fun r' u' t H locs ht hvm hw hB hz1 hk1 hS => ?_)
                      obtain ⟨e1, e2⟩ := hw
                      subst e1
                      subst e2
                      obtain ⟨hP1, -, hD1⟩ := hB
                      rw [ht] at hP1
                      have hP : va_P (dC, dI) vwCl ((W_Reader cI a u45)) H := hP1
                      have hD : va_D A ((W_Reader cI a u45)) := hD1.weaken (fun _ _ _ h => hFc _ h)
                      have e50 := Option.some.inj hF
                      obtain ⟨e60, e51⟩ := Prod.mk.inj e50
                      subst e60
                      subst e51
                      exact W.zret (v := (b2i r44)) hx hb hr (nb2i _) (fun t ht hW => ⟨⟨(b2i r44), u45, rfl, ⟨rfl, rfl⟩, by rw [ht]; exact hP, va_K.moved hW.alike hK, hD⟩, hS.F ht⟩) hS.2.2 dX1_take_171
                    · have hF := F_neg c43 hF
                      by_cases c47 : (g_Reader_state S) = (9 : Int32)
                      · have hF := F_pos c47 hF
                        refine lv_tableIn (tgt := 166) hx hb dX1_take_20 (by rw [c47]; decide) (by rw [c47]; decide) (by rw [c47] <;> rfl) (by decide) ?_
                        refine lv_aload_n hx hb dX1_take_166 rfl (lv_at hl 0 rfl) ?_
                        refine lv_iload_n hx hb dX1_take_167 rfl (lv_at hl 1 rfl) ?_
                        obtain ⟨r48, u49, h50, hF⟩ := ob2_some hF
                        have hPc : va_P (dC, dI) vwCl ((W_Reader cI a S)) H := hP
                        have hDc : va_D A ((W_Reader cI a S)) := hD
                        have hFc := jFreeW (ws := (W_Reader cI a S)) hD hS hA
                        refine va_calli (va_runV (As := [.int v1]) (rest := []) ⟨hx, hb, hml, hown, hts⟩ (c_X1_takeInNumber l dC dI cI a H.size _ _ _ _ h50) (cwV 1 hts gX1_take_X1_takeInNumber rfl rfl rfl (by decide +kernel) ⟨Nat.le_of_ble_eq_true rfl, Nat.le_of_ble_eq_true rfl⟩) (jPreV hK hPc hDc hN (ci := 1) rfl rfl) rfl rfl hl.1 rfl (lv_room (Nat.le_of_ble_eq_true rfl)) dX1_take_168 ⟨Nat.le_of_ble_eq_true rfl, Nat.le_of_ble_eq_true rfl⟩) hS (fun q _ h => hFc q h) hFc (fun r' u' t H locs ht hvm hw hB hz1 hk1 hS => ?_)
                        obtain ⟨e1, e2⟩ := hw
                        subst e1
                        subst e2
                        obtain ⟨hP1, -, hD1⟩ := hB
                        rw [ht] at hP1
                        have hP : va_P (dC, dI) vwCl ((W_Reader cI a u49)) H := hP1
                        have hD : va_D A ((W_Reader cI a u49)) := hD1.weaken (fun _ _ _ h => hFc _ h)
                        have e50 := Option.some.inj hF
                        obtain ⟨e60, e51⟩ := Prod.mk.inj e50
                        subst e60
                        subst e51
                        exact W.zret (v := (b2i r48)) hx hb hr (nb2i _) (fun t ht hW => ⟨⟨(b2i r48), u49, rfl, ⟨rfl, rfl⟩, by rw [ht]; exact hP, va_K.moved hW.alike hK, hD⟩, hS.F ht⟩) hS.2.2 dX1_take_171
                      · have hF := F_neg c47 hF
                        by_cases c51 : (g_Reader_state S) = (10 : Int32)
                        · have hF := F_pos c51 hF
                          refine lv_tableIn (tgt := 166) hx hb dX1_take_20 (by rw [c51]; decide) (by rw [c51]; decide) (by rw [c51] <;> rfl) (by decide) ?_
                          refine lv_aload_n hx hb dX1_take_166 rfl (lv_at hl 0 rfl) ?_
                          refine lv_iload_n hx hb dX1_take_167 rfl (lv_at hl 1 rfl) ?_
                          obtain ⟨r52, u53, h54, hF⟩ := ob2_some hF
                          have hPc : va_P (dC, dI) vwCl ((W_Reader cI a S)) H := hP
                          have hDc : va_D A ((W_Reader cI a S)) := hD
                          have hFc := jFreeW (ws := (W_Reader cI a S)) hD hS hA
                          refine va_calli (va_runV (As := [.int v1]) (rest := []) ⟨hx, hb, hml, hown, hts⟩ (c_X1_takeInNumber l dC dI cI a H.size _ _ _ _ h54) (cwV 1 hts gX1_take_X1_takeInNumber rfl rfl rfl (by decide +kernel) ⟨Nat.le_of_ble_eq_true rfl, Nat.le_of_ble_eq_true rfl⟩) (jPreV hK hPc hDc hN (ci := 1) rfl rfl) rfl rfl hl.1 rfl (lv_room (Nat.le_of_ble_eq_true rfl)) dX1_take_168 ⟨Nat.le_of_ble_eq_true rfl, Nat.le_of_ble_eq_true rfl⟩) hS (fun q _ h => hFc q h) hFc (fun r' u' t H locs ht hvm hw hB hz1 hk1 hS => ?_)
                          obtain ⟨e1, e2⟩ := hw
                          subst e1
                          subst e2
                          obtain ⟨hP1, -, hD1⟩ := hB
                          rw [ht] at hP1
                          have hP : va_P (dC, dI) vwCl ((W_Reader cI a u53)) H := hP1
                          have hD : va_D A ((W_Reader cI a u53)) := hD1.weaken (fun _ _ _ h => hFc _ h)
                          have e50 := Option.some.inj hF
                          obtain ⟨e60, e51⟩ := Prod.mk.inj e50
                          subst e60
                          subst e51
                          exact W.zret (v := (b2i r52)) hx hb hr (nb2i _) (fun t ht hW => ⟨⟨(b2i r52), u53, rfl, ⟨rfl, rfl⟩, by rw [ht]; exact hP, va_K.moved hW.alike hK, hD⟩, hS.F ht⟩) hS.2.2 dX1_take_171
                        · have hF := F_neg c51 hF
                          by_cases c55 : (g_Reader_state S) = (11 : Int32)
                          · have hF := F_pos c55 hF
                            refine lv_tableIn (tgt := 158) hx hb dX1_take_20 (by rw [c55]; decide) (by rw [c55]; decide) (by rw [c55] <;> rfl) (by decide) ?_
                            refine lv_aload_n hx hb dX1_take_158 rfl (lv_at hl 0 rfl) ?_
                            refine lv_iload_n hx hb dX1_take_159 rfl (lv_at hl 1 rfl) ?_
                            obtain ⟨r56, u57, h58, hF⟩ := ob2_some hF
                            have hPc : va_P (dC, dI) vwCl ((W_Reader cI a S)) H := hP
                            have hDc : va_D A ((W_Reader cI a S)) := hD
                            have hFc := jFreeW (ws := (W_Reader cI a S)) hD hS hA
                            refine va_calli (va_runV (As := [.int v1]) (rest := []) ⟨hx, hb, hml, hown, hts⟩ (c_X1_takeInWord l dC dI cI a H.size _ _ _ _ h58) (cwV 1 hts gX1_take_X1_takeInWord rfl rfl rfl (by decide +kernel) ⟨Nat.le_of_ble_eq_true rfl, Nat.le_of_ble_eq_true rfl⟩) (jPreV hK hPc hDc hN (ci := 1) rfl rfl) rfl rfl hl.1 rfl (lv_room (Nat.le_of_ble_eq_true rfl)) dX1_take_160 ⟨Nat.le_of_ble_eq_true rfl, Nat.le_of_ble_eq_true rfl⟩) hS (fun q _ h => hFc q h) hFc (fun r' u' t H locs ht hvm hw hB hz1 hk1 hS => ?_)
                            obtain ⟨e1, e2⟩ := hw
                            subst e1
                            subst e2
                            obtain ⟨hP1, -, hD1⟩ := hB
                            rw [ht] at hP1
                            have hP : va_P (dC, dI) vwCl ((W_Reader cI a u57)) H := hP1
                            have hD : va_D A ((W_Reader cI a u57)) := hD1.weaken (fun _ _ _ h => hFc _ h)
                            have e50 := Option.some.inj hF
                            obtain ⟨e60, e51⟩ := Prod.mk.inj e50
                            subst e60
                            subst e51
                            exact W.zret (v := (b2i r56)) hx hb hr (nb2i _) (fun t ht hW => ⟨⟨(b2i r56), u57, rfl, ⟨rfl, rfl⟩, by rw [ht]; exact hP, va_K.moved hW.alike hK, hD⟩, hS.F ht⟩) hS.2.2 dX1_take_163
                          · have hF := F_neg c55 hF
                            by_cases c59 : (g_Reader_state S) = (12 : Int32)
                            · have hF := F_pos c59 hF
                              refine lv_tableIn (tgt := 164) hx hb dX1_take_20 (by rw [c59]; decide) (by rw [c59]; decide) (by rw [c59] <;> rfl) (by decide) ?_
                              refine lv_iconst (v := (0 : Int32)) hx hb dX1_take_164 (by decide) ?_
                              have e50 := Option.some.inj hF
                              obtain ⟨e60, e51⟩ := Prod.mk.inj e50
                              subst e60
                              subst e51
                              exact W.zret (v := (0 : Int32)) hx hb hr (rfl) (fun t ht hW => ⟨⟨(0 : Int32), S, rfl, ⟨rfl, rfl⟩, by rw [ht]; exact hP, va_K.moved hW.alike hK, hD⟩, hS.F ht⟩) hS.2.2 dX1_take_165
                            · have hF := F_neg c59 hF
                              refine lv_tableOut (tgt := 166) hx hb dX1_take_20 (sw_out 0 12 (by decide) (fun k hk1 hk2 => ?_)) (by decide) ?_
                              · rcases (show k = 0 ∨ k = 1 ∨ k = 2 ∨ k = 3 ∨ k = 4 ∨ k = 5 ∨ k = 6 ∨ k = 7 ∨ k = 8 ∨ k = 9 ∨ k = 10 ∨ k = 11 ∨ k = 12 by omega) with rfl | rfl | rfl | rfl | rfl | rfl | rfl | rfl | rfl | rfl | rfl | rfl | rfl
                                · exact lv_neT c1 rfl
                                · exact lv_neT c7 rfl
                                · exact lv_neT c11 rfl
                                · exact lv_neT c15 rfl
                                · exact lv_neT c23 rfl
                                · exact lv_neT c31 rfl
                                · exact lv_neT c35 rfl
                                · exact lv_neT c39 rfl
                                · exact lv_neT c43 rfl
                                · exact lv_neT c47 rfl
                                · exact lv_neT c51 rfl
                                · exact lv_neT c55 rfl
                                · exact lv_neT c59 rfl
                              refine lv_aload_n hx hb dX1_take_166 rfl (lv_at hl 0 rfl) ?_
                              refine lv_iload_n hx hb dX1_take_167 rfl (lv_at hl 1 rfl) ?_
                              obtain ⟨r60, u61, h62, hF⟩ := ob2_some hF
                              have hPc : va_P (dC, dI) vwCl ((W_Reader cI a S)) H := hP
                              have hDc : va_D A ((W_Reader cI a S)) := hD
                              have hFc := jFreeW (ws := (W_Reader cI a S)) hD hS hA
                              refine va_calli (va_runV (As := [.int v1]) (rest := []) ⟨hx, hb, hml, hown, hts⟩ (c_X1_takeInNumber l dC dI cI a H.size _ _ _ _ h62) (cwV 1 hts gX1_take_X1_takeInNumber rfl rfl rfl (by decide +kernel) ⟨Nat.le_of_ble_eq_true rfl, Nat.le_of_ble_eq_true rfl⟩) (jPreV hK hPc hDc hN (ci := 1) rfl rfl) rfl rfl hl.1 rfl (lv_room (Nat.le_of_ble_eq_true rfl)) dX1_take_168 ⟨Nat.le_of_ble_eq_true rfl, Nat.le_of_ble_eq_true rfl⟩) hS (fun q _ h => hFc q h) hFc (fun r' u' t H locs ht hvm hw hB hz1 hk1 hS => ?_)
                              obtain ⟨e1, e2⟩ := hw
                              subst e1
                              subst e2
                              obtain ⟨hP1, -, hD1⟩ := hB
                              rw [ht] at hP1
                              have hP : va_P (dC, dI) vwCl ((W_Reader cI a u61)) H := hP1
                              have hD : va_D A ((W_Reader cI a u61)) := hD1.weaken (fun _ _ _ h => hFc _ h)
                              have e50 := Option.some.inj hF
                              obtain ⟨e60, e51⟩ := Prod.mk.inj e50
                              subst e60
                              subst e51
                              exact W.zret (v := (b2i r60)) hx hb hr (nb2i _) (fun t ht hW => ⟨⟨(b2i r60), u61, rfl, ⟨rfl, rfl⟩, by rw [ht]; exact hP, va_K.moved hW.alike hK, hD⟩, hS.F ht⟩) hS.2.2 dX1_take_171
  have KE : ∀ (H : Heap) (locs : List Loc), va_P (dC, dI) vwCl ((W_Reader cI a S)) H → va_D A ((W_Reader cI a S)) → va_S A s.heap H locs → W p l e (headSpec wsX1_take ({ frames := 4, cells := 0, slots := 0, locals := 95 } : Room)).room s m ([.ref (a 0), .int v1] : List Value).toArray below meth c H locs 0 0 (MQ below (va_Qi (fun (r' : Int32) (u : S_Reader) => b2i rr = r' ∧ Y = u) (fun u : S_Reader => jB (dC, dI) [(cI, .int)] A ((W_Reader cI a u))) A) ([.ref (a 0), .int v1] : List Value).toArray s 0 0 A) (F0 m 0 ls []) := by
    intro H locs hP hD hS
    unfold F_X1_take at hF
    refine lv_aload_n hx hb dX1_take_0 rfl (lv_at hl 0 rfl) ?_
    refine lv_iload_n hx hb dX1_take_1 rfl (lv_at hl 1 rfl) ?_
    obtain ⟨r63, h64, hF⟩ := ob1_some hF
    have hPc : va_P (dC, dI) vwCl ((W_Reader cI a S)) H := hP
    have hDc : va_D A ((W_Reader cI a S)) := hD
    have hFc := jFreeW (ws := (W_Reader cI a S)) hD hS hA
    refine va_calli (va_runV (As := [.int v1]) (rest := []) ⟨hx, hb, hml, hown, hts⟩ (c_X1_endsNumber l dC dI cI a H.size _ _ _ h64) (cwV 1 hts gX1_take_X1_endsNumber rfl rfl rfl (by decide +kernel) ⟨Nat.le_of_ble_eq_true rfl, Nat.le_of_ble_eq_true rfl⟩) (jPreV hK hPc hDc hN (ci := 1) rfl rfl) rfl rfl hl.1 rfl (lv_room (Nat.le_of_ble_eq_true rfl)) dX1_take_2 ⟨Nat.le_of_ble_eq_true rfl, Nat.le_of_ble_eq_true rfl⟩) hS (fun q _ h => hFc q h) hFc (fun r' u' t H locs ht hvm hw hB hz1 hk1 hS => ?_)
    subst hw
    obtain ⟨hP1, -, hD1⟩ := hB
    rw [ht] at hP1
    have hP : va_P (dC, dI) vwCl ((W_Reader cI a S)) H := hP1
    have hD : va_D A ((W_Reader cI a S)) := hD1.weaken (fun _ _ _ h => hFc _ h)
    refine lv_if_eq (tgt := 16) hx hb dX1_take_5 (by decide) (fun c65 => ?_) (fun c65 => ?_)
    · have hF := F_pos c65 hF
      exact K16 _ _ _ hF hP hD hS _ (lv_sub hl [0, 1] rfl)
    · have hF := F_neg c65 hF
      refine lv_aload_n hx hb dX1_take_8 rfl (lv_at hl 0 rfl) ?_
      refine lv_aload_n hx hb dX1_take_9 rfl (lv_at hl 0 rfl) ?_
      obtain ⟨r66, h67, hF⟩ := ob1_some hF
      have hPc : va_P (dC, dI) vwCl ((W_Reader cI a S)) H := hP
      have hDc : va_D A ((W_Reader cI a S)) := hD
      have hFc := jFreeW (ws := (W_Reader cI a S)) hD hS hA
      refine va_calli (va_runV (As := []) (rest := [.ref (a 0)]) ⟨hx, hb, hml, hown, hts⟩ (c_X1_stateBehindValue l dC dI cI a H.size _ _ h67) (cwV 0 hts gX1_take_X1_stateBehindValue rfl rfl rfl (by decide +kernel) ⟨Nat.le_of_ble_eq_true rfl, Nat.le_of_ble_eq_true rfl⟩) (jPreV hK hPc hDc hN (ci := 1) rfl rfl) rfl rfl hl.1 rfl (lv_room (Nat.le_of_ble_eq_true rfl)) dX1_take_10 ⟨Nat.le_of_ble_eq_true rfl, Nat.le_of_ble_eq_true rfl⟩) hS (fun q _ h => hFc q h) hFc (fun r' u' t H locs ht hvm hw hB hz1 hk1 hS => ?_)
      subst hw
      obtain ⟨hP1, -, hD1⟩ := hB
      rw [ht] at hP1
      have hP : va_P (dC, dI) vwCl ((W_Reader cI a S)) H := hP1
      have hD : va_D A ((W_Reader cI a S)) := hD1.weaken (fun _ _ _ h => hFc _ h)
      refine va_put (D := (dC, dI)) (ci := 1) (v := .int r66) (ty := .int) (C := RX1) (T := TX1) (N := 7) hx hb hts hinX1 tyX1 tyX1_ok nmX1 hown hK hP hD hS 0 rfl rfl 3 (by decide) (hts (Cond.fieldLink RX1 21 "LearnedShapes$Reader" "state" "I") (List.mem_of_getElem? (i := 1) rfl)) (fun _ h9 => h9) rfl (by decide +kernel) (rfl) rfl (Nat.le_of_ble_eq_true rfl) dX1_take_13 (fun H locs hP hD hS => ?_)
      have hP : va_P (dC, dI) vwCl ((W_Reader cI a (s_Reader_state S r66))) H := hP
      have hD : va_D A ((W_Reader cI a (s_Reader_state S r66))) := hD
      exact K16 _ _ _ hF hP hD hS _ (lv_sub hl [0, 1] rfl)
  exact KE _ _ hP hD hS
set_option maxHeartbeats 4000000 in
set_option maxRecDepth 100000 in
theorem c_X1_read (l : Launch) (dC : Nat → ClassId) (dI : Nat → Nat → Nat) (cI : ClassId) (a b : Nat → Nat) (sz : Nat) (S : S_Reader) (S1 : (Nat → Int32)) (v2 : Int32) (rr : Bool) (Y : S_Reader) (hF : F_X1_read S S1 v2 = some (rr, Y)) : Met l yX1_read wsX1_read ({ frames := 5, cells := 0, slots := 0, locals := 116 } : Room) (va_Pc [.ref (a 0), .ref (b 0), .int v2] (jPre (dC, dI) [(cI, .int)] sz ((W_Reader cI a S) ++ (W_Arr60 cI b S1)))) (va_Qi (fun (r' : Int32) (u : S_Reader) => b2i rr = r' ∧ Y = u) (fun u : S_Reader => jB (dC, dI) [(cI, .int)] (va_A ((W_Reader cI a S) ++ (W_Arr60 cI b S1)) sz) ((W_Reader cI a u) ++ (W_Arr60 cI b S1))) (va_A ((W_Reader cI a S) ++ (W_Arr60 cI b S1)) sz)) 0 0 (va_A ((W_Reader cI a S) ++ (W_Arr60 cI b S1)) sz) := by
  refine Met.ofW (cc := cX1_read) (maxL := 4) (ret := (some .boolean)) (by decide) rfl ?_
  intro p e s m args below meth c s₁ B hml hv
  obtain ⟨rfl, hsz, hP, hK, hD0, hN⟩ := hv
  have hx := B.exec
  have hb := B.bytes
  have hr := B.returns
  have hts := atoms_spec (ws := wsX1_read) B.pre
  have hown : s.vm.findClass RX1 = some m.cls := findClass_of_methodNamed B.named
  have hlocks := B.notSynchronized
  have hinX1 : ∀ w ∈ u_ws RX1 TX1 7, w ∈ wsX1_read := by decide +kernel
  subst hsz
  have hD := hD0.self (sz := s.heap.size)
  generalize hAe : (va_A ((W_Reader cI a S) ++ (W_Arr60 cI b S1)) s.heap.size) = A at hD ⊢
  have hA : ∀ q : Nat, s.heap.size ≤ q → A q := fun q h => by rw [← hAe]; exact Or.inr h
  have hS : va_S A s.heap s.heap [] := va_S.rf
  have hl := lv_entry ([.ref (a 0), .ref (b 0), .int v2]) (n := 4) (Nat.le_of_ble_eq_true rfl)
  rw [lg_entry_eq]
  generalize (lg_sl ([.ref (a 0), .ref (b 0), .int v2]) ++ List.replicate (4 - (lg_sl ([.ref (a 0), .ref (b 0), .int v2])).length) Slot.unset).toArray = ls at hl ⊢
  have hl : lv_has ls 4 [(0, .ref (a 0)), (1, .ref (b 0)), (2, .int v2)] := hl
  have K34 : ∀ (n34 : Nat) (S : S_Reader) (x3 : Int32) (H : Heap) (locs : List Loc), F_X1_read_34 v2 S1 n34 S x3 = some (rr, Y) → va_P (dC, dI) vwCl ((W_Reader cI a S) ++ (W_Arr60 cI b S1)) H → va_D A ((W_Reader cI a S) ++ (W_Arr60 cI b S1)) → va_S A s.heap H locs → ∀ ls : Array Slot, lv_has ls 4 [(0, .ref (a 0)), (1, .ref (b 0)), (2, .int v2), (3, .int x3)] → W p l e (headSpec wsX1_read ({ frames := 5, cells := 0, slots := 0, locals := 116 } : Room)).room s m ([.ref (a 0), .ref (b 0), .int v2] : List Value).toArray below meth c H locs 0 0 (MQ below (va_Qi (fun (r' : Int32) (u : S_Reader) => b2i rr = r' ∧ Y = u) (fun u : S_Reader => jB (dC, dI) [(cI, .int)] A ((W_Reader cI a u) ++ (W_Arr60 cI b S1))) A) ([.ref (a 0), .ref (b 0), .int v2] : List Value).toArray s 0 0 A) (F0 m 34 ls []) := by
    intro n34
    induction n34 with
    | zero => intro S x3 H locs hF; exact nomatch hF
    | succ n34 ih34 =>
      intro S x3 H locs hF hP hD hS ls hl
      rw [F_X1_read_34_s] at hF
      refine lv_iload_n hx hb dX1_read_34 rfl (lv_at hl 3 rfl) ?_
      refine lv_iload_n hx hb dX1_read_35 rfl (lv_at hl 2 rfl) ?_
      refine lv_icmp_ge (tgt := 73) hx hb dX1_read_36 (by decide) (fun c1 => ?_) (fun c1 => ?_)
      · have hF := F_pos c1 hF
        refine lv_aload_n hx hb dX1_read_73 rfl (lv_at hl 0 rfl) ?_
        refine va_get (D := (dC, dI)) (ci := 1) (v := .int (g_Reader_state S)) (C := RX1) (T := TX1) (N := 7) hx hb hts hinX1 hown hK hP 0 rfl rfl 3 (by decide) (hts (Cond.fieldLink RX1 21 "LearnedShapes$Reader" "state" "I") (List.mem_of_getElem? (i := 2) rfl)) (fun _ h9 => h9) rfl dX1_read_74 ?_
        refine lv_bipush (v := (12 : Int32)) hx hb dX1_read_77 (by decide) ?_
        refine lv_icmp_ne (tgt := 86) hx hb dX1_read_79 (by decide) (fun c2 => ?_) (fun c2 => ?_)
        · have hF := F_neg c2 hF
          refine lv_iconst (v := (0 : Int32)) hx hb dX1_read_86 (by decide) ?_
          have e50 := Option.some.inj hF
          obtain ⟨e60, e51⟩ := Prod.mk.inj e50
          subst e60
          subst e51
          exact W.zret (v := (0 : Int32)) hx hb hr (rfl) (fun t ht hW => ⟨⟨(0 : Int32), S, rfl, ⟨rfl, rfl⟩, by rw [ht]; exact hP, va_K.moved hW.alike hK, hD⟩, hS.F ht⟩) hS.2.2 dX1_read_87
        · have hF := F_pos c2 hF
          refine lv_iconst (v := (1 : Int32)) hx hb dX1_read_82 (by decide) ?_
          refine lv_goto (tgt := 87) hx hb dX1_read_83 (by decide) ?_
          have e50 := Option.some.inj hF
          obtain ⟨e60, e51⟩ := Prod.mk.inj e50
          subst e60
          subst e51
          exact W.zret (v := (1 : Int32)) hx hb hr (rfl) (fun t ht hW => ⟨⟨(1 : Int32), S, rfl, ⟨rfl, rfl⟩, by rw [ht]; exact hP, va_K.moved hW.alike hK, hD⟩, hS.F ht⟩) hS.2.2 dX1_read_87
      · have hF := F_neg c1 hF
        refine lv_iload_n hx hb dX1_read_39 rfl (lv_at hl 3 rfl) ?_
        refine lv_aload_n hx hb dX1_read_40 rfl (lv_at hl 1 rfl) ?_
        refine va_alen (v := (60 : Int32)) hx hb hK hP 3 0 rfl rfl rfl dX1_read_41 ?_
        refine lv_icmp_ge (tgt := 73) hx hb dX1_read_42 (by decide) (fun c3 => ?_) (fun c3 => ?_)
        · have hF := F_pos c3 hF
          refine lv_aload_n hx hb dX1_read_73 rfl (lv_at hl 0 rfl) ?_
          refine va_get (D := (dC, dI)) (ci := 1) (v := .int (g_Reader_state S)) (C := RX1) (T := TX1) (N := 7) hx hb hts hinX1 hown hK hP 0 rfl rfl 3 (by decide) (hts (Cond.fieldLink RX1 21 "LearnedShapes$Reader" "state" "I") (List.mem_of_getElem? (i := 2) rfl)) (fun _ h9 => h9) rfl dX1_read_74 ?_
          refine lv_bipush (v := (12 : Int32)) hx hb dX1_read_77 (by decide) ?_
          refine lv_icmp_ne (tgt := 86) hx hb dX1_read_79 (by decide) (fun c4 => ?_) (fun c4 => ?_)
          · have hF := F_neg c4 hF
            refine lv_iconst (v := (0 : Int32)) hx hb dX1_read_86 (by decide) ?_
            have e50 := Option.some.inj hF
            obtain ⟨e60, e51⟩ := Prod.mk.inj e50
            subst e60
            subst e51
            exact W.zret (v := (0 : Int32)) hx hb hr (rfl) (fun t ht hW => ⟨⟨(0 : Int32), S, rfl, ⟨rfl, rfl⟩, by rw [ht]; exact hP, va_K.moved hW.alike hK, hD⟩, hS.F ht⟩) hS.2.2 dX1_read_87
          · have hF := F_pos c4 hF
            refine lv_iconst (v := (1 : Int32)) hx hb dX1_read_82 (by decide) ?_
            refine lv_goto (tgt := 87) hx hb dX1_read_83 (by decide) ?_
            have e50 := Option.some.inj hF
            obtain ⟨e60, e51⟩ := Prod.mk.inj e50
            subst e60
            subst e51
            exact W.zret (v := (1 : Int32)) hx hb hr (rfl) (fun t ht hW => ⟨⟨(1 : Int32), S, rfl, ⟨rfl, rfl⟩, by rw [ht]; exact hP, va_K.moved hW.alike hK, hD⟩, hS.F ht⟩) hS.2.2 dX1_read_87
        · have hF := F_neg c3 hF
          refine lv_aload_n hx hb dX1_read_45 rfl (lv_at hl 0 rfl) ?_
          refine lv_iload_n hx hb dX1_read_46 rfl (lv_at hl 3 rfl) ?_
          refine va_put (D := (dC, dI)) (ci := 1) (v := .int x3) (ty := .int) (C := RX1) (T := TX1) (N := 7) hx hb hts hinX1 tyX1 tyX1_ok nmX1 hown hK hP hD hS 0 rfl rfl 2 (by decide) (hts (Cond.fieldLink RX1 37 "LearnedShapes$Reader" "place" "I") (List.mem_of_getElem? (i := 7) rfl)) (fun _ h9 => h9) rfl (by decide +kernel) (rfl) rfl (Nat.le_of_ble_eq_true rfl) dX1_read_47 (fun H locs hP hD hS => ?_)
          have hP : va_P (dC, dI) vwCl ((W_Reader cI a (s_Reader_place S x3)) ++ (W_Arr60 cI b S1)) H := hP
          have hD : va_D A ((W_Reader cI a (s_Reader_place S x3)) ++ (W_Arr60 cI b S1)) := hD
          refine lv_aload_n hx hb dX1_read_50 rfl (lv_at hl 0 rfl) ?_
          refine lv_aload_n hx hb dX1_read_51 rfl (lv_at hl 1 rfl) ?_
          refine lv_iload_n hx hb dX1_read_52 rfl (lv_at hl 3 rfl) ?_
          obtain ⟨g5, hF⟩ := og_some hF
          refine va_iald (f := S1) hx hb hK hP 3 0 rfl rfl (inb_in g5) dX1_read_53 ?_
          obtain ⟨r6, u7, h8, hF⟩ := ob2_some hF
          have hPc := hP.sub (ws' := (W_Reader cI a (s_Reader_place S x3))) [0, 1, 2] rfl
          have hDc := hD.sub (ws' := (W_Reader cI a (s_Reader_place S x3))) [0, 1, 2] (by decide) rfl
          have hFc := va_free (wc := (W_Reader cI a (s_Reader_place S x3))) hD hS hA [0, 1, 2] rfl
          refine va_calli (va_runV (As := [.int (S1 x3.toNatClampNeg)]) (rest := []) ⟨hx, hb, hml, hown, hts⟩ (c_X1_take l dC dI cI a H.size _ _ _ _ h8) (cwV 1 hts gX1_read_X1_take rfl rfl rfl (by decide +kernel) ⟨Nat.le_of_ble_eq_true rfl, Nat.le_of_ble_eq_true rfl⟩) (jPreV hK hPc hDc hN (ci := 1) rfl rfl) rfl rfl hl.1 rfl (lv_room (Nat.le_of_ble_eq_true rfl)) dX1_read_54 ⟨Nat.le_of_ble_eq_true rfl, Nat.le_of_ble_eq_true rfl⟩) hS (fun q _ h => hFc q h) hFc (fun r' u' t H locs ht hvm hw hB hz1 hk1 hS => ?_)
          obtain ⟨e1, e2⟩ := hw
          subst e1
          subst e2
          obtain ⟨hP1, -, hD1⟩ := hB
          rw [ht] at hP1
          obtain ⟨hP, hD⟩ := jJoin (wc := (W_Reader cI a (s_Reader_place S x3))) (w1 := (W_Reader cI a u7)) (ws' := (W_Reader cI a u7) ++ (W_Arr60 cI b S1)) hP hD [0, 1, 2] [3] [1, 2, 3, 0] rfl rfl (by decide) (by decide) hk1 hFc hP1 hD1 (by decide) rfl
          refine lv_if_ne (tgt := 67) hx hb dX1_read_57 (by decide) (fun c9 => ?_) (fun c9 => ?_)
          · have hF := F_neg c9 hF
            refine lv_iinc (v := (x3 + (1 : Int32))) (lv' := [(3, .int (x3 + (1 : Int32))), (0, .ref (a 0)), (1, .ref (b 0)), (2, .int v2)]) hx hb dX1_read_67 hl (k := 3) rfl rfl (by decide) rfl (fun ls hl => ?_)
            refine lv_goto (tgt := 34) hx hb dX1_read_70 (by decide) ?_
            exact ih34 _ _ _ _ hF hP hD hS _ (lv_sub hl [1, 2, 3, 0] rfl)
          · have hF := F_pos c9 hF
            refine lv_aload_n hx hb dX1_read_60 rfl (lv_at hl 0 rfl) ?_
            refine lv_iload_n hx hb dX1_read_61 rfl (lv_at hl 3 rfl) ?_
            refine va_put (D := (dC, dI)) (ci := 1) (v := .int x3) (ty := .int) (C := RX1) (T := TX1) (N := 7) hx hb hts hinX1 tyX1 tyX1_ok nmX1 hown hK hP hD hS 0 rfl rfl 1 (by decide) (hts (Cond.fieldLink RX1 34 "LearnedShapes$Reader" "firstWrong" "I") (List.mem_of_getElem? (i := 6) rfl)) (fun _ h9 => h9) rfl (by decide +kernel) (rfl) rfl (Nat.le_of_ble_eq_true rfl) dX1_read_62 (fun H locs hP hD hS => ?_)
            have hP : va_P (dC, dI) vwCl ((W_Reader cI a (s_Reader_firstWrong u7 x3)) ++ (W_Arr60 cI b S1)) H := hP
            have hD : va_D A ((W_Reader cI a (s_Reader_firstWrong u7 x3)) ++ (W_Arr60 cI b S1)) := hD
            refine lv_iconst (v := (0 : Int32)) hx hb dX1_read_65 (by decide) ?_
            have e50 := Option.some.inj hF
            obtain ⟨e60, e51⟩ := Prod.mk.inj e50
            subst e60
            subst e51
            exact W.zret (v := (0 : Int32)) hx hb hr (rfl) (fun t ht hW => ⟨⟨(0 : Int32), (s_Reader_firstWrong u7 x3), rfl, ⟨rfl, rfl⟩, by rw [ht]; exact hP, va_K.moved hW.alike hK, hD⟩, hS.F ht⟩) hS.2.2 dX1_read_66
  have KE : ∀ (H : Heap) (locs : List Loc), va_P (dC, dI) vwCl ((W_Reader cI a S) ++ (W_Arr60 cI b S1)) H → va_D A ((W_Reader cI a S) ++ (W_Arr60 cI b S1)) → va_S A s.heap H locs → W p l e (headSpec wsX1_read ({ frames := 5, cells := 0, slots := 0, locals := 116 } : Room)).room s m ([.ref (a 0), .ref (b 0), .int v2] : List Value).toArray below meth c H locs 0 0 (MQ below (va_Qi (fun (r' : Int32) (u : S_Reader) => b2i rr = r' ∧ Y = u) (fun u : S_Reader => jB (dC, dI) [(cI, .int)] A ((W_Reader cI a u) ++ (W_Arr60 cI b S1))) A) ([.ref (a 0), .ref (b 0), .int v2] : List Value).toArray s 0 0 A) (F0 m 0 ls []) := by
    intro H locs hP hD hS
    unfold F_X1_read at hF
    refine lv_aload_n hx hb dX1_read_0 rfl (lv_at hl 0 rfl) ?_
    refine va_get (D := (dC, dI)) (ci := 1) (v := .ref (a 1)) (C := RX1) (T := TX1) (N := 7) hx hb hts hinX1 hown hK hP 0 rfl rfl 0 (by decide) (hts (Cond.fieldLink RX1 12 "LearnedShapes$Reader" "values" "LLearnedShapes$Tree;") (List.mem_of_getElem? (i := 1) rfl)) (fun _ h9 => h9) rfl dX1_read_1 ?_
    obtain ⟨u10, h11, hF⟩ := ob1_some hF
    have hPc := hP.sub (ws' := (W_Tree cI (sh a 1) (g_Reader_values S))) [1, 2] rfl
    have hDc := hD.sub (ws' := (W_Tree cI (sh a 1) (g_Reader_values S))) [1, 2] (by decide) rfl
    have hFc := va_free (wc := (W_Tree cI (sh a 1) (g_Reader_values S))) hD hS hA [1, 2] rfl
    refine va_callv (va_runV (As := []) (rest := []) ⟨hx, hb, hml, hown, hts⟩ (c_X3_clear l dC dI cI (sh a 1) H.size _ _ h11) (cwV 0 hts gX1_read_X3_clear rfl rfl rfl (by decide +kernel) ⟨Nat.le_of_ble_eq_true rfl, Nat.le_of_ble_eq_true rfl⟩) (jPreV hK hPc hDc hN (ci := 3) rfl rfl) rfl rfl hl.1 rfl (lv_room (Nat.le_of_ble_eq_true rfl)) dX1_read_4 ⟨Nat.le_of_ble_eq_true rfl, Nat.le_of_ble_eq_true rfl⟩) hS (fun q _ h => hFc q h) hFc (fun u' t H locs ht hvm hw hB hz1 hk1 hS => ?_)
    subst hw
    obtain ⟨hP1, -, hD1⟩ := hB
    rw [ht] at hP1
    obtain ⟨hP, hD⟩ := jJoin (wc := (W_Tree cI (sh a 1) (g_Reader_values S))) (w1 := (W_Tree cI (sh a 1) u10)) (ws' := (W_Reader cI a (s_Reader_values S u10)) ++ (W_Arr60 cI b S1)) hP hD [1, 2] [0, 3] [0, 2, 3, 1] rfl rfl (by decide) (by decide) hk1 hFc hP1 hD1 (by decide) rfl
    refine lv_aload_n hx hb dX1_read_7 rfl (lv_at hl 0 rfl) ?_
    refine lv_iconst (v := (0 : Int32)) hx hb dX1_read_8 (by decide) ?_
    refine va_put (D := (dC, dI)) (ci := 1) (v := .int (0 : Int32)) (ty := .int) (C := RX1) (T := TX1) (N := 7) hx hb hts hinX1 tyX1 tyX1_ok nmX1 hown hK hP hD hS 0 rfl rfl 3 (by decide) (hts (Cond.fieldLink RX1 21 "LearnedShapes$Reader" "state" "I") (List.mem_of_getElem? (i := 2) rfl)) (fun _ h9 => h9) rfl (by decide +kernel) (rfl) rfl (Nat.le_of_ble_eq_true rfl) dX1_read_9 (fun H locs hP hD hS => ?_)
    have hP : va_P (dC, dI) vwCl ((W_Reader cI a (s_Reader_state (s_Reader_values S u10) (0 : Int32))) ++ (W_Arr60 cI b S1)) H := hP
    have hD : va_D A ((W_Reader cI a (s_Reader_state (s_Reader_values S u10) (0 : Int32))) ++ (W_Arr60 cI b S1)) := hD
    refine lv_aload_n hx hb dX1_read_12 rfl (lv_at hl 0 rfl) ?_
    refine lv_iconst (v := (-1 : Int32)) hx hb dX1_read_13 (by decide) ?_
    refine va_put (D := (dC, dI)) (ci := 1) (v := .int (-1 : Int32)) (ty := .int) (C := RX1) (T := TX1) (N := 7) hx hb hts hinX1 tyX1 tyX1_ok nmX1 hown hK hP hD hS 0 rfl rfl 4 (by decide) (hts (Cond.fieldLink RX1 25 "LearnedShapes$Reader" "open" "I") (List.mem_of_getElem? (i := 3) rfl)) (fun _ h9 => h9) rfl (by decide +kernel) (rfl) rfl (Nat.le_of_ble_eq_true rfl) dX1_read_14 (fun H locs hP hD hS => ?_)
    have hP : va_P (dC, dI) vwCl ((W_Reader cI a (s_Reader_open (s_Reader_state (s_Reader_values S u10) (0 : Int32)) (-1 : Int32))) ++ (W_Arr60 cI b S1)) H := hP
    have hD : va_D A ((W_Reader cI a (s_Reader_open (s_Reader_state (s_Reader_values S u10) (0 : Int32)) (-1 : Int32))) ++ (W_Arr60 cI b S1)) := hD
    refine lv_aload_n hx hb dX1_read_17 rfl (lv_at hl 0 rfl) ?_
    refine lv_iconst (v := (-1 : Int32)) hx hb dX1_read_18 (by decide) ?_
    refine va_put (D := (dC, dI)) (ci := 1) (v := .int (-1 : Int32)) (ty := .int) (C := RX1) (T := TX1) (N := 7) hx hb hts hinX1 tyX1 tyX1_ok nmX1 hown hK hP hD hS 0 rfl rfl 5 (by decide) (hts (Cond.fieldLink RX1 28 "LearnedShapes$Reader" "letter" "I") (List.mem_of_getElem? (i := 4) rfl)) (fun _ h9 => h9) rfl (by decide +kernel) (rfl) rfl (Nat.le_of_ble_eq_true rfl) dX1_read_19 (fun H locs hP hD hS => ?_)
    have hP : va_P (dC, dI) vwCl ((W_Reader cI a (s_Reader_letter (s_Reader_open (s_Reader_state (s_Reader_values S u10) (0 : Int32)) (-1 : Int32)) (-1 : Int32))) ++ (W_Arr60 cI b S1)) H := hP
    have hD : va_D A ((W_Reader cI a (s_Reader_letter (s_Reader_open (s_Reader_state (s_Reader_values S u10) (0 : Int32)) (-1 : Int32)) (-1 : Int32))) ++ (W_Arr60 cI b S1)) := hD
    refine lv_aload_n hx hb dX1_read_22 rfl (lv_at hl 0 rfl) ?_
    refine lv_iconst (v := (0 : Int32)) hx hb dX1_read_23 (by decide) ?_
    refine va_put (D := (dC, dI)) (ci := 1) (v := .int (0 : Int32)) (ty := .int) (C := RX1) (T := TX1) (N := 7) hx hb hts hinX1 tyX1 tyX1_ok nmX1 hown hK hP hD hS 0 rfl rfl 6 (by decide) (hts (Cond.fieldLink RX1 31 "LearnedShapes$Reader" "run" "I") (List.mem_of_getElem? (i := 5) rfl)) (fun _ h9 => h9) rfl (by decide +kernel) (rfl) rfl (Nat.le_of_ble_eq_true rfl) dX1_read_24 (fun H locs hP hD hS => ?_)
    have hP : va_P (dC, dI) vwCl ((W_Reader cI a (s_Reader_run (s_Reader_letter (s_Reader_open (s_Reader_state (s_Reader_values S u10) (0 : Int32)) (-1 : Int32)) (-1 : Int32)) (0 : Int32))) ++ (W_Arr60 cI b S1)) H := hP
    have hD : va_D A ((W_Reader cI a (s_Reader_run (s_Reader_letter (s_Reader_open (s_Reader_state (s_Reader_values S u10) (0 : Int32)) (-1 : Int32)) (-1 : Int32)) (0 : Int32))) ++ (W_Arr60 cI b S1)) := hD
    refine lv_aload_n hx hb dX1_read_27 rfl (lv_at hl 0 rfl) ?_
    refine lv_iload_n hx hb dX1_read_28 rfl (lv_at hl 2 rfl) ?_
    refine va_put (D := (dC, dI)) (ci := 1) (v := .int v2) (ty := .int) (C := RX1) (T := TX1) (N := 7) hx hb hts hinX1 tyX1 tyX1_ok nmX1 hown hK hP hD hS 0 rfl rfl 1 (by decide) (hts (Cond.fieldLink RX1 34 "LearnedShapes$Reader" "firstWrong" "I") (List.mem_of_getElem? (i := 6) rfl)) (fun _ h9 => h9) rfl (by decide +kernel) (rfl) rfl (Nat.le_of_ble_eq_true rfl) dX1_read_29 (fun H locs hP hD hS => ?_)
    have hP : va_P (dC, dI) vwCl ((W_Reader cI a (s_Reader_run (s_Reader_letter (s_Reader_open (s_Reader_state (s_Reader_firstWrong (s_Reader_values S u10) v2) (0 : Int32)) (-1 : Int32)) (-1 : Int32)) (0 : Int32))) ++ (W_Arr60 cI b S1)) H := hP
    have hD : va_D A ((W_Reader cI a (s_Reader_run (s_Reader_letter (s_Reader_open (s_Reader_state (s_Reader_firstWrong (s_Reader_values S u10) v2) (0 : Int32)) (-1 : Int32)) (-1 : Int32)) (0 : Int32))) ++ (W_Arr60 cI b S1)) := hD
    refine lv_iconst (v := (0 : Int32)) hx hb dX1_read_32 (by decide) ?_
    refine lv_istore_n (lv' := [(3, .int (0 : Int32)), (0, .ref (a 0)), (1, .ref (b 0)), (2, .int v2)]) hx hb dX1_read_33 rfl hl (by decide) rfl (fun ls hl => ?_)
    exact K34 _ _ _ _ _ hF hP hD hS _ (lv_sub hl [1, 2, 3, 0] rfl)
  exact KE _ _ hP hD hS
