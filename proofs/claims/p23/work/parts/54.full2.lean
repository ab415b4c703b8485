set_option maxHeartbeats 4000000 in
set_option maxRecDepth 100000 in
theorem c_X4_learn (l : Launch) (dC : Nat → ClassId) (dI : Nat → Nat → Nat) (cI : ClassId) (hl0 : l.stackTraces = false) (cS : ClassId) (a : Nat → Nat) (q : Nat → Nat → Nat) (sz : Nat) (S : S_LS) (Z : (Nat → S_State)) (v1 : Int32) (res : Sum (String × (S_LS × (Nat → S_State))) (Int32 × S_LS × (Nat → S_State))) (hF : F_X4_learn S Z v1 = some res) : vx_Met l yX4_learn wsX4_learn ({ frames := 6, cells := 1, slots := 6, locals := 164 } : Room) (va_Pc [.ref (a 0), .int v1] (jPreX (dC, dI) [(cI, .int), (cS, .object "LearnedShapes$State")] sz (W_Full cI cS a q S Z))) (va_Qi (fun (r' : Int32) (u : S_LS × (Nat → S_State)) => res = .inr (r', u)) (fun (u : S_LS × (Nat → S_State)) (t : State) => ∃ q9 : Nat → Nat → Nat, jB (dC, dI) [(cI, .int), (cS, .object "LearnedShapes$State")] (va_A (W_Full cI cS a q S Z) sz) (W_Full cI cS a q9 u.1 u.2) t) (va_A (W_Full cI cS a q S Z) sz)) (vx_X (fun _ : S_LS × (Nat → S_State) => True) (fun (E : String) (u : S_LS × (Nat → S_State)) (t : State) => res = .inl (E, u) ∧ (fun (u : S_LS × (Nat → S_State)) (t : State) => ∃ q9 : Nat → Nat → Nat, jB (dC, dI) [(cI, .int), (cS, .object "LearnedShapes$State")] (va_A (W_Full cI cS a q S Z) sz) (W_Full cI cS a q9 u.1 u.2) t) u t) (va_A (W_Full cI cS a q S Z) sz)) 1 6 (va_A (W_Full cI cS a q S Z) sz) := by
  refine vx_ofW (cc := cX4_learn) (maxL := 3) (ret := (some .int)) (by decide) rfl ?_
  intro p e s m args below meth c s₁ B hml hex hv
  obtain ⟨rfl, ⟨hsz, hP, hK, hD0, hN⟩, hU, hSN⟩ := hv
  have hx := B.exec
  have hb := B.bytes
  have hr := B.returns
  have hts := atoms_spec (ws := wsX4_learn) B.pre
  have hown : s.vm.findClass RX4 = some m.cls := findClass_of_methodNamed B.named
  have hlocks := B.notSynchronized
  have hKi : va_K (dC, dI) vwCl [(cI, .int)] s := hK.sub [0] rfl
  have hinX3 : ∀ w ∈ u_ws RX3 TX3 3, w ∈ wsX4_learn := by decide +kernel
  have hinX4 : ∀ w ∈ u_ws RX4 TX4 8, w ∈ wsX4_learn := by decide +kernel
  subst hsz
  have hD := hD0.self (sz := s.heap.size)
  generalize hAe : (va_A (W_Full cI cS a q S Z) s.heap.size) = A at hD hU hSN ⊢
  have hA : ∀ q : Nat, s.heap.size ≤ q → A q := fun q h => by rw [← hAe]; exact Or.inr h
  have hS : va_S A s.heap s.heap [] := va_S.rf
  have hl := lv_entry ([.ref (a 0), .int v1]) (n := 3) (Nat.le_of_ble_eq_true rfl)
  rw [lg_entry_eq]
  generalize (lg_sl ([.ref (a 0), .int v1]) ++ List.replicate (3 - (lg_sl ([.ref (a 0), .int v1])).length) Slot.unset).toArray = ls at hl ⊢
  have hl : lv_has ls 3 [(0, .ref (a 0)), (1, .int v1)] := hl
  have KE : ∀ (H : Heap) (locs : List Loc), va_P (dC, dI) vwCl (W_Full cI cS a q S Z) H → va_D A (W_Full cI cS a q S Z) → va_S A s.heap H locs → W p l e (headSpec wsX4_learn ({ frames := 6, cells := 1, slots := 6, locals := 164 } : Room)).room s m ([.ref (a 0), .int v1] : List Value).toArray below meth c H locs 0 0 (vx_MQ below (va_Qi (fun (r' : Int32) (u : S_LS × (Nat → S_State)) => res = .inr (r', u)) (fun (u : S_LS × (Nat → S_State)) (t : State) => ∃ q9 : Nat → Nat → Nat, jB (dC, dI) [(cI, .int), (cS, .object "LearnedShapes$State")] A (W_Full cI cS a q9 u.1 u.2) t) A) (vx_X (fun _ : S_LS × (Nat → S_State) => True) (fun (E : String) (u : S_LS × (Nat → S_State)) (t : State) => res = .inl (E, u) ∧ (fun (u : S_LS × (Nat → S_State)) (t : State) => ∃ q9 : Nat → Nat → Nat, jB (dC, dI) [(cI, .int), (cS, .object "LearnedShapes$State")] A (W_Full cI cS a q9 u.1 u.2) t) u t) A) ([.ref (a 0), .int v1] : List Value).toArray s 1 6 A) (F0 m 0 ls []) := by
    intro H locs hP hD hS
    have hP : va_P (dC, dI) vwCl (List.flatten [W_LS cI a S, W_Sav cS (a 13) [((q 0) 0), ((q 1) 0), ((q 2) 0), ((q 3) 0), ((q 4) 0), ((q 5) 0)], W_State cI (q 0) (Z 0), W_State cI (q 1) (Z 1), W_State cI (q 2) (Z 2), W_State cI (q 3) (Z 3), W_State cI (q 4) (Z 4), W_State cI (q 5) (Z 5)]) H := hP
    have hD : va_D A (List.flatten [W_LS cI a S, W_Sav cS (a 13) [((q 0) 0), ((q 1) 0), ((q 2) 0), ((q 3) 0), ((q 4) 0), ((q 5) 0)], W_State cI (q 0) (Z 0), W_State cI (q 1) (Z 1), W_State cI (q 2) (Z 2), W_State cI (q 3) (Z 3), W_State cI (q 4) (Z 4), W_State cI (q 5) (Z 5)]) := hD
    unfold F_X4_learn at hF
    refine lv_iload_n hx hb dX4_learn_0 rfl (lv_at hl 1 rfl) ?_
    obtain ⟨r1, h2, hF⟩ := ob1_some hF
    have hPc : va_P (dC, dI) vwCl ([] : va_W) H := fun k q h => by simp at h
    have hDc : va_D A ([] : va_W) := ⟨fun i j p q h => by simp at h, fun k q h => by simp at h⟩
    have hFc := jFreeW (ws := []) hDc hS hA
    refine va_calli (va_runS (As := [.int v1]) (rest := []) ⟨hx, hb, hml, hown, hts⟩ (c_X4_isShape l dC dI cI  H.size _ _ h2) (va_cwS 1 hts gX4_learn_X4_isShape rfl rfl rfl (by decide +kernel) ⟨Nat.le_of_ble_eq_true rfl, Nat.le_of_ble_eq_true rfl⟩) (jPreS hKi hPc hDc hN) rfl rfl hl.1 rfl (lv_room (Nat.le_of_ble_eq_true rfl)) dX4_learn_1 ⟨Nat.le_of_ble_eq_true rfl, Nat.le_of_ble_eq_true rfl⟩) hS (fun q _ h => hFc q h) hFc (fun r' u' t H locs ht hvm hw hB hz1 hk1 hS => ?_)
    subst hw
    obtain ⟨hP1, -, hD1⟩ := hB
    rw [ht] at hP1
    obtain ⟨hP, hD⟩ := jJoinF (wa := (W_LS cI a S)) (wb := List.flatten [W_Sav cS (a 13) [((q 0) 0), ((q 1) 0), ((q 2) 0), ((q 3) 0), ((q 4) 0), ((q 5) 0)], W_State cI (q 0) (Z 0), W_State cI (q 1) (Z 1), W_State cI (q 2) (Z 2), W_State cI (q 3) (Z 3), W_State cI (q 4) (Z 4), W_State cI (q 5) (Z 5)]) (wc := ([] : va_W)) (w1 := ([] : va_W)) (ws' := (W_LS cI a S)) hP hD [] [0, 1, 2, 3, 4, 5, 6, 7, 8, 9, 10, 11, 12] [0, 1, 2, 3, 4, 5, 6, 7, 8, 9, 10, 11, 12] rfl rfl (by decide) (by decide) hk1 hFc hP1 hD1 (by decide) rfl
    have hP : va_P (dC, dI) vwCl (List.flatten [W_LS cI a S, W_Sav cS (a 13) [((q 0) 0), ((q 1) 0), ((q 2) 0), ((q 3) 0), ((q 4) 0), ((q 5) 0)], W_State cI (q 0) (Z 0), W_State cI (q 1) (Z 1), W_State cI (q 2) (Z 2), W_State cI (q 3) (Z 3), W_State cI (q 4) (Z 4), W_State cI (q 5) (Z 5)]) H := hP
    have hD : va_D A (List.flatten [W_LS cI a S, W_Sav cS (a 13) [((q 0) 0), ((q 1) 0), ((q 2) 0), ((q 3) 0), ((q 4) 0), ((q 5) 0)], W_State cI (q 0) (Z 0), W_State cI (q 1) (Z 1), W_State cI (q 2) (Z 2), W_State cI (q 3) (Z 3), W_State cI (q 4) (Z 4), W_State cI (q 5) (Z 5)]) := hD
    refine lv_if_ne (tgt := 17) hx hb dX4_learn_4 (by decide) (fun c3 => ?_) (fun c3 => ?_)
    · have hF := F_neg c3 hF
      refine lv_aload_n hx hb dX4_learn_17 rfl (lv_at hl 0 rfl) ?_
      refine va_get (D := (dC, dI)) (ci := 4) (v := .ref (a 2)) (C := RX4) (T := TX4) (N := 8) hx hb hts hinX4 hown hK hP 0 rfl rfl 2 (by decide) (hts (Cond.fieldLink RX4 16 "LearnedShapes" "reader" "LLearnedShapes$Reader;") (List.mem_of_getElem? (i := 7) rfl)) (fun _ h9 => h9) rfl dX4_learn_18 ?_
      refine lv_aload_n hx hb dX4_learn_21 rfl (lv_at hl 0 rfl) ?_
      refine va_get (D := (dC, dI)) (ci := 4) (v := .ref (a 1)) (C := RX4) (T := TX4) (N := 8) hx hb hts hinX4 hown hK hP 0 rfl rfl 0 (by decide) (hts (Cond.fieldLink RX4 9 "LearnedShapes" "codes" "[I") (List.mem_of_getElem? (i := 8) rfl)) (fun _ h9 => h9) rfl dX4_learn_22 ?_
      refine lv_aload_n hx hb dX4_learn_25 rfl (lv_at hl 0 rfl) ?_
      refine va_get (D := (dC, dI)) (ci := 4) (v := .int (g_LS_length S)) (C := RX4) (T := TX4) (N := 8) hx hb hts hinX4 hown hK hP 0 rfl rfl 1 (by decide) (hts (Cond.fieldLink RX4 56 "LearnedShapes" "length" "I") (List.mem_of_getElem? (i := 9) rfl)) (fun _ h9 => h9) rfl dX4_learn_26 ?_
      obtain ⟨r4, u5, h6, hF⟩ := ob2_some hF
      have hPc := hP.sub (ws' := (W_Reader cI (sh a 2) (g_LS_reader S)) ++ (W_Arr60 cI (sh a 1) (g_LS_codes S))) [2, 3, 4, 1] rfl
      have hDc := hD.sub (ws' := (W_Reader cI (sh a 2) (g_LS_reader S)) ++ (W_Arr60 cI (sh a 1) (g_LS_codes S))) [2, 3, 4, 1] (by decide) rfl
      have hFc := va_free (wc := (W_Reader cI (sh a 2) (g_LS_reader S)) ++ (W_Arr60 cI (sh a 1) (g_LS_codes S))) hD hS hA [2, 3, 4, 1] rfl
      refine va_calli (va_runV (As := [.ref (a 1), .int (g_LS_length S)]) (rest := []) ⟨hx, hb, hml, hown, hts⟩ (c_X1_read l dC dI cI (sh a 2) (sh a 1) H.size _ _ _ _ _ h6) (cwV 2 hts gX4_learn_X1_read rfl rfl rfl (by decide +kernel) ⟨Nat.le_of_ble_eq_true rfl, Nat.le_of_ble_eq_true rfl⟩) (jPreV hKi hPc hDc hN (ci := 1) rfl rfl) rfl rfl hl.1 rfl (lv_room (Nat.le_of_ble_eq_true rfl)) dX4_learn_29 ⟨Nat.le_of_ble_eq_true rfl, Nat.le_of_ble_eq_true rfl⟩) hS (fun q _ h => hFc q h) hFc (fun r' u' t H locs ht hvm hw hB hz1 hk1 hS => ?_)
      obtain ⟨e1, e2⟩ := hw
      subst e1
      subst e2
      obtain ⟨hP1, -, hD1⟩ := hB
      rw [ht] at hP1
      obtain ⟨hP, hD⟩ := jJoinF (wa := (W_LS cI a S)) (wb := List.flatten [W_Sav cS (a 13) [((q 0) 0), ((q 1) 0), ((q 2) 0), ((q 3) 0), ((q 4) 0), ((q 5) 0)], W_State cI (q 0) (Z 0), W_State cI (q 1) (Z 1), W_State cI (q 2) (Z 2), W_State cI (q 3) (Z 3), W_State cI (q 4) (Z 4), W_State cI (q 5) (Z 5)]) (wc := (W_Reader cI (sh a 2) (g_LS_reader S)) ++ (W_Arr60 cI (sh a 1) (g_LS_codes S))) (w1 := (W_Reader cI (sh a 2) u5) ++ (W_Arr60 cI (sh a 1) (g_LS_codes S))) (ws' := (W_LS cI a (s_LS_reader S u5))) hP hD [2, 3, 4, 1] [0, 5, 6, 7, 8, 9, 10, 11, 12] [0, 12, 9, 10, 11, 1, 2, 3, 4, 5, 6, 7, 8] rfl rfl (by decide) (by decide) hk1 hFc hP1 hD1 (by decide) rfl
      have hP : va_P (dC, dI) vwCl (List.flatten [W_LS cI a (s_LS_reader S u5), W_Sav cS (a 13) [((q 0) 0), ((q 1) 0), ((q 2) 0), ((q 3) 0), ((q 4) 0), ((q 5) 0)], W_State cI (q 0) (Z 0), W_State cI (q 1) (Z 1), W_State cI (q 2) (Z 2), W_State cI (q 3) (Z 3), W_State cI (q 4) (Z 4), W_State cI (q 5) (Z 5)]) H := hP
      have hD : va_D A (List.flatten [W_LS cI a (s_LS_reader S u5), W_Sav cS (a 13) [((q 0) 0), ((q 1) 0), ((q 2) 0), ((q 3) 0), ((q 4) 0), ((q 5) 0)], W_State cI (q 0) (Z 0), W_State cI (q 1) (Z 1), W_State cI (q 2) (Z 2), W_State cI (q 3) (Z 3), W_State cI (q 4) (Z 4), W_State cI (q 5) (Z 5)]) := hD
      refine lv_if_ne (tgt := 45) hx hb dX4_learn_32 (by decide) (fun c7 => ?_) (fun c7 => ?_)
      · have hF := F_neg c7 hF
        refine lv_aload_n hx hb dX4_learn_45 rfl (lv_at hl 0 rfl) ?_
        refine va_get (D := (dC, dI)) (ci := 4) (v := .ref (a 5)) (C := RX4) (T := TX4) (N := 8) hx hb hts hinX4 hown hK hP 0 rfl rfl 3 (by decide) (hts (Cond.fieldLink RX4 23 "LearnedShapes" "now" "LLearnedShapes$State;") (List.mem_of_getElem? (i := 10) rfl)) (fun _ h9 => h9) rfl dX4_learn_46 ?_
        refine lv_iload_n hx hb dX4_learn_49 rfl (lv_at hl 1 rfl) ?_
        by_cases c8 : v1 = 0
        · have hF := F_pos c8 hF
          have hPc := hP.sub (ws' := (W_State cI (sh a 5) (g_LS_now S))) [5, 6, 7, 8, 9] rfl
          have hDc := hD.sub (ws' := (W_State cI (sh a 5) (g_LS_now S))) [5, 6, 7, 8, 9] (by decide) rfl
          have hFc := va_free (wc := (W_State cI (sh a 5) (g_LS_now S))) hD hS hA [5, 6, 7, 8, 9] rfl
          refine va_callr (va_runV (As := [.int v1]) (rest := []) ⟨hx, hb, hml, hown, hts⟩ (c_X2_tree_first l dC dI cI (sh a 5) H.size _ _ c8) (cwV 1 hts gX4_learn_X2_tree rfl rfl rfl (by decide +kernel) ⟨Nat.le_of_ble_eq_true rfl, Nat.le_of_ble_eq_true rfl⟩) (jPreV hKi hPc hDc hN (ci := 2) rfl rfl) rfl rfl hl.1 rfl (lv_room (Nat.le_of_ble_eq_true rfl)) dX4_learn_50 ⟨Nat.le_of_ble_eq_true rfl, Nat.le_of_ble_eq_true rfl⟩) hS (fun q _ h => hFc q h) hFc (fun u q9 t H locs ht hvm hw hB hz1 hk1 hS => ?_)
          obtain ⟨e9, hP1, -, hD1⟩ := hB
          subst e9
          rw [ht] at hP1
          obtain ⟨hP, hD⟩ := jJoinF (wa := W_LS cI a (s_LS_reader S u5)) (wb := List.flatten [W_Sav cS (a 13) [((q 0) 0), ((q 1) 0), ((q 2) 0), ((q 3) 0), ((q 4) 0), ((q 5) 0)], W_State cI (q 0) (Z 0), W_State cI (q 1) (Z 1), W_State cI (q 2) (Z 2), W_State cI (q 3) (Z 3), W_State cI (q 4) (Z 4), W_State cI (q 5) (Z 5)]) (wc := (W_State cI (sh a 5) (g_LS_now S))) (w1 := (W_State cI (sh a 5) (g_LS_now S))) (ws' := W_LS cI a (s_LS_reader S u5)) hP hD [5, 6, 7, 8, 9] [0, 1, 2, 3, 4, 10, 11, 12] [0, 1, 2, 3, 4, 8, 9, 10, 11, 12, 5, 6, 7] rfl rfl (by decide) (by decide) hk1 hFc hP1 hD1 (by decide) rfl
          have hP : va_P (dC, dI) vwCl (List.flatten [W_LS cI a (s_LS_reader S u5), W_Sav cS (a 13) [((q 0) 0), ((q 1) 0), ((q 2) 0), ((q 3) 0), ((q 4) 0), ((q 5) 0)], W_State cI (q 0) (Z 0), W_State cI (q 1) (Z 1), W_State cI (q 2) (Z 2), W_State cI (q 3) (Z 3), W_State cI (q 4) (Z 4), W_State cI (q 5) (Z 5)]) H := hP
          have hD : va_D A (List.flatten [W_LS cI a (s_LS_reader S u5), W_Sav cS (a 13) [((q 0) 0), ((q 1) 0), ((q 2) 0), ((q 3) 0), ((q 4) 0), ((q 5) 0)], W_State cI (q 0) (Z 0), W_State cI (q 1) (Z 1), W_State cI (q 2) (Z 2), W_State cI (q 3) (Z 3), W_State cI (q 4) (Z 4), W_State cI (q 5) (Z 5)]) := hD
          refine lv_astore_n (lv' := [(2, .ref (a 6)), (0, .ref (a 0)), (1, .int v1)]) hx hb dX4_learn_53 rfl hl (by decide) rfl (fun ls hl => ?_)
          refine lv_aload_n hx hb dX4_learn_54 rfl (lv_at hl 1 rfl) ?_
          refine lv_aload_n hx hb dX4_learn_55 rfl (lv_at hl 0 rfl) ?_
          obtain ⟨u9, h10, hF⟩ := ob1_some hF
          have hPc := hP.sub (ws' := (W_LS cI a (s_LS_reader S u5))) [0, 1, 2, 3, 4, 5, 6, 7, 8, 9, 10, 11, 12] rfl
          have hDc := hD.sub (ws' := (W_LS cI a (s_LS_reader S u5))) [0, 1, 2, 3, 4, 5, 6, 7, 8, 9, 10, 11, 12] (by decide) rfl
          have hFc := va_free (wc := (W_LS cI a (s_LS_reader S u5))) hD hS hA [0, 1, 2, 3, 4, 5, 6, 7, 8, 9, 10, 11, 12] rfl
          refine va_callv (va_runV (As := [.ref (a 6)]) (rest := []) ⟨hx, hb, hml, hown, hts⟩ (c_X4_workOutLearned_false l dC dI cI a H.size _ _ h10) (cwV 1 hts gX4_learn_X4_workOutLearned rfl rfl rfl (by decide +kernel) ⟨Nat.le_of_ble_eq_true rfl, Nat.le_of_ble_eq_true rfl⟩) (jPreV hKi hPc hDc hN (ci := 4) rfl rfl) rfl rfl hl.1 rfl (lv_room (Nat.le_of_ble_eq_true rfl)) dX4_learn_56 ⟨Nat.le_of_ble_eq_true rfl, Nat.le_of_ble_eq_true rfl⟩) hS (fun q _ h => hFc q h) hFc (fun u' t H locs ht hvm hw hB hz1 hk1 hS => ?_)
          subst hw
          obtain ⟨hP1, -, hD1⟩ := hB
          rw [ht] at hP1
          obtain ⟨hP, hD⟩ := jJoinF (wa := (W_LS cI a (s_LS_reader S u5))) (wb := List.flatten [W_Sav cS (a 13) [((q 0) 0), ((q 1) 0), ((q 2) 0), ((q 3) 0), ((q 4) 0), ((q 5) 0)], W_State cI (q 0) (Z 0), W_State cI (q 1) (Z 1), W_State cI (q 2) (Z 2), W_State cI (q 3) (Z 3), W_State cI (q 4) (Z 4), W_State cI (q 5) (Z 5)]) (wc := (W_LS cI a (s_LS_reader S u5))) (w1 := (W_LS cI a u9)) (ws' := (W_LS cI a u9)) hP hD [0, 1, 2, 3, 4, 5, 6, 7, 8, 9, 10, 11, 12] [] [0, 1, 2, 3, 4, 5, 6, 7, 8, 9, 10, 11, 12] rfl rfl (by decide) (by decide) hk1 hFc hP1 hD1 (by decide) rfl
          have hP : va_P (dC, dI) vwCl (List.flatten [W_LS cI a u9, W_Sav cS (a 13) [((q 0) 0), ((q 1) 0), ((q 2) 0), ((q 3) 0), ((q 4) 0), ((q 5) 0)], W_State cI (q 0) (Z 0), W_State cI (q 1) (Z 1), W_State cI (q 2) (Z 2), W_State cI (q 3) (Z 3), W_State cI (q 4) (Z 4), W_State cI (q 5) (Z 5)]) H := hP
          have hD : va_D A (List.flatten [W_LS cI a u9, W_Sav cS (a 13) [((q 0) 0), ((q 1) 0), ((q 2) 0), ((q 3) 0), ((q 4) 0), ((q 5) 0)], W_State cI (q 0) (Z 0), W_State cI (q 1) (Z 1), W_State cI (q 2) (Z 2), W_State cI (q 3) (Z 3), W_State cI (q 4) (Z 4), W_State cI (q 5) (Z 5)]) := hD
          refine lv_aload_n hx hb dX4_learn_59 rfl (lv_at hl 1 rfl) ?_
          refine lv_aload_n hx hb dX4_learn_60 rfl (lv_at hl 0 rfl) ?_
          obtain ⟨r11, h12, hF⟩ := ob1_some hF
          have hPc := hP.sub (ws' := (W_LS cI a u9)) [0, 1, 2, 3, 4, 5, 6, 7, 8, 9, 10, 11, 12] rfl
          have hDc := hD.sub (ws' := (W_LS cI a u9)) [0, 1, 2, 3, 4, 5, 6, 7, 8, 9, 10, 11, 12] (by decide) rfl
          have hFc := va_free (wc := (W_LS cI a u9)) hD hS hA [0, 1, 2, 3, 4, 5, 6, 7, 8, 9, 10, 11, 12] rfl
          refine va_calli (va_runV (As := [.ref (a 6)]) (rest := []) ⟨hx, hb, hml, hown, hts⟩ (c_X4_isRefused_false l dC dI cI a H.size _ _ h12) (cwV 1 hts gX4_learn_X4_isRefused rfl rfl rfl (by decide +kernel) ⟨Nat.le_of_ble_eq_true rfl, Nat.le_of_ble_eq_true rfl⟩) (jPreV hKi hPc hDc hN (ci := 4) rfl rfl) rfl rfl hl.1 rfl (lv_room (Nat.le_of_ble_eq_true rfl)) dX4_learn_61 ⟨Nat.le_of_ble_eq_true rfl, Nat.le_of_ble_eq_true rfl⟩) hS (fun q _ h => hFc q h) hFc (fun r' u' t H locs ht hvm hw hB hz1 hk1 hS => ?_)
          subst hw
          obtain ⟨hP1, -, hD1⟩ := hB
          rw [ht] at hP1
          obtain ⟨hP, hD⟩ := jJoinF (wa := (W_LS cI a u9)) (wb := List.flatten [W_Sav cS (a 13) [((q 0) 0), ((q 1) 0), ((q 2) 0), ((q 3) 0), ((q 4) 0), ((q 5) 0)], W_State cI (q 0) (Z 0), W_State cI (q 1) (Z 1), W_State cI (q 2) (Z 2), W_State cI (q 3) (Z 3), W_State cI (q 4) (Z 4), W_State cI (q 5) (Z 5)]) (wc := (W_LS cI a u9)) (w1 := (W_LS cI a u9)) (ws' := (W_LS cI a u9)) hP hD [0, 1, 2, 3, 4, 5, 6, 7, 8, 9, 10, 11, 12] [] [0, 1, 2, 3, 4, 5, 6, 7, 8, 9, 10, 11, 12] rfl rfl (by decide) (by decide) hk1 hFc hP1 hD1 (by decide) rfl
          have hP : va_P (dC, dI) vwCl (List.flatten [W_LS cI a u9, W_Sav cS (a 13) [((q 0) 0), ((q 1) 0), ((q 2) 0), ((q 3) 0), ((q 4) 0), ((q 5) 0)], W_State cI (q 0) (Z 0), W_State cI (q 1) (Z 1), W_State cI (q 2) (Z 2), W_State cI (q 3) (Z 3), W_State cI (q 4) (Z 4), W_State cI (q 5) (Z 5)]) H := hP
          have hD : va_D A (List.flatten [W_LS cI a u9, W_Sav cS (a 13) [((q 0) 0), ((q 1) 0), ((q 2) 0), ((q 3) 0), ((q 4) 0), ((q 5) 0)], W_State cI (q 0) (Z 0), W_State cI (q 1) (Z 1), W_State cI (q 2) (Z 2), W_State cI (q 3) (Z 3), W_State cI (q 4) (Z 4), W_State cI (q 5) (Z 5)]) := hD
          refine lv_if_eq (tgt := 77) hx hb dX4_learn_64 (by decide) (fun c13 => ?_) (fun c13 => ?_)
          · have hF := F_pos c13 hF
            refine lv_aload_n hx hb dX4_learn_77 rfl (lv_at hl 1 rfl) ?_
            obtain ⟨u14, z15, h16, hF⟩ := ob2_some hF
            have hP : va_P (dC, dI) vwCl (W_Full cI cS a q u9 Z) H := hP
            have hD : va_D A (W_Full cI cS a q u9 Z) := hD
            have hPc := hP
            have hDc := hD
            have hFc := jFreeW (ws := (W_Full cI cS a q u9 Z)) hD hS hA
            refine va_callv (va_runV (As := []) (rest := []) ⟨hx, hb, hml, hown, hts⟩ (c_X4_saveState l dC dI cI cS a q H.size _ _ _ _ h16) (cwV 0 hts gX4_learn_X4_saveState rfl rfl rfl (by decide +kernel) ⟨Nat.le_of_ble_eq_true rfl, Nat.le_of_ble_eq_true rfl⟩) (jPreV hK hPc hDc hN (ci := 4) rfl rfl) rfl rfl hl.1 rfl (lv_room (Nat.le_of_ble_eq_true rfl)) dX4_learn_78 ⟨Nat.le_of_ble_eq_true rfl, Nat.le_of_ble_eq_true rfl⟩) hS (fun q _ h => hFc q h) hFc (fun u9 t H locs ht hvm hw hB hz1 hk1 hS => ?_)
            subst hw
            obtain ⟨q, hP1, -, hD1⟩ := hB
            rw [ht] at hP1
            have hP : va_P (dC, dI) vwCl (W_Full cI cS a q u14 z15) H := hP1
            have hD : va_D A (W_Full cI cS a q u14 z15) := hD1.weaken (fun _ _ _ h => hFc _ h)
            have hP : va_P (dC, dI) vwCl (List.flatten [W_LS cI a u14, W_Sav cS (a 13) [((q 0) 0), ((q 1) 0), ((q 2) 0), ((q 3) 0), ((q 4) 0), ((q 5) 0)], W_State cI (q 0) (z15 0), W_State cI (q 1) (z15 1), W_State cI (q 2) (z15 2), W_State cI (q 3) (z15 3), W_State cI (q 4) (z15 4), W_State cI (q 5) (z15 5)]) H := hP
            have hD : va_D A (List.flatten [W_LS cI a u14, W_Sav cS (a 13) [((q 0) 0), ((q 1) 0), ((q 2) 0), ((q 3) 0), ((q 4) 0), ((q 5) 0)], W_State cI (q 0) (z15 0), W_State cI (q 1) (z15 1), W_State cI (q 2) (z15 2), W_State cI (q 3) (z15 3), W_State cI (q 4) (z15 4), W_State cI (q 5) (z15 5)]) := hD
            refine lv_aload_n hx hb dX4_learn_81 rfl (lv_at hl 1 rfl) ?_
            refine lv_aload_n hx hb dX4_learn_82 rfl (lv_at hl 0 rfl) ?_
            obtain ⟨u17, h18, hF⟩ := ob1_some hF
            have hPc := hP.sub (ws' := (W_LS cI a u14)) [0, 1, 2, 3, 4, 5, 6, 7, 8, 9, 10, 11, 12] rfl
            have hDc := hD.sub (ws' := (W_LS cI a u14)) [0, 1, 2, 3, 4, 5, 6, 7, 8, 9, 10, 11, 12] (by decide) rfl
            have hFc := va_free (wc := (W_LS cI a u14)) hD hS hA [0, 1, 2, 3, 4, 5, 6, 7, 8, 9, 10, 11, 12] rfl
            refine va_callv (va_runV (As := [.ref (a 6)]) (rest := []) ⟨hx, hb, hml, hown, hts⟩ (c_X4_takeWork_false l dC dI cI a H.size _ _ h18) (cwV 1 hts gX4_learn_X4_takeWork rfl rfl rfl (by decide +kernel) ⟨Nat.le_of_ble_eq_true rfl, Nat.le_of_ble_eq_true rfl⟩) (jPreV hKi hPc hDc hN (ci := 4) rfl rfl) rfl rfl hl.1 rfl (lv_room (Nat.le_of_ble_eq_true rfl)) dX4_learn_83 ⟨Nat.le_of_ble_eq_true rfl, Nat.le_of_ble_eq_true rfl⟩) hS (fun q _ h => hFc q h) hFc (fun u' t H locs ht hvm hw hB hz1 hk1 hS => ?_)
            subst hw
            obtain ⟨hP1, -, hD1⟩ := hB
            rw [ht] at hP1
            obtain ⟨hP, hD⟩ := jJoinF (wa := (W_LS cI a u14)) (wb := List.flatten [W_Sav cS (a 13) [((q 0) 0), ((q 1) 0), ((q 2) 0), ((q 3) 0), ((q 4) 0), ((q 5) 0)], W_State cI (q 0) (z15 0), W_State cI (q 1) (z15 1), W_State cI (q 2) (z15 2), W_State cI (q 3) (z15 3), W_State cI (q 4) (z15 4), W_State cI (q 5) (z15 5)]) (wc := (W_LS cI a u14)) (w1 := (W_LS cI a u17)) (ws' := (W_LS cI a u17)) hP hD [0, 1, 2, 3, 4, 5, 6, 7, 8, 9, 10, 11, 12] [] [0, 1, 2, 3, 4, 5, 6, 7, 8, 9, 10, 11, 12] rfl rfl (by decide) (by decide) hk1 hFc hP1 hD1 (by decide) rfl
            have hP : va_P (dC, dI) vwCl (List.flatten [W_LS cI a u17, W_Sav cS (a 13) [((q 0) 0), ((q 1) 0), ((q 2) 0), ((q 3) 0), ((q 4) 0), ((q 5) 0)], W_State cI (q 0) (z15 0), W_State cI (q 1) (z15 1), W_State cI (q 2) (z15 2), W_State cI (q 3) (z15 3), W_State cI (q 4) (z15 4), W_State cI (q 5) (z15 5)]) H := hP
            have hD : va_D A (List.flatten [W_LS cI a u17, W_Sav cS (a 13) [((q 0) 0), ((q 1) 0), ((q 2) 0), ((q 3) 0), ((q 4) 0), ((q 5) 0)], W_State cI (q 0) (z15 0), W_State cI (q 1) (z15 1), W_State cI (q 2) (z15 2), W_State cI (q 3) (z15 3), W_State cI (q 4) (z15 4), W_State cI (q 5) (z15 5)]) := hD
            refine lv_aload_n hx hb dX4_learn_86 rfl (lv_at hl 1 rfl) ?_
            refine lv_iconst (v := (0 : Int32)) hx hb dX4_learn_87 (by decide) ?_
            refine va_put (D := (dC, dI)) (ci := 4) (v := .int (0 : Int32)) (ty := .int) (C := RX4) (T := TX4) (N := 8) hx hb hts hinX4 tyX4 tyX4_ok nmX4 hown hK hP hD hS 0 rfl rfl 1 (by decide) (hts (Cond.fieldLink RX4 56 "LearnedShapes" "length" "I") (List.mem_of_getElem? (i := 9) rfl)) (fun _ h9 => h9) rfl (by decide +kernel) (rfl) rfl (Nat.le_of_ble_eq_true rfl) dX4_learn_88 (fun H locs hP hD hS => ?_)
            have hP : va_P (dC, dI) vwCl (List.flatten [W_LS cI a (s_LS_length u17 (0 : Int32)), W_Sav cS (a 13) [((q 0) 0), ((q 1) 0), ((q 2) 0), ((q 3) 0), ((q 4) 0), ((q 5) 0)], W_State cI (q 0) (z15 0), W_State cI (q 1) (z15 1), W_State cI (q 2) (z15 2), W_State cI (q 3) (z15 3), W_State cI (q 4) (z15 4), W_State cI (q 5) (z15 5)]) H := hP
            have hD : va_D A (List.flatten [W_LS cI a (s_LS_length u17 (0 : Int32)), W_Sav cS (a 13) [((q 0) 0), ((q 1) 0), ((q 2) 0), ((q 3) 0), ((q 4) 0), ((q 5) 0)], W_State cI (q 0) (z15 0), W_State cI (q 1) (z15 1), W_State cI (q 2) (z15 2), W_State cI (q 3) (z15 3), W_State cI (q 4) (z15 4), W_State cI (q 5) (z15 5)]) := hD
            refine lv_aload_n hx hb dX4_learn_91 rfl (lv_at hl 0 rfl) ?_
            refine va_get (D := (dC, dI)) (ci := 3) (v := .int (g_Tree_size (g_State_first (g_LS_now u17)))) (C := RX3) (T := TX3) (N := 3) hx hb hts hinX3 hown hK hP 6 rfl rfl 1 (by decide) (hts (Cond.fieldLink RX4 92 "LearnedShapes$Tree" "size" "I") (List.mem_of_getElem? (i := 11) rfl)) (fun _ h9 => h9) rfl dX4_learn_92 ?_
            have hP : va_P (dC, dI) vwCl (W_Full cI cS a q (s_LS_length u17 (0 : Int32)) z15) H := hP
            have hD : va_D A (W_Full cI cS a q (s_LS_length u17 (0 : Int32)) z15) := hD
            cases hF
            refine vx_ret ?_
            refine W.widen (k := 1) (n := 6) (Nat.zero_le _) (Nat.zero_le _) ?_
            exact W.iret (v := (g_Tree_size (g_State_first (g_LS_now u17)))) hx hb hr (fun t ht hW => ⟨⟨(g_Tree_size (g_State_first (g_LS_now u17))), ((s_LS_length u17 (0 : Int32)), z15), rfl, rfl, q, by rw [ht]; exact hP, va_K.moved hW.alike hK, hD⟩, hS.F ht⟩) hS.2.2 dX4_learn_95
          · have hF := F_neg c13 hF
            have hP : va_P (dC, dI) vwCl (W_Full cI cS a q u9 Z) H := hP
            have hD : va_D A (W_Full cI cS a q u9 Z) := hD
            cases hF
            obtain ⟨sa, hsa⟩ := hN.2.1 _ (List.mem_of_getElem? (i := 10) rfl)
            exact vx_throwS (names := ["java/lang/RuntimeException", "java/lang/Exception"]) (cls := "java/lang/IllegalStateException") hx hb hl0 hown (by decide +kernel) (by decide +kernel) (hts (Cond.classLink RX4 81 "java/lang/IllegalStateException") (List.mem_of_getElem? (i := 5) rfl)) (hts (Cond.initialized "java/lang/IllegalStateException") (List.mem_of_getElem? (i := 6) rfl)) hsa (vx_hat (B := [Cond.castable "java/lang/IllegalStateException" "java/lang/IllegalStateException", Cond.declares ⟨"java/lang/RuntimeException", "<init>", "(Ljava/lang/String;)V"⟩, Cond.declares ⟨"java/lang/Exception", "<init>", "(Ljava/lang/String;)V"⟩, Cond.declares ⟨"java/lang/Throwable", "<init>", "(Ljava/lang/String;)V"⟩]) (fun w hw => hts w (List.mem_cons_of_mem _ (List.mem_append_right _ hw))) (by decide +kernel) (vx_c (va_Nw.use rfl (hN.1 _ (List.mem_of_getElem? (i := 13) rfl))) (vx_c (va_Nw.use rfl (hN.1 _ (List.mem_of_getElem? (i := 14) rfl))) (vx_c (va_Nw.use rfl (hN.1 _ (List.mem_of_getElem? (i := 15) rfl))) (vx_c (va_Nw.use rfl (hN.1 _ (List.mem_of_getElem? (i := 16) rfl))) vx_n))))) (by decide +kernel) hU hSN hS (hl.1.trans hml.symm) dX4_learn_67 dX4_learn_70 dX4_learn_71 dX4_learn_73 dX4_learn_76 (fun x hx => (hex x hx).elim) (Nat.le_of_ble_eq_true rfl) (Nat.le_of_ble_eq_true rfl) (Nat.le_of_ble_eq_true rfl) (Nat.le_of_ble_eq_true rfl) hlocks (fun t ha hz hk => ⟨(u9, Z), trivial, ⟨rfl, q, jKeep hP hk, va_K.moved ha hK, hD⟩, jF hS hz hk⟩) hS.2.2 (Nat.le_of_ble_eq_true rfl) (Nat.le_of_ble_eq_true rfl)
        · have hF := F_neg c8 hF
          have hPc := hP.sub (ws' := (W_State cI (sh a 5) (g_LS_now S))) [5, 6, 7, 8, 9] rfl
          have hDc := hD.sub (ws' := (W_State cI (sh a 5) (g_LS_now S))) [5, 6, 7, 8, 9] (by decide) rfl
          have hFc := va_free (wc := (W_State cI (sh a 5) (g_LS_now S))) hD hS hA [5, 6, 7, 8, 9] rfl
          refine va_callr (va_runV (As := [.int v1]) (rest := []) ⟨hx, hb, hml, hown, hts⟩ (c_X2_tree_second l dC dI cI (sh a 5) H.size _ _ c8) (cwV 1 hts gX4_learn_X2_tree rfl rfl rfl (by decide +kernel) ⟨Nat.le_of_ble_eq_true rfl, Nat.le_of_ble_eq_true rfl⟩) (jPreV hKi hPc hDc hN (ci := 2) rfl rfl) rfl rfl hl.1 rfl (lv_room (Nat.le_of_ble_eq_true rfl)) dX4_learn_50 ⟨Nat.le_of_ble_eq_true rfl, Nat.le_of_ble_eq_true rfl⟩) hS (fun q _ h => hFc q h) hFc (fun u q9 t H locs ht hvm hw hB hz1 hk1 hS => ?_)
          obtain ⟨e9, hP1, -, hD1⟩ := hB
          subst e9
          rw [ht] at hP1
          obtain ⟨hP, hD⟩ := jJoinF (wa := W_LS cI a (s_LS_reader S u5)) (wb := List.flatten [W_Sav cS (a 13) [((q 0) 0), ((q 1) 0), ((q 2) 0), ((q 3) 0), ((q 4) 0), ((q 5) 0)], W_State cI (q 0) (Z 0), W_State cI (q 1) (Z 1), W_State cI (q 2) (Z 2), W_State cI (q 3) (Z 3), W_State cI (q 4) (Z 4), W_State cI (q 5) (Z 5)]) (wc := (W_State cI (sh a 5) (g_LS_now S))) (w1 := (W_State cI (sh a 5) (g_LS_now S))) (ws' := W_LS cI a (s_LS_reader S u5)) hP hD [5, 6, 7, 8, 9] [0, 1, 2, 3, 4, 10, 11, 12] [0, 1, 2, 3, 4, 8, 9, 10, 11, 12, 5, 6, 7] rfl rfl (by decide) (by decide) hk1 hFc hP1 hD1 (by decide) rfl
          have hP : va_P (dC, dI) vwCl (List.flatten [W_LS cI a (s_LS_reader S u5), W_Sav cS (a 13) [((q 0) 0), ((q 1) 0), ((q 2) 0), ((q 3) 0), ((q 4) 0), ((q 5) 0)], W_State cI (q 0) (Z 0), W_State cI (q 1) (Z 1), W_State cI (q 2) (Z 2), W_State cI (q 3) (Z 3), W_State cI (q 4) (Z 4), W_State cI (q 5) (Z 5)]) H := hP
          have hD : va_D A (List.flatten [W_LS cI a (s_LS_reader S u5), W_Sav cS (a 13) [((q 0) 0), ((q 1) 0), ((q 2) 0), ((q 3) 0), ((q 4) 0), ((q 5) 0)], W_State cI (q 0) (Z 0), W_State cI (q 1) (Z 1), W_State cI (q 2) (Z 2), W_State cI (q 3) (Z 3), W_State cI (q 4) (Z 4), W_State cI (q 5) (Z 5)]) := hD
          refine lv_astore_n (lv' := [(2, .ref (a 8)), (0, .ref (a 0)), (1, .int v1)]) hx hb dX4_learn_53 rfl hl (by decide) rfl (fun ls hl => ?_)
          refine lv_aload_n hx hb dX4_learn_54 rfl (lv_at hl 1 rfl) ?_
          refine lv_aload_n hx hb dX4_learn_55 rfl (lv_at hl 0 rfl) ?_
          obtain ⟨u19, h20, hF⟩ := ob1_some hF
          have hPc := hP.sub (ws' := (W_LS cI a (s_LS_reader S u5))) [0, 1, 2, 3, 4, 5, 6, 7, 8, 9, 10, 11, 12] rfl
          have hDc := hD.sub (ws' := (W_LS cI a (s_LS_reader S u5))) [0, 1, 2, 3, 4, 5, 6, 7, 8, 9, 10, 11, 12] (by decide) rfl
          have hFc := va_free (wc := (W_LS cI a (s_LS_reader S u5))) hD hS hA [0, 1, 2, 3, 4, 5, 6, 7, 8, 9, 10, 11, 12] rfl
          refine va_callv (va_runV (As := [.ref (a 8)]) (rest := []) ⟨hx, hb, hml, hown, hts⟩ (c_X4_workOutLearned_true l dC dI cI a H.size _ _ h20) (cwV 1 hts gX4_learn_X4_workOutLearned rfl rfl rfl (by decide +kernel) ⟨Nat.le_of_ble_eq_true rfl, Nat.le_of_ble_eq_true rfl⟩) (jPreV hKi hPc hDc hN (ci := 4) rfl rfl) rfl rfl hl.1 rfl (lv_room (Nat.le_of_ble_eq_true rfl)) dX4_learn_56 ⟨Nat.le_of_ble_eq_true rfl, Nat.le_of_ble_eq_true rfl⟩) hS (fun q _ h => hFc q h) hFc (fun u' t H locs ht hvm hw hB hz1 hk1 hS => ?_)
          subst hw
          obtain ⟨hP1, -, hD1⟩ := hB
          rw [ht] at hP1
          obtain ⟨hP, hD⟩ := jJoinF (wa := (W_LS cI a (s_LS_reader S u5))) (wb := List.flatten [W_Sav cS (a 13) [((q 0) 0), ((q 1) 0), ((q 2) 0), ((q 3) 0), ((q 4) 0), ((q 5) 0)], W_State cI (q 0) (Z 0), W_State cI (q 1) (Z 1), W_State cI (q 2) (Z 2), W_State cI (q 3) (Z 3), W_State cI (q 4) (Z 4), W_State cI (q 5) (Z 5)]) (wc := (W_LS cI a (s_LS_reader S u5))) (w1 := (W_LS cI a u19)) (ws' := (W_LS cI a u19)) hP hD [0, 1, 2, 3, 4, 5, 6, 7, 8, 9, 10, 11, 12] [] [0, 1, 2, 3, 4, 5, 6, 7, 8, 9, 10, 11, 12] rfl rfl (by decide) (by decide) hk1 hFc hP1 hD1 (by decide) rfl
          have hP : va_P (dC, dI) vwCl (List.flatten [W_LS cI a u19, W_Sav cS (a 13) [((q 0) 0), ((q 1) 0), ((q 2) 0), ((q 3) 0), ((q 4) 0), ((q 5) 0)], W_State cI (q 0) (Z 0), W_State cI (q 1) (Z 1), W_State cI (q 2) (Z 2), W_State cI (q 3) (Z 3), W_State cI (q 4) (Z 4), W_State cI (q 5) (Z 5)]) H := hP
          have hD : va_D A (List.flatten [W_LS cI a u19, W_Sav cS (a 13) [((q 0) 0), ((q 1) 0), ((q 2) 0), ((q 3) 0), ((q 4) 0), ((q 5) 0)], W_State cI (q 0) (Z 0), W_State cI (q 1) (Z 1), W_State cI (q 2) (Z 2), W_State cI (q 3) (Z 3), W_State cI (q 4) (Z 4), W_State cI (q 5) (Z 5)]) := hD
          refine lv_aload_n hx hb dX4_learn_59 rfl (lv_at hl 1 rfl) ?_
          refine lv_aload_n hx hb dX4_learn_60 rfl (lv_at hl 0 rfl) ?_
          obtain ⟨r21, h22, hF⟩ := ob1_some hF
          have hPc := hP.sub (ws' := (W_LS cI a u19)) [0, 1, 2, 3, 4, 5, 6, 7, 8, 9, 10, 11, 12] rfl
          have hDc := hD.sub (ws' := (W_LS cI a u19)) [0, 1, 2, 3, 4, 5, 6, 7, 8, 9, 10, 11, 12] (by decide) rfl
          have hFc := va_free (wc := (W_LS cI a u19)) hD hS hA [0, 1, 2, 3, 4, 5, 6, 7, 8, 9, 10, 11, 12] rfl
          refine va_calli (va_runV (As := [.ref (a 8)]) (rest := []) ⟨hx, hb, hml, hown, hts⟩ (c_X4_isRefused_true l dC dI cI a H.size _ _ h22) (cwV 1 hts gX4_learn_X4_isRefused rfl rfl rfl (by decide +kernel) ⟨Nat.le_of_ble_eq_true rfl, Nat.le_of_ble_eq_true rfl⟩) (jPreV hKi hPc hDc hN (ci := 4) rfl rfl) rfl rfl hl.1 rfl (lv_room (Nat.le_of_ble_eq_true rfl)) dX4_learn_61 ⟨Nat.le_of_ble_eq_true rfl, Nat.le_of_ble_eq_true rfl⟩) hS (fun q _ h => hFc q h) hFc (fun r' u' t H locs ht hvm hw hB hz1 hk1 hS => ?_)
          subst hw
          obtain ⟨hP1, -, hD1⟩ := hB
          rw [ht] at hP1
          obtain ⟨hP, hD⟩ := jJoinF (wa := (W_LS cI a u19)) (wb := List.flatten [W_Sav cS (a 13) [((q 0) 0), ((q 1) 0), ((q 2) 0), ((q 3) 0), ((q 4) 0), ((q 5) 0)], W_State cI (q 0) (Z 0), W_State cI (q 1) (Z 1), W_State cI (q 2) (Z 2), W_State cI (q 3) (Z 3), W_State cI (q 4) (Z 4), W_State cI (q 5) (Z 5)]) (wc := (W_LS cI a u19)) (w1 := (W_LS cI a u19)) (ws' := (W_LS cI a u19)) hP hD [0, 1, 2, 3, 4, 5, 6, 7, 8, 9, 10, 11, 12] [] [0, 1, 2, 3, 4, 5, 6, 7, 8, 9, 10, 11, 12] rfl rfl (by decide) (by decide) hk1 hFc hP1 hD1 (by decide) rfl
          have hP : va_P (dC, dI) vwCl (List.flatten [W_LS cI a u19, W_Sav cS (a 13) [((q 0) 0), ((q 1) 0), ((q 2) 0), ((q 3) 0), ((q 4) 0), ((q 5) 0)], W_State cI (q 0) (Z 0), W_State cI (q 1) (Z 1), W_State cI (q 2) (Z 2), W_State cI (q 3) (Z 3), W_State cI (q 4) (Z 4), W_State cI (q 5) (Z 5)]) H := hP
          have hD : va_D A (List.flatten [W_LS cI a u19, W_Sav cS (a 13) [((q 0) 0), ((q 1) 0), ((q 2) 0), ((q 3) 0), ((q 4) 0), ((q 5) 0)], W_State cI (q 0) (Z 0), W_State cI (q 1) (Z 1), W_State cI (q 2) (Z 2), W_State cI (q 3) (Z 3), W_State cI (q 4) (Z 4), W_State cI (q 5) (Z 5)]) := hD
          refine lv_if_eq (tgt := 77) hx hb dX4_learn_64 (by decide) (fun c23 => ?_) (fun c23 => ?_)
          · have hF := F_pos c23 hF
            refine lv_aload_n hx hb dX4_learn_77 rfl (lv_at hl 1 rfl) ?_
            obtain ⟨u24, z25, h26, hF⟩ := ob2_some hF
            have hP : va_P (dC, dI) vwCl (W_Full cI cS a q u19 Z) H := hP
            have hD : va_D A (W_Full cI cS a q u19 Z) := hD
            have hPc := hP
            have hDc := hD
            have hFc := jFreeW (ws := (W_Full cI cS a q u19 Z)) hD hS hA
            refine va_callv (va_runV (As := []) (rest := []) ⟨hx, hb, hml, hown, hts⟩ (c_X4_saveState l dC dI cI cS a q H.size _ _ _ _ h26) (cwV 0 hts gX4_learn_X4_saveState rfl rfl rfl (by decide +kernel) ⟨Nat.le_of_ble_eq_true rfl, Nat.le_of_ble_eq_true rfl⟩) (jPreV hK hPc hDc hN (ci := 4) rfl rfl) rfl rfl hl.1 rfl (lv_room (Nat.le_of_ble_eq_true rfl)) dX4_learn_78 ⟨Nat.le_of_ble_eq_true rfl, Nat.le_of_ble_eq_true rfl⟩) hS (fun q _ h => hFc q h) hFc (fun u9 t H locs ht hvm hw hB hz1 hk1 hS => ?_)
            subst hw
            obtain ⟨q, hP1, -, hD1⟩ := hB
            rw [ht] at hP1
            have hP : va_P (dC, dI) vwCl (W_Full cI cS a q u24 z25) H := hP1
            have hD : va_D A (W_Full cI cS a q u24 z25) := hD1.weaken (fun _ _ _ h => hFc _ h)
            have hP : va_P (dC, dI) vwCl (List.flatten [W_LS cI a u24, W_Sav cS (a 13) [((q 0) 0), ((q 1) 0), ((q 2) 0), ((q 3) 0), ((q 4) 0), ((q 5) 0)], W_State cI (q 0) (z25 0), W_State cI (q 1) (z25 1), W_State cI (q 2) (z25 2), W_State cI (q 3) (z25 3), W_State cI (q 4) (z25 4), W_State cI (q 5) (z25 5)]) H := hP
            have hD : va_D A (List.flatten [W_LS cI a u24, W_Sav cS (a 13) [((q 0) 0), ((q 1) 0), ((q 2) 0), ((q 3) 0), ((q 4) 0), ((q 5) 0)], W_State cI (q 0) (z25 0), W_State cI (q 1) (z25 1), W_State cI (q 2) (z25 2), W_State cI (q 3) (z25 3), W_State cI (q 4) (z25 4), W_State cI (q 5) (z25 5)]) := hD
            refine lv_aload_n hx hb dX4_learn_81 rfl (lv_at hl 1 rfl) ?_
            refine lv_aload_n hx hb dX4_learn_82 rfl (lv_at hl 0 rfl) ?_
            obtain ⟨u27, h28, hF⟩ := ob1_some hF
            have hPc := hP.sub (ws' := (W_LS cI a u24)) [0, 1, 2, 3, 4, 5, 6, 7, 8, 9, 10, 11, 12] rfl
            have hDc := hD.sub (ws' := (W_LS cI a u24)) [0, 1, 2, 3, 4, 5, 6, 7, 8, 9, 10, 11, 12] (by decide) rfl
            have hFc := va_free (wc := (W_LS cI a u24)) hD hS hA [0, 1, 2, 3, 4, 5, 6, 7, 8, 9, 10, 11, 12] rfl
            refine va_callv (va_runV (As := [.ref (a 8)]) (rest := []) ⟨hx, hb, hml, hown, hts⟩ (c_X4_takeWork_true l dC dI cI a H.size _ _ h28) (cwV 1 hts gX4_learn_X4_takeWork rfl rfl rfl (by decide +kernel) ⟨Nat.le_of_ble_eq_true rfl, Nat.le_of_ble_eq_true rfl⟩) (jPreV hKi hPc hDc hN (ci := 4) rfl rfl) rfl rfl hl.1 rfl (lv_room (Nat.le_of_ble_eq_true rfl)) dX4_learn_83 ⟨Nat.le_of_ble_eq_true rfl, Nat.le_of_ble_eq_true rfl⟩) hS (fun q _ h => hFc q h) hFc (fun u' t H locs ht hvm hw hB hz1 hk1 hS => ?_)
            subst hw
            obtain ⟨hP1, -, hD1⟩ := hB
            rw [ht] at hP1
            obtain ⟨hP, hD⟩ := jJoinF (wa := (W_LS cI a u24)) (wb := List.flatten [W_Sav cS (a 13) [((q 0) 0), ((q 1) 0), ((q 2) 0), ((q 3) 0), ((q 4) 0), ((q 5) 0)], W_State cI (q 0) (z25 0), W_State cI (q 1) (z25 1), W_State cI (q 2) (z25 2), W_State cI (q 3) (z25 3), W_State cI (q 4) (z25 4), W_State cI (q 5) (z25 5)]) (wc := (W_LS cI a u24)) (w1 := (W_LS cI a u27)) (ws' := (W_LS cI a u27)) hP hD [0, 1, 2, 3, 4, 5, 6, 7, 8, 9, 10, 11, 12] [] [0, 1, 2, 3, 4, 5, 6, 7, 8, 9, 10, 11, 12] rfl rfl (by decide) (by decide) hk1 hFc hP1 hD1 (by decide) rfl
            have hP : va_P (dC, dI) vwCl (List.flatten [W_LS cI a u27, W_Sav cS (a 13) [((q 0) 0), ((q 1) 0), ((q 2) 0), ((q 3) 0), ((q 4) 0), ((q 5) 0)], W_State cI (q 0) (z25 0), W_State cI (q 1) (z25 1), W_State cI (q 2) (z25 2), W_State cI (q 3) (z25 3), W_State cI (q 4) (z25 4), W_State cI (q 5) (z25 5)]) H := hP
            have hD : va_D A (List.flatten [W_LS cI a u27, W_Sav cS (a 13) [((q 0) 0), ((q 1) 0), ((q 2) 0), ((q 3) 0), ((q 4) 0), ((q 5) 0)], W_State cI (q 0) (z25 0), W_State cI (q 1) (z25 1), W_State cI (q 2) (z25 2), W_State cI (q 3) (z25 3), W_State cI (q 4) (z25 4), W_State cI (q 5) (z25 5)]) := hD
            refine lv_aload_n hx hb dX4_learn_86 rfl (lv_at hl 1 rfl) ?_
            refine lv_iconst (v := (0 : Int32)) hx hb dX4_learn_87 (by decide) ?_
            refine va_put (D := (dC, dI)) (ci := 4) (v := .int (0 : Int32)) (ty := .int) (C := RX4) (T := TX4) (N := 8) hx hb hts hinX4 tyX4 tyX4_ok nmX4 hown hK hP hD hS 0 rfl rfl 1 (by decide) (hts (Cond.fieldLink RX4 56 "LearnedShapes" "length" "I") (List.mem_of_getElem? (i := 9) rfl)) (fun _ h9 => h9) rfl (by decide +kernel) (rfl) rfl (Nat.le_of_ble_eq_true rfl) dX4_learn_88 (fun H locs hP hD hS => ?_)
            have hP : va_P (dC, dI) vwCl (List.flatten [W_LS cI a (s_LS_length u27 (0 : Int32)), W_Sav cS (a 13) [((q 0) 0), ((q 1) 0), ((q 2) 0), ((q 3) 0), ((q 4) 0), ((q 5) 0)], W_State cI (q 0) (z25 0), W_State cI (q 1) (z25 1), W_State cI (q 2) (z25 2), W_State cI (q 3) (z25 3), W_State cI (q 4) (z25 4), W_State cI (q 5) (z25 5)]) H := hP
            have hD : va_D A (List.flatten [W_LS cI a (s_LS_length u27 (0 : Int32)), W_Sav cS (a 13) [((q 0) 0), ((q 1) 0), ((q 2) 0), ((q 3) 0), ((q 4) 0), ((q 5) 0)], W_State cI (q 0) (z25 0), W_State cI (q 1) (z25 1), W_State cI (q 2) (z25 2), W_State cI (q 3) (z25 3), W_State cI (q 4) (z25 4), W_State cI (q 5) (z25 5)]) := hD
            refine lv_aload_n hx hb dX4_learn_91 rfl (lv_at hl 0 rfl) ?_
            refine va_get (D := (dC, dI)) (ci := 3) (v := .int (g_Tree_size (g_State_second (g_LS_now u27)))) (C := RX3) (T := TX3) (N := 3) hx hb hts hinX3 hown hK hP 8 rfl rfl 1 (by decide) (hts (Cond.fieldLink RX4 92 "LearnedShapes$Tree" "size" "I") (List.mem_of_getElem? (i := 11) rfl)) (fun _ h9 => h9) rfl dX4_learn_92 ?_
            have hP : va_P (dC, dI) vwCl (W_Full cI cS a q (s_LS_length u27 (0 : Int32)) z25) H := hP
            have hD : va_D A (W_Full cI cS a q (s_LS_length u27 (0 : Int32)) z25) := hD
            cases hF
            refine vx_ret ?_
            refine W.widen (k := 1) (n := 6) (Nat.zero_le _) (Nat.zero_le _) ?_
            exact W.iret (v := (g_Tree_size (g_State_second (g_LS_now u27)))) hx hb hr (fun t ht hW => ⟨⟨(g_Tree_size (g_State_second (g_LS_now u27))), ((s_LS_length u27 (0 : Int32)), z25), rfl, rfl, q, by rw [ht]; exact hP, va_K.moved hW.alike hK, hD⟩, hS.F ht⟩) hS.2.2 dX4_learn_95
          · have hF := F_neg c23 hF
            have hP : va_P (dC, dI) vwCl (W_Full cI cS a q u19 Z) H := hP
            have hD : va_D A (W_Full cI cS a q u19 Z) := hD
            cases hF
            obtain ⟨sa, hsa⟩ := hN.2.1 _ (List.mem_of_getElem? (i := 10) rfl)
            exact vx_throwS (names := ["java/lang/RuntimeException", "java/lang/Exception"]) (cls := "java/lang/IllegalStateException") hx hb hl0 hown (by decide +kernel) (by decide +kernel) (hts (Cond.classLink RX4 81 "java/lang/IllegalStateException") (List.mem_of_getElem? (i := 5) rfl)) (hts (Cond.initialized "java/lang/IllegalStateException") (List.mem_of_getElem? (i := 6) rfl)) hsa (vx_hat (B := [Cond.castable "java/lang/IllegalStateException" "java/lang/IllegalStateException", Cond.declares ⟨"java/lang/RuntimeException", "<init>", "(Ljava/lang/String;)V"⟩, Cond.declares ⟨"java/lang/Exception", "<init>", "(Ljava/lang/String;)V"⟩, Cond.declares ⟨"java/lang/Throwable", "<init>", "(Ljava/lang/String;)V"⟩]) (fun w hw => hts w (List.mem_cons_of_mem _ (List.mem_append_right _ hw))) (by decide +kernel) (vx_c (va_Nw.use rfl (hN.1 _ (List.mem_of_getElem? (i := 13) rfl))) (vx_c (va_Nw.use rfl (hN.1 _ (List.mem_of_getElem? (i := 14) rfl))) (vx_c (va_Nw.use rfl (hN.1 _ (List.mem_of_getElem? (i := 15) rfl))) (vx_c (va_Nw.use rfl (hN.1 _ (List.mem_of_getElem? (i := 16) rfl))) vx_n))))) (by decide +kernel) hU hSN hS (hl.1.trans hml.symm) dX4_learn_67 dX4_learn_70 dX4_learn_71 dX4_learn_73 dX4_learn_76 (fun x hx => (hex x hx).elim) (Nat.le_of_ble_eq_true rfl) (Nat.le_of_ble_eq_true rfl) (Nat.le_of_ble_eq_true rfl) (Nat.le_of_ble_eq_true rfl) hlocks (fun t ha hz hk => ⟨(u19, Z), trivial, ⟨rfl, q, jKeep hP hk, va_K.moved ha hK, hD⟩, jF hS hz hk⟩) hS.2.2 (Nat.le_of_ble_eq_true rfl) (Nat.le_of_ble_eq_true rfl)
      · have hF := F_pos c7 hF
        have hP : va_P (dC, dI) vwCl (W_Full cI cS a q (s_LS_reader S u5) Z) H := hP
        have hD : va_D A (W_Full cI cS a q (s_LS_reader S u5) Z) := hD
        cases hF
        obtain ⟨sa, hsa⟩ := hN.2.1 _ (List.mem_of_getElem? (i := 9) rfl)
        exact vx_throwS (names := ["java/lang/RuntimeException", "java/lang/Exception"]) (cls := "java/lang/IllegalArgumentException") hx hb hl0 hown (by decide +kernel) (by decide +kernel) (hts (Cond.classLink RX4 64 "java/lang/IllegalArgumentException") (List.mem_of_getElem? (i := 3) rfl)) (hts (Cond.initialized "java/lang/IllegalArgumentException") (List.mem_of_getElem? (i := 4) rfl)) hsa (vx_hat (B := [Cond.castable "java/lang/IllegalArgumentException" "java/lang/IllegalArgumentException", Cond.declares ⟨"java/lang/RuntimeException", "<init>", "(Ljava/lang/String;)V"⟩, Cond.declares ⟨"java/lang/Exception", "<init>", "(Ljava/lang/String;)V"⟩, Cond.declares ⟨"java/lang/Throwable", "<init>", "(Ljava/lang/String;)V"⟩]) (fun w hw => hts w (List.mem_cons_of_mem _ (List.mem_append_left _ (List.mem_append_right _ hw)))) (by decide +kernel) (vx_c (va_Nw.use rfl (hN.1 _ (List.mem_of_getElem? (i := 12) rfl))) (vx_c (va_Nw.use rfl (hN.1 _ (List.mem_of_getElem? (i := 14) rfl))) (vx_c (va_Nw.use rfl (hN.1 _ (List.mem_of_getElem? (i := 15) rfl))) (vx_c (va_Nw.use rfl (hN.1 _ (List.mem_of_getElem? (i := 16) rfl))) vx_n))))) (by decide +kernel) hU hSN hS (hl.1.trans hml.symm) dX4_learn_35 dX4_learn_38 dX4_learn_39 dX4_learn_41 dX4_learn_44 (fun x hx => (hex x hx).elim) (Nat.le_of_ble_eq_true rfl) (Nat.le_of_ble_eq_true rfl) (Nat.le_of_ble_eq_true rfl) (Nat.le_of_ble_eq_true rfl) hlocks (fun t ha hz hk => ⟨((s_LS_reader S u5), Z), trivial, ⟨rfl, q, jKeep hP hk, va_K.moved ha hK, hD⟩, jF hS hz hk⟩) hS.2.2 (Nat.le_of_ble_eq_true rfl) (Nat.le_of_ble_eq_true rfl)
    · have hF := F_pos c3 hF
      have hP : va_P (dC, dI) vwCl (W_Full cI cS a q S Z) H := hP
      have hD : va_D A (W_Full cI cS a q S Z) := hD
      cases hF
      obtain ⟨sa, hsa⟩ := hN.2.1 _ (List.mem_of_getElem? (i := 5) rfl)
      exact vx_throwS (names := ["java/lang/RuntimeException", "java/lang/Exception"]) (cls := "java/lang/IndexOutOfBoundsException") hx hb hl0 hown (by decide +kernel) (by decide +kernel) (hts (Cond.classLink RX4 49 "java/lang/IndexOutOfBoundsException") (List.mem_of_getElem? (i := 1) rfl)) (hts (Cond.initialized "java/lang/IndexOutOfBoundsException") (List.mem_of_getElem? (i := 2) rfl)) hsa (vx_hat (B := [Cond.castable "java/lang/IndexOutOfBoundsException" "java/lang/IndexOutOfBoundsException", Cond.declares ⟨"java/lang/RuntimeException", "<init>", "(Ljava/lang/String;)V"⟩, Cond.declares ⟨"java/lang/Exception", "<init>", "(Ljava/lang/String;)V"⟩, Cond.declares ⟨"java/lang/Throwable", "<init>", "(Ljava/lang/String;)V"⟩]) (fun w hw => hts w (List.mem_cons_of_mem _ (List.mem_append_left _ (List.mem_append_left _ (List.mem_append_right _ hw))))) (by decide +kernel) (vx_c (va_Nw.use rfl (hN.1 _ (List.mem_of_getElem? (i := 11) rfl))) (vx_c (va_Nw.use rfl (hN.1 _ (List.mem_of_getElem? (i := 14) rfl))) (vx_c (va_Nw.use rfl (hN.1 _ (List.mem_of_getElem? (i := 15) rfl))) (vx_c (va_Nw.use rfl (hN.1 _ (List.mem_of_getElem? (i := 16) rfl))) vx_n))))) (by decide +kernel) hU hSN hS (hl.1.trans hml.symm) dX4_learn_7 dX4_learn_10 dX4_learn_11 dX4_learn_13 dX4_learn_16 (fun x hx => (hex x hx).elim) (Nat.le_of_ble_eq_true rfl) (Nat.le_of_ble_eq_true rfl) (Nat.le_of_ble_eq_true rfl) (Nat.le_of_ble_eq_true rfl) hlocks (fun t ha hz hk => ⟨(S, Z), trivial, ⟨rfl, q, jKeep hP hk, va_K.moved ha hK, hD⟩, jF hS hz hk⟩) hS.2.2 (Nat.le_of_ble_eq_true rfl) (Nat.le_of_ble_eq_true rfl)
  exact KE _ _ hP hD hS
set_option maxHeartbeats 4000000 in
set_option maxRecDepth 100000 in
theorem c_X4_join (l : Launch) (dC : Nat → ClassId) (dI : Nat → Nat → Nat) (cI : ClassId) (hl0 : l.stackTraces = false) (cS : ClassId) (a : Nat → Nat) (q : Nat → Nat → Nat) (sz : Nat) (S : S_LS) (Z : (Nat → S_State)) (v1 : Int32) (res : Sum (String × (S_LS × (Nat → S_State))) (Int32 × S_LS × (Nat → S_State))) (hF : F_X4_join S Z v1 = some res) : vx_Met l yX4_join wsX4_join ({ frames := 13, cells := 1, slots := 6, locals := 398 } : Room) (va_Pc [.ref (a 0), .int v1] (jPreX (dC, dI) [(cI, .int), (cS, .object "LearnedShapes$State")] sz (W_Full cI cS a q S Z))) (va_Qi (fun (r' : Int32) (u : S_LS × (Nat → S_State)) => res = .inr (r', u)) (fun (u : S_LS × (Nat → S_State)) (t : State) => ∃ q9 : Nat → Nat → Nat, jB (dC, dI) [(cI, .int), (cS, .object "LearnedShapes$State")] (va_A (W_Full cI cS a q S Z) sz) (W_Full cI cS a q9 u.1 u.2) t) (va_A (W_Full cI cS a q S Z) sz)) (vx_X (fun _ : S_LS × (Nat → S_State) => True) (fun (E : String) (u : S_LS × (Nat → S_State)) (t : State) => res = .inl (E, u) ∧ (fun (u : S_LS × (Nat → S_State)) (t : State) => ∃ q9 : Nat → Nat → Nat, jB (dC, dI) [(cI, .int), (cS, .object "LearnedShapes$State")] (va_A (W_Full cI cS a q S Z) sz) (W_Full cI cS a q9 u.1 u.2) t) u t) (va_A (W_Full cI cS a q S Z) sz)) 1 6 (va_A (W_Full cI cS a q S Z) sz) := by
  refine vx_ofW (cc := cX4_join) (maxL := 3) (ret := (some .int)) (by decide) rfl ?_
  intro p e s m args below meth c s₁ B hml hex hv
  obtain ⟨rfl, ⟨hsz, hP, hK, hD0, hN⟩, hU, hSN⟩ := hv
  have hx := B.exec
  have hb := B.bytes
  have hr := B.returns
  have hts := atoms_spec (ws := wsX4_join) B.pre
  have hown : s.vm.findClass RX4 = some m.cls := findClass_of_methodNamed B.named
  have hlocks := B.notSynchronized
  have hKi : va_K (dC, dI) vwCl [(cI, .int)] s := hK.sub [0] rfl
  have hinX3 : ∀ w ∈ u_ws RX3 TX3 3, w ∈ wsX4_join := by decide +kernel
  have hinX4 : ∀ w ∈ u_ws RX4 TX4 8, w ∈ wsX4_join := by decide +kernel
  subst hsz
  have hD := hD0.self (sz := s.heap.size)
  generalize hAe : (va_A (W_Full cI cS a q S Z) s.heap.size) = A at hD hU hSN ⊢
  have hA : ∀ q : Nat, s.heap.size ≤ q → A q := fun q h => by rw [← hAe]; exact Or.inr h
  have hS : va_S A s.heap s.heap [] := va_S.rf
  have hl := lv_entry ([.ref (a 0), .int v1]) (n := 3) (Nat.le_of_ble_eq_true rfl)
  rw [lg_entry_eq]
  generalize (lg_sl ([.ref (a 0), .int v1]) ++ List.replicate (3 - (lg_sl ([.ref (a 0), .int v1])).length) Slot.unset).toArray = ls at hl ⊢
  have hl : lv_has ls 3 [(0, .ref (a 0)), (1, .int v1)] := hl
  have KE : ∀ (H : Heap) (locs : List Loc), va_P (dC, dI) vwCl (W_Full cI cS a q S Z) H → va_D A (W_Full cI cS a q S Z) → va_S A s.heap H locs → W p l e (headSpec wsX4_join ({ frames := 13, cells := 1, slots := 6, locals := 398 } : Room)).room s m ([.ref (a 0), .int v1] : List Value).toArray below meth c H locs 0 0 (vx_MQ below (va_Qi (fun (r' : Int32) (u : S_LS × (Nat → S_State)) => res = .inr (r', u)) (fun (u : S_LS × (Nat → S_State)) (t : State) => ∃ q9 : Nat → Nat → Nat, jB (dC, dI) [(cI, .int), (cS, .object "LearnedShapes$State")] A (W_Full cI cS a q9 u.1 u.2) t) A) (vx_X (fun _ : S_LS × (Nat → S_State) => True) (fun (E : String) (u : S_LS × (Nat → S_State)) (t : State) => res = .inl (E, u) ∧ (fun (u : S_LS × (Nat → S_State)) (t : State) => ∃ q9 : Nat → Nat → Nat, jB (dC, dI) [(cI, .int), (cS, .object "LearnedShapes$State")] A (W_Full cI cS a q9 u.1 u.2) t) u t) A) ([.ref (a 0), .int v1] : List Value).toArray s 1 6 A) (F0 m 0 ls []) := by
    intro H locs hP hD hS
    have hP : va_P (dC, dI) vwCl (List.flatten [W_LS cI a S, W_Sav cS (a 13) [((q 0) 0), ((q 1) 0), ((q 2) 0), ((q 3) 0), ((q 4) 0), ((q 5) 0)], W_State cI (q 0) (Z 0), W_State cI (q 1) (Z 1), W_State cI (q 2) (Z 2), W_State cI (q 3) (Z 3), W_State cI (q 4) (Z 4), W_State cI (q 5) (Z 5)]) H := hP
    have hD : va_D A (List.flatten [W_LS cI a S, W_Sav cS (a 13) [((q 0) 0), ((q 1) 0), ((q 2) 0), ((q 3) 0), ((q 4) 0), ((q 5) 0)], W_State cI (q 0) (Z 0), W_State cI (q 1) (Z 1), W_State cI (q 2) (Z 2), W_State cI (q 3) (Z 3), W_State cI (q 4) (Z 4), W_State cI (q 5) (Z 5)]) := hD
    unfold F_X4_join at hF
    refine lv_iload_n hx hb dX4_join_0 rfl (lv_at hl 1 rfl) ?_
    obtain ⟨r1, h2, hF⟩ := ob1_some hF
    have hPc : va_P (dC, dI) vwCl ([] : va_W) H := fun k q h => by simp at h
    have hDc : va_D A ([] : va_W) := ⟨fun i j p q h => by simp at h, fun k q h => by simp at h⟩
    have hFc := jFreeW (ws := []) hDc hS hA
    refine va_calli (va_runS (As := [.int v1]) (rest := []) ⟨hx, hb, hml, hown, hts⟩ (c_X4_isShape l dC dI cI  H.size _ _ h2) (va_cwS 1 hts gX4_join_X4_isShape rfl rfl rfl (by decide +kernel) ⟨Nat.le_of_ble_eq_true rfl, Nat.le_of_ble_eq_true rfl⟩) (jPreS hKi hPc hDc hN) rfl rfl hl.1 rfl (lv_room (Nat.le_of_ble_eq_true rfl)) dX4_join_1 ⟨Nat.le_of_ble_eq_true rfl, Nat.le_of_ble_eq_true rfl⟩) hS (fun q _ h => hFc q h) hFc (fun r' u' t H locs ht hvm hw hB hz1 hk1 hS => ?_)
    subst hw
    obtain ⟨hP1, -, hD1⟩ := hB
    rw [ht] at hP1
    obtain ⟨hP, hD⟩ := jJoinF (wa := (W_LS cI a S)) (wb := List.flatten [W_Sav cS (a 13) [((q 0) 0), ((q 1) 0), ((q 2) 0), ((q 3) 0), ((q 4) 0), ((q 5) 0)], W_State cI (q 0) (Z 0), W_State cI (q 1) (Z 1), W_State cI (q 2) (Z 2), W_State cI (q 3) (Z 3), W_State cI (q 4) (Z 4), W_State cI (q 5) (Z 5)]) (wc := ([] : va_W)) (w1 := ([] : va_W)) (ws' := (W_LS cI a S)) hP hD [] [0, 1, 2, 3, 4, 5, 6, 7, 8, 9, 10, 11, 12] [0, 1, 2, 3, 4, 5, 6, 7, 8, 9, 10, 11, 12] rfl rfl (by decide) (by decide) hk1 hFc hP1 hD1 (by decide) rfl
    have hP : va_P (dC, dI) vwCl (List.flatten [W_LS cI a S, W_Sav cS (a 13) [((q 0) 0), ((q 1) 0), ((q 2) 0), ((q 3) 0), ((q 4) 0), ((q 5) 0)], W_State cI (q 0) (Z 0), W_State cI (q 1) (Z 1), W_State cI (q 2) (Z 2), W_State cI (q 3) (Z 3), W_State cI (q 4) (Z 4), W_State cI (q 5) (Z 5)]) H := hP
    have hD : va_D A (List.flatten [W_LS cI a S, W_Sav cS (a 13) [((q 0) 0), ((q 1) 0), ((q 2) 0), ((q 3) 0), ((q 4) 0), ((q 5) 0)], W_State cI (q 0) (Z 0), W_State cI (q 1) (Z 1), W_State cI (q 2) (Z 2), W_State cI (q 3) (Z 3), W_State cI (q 4) (Z 4), W_State cI (q 5) (Z 5)]) := hD
    refine lv_if_ne (tgt := 17) hx hb dX4_join_4 (by decide) (fun c3 => ?_) (fun c3 => ?_)
    · have hF := F_neg c3 hF
      refine lv_aload_n hx hb dX4_join_17 rfl (lv_at hl 0 rfl) ?_
      refine va_get (D := (dC, dI)) (ci := 4) (v := .ref (a 5)) (C := RX4) (T := TX4) (N := 8) hx hb hts hinX4 hown hK hP 0 rfl rfl 3 (by decide) (hts (Cond.fieldLink RX4 23 "LearnedShapes" "now" "LLearnedShapes$State;") (List.mem_of_getElem? (i := 5) rfl)) (fun _ h9 => h9) rfl dX4_join_18 ?_
      refine lv_iload_n hx hb dX4_join_21 rfl (lv_at hl 1 rfl) ?_
      by_cases c4 : v1 = 0
      · have hF := F_pos c4 hF
        have hPc := hP.sub (ws' := (W_State cI (sh a 5) (g_LS_now S))) [5, 6, 7, 8, 9] rfl
        have hDc := hD.sub (ws' := (W_State cI (sh a 5) (g_LS_now S))) [5, 6, 7, 8, 9] (by decide) rfl
        have hFc := va_free (wc := (W_State cI (sh a 5) (g_LS_now S))) hD hS hA [5, 6, 7, 8, 9] rfl
        refine va_callr (va_runV (As := [.int v1]) (rest := []) ⟨hx, hb, hml, hown, hts⟩ (c_X2_tree_first l dC dI cI (sh a 5) H.size _ _ c4) (cwV 1 hts gX4_join_X2_tree rfl rfl rfl (by decide +kernel) ⟨Nat.le_of_ble_eq_true rfl, Nat.le_of_ble_eq_true rfl⟩) (jPreV hKi hPc hDc hN (ci := 2) rfl rfl) rfl rfl hl.1 rfl (lv_room (Nat.le_of_ble_eq_true rfl)) dX4_join_22 ⟨Nat.le_of_ble_eq_true rfl, Nat.le_of_ble_eq_true rfl⟩) hS (fun q _ h => hFc q h) hFc (fun u q9 t H locs ht hvm hw hB hz1 hk1 hS => ?_)
        obtain ⟨e9, hP1, -, hD1⟩ := hB
        subst e9
        rw [ht] at hP1
        obtain ⟨hP, hD⟩ := jJoinF (wa := W_LS cI a S) (wb := List.flatten [W_Sav cS (a 13) [((q 0) 0), ((q 1) 0), ((q 2) 0), ((q 3) 0), ((q 4) 0), ((q 5) 0)], W_State cI (q 0) (Z 0), W_State cI (q 1) (Z 1), W_State cI (q 2) (Z 2), W_State cI (q 3) (Z 3), W_State cI (q 4) (Z 4), W_State cI (q 5) (Z 5)]) (wc := (W_State cI (sh a 5) (g_LS_now S))) (w1 := (W_State cI (sh a 5) (g_LS_now S))) (ws' := W_LS cI a S) hP hD [5, 6, 7, 8, 9] [0, 1, 2, 3, 4, 10, 11, 12] [0, 1, 2, 3, 4, 8, 9, 10, 11, 12, 5, 6, 7] rfl rfl (by decide) (by decide) hk1 hFc hP1 hD1 (by decide) rfl
        have hP : va_P (dC, dI) vwCl (List.flatten [W_LS cI a S, W_Sav cS (a 13) [((q 0) 0), ((q 1) 0), ((q 2) 0), ((q 3) 0), ((q 4) 0), ((q 5) 0)], W_State cI (q 0) (Z 0), W_State cI (q 1) (Z 1), W_State cI (q 2) (Z 2), W_State cI (q 3) (Z 3), W_State cI (q 4) (Z 4), W_State cI (q 5) (Z 5)]) H := hP
        have hD : va_D A (List.flatten [W_LS cI a S, W_Sav cS (a 13) [((q 0) 0), ((q 1) 0), ((q 2) 0), ((q 3) 0), ((q 4) 0), ((q 5) 0)], W_State cI (q 0) (Z 0), W_State cI (q 1) (Z 1), W_State cI (q 2) (Z 2), W_State cI (q 3) (Z 3), W_State cI (q 4) (Z 4), W_State cI (q 5) (Z 5)]) := hD
        refine lv_astore_n (lv' := [(2, .ref (a 6)), (0, .ref (a 0)), (1, .int v1)]) hx hb dX4_join_25 rfl hl (by decide) rfl (fun ls hl => ?_)
        refine lv_aload_n hx hb dX4_join_26 rfl (lv_at hl 1 rfl) ?_
        refine lv_aload_n hx hb dX4_join_27 rfl (lv_at hl 0 rfl) ?_
        refine lv_aload_n hx hb dX4_join_28 rfl (lv_at hl 1 rfl) ?_
        refine va_get (D := (dC, dI)) (ci := 4) (v := .ref (a 5)) (C := RX4) (T := TX4) (N := 8) hx hb hts hinX4 hown hK hP 0 rfl rfl 3 (by decide) (hts (Cond.fieldLink RX4 23 "LearnedShapes" "now" "LLearnedShapes$State;") (List.mem_of_getElem? (i := 5) rfl)) (fun _ h9 => h9) rfl dX4_join_29 ?_
        refine lv_iconst (v := (1 : Int32)) hx hb dX4_join_32 (by decide) ?_
        refine lv_iload_n hx hb dX4_join_33 rfl (lv_at hl 2 rfl) ?_
        refine lv_isub hx hb dX4_join_34 ?_
        by_cases c5 : ((1 : Int32) - v1) = 0
        · have hF := F_pos c5 hF
          have hPc := hP.sub (ws' := (W_State cI (sh a 5) (g_LS_now S))) [5, 6, 7, 8, 9] rfl
          have hDc := hD.sub (ws' := (W_State cI (sh a 5) (g_LS_now S))) [5, 6, 7, 8, 9] (by decide) rfl
          have hFc := va_free (wc := (W_State cI (sh a 5) (g_LS_now S))) hD hS hA [5, 6, 7, 8, 9] rfl
          refine va_callr (va_runV (As := [.int ((1 : Int32) - v1)]) (rest := [.ref (a 6), .ref (a 0)]) ⟨hx, hb, hml, hown, hts⟩ (c_X2_tree_first l dC dI cI (sh a 5) H.size _ _ c5) (cwV 1 hts gX4_join_X2_tree rfl rfl rfl (by decide +kernel) ⟨Nat.le_of_ble_eq_true rfl, Nat.le_of_ble_eq_true rfl⟩) (jPreV hKi hPc hDc hN (ci := 2) rfl rfl) rfl rfl hl.1 rfl (lv_room (Nat.le_of_ble_eq_true rfl)) dX4_join_35 ⟨Nat.le_of_ble_eq_true rfl, Nat.le_of_ble_eq_true rfl⟩) hS (fun q _ h => hFc q h) hFc (fun u q9 t H locs ht hvm hw hB hz1 hk1 hS => ?_)
          obtain ⟨e9, hP1, -, hD1⟩ := hB
          subst e9
          rw [ht] at hP1
          obtain ⟨hP, hD⟩ := jJoinF (wa := W_LS cI a S) (wb := List.flatten [W_Sav cS (a 13) [((q 0) 0), ((q 1) 0), ((q 2) 0), ((q 3) 0), ((q 4) 0), ((q 5) 0)], W_State cI (q 0) (Z 0), W_State cI (q 1) (Z 1), W_State cI (q 2) (Z 2), W_State cI (q 3) (Z 3), W_State cI (q 4) (Z 4), W_State cI (q 5) (Z 5)]) (wc := (W_State cI (sh a 5) (g_LS_now S))) (w1 := (W_State cI (sh a 5) (g_LS_now S))) (ws' := W_LS cI a S) hP hD [5, 6, 7, 8, 9] [0, 1, 2, 3, 4, 10, 11, 12] [0, 1, 2, 3, 4, 8, 9, 10, 11, 12, 5, 6, 7] rfl rfl (by decide) (by decide) hk1 hFc hP1 hD1 (by decide) rfl
          have hP : va_P (dC, dI) vwCl (List.flatten [W_LS cI a S, W_Sav cS (a 13) [((q 0) 0), ((q 1) 0), ((q 2) 0), ((q 3) 0), ((q 4) 0), ((q 5) 0)], W_State cI (q 0) (Z 0), W_State cI (q 1) (Z 1), W_State cI (q 2) (Z 2), W_State cI (q 3) (Z 3), W_State cI (q 4) (Z 4), W_State cI (q 5) (Z 5)]) H := hP
          have hD : va_D A (List.flatten [W_LS cI a S, W_Sav cS (a 13) [((q 0) 0), ((q 1) 0), ((q 2) 0), ((q 3) 0), ((q 4) 0), ((q 5) 0)], W_State cI (q 0) (Z 0), W_State cI (q 1) (Z 1), W_State cI (q 2) (Z 2), W_State cI (q 3) (Z 3), W_State cI (q 4) (Z 4), W_State cI (q 5) (Z 5)]) := hD
          exact nomatch hF
        · have hF := F_neg c5 hF
          have hPc := hP.sub (ws' := (W_State cI (sh a 5) (g_LS_now S))) [5, 6, 7, 8, 9] rfl
          have hDc := hD.sub (ws' := (W_State cI (sh a 5) (g_LS_now S))) [5, 6, 7, 8, 9] (by decide) rfl
          have hFc := va_free (wc := (W_State cI (sh a 5) (g_LS_now S))) hD hS hA [5, 6, 7, 8, 9] rfl
          refine va_callr (va_runV (As := [.int ((1 : Int32) - v1)]) (rest := [.ref (a 6), .ref (a 0)]) ⟨hx, hb, hml, hown, hts⟩ (c_X2_tree_second l dC dI cI (sh a 5) H.size _ _ c5) (cwV 1 hts gX4_join_X2_tree rfl rfl rfl (by decide +kernel) ⟨Nat.le_of_ble_eq_true rfl, Nat.le_of_ble_eq_true rfl⟩) (jPreV hKi hPc hDc hN (ci := 2) rfl rfl) rfl rfl hl.1 rfl (lv_room (Nat.le_of_ble_eq_true rfl)) dX4_join_35 ⟨Nat.le_of_ble_eq_true rfl, Nat.le_of_ble_eq_true rfl⟩) hS (fun q _ h => hFc q h) hFc (fun u q9 t H locs ht hvm hw hB hz1 hk1 hS => ?_)
          obtain ⟨e9, hP1, -, hD1⟩ := hB
          subst e9
          rw [ht] at hP1
          obtain ⟨hP, hD⟩ := jJoinF (wa := W_LS cI a S) (wb := List.flatten [W_Sav cS (a 13) [((q 0) 0), ((q 1) 0), ((q 2) 0), ((q 3) 0), ((q 4) 0), ((q 5) 0)], W_State cI (q 0) (Z 0), W_State cI (q 1) (Z 1), W_State cI (q 2) (Z 2), W_State cI (q 3) (Z 3), W_State cI (q 4) (Z 4), W_State cI (q 5) (Z 5)]) (wc := (W_State cI (sh a 5) (g_LS_now S))) (w1 := (W_State cI (sh a 5) (g_LS_now S))) (ws' := W_LS cI a S) hP hD [5, 6, 7, 8, 9] [0, 1, 2, 3, 4, 10, 11, 12] [0, 1, 2, 3, 4, 8, 9, 10, 11, 12, 5, 6, 7] rfl rfl (by decide) (by decide) hk1 hFc hP1 hD1 (by decide) rfl
          have hP : va_P (dC, dI) vwCl (List.flatten [W_LS cI a S, W_Sav cS (a 13) [((q 0) 0), ((q 1) 0), ((q 2) 0), ((q 3) 0), ((q 4) 0), ((q 5) 0)], W_State cI (q 0) (Z 0), W_State cI (q 1) (Z 1), W_State cI (q 2) (Z 2), W_State cI (q 3) (Z 3), W_State cI (q 4) (Z 4), W_State cI (q 5) (Z 5)]) H := hP
          have hD : va_D A (List.flatten [W_LS cI a S, W_Sav cS (a 13) [((q 0) 0), ((q 1) 0), ((q 2) 0), ((q 3) 0), ((q 4) 0), ((q 5) 0)], W_State cI (q 0) (Z 0), W_State cI (q 1) (Z 1), W_State cI (q 2) (Z 2), W_State cI (q 3) (Z 3), W_State cI (q 4) (Z 4), W_State cI (q 5) (Z 5)]) := hD
          obtain ⟨u6, h7, hF⟩ := ob1_some hF
          have hPc := hP.sub (ws' := (W_LS cI a S)) [0, 1, 2, 3, 4, 5, 6, 7, 8, 9, 10, 11, 12] rfl
          have hDc := hD.sub (ws' := (W_LS cI a S)) [0, 1, 2, 3, 4, 5, 6, 7, 8, 9, 10, 11, 12] (by decide) rfl
          have hFc := va_free (wc := (W_LS cI a S)) hD hS hA [0, 1, 2, 3, 4, 5, 6, 7, 8, 9, 10, 11, 12] rfl
          refine va_callv (va_runV (As := [.ref (a 6), .ref (a 8)]) (rest := []) ⟨hx, hb, hml, hown, hts⟩ (c_X4_workOutJoined_false l dC dI cI a H.size _ _ h7) (cwV 2 hts gX4_join_X4_workOutJoined rfl rfl rfl (by decide +kernel) ⟨Nat.le_of_ble_eq_true rfl, Nat.le_of_ble_eq_true rfl⟩) (jPreV hKi hPc hDc hN (ci := 4) rfl rfl) rfl rfl hl.1 rfl (lv_room (Nat.le_of_ble_eq_true rfl)) dX4_join_38 ⟨Nat.le_of_ble_eq_true rfl, Nat.le_of_ble_eq_true rfl⟩) hS (fun q _ h => hFc q h) hFc (fun u' t H locs ht hvm hw hB hz1 hk1 hS => ?_)
          subst hw
          obtain ⟨hP1, -, hD1⟩ := hB
          rw [ht] at hP1
          obtain ⟨hP, hD⟩ := jJoinF (wa := (W_LS cI a S)) (wb := List.flatten [W_Sav cS (a 13) [((q 0) 0), ((q 1) 0), ((q 2) 0), ((q 3) 0), ((q 4) 0), ((q 5) 0)], W_State cI (q 0) (Z 0), W_State cI (q 1) (Z 1), W_State cI (q 2) (Z 2), W_State cI (q 3) (Z 3), W_State cI (q 4) (Z 4), W_State cI (q 5) (Z 5)]) (wc := (W_LS cI a S)) (w1 := (W_LS cI a u6)) (ws' := (W_LS cI a u6)) hP hD [0, 1, 2, 3, 4, 5, 6, 7, 8, 9, 10, 11, 12] [] [0, 1, 2, 3, 4, 5, 6, 7, 8, 9, 10, 11, 12] rfl rfl (by decide) (by decide) hk1 hFc hP1 hD1 (by decide) rfl
          have hP : va_P (dC, dI) vwCl (List.flatten [W_LS cI a u6, W_Sav cS (a 13) [((q 0) 0), ((q 1) 0), ((q 2) 0), ((q 3) 0), ((q 4) 0), ((q 5) 0)], W_State cI (q 0) (Z 0), W_State cI (q 1) (Z 1), W_State cI (q 2) (Z 2), W_State cI (q 3) (Z 3), W_State cI (q 4) (Z 4), W_State cI (q 5) (Z 5)]) H := hP
          have hD : va_D A (List.flatten [W_LS cI a u6, W_Sav cS (a 13) [((q 0) 0), ((q 1) 0), ((q 2) 0), ((q 3) 0), ((q 4) 0), ((q 5) 0)], W_State cI (q 0) (Z 0), W_State cI (q 1) (Z 1), W_State cI (q 2) (Z 2), W_State cI (q 3) (Z 3), W_State cI (q 4) (Z 4), W_State cI (q 5) (Z 5)]) := hD
          refine lv_aload_n hx hb dX4_join_41 rfl (lv_at hl 1 rfl) ?_
          refine va_get (D := (dC, dI)) (ci := 4) (v := .ref (a 10)) (C := RX4) (T := TX4) (N := 8) hx hb hts hinX4 hown hK hP 0 rfl rfl 6 (by decide) (hts (Cond.fieldLink RX4 34 "LearnedShapes" "work" "LLearnedShapes$Tree;") (List.mem_of_getElem? (i := 6) rfl)) (fun _ h9 => h9) rfl dX4_join_42 ?_
          refine va_get (D := (dC, dI)) (ci := 3) (v := .int (g_Tree_size (g_LS_work u6))) (C := RX3) (T := TX3) (N := 3) hx hb hts hinX3 hown hK hP 10 rfl rfl 1 (by decide) (hts (Cond.fieldLink RX4 92 "LearnedShapes$Tree" "size" "I") (List.mem_of_getElem? (i := 7) rfl)) (fun _ h9 => h9) rfl dX4_join_45 ?_
          refine lv_bipush (v := (30 : Int32)) hx hb dX4_join_48 (by decide) ?_
          refine lv_icmp_le (tgt := 63) hx hb dX4_join_50 (by decide) (fun c8 => ?_) (fun c8 => ?_)
          · have hF := F_pos c8 hF
            refine lv_aload_n hx hb dX4_join_63 rfl (lv_at hl 1 rfl) ?_
            obtain ⟨u9, z10, h11, hF⟩ := ob2_some hF
            have hP : va_P (dC, dI) vwCl (W_Full cI cS a q u6 Z) H := hP
            have hD : va_D A (W_Full cI cS a q u6 Z) := hD
            have hPc := hP
            have hDc := hD
            have hFc := jFreeW (ws := (W_Full cI cS a q u6 Z)) hD hS hA
            refine va_callv (va_runV (As := []) (rest := []) ⟨hx, hb, hml, hown, hts⟩ (c_X4_saveState l dC dI cI cS a q H.size _ _ _ _ h11) (cwV 0 hts gX4_join_X4_saveState rfl rfl rfl (by decide +kernel) ⟨Nat.le_of_ble_eq_true rfl, Nat.le_of_ble_eq_true rfl⟩) (jPreV hK hPc hDc hN (ci := 4) rfl rfl) rfl rfl hl.1 rfl (lv_room (Nat.le_of_ble_eq_true rfl)) dX4_join_64 ⟨Nat.le_of_ble_eq_true rfl, Nat.le_of_ble_eq_true rfl⟩) hS (fun q _ h => hFc q h) hFc (fun u9 t H locs ht hvm hw hB hz1 hk1 hS => ?_)
            subst hw
            obtain ⟨q, hP1, -, hD1⟩ := hB
            rw [ht] at hP1
            have hP : va_P (dC, dI) vwCl (W_Full cI cS a q u9 z10) H := hP1
            have hD : va_D A (W_Full cI cS a q u9 z10) := hD1.weaken (fun _ _ _ h => hFc _ h)
            have hP : va_P (dC, dI) vwCl (List.flatten [W_LS cI a u9, W_Sav cS (a 13) [((q 0) 0), ((q 1) 0), ((q 2) 0), ((q 3) 0), ((q 4) 0), ((q 5) 0)], W_State cI (q 0) (z10 0), W_State cI (q 1) (z10 1), W_State cI (q 2) (z10 2), W_State cI (q 3) (z10 3), W_State cI (q 4) (z10 4), W_State cI (q 5) (z10 5)]) H := hP
            have hD : va_D A (List.flatten [W_LS cI a u9, W_Sav cS (a 13) [((q 0) 0), ((q 1) 0), ((q 2) 0), ((q 3) 0), ((q 4) 0), ((q 5) 0)], W_State cI (q 0) (z10 0), W_State cI (q 1) (z10 1), W_State cI (q 2) (z10 2), W_State cI (q 3) (z10 3), W_State cI (q 4) (z10 4), W_State cI (q 5) (z10 5)]) := hD
            refine lv_aload_n hx hb dX4_join_67 rfl (lv_at hl 1 rfl) ?_
            refine lv_aload_n hx hb dX4_join_68 rfl (lv_at hl 0 rfl) ?_
            obtain ⟨u12, h13, hF⟩ := ob1_some hF
            have hPc := hP.sub (ws' := (W_LS cI a u9)) [0, 1, 2, 3, 4, 5, 6, 7, 8, 9, 10, 11, 12] rfl
            have hDc := hD.sub (ws' := (W_LS cI a u9)) [0, 1, 2, 3, 4, 5, 6, 7, 8, 9, 10, 11, 12] (by decide) rfl
            have hFc := va_free (wc := (W_LS cI a u9)) hD hS hA [0, 1, 2, 3, 4, 5, 6, 7, 8, 9, 10, 11, 12] rfl
            refine va_callv (va_runV (As := [.ref (a 6)]) (rest := []) ⟨hx, hb, hml, hown, hts⟩ (c_X4_takeWork_false l dC dI cI a H.size _ _ h13) (cwV 1 hts gX4_join_X4_takeWork rfl rfl rfl (by decide +kernel) ⟨Nat.le_of_ble_eq_true rfl, Nat.le_of_ble_eq_true rfl⟩) (jPreV hKi hPc hDc hN (ci := 4) rfl rfl) rfl rfl hl.1 rfl (lv_room (Nat.le_of_ble_eq_true rfl)) dX4_join_69 ⟨Nat.le_of_ble_eq_true rfl, Nat.le_of_ble_eq_true rfl⟩) hS (fun q _ h => hFc q h) hFc (fun u' t H locs ht hvm hw hB hz1 hk1 hS => ?_)
            subst hw
            obtain ⟨hP1, -, hD1⟩ := hB
            rw [ht] at hP1
            obtain ⟨hP, hD⟩ := jJoinF (wa := (W_LS cI a u9)) (wb := List.flatten [W_Sav cS (a 13) [((q 0) 0), ((q 1) 0), ((q 2) 0), ((q 3) 0), ((q 4) 0), ((q 5) 0)], W_State cI (q 0) (z10 0), W_State cI (q 1) (z10 1), W_State cI (q 2) (z10 2), W_State cI (q 3) (z10 3), W_State cI (q 4) (z10 4), W_State cI (q 5) (z10 5)]) (wc := (W_LS cI a u9)) (w1 := (W_LS cI a u12)) (ws' := (W_LS cI a u12)) hP hD [0, 1, 2, 3, 4, 5, 6, 7, 8, 9, 10, 11, 12] [] [0, 1, 2, 3, 4, 5, 6, 7, 8, 9, 10, 11, 12] rfl rfl (by decide) (by decide) hk1 hFc hP1 hD1 (by decide) rfl
            have hP : va_P (dC, dI) vwCl (List.flatten [W_LS cI a u12, W_Sav cS (a 13) [((q 0) 0), ((q 1) 0), ((q 2) 0), ((q 3) 0), ((q 4) 0), ((q 5) 0)], W_State cI (q 0) (z10 0), W_State cI (q 1) (z10 1), W_State cI (q 2) (z10 2), W_State cI (q 3) (z10 3), W_State cI (q 4) (z10 4), W_State cI (q 5) (z10 5)]) H := hP
            have hD : va_D A (List.flatten [W_LS cI a u12, W_Sav cS (a 13) [((q 0) 0), ((q 1) 0), ((q 2) 0), ((q 3) 0), ((q 4) 0), ((q 5) 0)], W_State cI (q 0) (z10 0), W_State cI (q 1) (z10 1), W_State cI (q 2) (z10 2), W_State cI (q 3) (z10 3), W_State cI (q 4) (z10 4), W_State cI (q 5) (z10 5)]) := hD
            refine lv_aload_n hx hb dX4_join_72 rfl (lv_at hl 0 rfl) ?_
            refine va_get (D := (dC, dI)) (ci := 3) (v := .int (g_Tree_size (g_State_first (g_LS_now u12)))) (C := RX3) (T := TX3) (N := 3) hx hb hts hinX3 hown hK hP 6 rfl rfl 1 (by decide) (hts (Cond.fieldLink RX4 92 "LearnedShapes$Tree" "size" "I") (List.mem_of_getElem? (i := 7) rfl)) (fun _ h9 => h9) rfl dX4_join_73 ?_
            have hP : va_P (dC, dI) vwCl (W_Full cI cS a q u12 z10) H := hP
            have hD : va_D A (W_Full cI cS a q u12 z10) := hD
            cases hF
            refine vx_ret ?_
            refine W.widen (k := 1) (n := 6) (Nat.zero_le _) (Nat.zero_le _) ?_
            exact W.iret (v := (g_Tree_size (g_State_first (g_LS_now u12)))) hx hb hr (fun t ht hW => ⟨⟨(g_Tree_size (g_State_first (g_LS_now u12))), (u12, z10), rfl, rfl, q, by rw [ht]; exact hP, va_K.moved hW.alike hK, hD⟩, hS.F ht⟩) hS.2.2 dX4_join_76
          · have hF := F_neg c8 hF
            have hP : va_P (dC, dI) vwCl (W_Full cI cS a q u6 Z) H := hP
            have hD : va_D A (W_Full cI cS a q u6 Z) := hD
            cases hF
            obtain ⟨sa, hsa⟩ := hN.2.1 _ (List.mem_of_getElem? (i := 8) rfl)
            exact vx_throwS (names := ["java/lang/RuntimeException", "java/lang/Exception"]) (cls := "java/lang/IllegalStateException") hx hb hl0 hown (by decide +kernel) (by decide +kernel) (hts (Cond.classLink RX4 81 "java/lang/IllegalStateException") (List.mem_of_getElem? (i := 3) rfl)) (hts (Cond.initialized "java/lang/IllegalStateException") (List.mem_of_getElem? (i := 4) rfl)) hsa (vx_hat (B := [Cond.castable "java/lang/IllegalStateException" "java/lang/IllegalStateException", Cond.declares ⟨"java/lang/RuntimeException", "<init>", "(Ljava/lang/String;)V"⟩, Cond.declares ⟨"java/lang/Exception", "<init>", "(Ljava/lang/String;)V"⟩, Cond.declares ⟨"java/lang/Throwable", "<init>", "(Ljava/lang/String;)V"⟩]) (fun w hw => hts w (List.mem_cons_of_mem _ (List.mem_append_right _ hw))) (by decide +kernel) (vx_c (va_Nw.use rfl (hN.1 _ (List.mem_of_getElem? (i := 13) rfl))) (vx_c (va_Nw.use rfl (hN.1 _ (List.mem_of_getElem? (i := 14) rfl))) (vx_c (va_Nw.use rfl (hN.1 _ (List.mem_of_getElem? (i := 15) rfl))) (vx_c (va_Nw.use rfl (hN.1 _ (List.mem_of_getElem? (i := 16) rfl))) vx_n))))) (by decide +kernel) hU hSN hS (hl.1.trans hml.symm) dX4_join_53 dX4_join_56 dX4_join_57 dX4_join_59 dX4_join_62 (fun x hx => (hex x hx).elim) (Nat.le_of_ble_eq_true rfl) (Nat.le_of_ble_eq_true rfl) (Nat.le_of_ble_eq_true rfl) (Nat.le_of_ble_eq_true rfl) hlocks (fun t ha hz hk => ⟨(u6, Z), trivial, ⟨rfl, q, jKeep hP hk, va_K.moved ha hK, hD⟩, jF hS hz hk⟩) hS.2.2 (Nat.le_of_ble_eq_true rfl) (Nat.le_of_ble_eq_true rfl)
      · have hF := F_neg c4 hF
        have hPc := hP.sub (ws' := (W_State cI (sh a 5) (g_LS_now S))) [5, 6, 7, 8, 9] rfl
        have hDc := hD.sub (ws' := (W_State cI (sh a 5) (g_LS_now S))) [5, 6, 7, 8, 9] (by decide) rfl
        have hFc := va_free (wc := (W_State cI (sh a 5) (g_LS_now S))) hD hS hA [5, 6, 7, 8, 9] rfl
        refine va_callr (va_runV (As := [.int v1]) (rest := []) ⟨hx, hb, hml, hown, hts⟩ (c_X2_tree_second l dC dI cI (sh a 5) H.size _ _ c4) (cwV 1 hts gX4_join_X2_tree rfl rfl rfl (by decide +kernel) ⟨Nat.le_of_ble_eq_true rfl, Nat.le_of_ble_eq_true rfl⟩) (jPreV hKi hPc hDc hN (ci := 2) rfl rfl) rfl rfl hl.1 rfl (lv_room (Nat.le_of_ble_eq_true rfl)) dX4_join_22 ⟨Nat.le_of_ble_eq_true rfl, Nat.le_of_ble_eq_true rfl⟩) hS (fun q _ h => hFc q h) hFc (fun u q9 t H locs ht hvm hw hB hz1 hk1 hS => ?_)
        obtain ⟨e9, hP1, -, hD1⟩ := hB
        subst e9
        rw [ht] at hP1
        obtain ⟨hP, hD⟩ := jJoinF (wa := W_LS cI a S) (wb := List.flatten [W_Sav cS (a 13) [((q 0) 0), ((q 1) 0), ((q 2) 0), ((q 3) 0), ((q 4) 0), ((q 5) 0)], W_State cI (q 0) (Z 0), W_State cI (q 1) (Z 1), W_State cI (q 2) (Z 2), W_State cI (q 3) (Z 3), W_State cI (q 4) (Z 4), W_State cI (q 5) (Z 5)]) (wc := (W_State cI (sh a 5) (g_LS_now S))) (w1 := (W_State cI (sh a 5) (g_LS_now S))) (ws' := W_LS cI a S) hP hD [5, 6, 7, 8, 9] [0, 1, 2, 3, 4, 10, 11, 12] [0, 1, 2, 3, 4, 8, 9, 10, 11, 12, 5, 6, 7] rfl rfl (by decide) (by decide) hk1 hFc hP1 hD1 (by decide) rfl
        have hP : va_P (dC, dI) vwCl (List.flatten [W_LS cI a S, W_Sav cS (a 13) [((q 0) 0), ((q 1) 0), ((q 2) 0), ((q 3) 0), ((q 4) 0), ((q 5) 0)], W_State cI (q 0) (Z 0), W_State cI (q 1) (Z 1), W_State cI (q 2) (Z 2), W_State cI (q 3) (Z 3), W_State cI (q 4) (Z 4), W_State cI (q 5) (Z 5)]) H := hP
        have hD : va_D A (List.flatten [W_LS cI a S, W_Sav cS (a 13) [((q 0) 0), ((q 1) 0), ((q 2) 0), ((q 3) 0), ((q 4) 0), ((q 5) 0)], W_State cI (q 0) (Z 0), W_State cI (q 1) (Z 1), W_State cI (q 2) (Z 2), W_State cI (q 3) (Z 3), W_State cI (q 4) (Z 4), W_State cI (q 5) (Z 5)]) := hD
        refine lv_astore_n (lv' := [(2, .ref (a 8)), (0, .ref (a 0)), (1, .int v1)]) hx hb dX4_join_25 rfl hl (by decide) rfl (fun ls hl => ?_)
        refine lv_aload_n hx hb dX4_join_26 rfl (lv_at hl 1 rfl) ?_
        refine lv_aload_n hx hb dX4_join_27 rfl (lv_at hl 0 rfl) ?_
        refine lv_aload_n hx hb dX4_join_28 rfl (lv_at hl 1 rfl) ?_
        refine va_get (D := (dC, dI)) (ci := 4) (v := .ref (a 5)) (C := RX4) (T := TX4) (N := 8) hx hb hts hinX4 hown hK hP 0 rfl rfl 3 (by decide) (hts (Cond.fieldLink RX4 23 "LearnedShapes" "now" "LLearnedShapes$State;") (List.mem_of_getElem? (i := 5) rfl)) (fun _ h9 => h9) rfl dX4_join_29 ?_
        refine lv_iconst (v := (1 : Int32)) hx hb dX4_join_32 (by decide) ?_
        refine lv_iload_n hx hb dX4_join_33 rfl (lv_at hl 2 rfl) ?_
        refine lv_isub hx hb dX4_join_34 ?_
        by_cases c14 : ((1 : Int32) - v1) = 0
        · have hF := F_pos c14 hF
          have hPc := hP.sub (ws' := (W_State cI (sh a 5) (g_LS_now S))) [5, 6, 7, 8, 9] rfl
          have hDc := hD.sub (ws' := (W_State cI (sh a 5) (g_LS_now S))) [5, 6, 7, 8, 9] (by decide) rfl
          have hFc := va_free (wc := (W_State cI (sh a 5) (g_LS_now S))) hD hS hA [5, 6, 7, 8, 9] rfl
          refine va_callr (va_runV (As := [.int ((1 : Int32) - v1)]) (rest := [.ref (a 8), .ref (a 0)]) ⟨hx, hb, hml, hown, hts⟩ (c_X2_tree_first l dC dI cI (sh a 5) H.size _ _ c14) (cwV 1 hts gX4_join_X2_tree rfl rfl rfl (by decide +kernel) ⟨Nat.le_of_ble_eq_true rfl, Nat.le_of_ble_eq_true rfl⟩) (jPreV hKi hPc hDc hN (ci := 2) rfl rfl) rfl rfl hl.1 rfl (lv_room (Nat.le_of_ble_eq_true rfl)) dX4_join_35 ⟨Nat.le_of_ble_eq_true rfl, Nat.le_of_ble_eq_true rfl⟩) hS (fun q _ h => hFc q h) hFc (fun u q9 t H locs ht hvm hw hB hz1 hk1 hS => ?_)
          obtain ⟨e9, hP1, -, hD1⟩ := hB
          subst e9
          rw [ht] at hP1
          obtain ⟨hP, hD⟩ := jJoinF (wa := W_LS cI a S) (wb := List.flatten [W_Sav cS (a 13) [((q 0) 0), ((q 1) 0), ((q 2) 0), ((q 3) 0), ((q 4) 0), ((q 5) 0)], W_State cI (q 0) (Z 0), W_State cI (q 1) (Z 1), W_State cI (q 2) (Z 2), W_State cI (q 3) (Z 3), W_State cI (q 4) (Z 4), W_State cI (q 5) (Z 5)]) (wc := (W_State cI (sh a 5) (g_LS_now S))) (w1 := (W_State cI (sh a 5) (g_LS_now S))) (ws' := W_LS cI a S) hP hD [5, 6, 7, 8, 9] [0, 1, 2, 3, 4, 10, 11, 12] [0, 1, 2, 3, 4, 8, 9, 10, 11, 12, 5, 6, 7] rfl rfl (by decide) (by decide) hk1 hFc hP1 hD1 (by decide) rfl
          have hP : va_P (dC, dI) vwCl (List.flatten [W_LS cI a S, W_Sav cS (a 13) [((q 0) 0), ((q 1) 0), ((q 2) 0), ((q 3) 0), ((q 4) 0), ((q 5) 0)], W_State cI (q 0) (Z 0), W_State cI (q 1) (Z 1), W_State cI (q 2) (Z 2), W_State cI (q 3) (Z 3), W_State cI (q 4) (Z 4), W_State cI (q 5) (Z 5)]) H := hP
          have hD : va_D A (List.flatten [W_LS cI a S, W_Sav cS (a 13) [((q 0) 0), ((q 1) 0), ((q 2) 0), ((q 3) 0), ((q 4) 0), ((q 5) 0)], W_State cI (q 0) (Z 0), W_State cI (q 1) (Z 1), W_State cI (q 2) (Z 2), W_State cI (q 3) (Z 3), W_State cI (q 4) (Z 4), W_State cI (q 5) (Z 5)]) := hD
          obtain ⟨u15, h16, hF⟩ := ob1_some hF
          have hPc := hP.sub (ws' := (W_LS cI a S)) [0, 1, 2, 3, 4, 5, 6, 7, 8, 9, 10, 11, 12] rfl
          have hDc := hD.sub (ws' := (W_LS cI a S)) [0, 1, 2, 3, 4, 5, 6, 7, 8, 9, 10, 11, 12] (by decide) rfl
          have hFc := va_free (wc := (W_LS cI a S)) hD hS hA [0, 1, 2, 3, 4, 5, 6, 7, 8, 9, 10, 11, 12] rfl
          refine va_callv (va_runV (As := [.ref (a 8), .ref (a 6)]) (rest := []) ⟨hx, hb, hml, hown, hts⟩ (c_X4_workOutJoined_true l dC dI cI a H.size _ _ h16) (cwV 2 hts gX4_join_X4_workOutJoined rfl rfl rfl (by decide +kernel) ⟨Nat.le_of_ble_eq_true rfl, Nat.le_of_ble_eq_true rfl⟩) (jPreV hKi hPc hDc hN (ci := 4) rfl rfl) rfl rfl hl.1 rfl (lv_room (Nat.le_of_ble_eq_true rfl)) dX4_join_38 ⟨Nat.le_of_ble_eq_true rfl, Nat.le_of_ble_eq_true rfl⟩) hS (fun q _ h => hFc q h) hFc (fun u' t H locs ht hvm hw hB hz1 hk1 hS => ?_)
          subst hw
          obtain ⟨hP1, -, hD1⟩ := hB
          rw [ht] at hP1
          obtain ⟨hP, hD⟩ := jJoinF (wa := (W_LS cI a S)) (wb := List.flatten [W_Sav cS (a 13) [((q 0) 0), ((q 1) 0), ((q 2) 0), ((q 3) 0), ((q 4) 0), ((q 5) 0)], W_State cI (q 0) (Z 0), W_State cI (q 1) (Z 1), W_State cI (q 2) (Z 2), W_State cI (q 3) (Z 3), W_State cI (q 4) (Z 4), W_State cI (q 5) (Z 5)]) (wc := (W_LS cI a S)) (w1 := (W_LS cI a u15)) (ws' := (W_LS cI a u15)) hP hD [0, 1, 2, 3, 4, 5, 6, 7, 8, 9, 10, 11, 12] [] [0, 1, 2, 3, 4, 5, 6, 7, 8, 9, 10, 11, 12] rfl rfl (by decide) (by decide) hk1 hFc hP1 hD1 (by decide) rfl
          have hP : va_P (dC, dI) vwCl (List.flatten [W_LS cI a u15, W_Sav cS (a 13) [((q 0) 0), ((q 1) 0), ((q 2) 0), ((q 3) 0), ((q 4) 0), ((q 5) 0)], W_State cI (q 0) (Z 0), W_State cI (q 1) (Z 1), W_State cI (q 2) (Z 2), W_State cI (q 3) (Z 3), W_State cI (q 4) (Z 4), W_State cI (q 5) (Z 5)]) H := hP
          have hD : va_D A (List.flatten [W_LS cI a u15, W_Sav cS (a 13) [((q 0) 0), ((q 1) 0), ((q 2) 0), ((q 3) 0), ((q 4) 0), ((q 5) 0)], W_State cI (q 0) (Z 0), W_State cI (q 1) (Z 1), W_State cI (q 2) (Z 2), W_State cI (q 3) (Z 3), W_State cI (q 4) (Z 4), W_State cI (q 5) (Z 5)]) := hD
          refine lv_aload_n hx hb dX4_join_41 rfl (lv_at hl 1 rfl) ?_
          refine va_get (D := (dC, dI)) (ci := 4) (v := .ref (a 10)) (C := RX4) (T := TX4) (N := 8) hx hb hts hinX4 hown hK hP 0 rfl rfl 6 (by decide) (hts (Cond.fieldLink RX4 34 "LearnedShapes" "work" "LLearnedShapes$Tree;") (List.mem_of_getElem? (i := 6) rfl)) (fun _ h9 => h9) rfl dX4_join_42 ?_
          refine va_get (D := (dC, dI)) (ci := 3) (v := .int (g_Tree_size (g_LS_work u15))) (C := RX3) (T := TX3) (N := 3) hx hb hts hinX3 hown hK hP 10 rfl rfl 1 (by decide) (hts (Cond.fieldLink RX4 92 "LearnedShapes$Tree" "size" "I") (List.mem_of_getElem? (i := 7) rfl)) (fun _ h9 => h9) rfl dX4_join_45 ?_
          refine lv_bipush (v := (30 : Int32)) hx hb dX4_join_48 (by decide) ?_
          refine lv_icmp_le (tgt := 63) hx hb dX4_join_50 (by decide) (fun c17 => ?_) (fun c17 => ?_)
          · have hF := F_pos c17 hF
            refine lv_aload_n hx hb dX4_join_63 rfl (lv_at hl 1 rfl) ?_
            obtain ⟨u18, z19, h20, hF⟩ := ob2_some hF
            have hP : va_P (dC, dI) vwCl (W_Full cI cS a q u15 Z) H := hP
            have hD : va_D A (W_Full cI cS a q u15 Z) := hD
            have hPc := hP
            have hDc := hD
            have hFc := jFreeW (ws := (W_Full cI cS a q u15 Z)) hD hS hA
            refine va_callv (va_runV (As := []) (rest := []) ⟨hx, hb, hml, hown, hts⟩ (c_X4_saveState l dC dI cI cS a q H.size _ _ _ _ h20) (cwV 0 hts gX4_join_X4_saveState rfl rfl rfl (by decide +kernel) ⟨Nat.le_of_ble_eq_true rfl, Nat.le_of_ble_eq_true rfl⟩) (jPreV hK hPc hDc hN (ci := 4) rfl rfl) rfl rfl hl.1 rfl (lv_room (Nat.le_of_ble_eq_true rfl)) dX4_join_64 ⟨Nat.le_of_ble_eq_true rfl, Nat.le_of_ble_eq_true rfl⟩) hS (fun q _ h => hFc q h) hFc (fun u9 t H locs ht hvm hw hB hz1 hk1 hS => ?_)
            subst hw
            obtain ⟨q, hP1, -, hD1⟩ := hB
            rw [ht] at hP1
            have hP : va_P (dC, dI) vwCl (W_Full cI cS a q u18 z19) H := hP1
            have hD : va_D A (W_Full cI cS a q u18 z19) := hD1.weaken (fun _ _ _ h => hFc _ h)
            have hP : va_P (dC, dI) vwCl (List.flatten [W_LS cI a u18, W_Sav cS (a 13) [((q 0) 0), ((q 1) 0), ((q 2) 0), ((q 3) 0), ((q 4) 0), ((q 5) 0)], W_State cI (q 0) (z19 0), W_State cI (q 1) (z19 1), W_State cI (q 2) (z19 2), W_State cI (q 3) (z19 3), W_State cI (q 4) (z19 4), W_State cI (q 5) (z19 5)]) H := hP
            have hD : va_D A (List.flatten [W_LS cI a u18, W_Sav cS (a 13) [((q 0) 0), ((q 1) 0), ((q 2) 0), ((q 3) 0), ((q 4) 0), ((q 5) 0)], W_State cI (q 0) (z19 0), W_State cI (q 1) (z19 1), W_State cI (q 2) (z19 2), W_State cI (q 3) (z19 3), W_State cI (q 4) (z19 4), W_State cI (q 5) (z19 5)]) := hD
            refine lv_aload_n hx hb dX4_join_67 rfl (lv_at hl 1 rfl) ?_
            refine lv_aload_n hx hb dX4_join_68 rfl (lv_at hl 0 rfl) ?_
            obtain ⟨u21, h22, hF⟩ := ob1_some hF
            have hPc := hP.sub (ws' := (W_LS cI a u18)) [0, 1, 2, 3, 4, 5, 6, 7, 8, 9, 10, 11, 12] rfl
            have hDc := hD.sub (ws' := (W_LS cI a u18)) [0, 1, 2, 3, 4, 5, 6, 7, 8, 9, 10, 11, 12] (by decide) rfl
            have hFc := va_free (wc := (W_LS cI a u18)) hD hS hA [0, 1, 2, 3, 4, 5, 6, 7, 8, 9, 10, 11, 12] rfl
            refine va_callv (va_runV (As := [.ref (a 8)]) (rest := []) ⟨hx, hb, hml, hown, hts⟩ (c_X4_takeWork_true l dC dI cI a H.size _ _ h22) (cwV 1 hts gX4_join_X4_takeWork rfl rfl rfl (by decide +kernel) ⟨Nat.le_of_ble_eq_true rfl, Nat.le_of_ble_eq_true rfl⟩) (jPreV hKi hPc hDc hN (ci := 4) rfl rfl) rfl rfl hl.1 rfl (lv_room (Nat.le_of_ble_eq_true rfl)) dX4_join_69 ⟨Nat.le_of_ble_eq_true rfl, Nat.le_of_ble_eq_true rfl⟩) hS (fun q _ h => hFc q h) hFc (fun u' t H locs ht hvm hw hB hz1 hk1 hS => ?_)
            subst hw
            obtain ⟨hP1, -, hD1⟩ := hB
            rw [ht] at hP1
            obtain ⟨hP, hD⟩ := jJoinF (wa := (W_LS cI a u18)) (wb := List.flatten [W_Sav cS (a 13) [((q 0) 0), ((q 1) 0), ((q 2) 0), ((q 3) 0), ((q 4) 0), ((q 5) 0)], W_State cI (q 0) (z19 0), W_State cI (q 1) (z19 1), W_State cI (q 2) (z19 2), W_State cI (q 3) (z19 3), W_State cI (q 4) (z19 4), W_State cI (q 5) (z19 5)]) (wc := (W_LS cI a u18)) (w1 := (W_LS cI a u21)) (ws' := (W_LS cI a u21)) hP hD [0, 1, 2, 3, 4, 5, 6, 7, 8, 9, 10, 11, 12] [] [0, 1, 2, 3, 4, 5, 6, 7, 8, 9, 10, 11, 12] rfl rfl (by decide) (by decide) hk1 hFc hP1 hD1 (by decide) rfl
            have hP : va_P (dC, dI) vwCl (List.flatten [W_LS cI a u21, W_Sav cS (a 13) [((q 0) 0), ((q 1) 0), ((q 2) 0), ((q 3) 0), ((q 4) 0), ((q 5) 0)], W_State cI (q 0) (z19 0), W_State cI (q 1) (z19 1), W_State cI (q 2) (z19 2), W_State cI (q 3) (z19 3), W_State cI (q 4) (z19 4), W_State cI (q 5) (z19 5)]) H := hP
            have hD : va_D A (List.flatten [W_LS cI a u21, W_Sav cS (a 13) [((q 0) 0), ((q 1) 0), ((q 2) 0), ((q 3) 0), ((q 4) 0), ((q 5) 0)], W_State cI (q 0) (z19 0), W_State cI (q 1) (z19 1), W_State cI (q 2) (z19 2), W_State cI (q 3) (z19 3), W_State cI (q 4) (z19 4), W_State cI (q 5) (z19 5)]) := hD
            refine lv_aload_n hx hb dX4_join_72 rfl (lv_at hl 0 rfl) ?_
            refine va_get (D := (dC, dI)) (ci := 3) (v := .int (g_Tree_size (g_State_second (g_LS_now u21)))) (C := RX3) (T := TX3) (N := 3) hx hb hts hinX3 hown hK hP 8 rfl rfl 1 (by decide) (hts (Cond.fieldLink RX4 92 "LearnedShapes$Tree" "size" "I") (List.mem_of_getElem? (i := 7) rfl)) (fun _ h9 => h9) rfl dX4_join_73 ?_
            have hP : va_P (dC, dI) vwCl (W_Full cI cS a q u21 z19) H := hP
            have hD : va_D A (W_Full cI cS a q u21 z19) := hD
            cases hF
            refine vx_ret ?_
            refine W.widen (k := 1) (n := 6) (Nat.zero_le _) (Nat.zero_le _) ?_
            exact W.iret (v := (g_Tree_size (g_State_second (g_LS_now u21)))) hx hb hr (fun t ht hW => ⟨⟨(g_Tree_size (g_State_second (g_LS_now u21))), (u21, z19), rfl, rfl, q, by rw [ht]; exact hP, va_K.moved hW.alike hK, hD⟩, hS.F ht⟩) hS.2.2 dX4_join_76
          · have hF := F_neg c17 hF
            have hP : va_P (dC, dI) vwCl (W_Full cI cS a q u15 Z) H := hP
            have hD : va_D A (W_Full cI cS a q u15 Z) := hD
            cases hF
            obtain ⟨sa, hsa⟩ := hN.2.1 _ (List.mem_of_getElem? (i := 8) rfl)
            exact vx_throwS (names := ["java/lang/RuntimeException", "java/lang/Exception"]) (cls := "java/lang/IllegalStateException") hx hb hl0 hown (by decide +kernel) (by decide +kernel) (hts (Cond.classLink RX4 81 "java/lang/IllegalStateException") (List.mem_of_getElem? (i := 3) rfl)) (hts (Cond.initialized "java/lang/IllegalStateException") (List.mem_of_getElem? (i := 4) rfl)) hsa (vx_hat (B := [Cond.castable "java/lang/IllegalStateException" "java/lang/IllegalStateException", Cond.declares ⟨"java/lang/RuntimeException", "<init>", "(Ljava/lang/String;)V"⟩, Cond.declares ⟨"java/lang/Exception", "<init>", "(Ljava/lang/String;)V"⟩, Cond.declares ⟨"java/lang/Throwable", "<init>", "(Ljava/lang/String;)V"⟩]) (fun w hw => hts w (List.mem_cons_of_mem _ (List.mem_append_right _ hw))) (by decide +kernel) (vx_c (va_Nw.use rfl (hN.1 _ (List.mem_of_getElem? (i := 13) rfl))) (vx_c (va_Nw.use rfl (hN.1 _ (List.mem_of_getElem? (i := 14) rfl))) (vx_c (va_Nw.use rfl (hN.1 _ (List.mem_of_getElem? (i := 15) rfl))) (vx_c (va_Nw.use rfl (hN.1 _ (List.mem_of_getElem? (i := 16) rfl))) vx_n))))) (by decide +kernel) hU hSN hS (hl.1.trans hml.symm) dX4_join_53 dX4_join_56 dX4_join_57 dX4_join_59 dX4_join_62 (fun x hx => (hex x hx).elim) (Nat.le_of_ble_eq_true rfl) (Nat.le_of_ble_eq_true rfl) (Nat.le_of_ble_eq_true rfl) (Nat.le_of_ble_eq_true rfl) hlocks (fun t ha hz hk => ⟨(u15, Z), trivial, ⟨rfl, q, jKeep hP hk, va_K.moved ha hK, hD⟩, jF hS hz hk⟩) hS.2.2 (Nat.le_of_ble_eq_true rfl) (Nat.le_of_ble_eq_true rfl)
        · have hF := F_neg c14 hF
          have hPc := hP.sub (ws' := (W_State cI (sh a 5) (g_LS_now S))) [5, 6, 7, 8, 9] rfl
          have hDc := hD.sub (ws' := (W_State cI (sh a 5) (g_LS_now S))) [5, 6, 7, 8, 9] (by decide) rfl
          have hFc := va_free (wc := (W_State cI (sh a 5) (g_LS_now S))) hD hS hA [5, 6, 7, 8, 9] rfl
          refine va_callr (va_runV (As := [.int ((1 : Int32) - v1)]) (rest := [.ref (a 8), .ref (a 0)]) ⟨hx, hb, hml, hown, hts⟩ (c_X2_tree_second l dC dI cI (sh a 5) H.size _ _ c14) (cwV 1 hts gX4_join_X2_tree rfl rfl rfl (by decide +kernel) ⟨Nat.le_of_ble_eq_true rfl, Nat.le_of_ble_eq_true rfl⟩) (jPreV hKi hPc hDc hN (ci := 2) rfl rfl) rfl rfl hl.1 rfl (lv_room (Nat.le_of_ble_eq_true rfl)) dX4_join_35 ⟨Nat.le_of_ble_eq_true rfl, Nat.le_of_ble_eq_true rfl⟩) hS (fun q _ h => hFc q h) hFc (fun u q9 t H locs ht hvm hw hB hz1 hk1 hS => ?_)
          obtain ⟨e9, hP1, -, hD1⟩ := hB
          subst e9
          rw [ht] at hP1
          obtain ⟨hP, hD⟩ := jJoinF (wa := W_LS cI a S) (wb := List.flatten [W_Sav cS (a 13) [((q 0) 0), ((q 1) 0), ((q 2) 0), ((q 3) 0), ((q 4) 0), ((q 5) 0)], W_State cI (q 0) (Z 0), W_State cI (q 1) (Z 1), W_State cI (q 2) (Z 2), W_State cI (q 3) (Z 3), W_State cI (q 4) (Z 4), W_State cI (q 5) (Z 5)]) (wc := (W_State cI (sh a 5) (g_LS_now S))) (w1 := (W_State cI (sh a 5) (g_LS_now S))) (ws' := W_LS cI a S) hP hD [5, 6, 7, 8, 9] [0, 1, 2, 3, 4, 10, 11, 12] [0, 1, 2, 3, 4, 8, 9, 10, 11, 12, 5, 6, 7] rfl rfl (by decide) (by decide) hk1 hFc hP1 hD1 (by decide) rfl
          have hP : va_P (dC, dI) vwCl (List.flatten [W_LS cI a S, W_Sav cS (a 13) [((q 0) 0), ((q 1) 0), ((q 2) 0), ((q 3) 0), ((q 4) 0), ((q 5) 0)], W_State cI (q 0) (Z 0), W_State cI (q 1) (Z 1), W_State cI (q 2) (Z 2), W_State cI (q 3) (Z 3), W_State cI (q 4) (Z 4), W_State cI (q 5) (Z 5)]) H := hP
          have hD : va_D A (List.flatten [W_LS cI a S, W_Sav cS (a 13) [((q 0) 0), ((q 1) 0), ((q 2) 0), ((q 3) 0), ((q 4) 0), ((q 5) 0)], W_State cI (q 0) (Z 0), W_State cI (q 1) (Z 1), W_State cI (q 2) (Z 2), W_State cI (q 3) (Z 3), W_State cI (q 4) (Z 4), W_State cI (q 5) (Z 5)]) := hD
          exact nomatch hF
    · have hF := F_pos c3 hF
      have hP : va_P (dC, dI) vwCl (W_Full cI cS a q S Z) H := hP
      have hD : va_D A (W_Full cI cS a q S Z) := hD
      cases hF
      obtain ⟨sa, hsa⟩ := hN.2.1 _ (List.mem_of_getElem? (i := 5) rfl)
      exact vx_throwS (names := ["java/lang/RuntimeException", "java/lang/Exception"]) (cls := "java/lang/IndexOutOfBoundsException") hx hb hl0 hown (by decide +kernel) (by decide +kernel) (hts (Cond.classLink RX4 49 "java/lang/IndexOutOfBoundsException") (List.mem_of_getElem? (i := 1) rfl)) (hts (Cond.initialized "java/lang/IndexOutOfBoundsException") (List.mem_of_getElem? (i := 2) rfl)) hsa (vx_hat (B := [Cond.castable "java/lang/IndexOutOfBoundsException" "java/lang/IndexOutOfBoundsException", Cond.declares ⟨"java/lang/RuntimeException", "<init>", "(Ljava/lang/String;)V"⟩, Cond.declares ⟨"java/lang/Exception", "<init>", "(Ljava/lang/String;)V"⟩, Cond.declares ⟨"java/lang/Throwable", "<init>", "(Ljava/lang/String;)V"⟩]) (fun w hw => hts w (List.mem_cons_of_mem _ (List.mem_append_left _ (List.mem_append_right _ hw)))) (by decide +kernel) (vx_c (va_Nw.use rfl (hN.1 _ (List.mem_of_getElem? (i := 11) rfl))) (vx_c (va_Nw.use rfl (hN.1 _ (List.mem_of_getElem? (i := 14) rfl))) (vx_c (va_Nw.use rfl (hN.1 _ (List.mem_of_getElem? (i := 15) rfl))) (vx_c (va_Nw.use rfl (hN.1 _ (List.mem_of_getElem? (i := 16) rfl))) vx_n))))) (by decide +kernel) hU hSN hS (hl.1.trans hml.symm) dX4_join_7 dX4_join_10 dX4_join_11 dX4_join_13 dX4_join_16 (fun x hx => (hex x hx).elim) (Nat.le_of_ble_eq_true rfl) (Nat.le_of_ble_eq_true rfl) (Nat.le_of_ble_eq_true rfl) (Nat.le_of_ble_eq_true rfl) hlocks (fun t ha hz hk => ⟨(S, Z), trivial, ⟨rfl, q, jKeep hP hk, va_K.moved ha hK, hD⟩, jF hS hz hk⟩) hS.2.2 (Nat.le_of_ble_eq_true rfl) (Nat.le_of_ble_eq_true rfl)
  exact KE _ _ hP hD hS
set_option maxHeartbeats 4000000 in
set_option maxRecDepth 100000 in
theorem c_X4_forget (l : Launch) (dC : Nat → ClassId) (dI : Nat → Nat → Nat) (cI : ClassId) (hl0 : l.stackTraces = false) (cS : ClassId) (a : Nat → Nat) (q : Nat → Nat → Nat) (sz : Nat) (S : S_LS) (Z : (Nat → S_State)) (v1 : Int32) (res : Sum (String × (S_LS × (Nat → S_State))) (Int32 × S_LS × (Nat → S_State))) (hF : F_X4_forget S Z v1 = some res) : vx_Met l yX4_forget wsX4_forget ({ frames := 6, cells := 1, slots := 6, locals := 150 } : Room) (va_Pc [.ref (a 0), .int v1] (jPreX (dC, dI) [(cI, .int), (cS, .object "LearnedShapes$State")] sz (W_Full cI cS a q S Z))) (va_Qi (fun (r' : Int32) (u : S_LS × (Nat → S_State)) => res = .inr (r', u)) (fun (u : S_LS × (Nat → S_State)) (t : State) => ∃ q9 : Nat → Nat → Nat, jB (dC, dI) [(cI, .int), (cS, .object "LearnedShapes$State")] (va_A (W_Full cI cS a q S Z) sz) (W_Full cI cS a q9 u.1 u.2) t) (va_A (W_Full cI cS a q S Z) sz)) (vx_X (fun _ : S_LS × (Nat → S_State) => True) (fun (E : String) (u : S_LS × (Nat → S_State)) (t : State) => res = .inl (E, u) ∧ (fun (u : S_LS × (Nat → S_State)) (t : State) => ∃ q9 : Nat → Nat → Nat, jB (dC, dI) [(cI, .int), (cS, .object "LearnedShapes$State")] (va_A (W_Full cI cS a q S Z) sz) (W_Full cI cS a q9 u.1 u.2) t) u t) (va_A (W_Full cI cS a q S Z) sz)) 1 6 (va_A (W_Full cI cS a q S Z) sz) := by
  refine vx_ofW (cc := cX4_forget) (maxL := 4) (ret := (some .int)) (by decide) rfl ?_
  intro p e s m args below meth c s₁ B hml hex hv
  obtain ⟨rfl, ⟨hsz, hP, hK, hD0, hN⟩, hU, hSN⟩ := hv
  have hx := B.exec
  have hb := B.bytes
  have hr := B.returns
  have hts := atoms_spec (ws := wsX4_forget) B.pre
  have hown : s.vm.findClass RX4 = some m.cls := findClass_of_methodNamed B.named
  have hlocks := B.notSynchronized
  have hKi : va_K (dC, dI) vwCl [(cI, .int)] s := hK.sub [0] rfl
  have hinX3 : ∀ w ∈ u_ws RX3 TX3 3, w ∈ wsX4_forget := by decide +kernel
  have hinX4 : ∀ w ∈ u_ws RX4 TX4 8, w ∈ wsX4_forget := by decide +kernel
  subst hsz
  have hD := hD0.self (sz := s.heap.size)
  generalize hAe : (va_A (W_Full cI cS a q S Z) s.heap.size) = A at hD hU hSN ⊢
  have hA : ∀ q : Nat, s.heap.size ≤ q → A q := fun q h => by rw [← hAe]; exact Or.inr h
  have hS : va_S A s.heap s.heap [] := va_S.rf
  have hl := lv_entry ([.ref (a 0), .int v1]) (n := 4) (Nat.le_of_ble_eq_true rfl)
  rw [lg_entry_eq]
  generalize (lg_sl ([.ref (a 0), .int v1]) ++ List.replicate (4 - (lg_sl ([.ref (a 0), .int v1])).length) Slot.unset).toArray = ls at hl ⊢
  have hl : lv_has ls 4 [(0, .ref (a 0)), (1, .int v1)] := hl
  have KE : ∀ (H : Heap) (locs : List Loc), va_P (dC, dI) vwCl (W_Full cI cS a q S Z) H → va_D A (W_Full cI cS a q S Z) → va_S A s.heap H locs → W p l e (headSpec wsX4_forget ({ frames := 6, cells := 1, slots := 6, locals := 150 } : Room)).room s m ([.ref (a 0), .int v1] : List Value).toArray below meth c H locs 0 0 (vx_MQ below (va_Qi (fun (r' : Int32) (u : S_LS × (Nat → S_State)) => res = .inr (r', u)) (fun (u : S_LS × (Nat → S_State)) (t : State) => ∃ q9 : Nat → Nat → Nat, jB (dC, dI) [(cI, .int), (cS, .object "LearnedShapes$State")] A (W_Full cI cS a q9 u.1 u.2) t) A) (vx_X (fun _ : S_LS × (Nat → S_State) => True) (fun (E : String) (u : S_LS × (Nat → S_State)) (t : State) => res = .inl (E, u) ∧ (fun (u : S_LS × (Nat → S_State)) (t : State) => ∃ q9 : Nat → Nat → Nat, jB (dC, dI) [(cI, .int), (cS, .object "LearnedShapes$State")] A (W_Full cI cS a q9 u.1 u.2) t) u t) A) ([.ref (a 0), .int v1] : List Value).toArray s 1 6 A) (F0 m 0 ls []) := by
    intro H locs hP hD hS
    have hP : va_P (dC, dI) vwCl (List.flatten [W_LS cI a S, W_Sav cS (a 13) [((q 0) 0), ((q 1) 0), ((q 2) 0), ((q 3) 0), ((q 4) 0), ((q 5) 0)], W_State cI (q 0) (Z 0), W_State cI (q 1) (Z 1), W_State cI (q 2) (Z 2), W_State cI (q 3) (Z 3), W_State cI (q 4) (Z 4), W_State cI (q 5) (Z 5)]) H := hP
    have hD : va_D A (List.flatten [W_LS cI a S, W_Sav cS (a 13) [((q 0) 0), ((q 1) 0), ((q 2) 0), ((q 3) 0), ((q 4) 0), ((q 5) 0)], W_State cI (q 0) (Z 0), W_State cI (q 1) (Z 1), W_State cI (q 2) (Z 2), W_State cI (q 3) (Z 3), W_State cI (q 4) (Z 4), W_State cI (q 5) (Z 5)]) := hD
    unfold F_X4_forget at hF
    refine lv_iload_n hx hb dX4_forget_0 rfl (lv_at hl 1 rfl) ?_
    obtain ⟨r1, h2, hF⟩ := ob1_some hF
    have hPc : va_P (dC, dI) vwCl ([] : va_W) H := fun k q h => by simp at h
    have hDc : va_D A ([] : va_W) := ⟨fun i j p q h => by simp at h, fun k q h => by simp at h⟩
    have hFc := jFreeW (ws := []) hDc hS hA
    refine va_calli (va_runS (As := [.int v1]) (rest := []) ⟨hx, hb, hml, hown, hts⟩ (c_X4_isShape l dC dI cI  H.size _ _ h2) (va_cwS 1 hts gX4_forget_X4_isShape rfl rfl rfl (by decide +kernel) ⟨Nat.le_of_ble_eq_true rfl, Nat.le_of_ble_eq_true rfl⟩) (jPreS hKi hPc hDc hN) rfl rfl hl.1 rfl (lv_room (Nat.le_of_ble_eq_true rfl)) dX4_forget_1 ⟨Nat.le_of_ble_eq_true rfl, Nat.le_of_ble_eq_true rfl⟩) hS (fun q _ h => hFc q h) hFc (fun r' u' t H locs ht hvm hw hB hz1 hk1 hS => ?_)
    subst hw
    obtain ⟨hP1, -, hD1⟩ := hB
    rw [ht] at hP1
    obtain ⟨hP, hD⟩ := jJoinF (wa := (W_LS cI a S)) (wb := List.flatten [W_Sav cS (a 13) [((q 0) 0), ((q 1) 0), ((q 2) 0), ((q 3) 0), ((q 4) 0), ((q 5) 0)], W_State cI (q 0) (Z 0), W_State cI (q 1) (Z 1), W_State cI (q 2) (Z 2), W_State cI (q 3) (Z 3), W_State cI (q 4) (Z 4), W_State cI (q 5) (Z 5)]) (wc := ([] : va_W)) (w1 := ([] : va_W)) (ws' := (W_LS cI a S)) hP hD [] [0, 1, 2, 3, 4, 5, 6, 7, 8, 9, 10, 11, 12] [0, 1, 2, 3, 4, 5, 6, 7, 8, 9, 10, 11, 12] rfl rfl (by decide) (by decide) hk1 hFc hP1 hD1 (by decide) rfl
    have hP : va_P (dC, dI) vwCl (List.flatten [W_LS cI a S, W_Sav cS (a 13) [((q 0) 0), ((q 1) 0), ((q 2) 0), ((q 3) 0), ((q 4) 0), ((q 5) 0)], W_State cI (q 0) (Z 0), W_State cI (q 1) (Z 1), W_State cI (q 2) (Z 2), W_State cI (q 3) (Z 3), W_State cI (q 4) (Z 4), W_State cI (q 5) (Z 5)]) H := hP
    have hD : va_D A (List.flatten [W_LS cI a S, W_Sav cS (a 13) [((q 0) 0), ((q 1) 0), ((q 2) 0), ((q 3) 0), ((q 4) 0), ((q 5) 0)], W_State cI (q 0) (Z 0), W_State cI (q 1) (Z 1), W_State cI (q 2) (Z 2), W_State cI (q 3) (Z 3), W_State cI (q 4) (Z 4), W_State cI (q 5) (Z 5)]) := hD
    refine lv_if_ne (tgt := 17) hx hb dX4_forget_4 (by decide) (fun c3 => ?_) (fun c3 => ?_)
    · have hF := F_neg c3 hF
      refine lv_aload_n hx hb dX4_forget_17 rfl (lv_at hl 0 rfl) ?_
      obtain ⟨u4, z5, h6, hF⟩ := ob2_some hF
      have hP : va_P (dC, dI) vwCl (W_Full cI cS a q S Z) H := hP
      have hD : va_D A (W_Full cI cS a q S Z) := hD
      have hPc := hP
      have hDc := hD
      have hFc := jFreeW (ws := (W_Full cI cS a q S Z)) hD hS hA
      refine va_callv (va_runV (As := []) (rest := []) ⟨hx, hb, hml, hown, hts⟩ (c_X4_saveState l dC dI cI cS a q H.size _ _ _ _ h6) (cwV 0 hts gX4_forget_X4_saveState rfl rfl rfl (by decide +kernel) ⟨Nat.le_of_ble_eq_true rfl, Nat.le_of_ble_eq_true rfl⟩) (jPreV hK hPc hDc hN (ci := 4) rfl rfl) rfl rfl hl.1 rfl (lv_room (Nat.le_of_ble_eq_true rfl)) dX4_forget_18 ⟨Nat.le_of_ble_eq_true rfl, Nat.le_of_ble_eq_true rfl⟩) hS (fun q _ h => hFc q h) hFc (fun u9 t H locs ht hvm hw hB hz1 hk1 hS => ?_)
      subst hw
      obtain ⟨q, hP1, -, hD1⟩ := hB
      rw [ht] at hP1
      have hP : va_P (dC, dI) vwCl (W_Full cI cS a q u4 z5) H := hP1
      have hD : va_D A (W_Full cI cS a q u4 z5) := hD1.weaken (fun _ _ _ h => hFc _ h)
      have hP : va_P (dC, dI) vwCl (List.flatten [W_LS cI a u4, W_Sav cS (a 13) [((q 0) 0), ((q 1) 0), ((q 2) 0), ((q 3) 0), ((q 4) 0), ((q 5) 0)], W_State cI (q 0) (z5 0), W_State cI (q 1) (z5 1), W_State cI (q 2) (z5 2), W_State cI (q 3) (z5 3), W_State cI (q 4) (z5 4), W_State cI (q 5) (z5 5)]) H := hP
      have hD : va_D A (List.flatten [W_LS cI a u4, W_Sav cS (a 13) [((q 0) 0), ((q 1) 0), ((q 2) 0), ((q 3) 0), ((q 4) 0), ((q 5) 0)], W_State cI (q 0) (z5 0), W_State cI (q 1) (z5 1), W_State cI (q 2) (z5 2), W_State cI (q 3) (z5 3), W_State cI (q 4) (z5 4), W_State cI (q 5) (z5 5)]) := hD
      refine lv_aload_n hx hb dX4_forget_21 rfl (lv_at hl 0 rfl) ?_
      refine va_get (D := (dC, dI)) (ci := 4) (v := .ref (a 5)) (C := RX4) (T := TX4) (N := 8) hx hb hts hinX4 hown hK hP 0 rfl rfl 3 (by decide) (hts (Cond.fieldLink RX4 23 "LearnedShapes" "now" "LLearnedShapes$State;") (List.mem_of_getElem? (i := 3) rfl)) (fun _ h9 => h9) rfl dX4_forget_22 ?_
      refine lv_iload_n hx hb dX4_forget_25 rfl (lv_at hl 1 rfl) ?_
      by_cases c7 : v1 = 0
      · have hF := F_pos c7 hF
        have hPc := hP.sub (ws' := (W_State cI (sh a 5) (g_LS_now u4))) [5, 6, 7, 8, 9] rfl
        have hDc := hD.sub (ws' := (W_State cI (sh a 5) (g_LS_now u4))) [5, 6, 7, 8, 9] (by decide) rfl
        have hFc := va_free (wc := (W_State cI (sh a 5) (g_LS_now u4))) hD hS hA [5, 6, 7, 8, 9] rfl
        refine va_callr (va_runV (As := [.int v1]) (rest := []) ⟨hx, hb, hml, hown, hts⟩ (c_X2_tree_first l dC dI cI (sh a 5) H.size _ _ c7) (cwV 1 hts gX4_forget_X2_tree rfl rfl rfl (by decide +kernel) ⟨Nat.le_of_ble_eq_true rfl, Nat.le_of_ble_eq_true rfl⟩) (jPreV hKi hPc hDc hN (ci := 2) rfl rfl) rfl rfl hl.1 rfl (lv_room (Nat.le_of_ble_eq_true rfl)) dX4_forget_26 ⟨Nat.le_of_ble_eq_true rfl, Nat.le_of_ble_eq_true rfl⟩) hS (fun q _ h => hFc q h) hFc (fun u q9 t H locs ht hvm hw hB hz1 hk1 hS => ?_)
        obtain ⟨e9, hP1, -, hD1⟩ := hB
        subst e9
        rw [ht] at hP1
        obtain ⟨hP, hD⟩ := jJoinF (wa := W_LS cI a u4) (wb := List.flatten [W_Sav cS (a 13) [((q 0) 0), ((q 1) 0), ((q 2) 0), ((q 3) 0), ((q 4) 0), ((q 5) 0)], W_State cI (q 0) (z5 0), W_State cI (q 1) (z5 1), W_State cI (q 2) (z5 2), W_State cI (q 3) (z5 3), W_State cI (q 4) (z5 4), W_State cI (q 5) (z5 5)]) (wc := (W_State cI (sh a 5) (g_LS_now u4))) (w1 := (W_State cI (sh a 5) (g_LS_now u4))) (ws' := W_LS cI a u4) hP hD [5, 6, 7, 8, 9] [0, 1, 2, 3, 4, 10, 11, 12] [0, 1, 2, 3, 4, 8, 9, 10, 11, 12, 5, 6, 7] rfl rfl (by decide) (by decide) hk1 hFc hP1 hD1 (by decide) rfl
        have hP : va_P (dC, dI) vwCl (List.flatten [W_LS cI a u4, W_Sav cS (a 13) [((q 0) 0), ((q 1) 0), ((q 2) 0), ((q 3) 0), ((q 4) 0), ((q 5) 0)], W_State cI (q 0) (z5 0), W_State cI (q 1) (z5 1), W_State cI (q 2) (z5 2), W_State cI (q 3) (z5 3), W_State cI (q 4) (z5 4), W_State cI (q 5) (z5 5)]) H := hP
        have hD : va_D A (List.flatten [W_LS cI a u4, W_Sav cS (a 13) [((q 0) 0), ((q 1) 0), ((q 2) 0), ((q 3) 0), ((q 4) 0), ((q 5) 0)], W_State cI (q 0) (z5 0), W_State cI (q 1) (z5 1), W_State cI (q 2) (z5 2), W_State cI (q 3) (z5 3), W_State cI (q 4) (z5 4), W_State cI (q 5) (z5 5)]) := hD
        refine lv_astore_n (lv' := [(2, .ref (a 6)), (0, .ref (a 0)), (1, .int v1)]) hx hb dX4_forget_29 rfl hl (by decide) rfl (fun ls hl => ?_)
        refine lv_aload_n hx hb dX4_forget_30 rfl (lv_at hl 0 rfl) ?_
        refine va_get (D := (dC, dI)) (ci := 3) (v := .int (g_Tree_size (g_State_first (g_LS_now u4)))) (C := RX3) (T := TX3) (N := 3) hx hb hts hinX3 hown hK hP 6 rfl rfl 1 (by decide) (hts (Cond.fieldLink RX4 92 "LearnedShapes$Tree" "size" "I") (List.mem_of_getElem? (i := 4) rfl)) (fun _ h9 => h9) rfl dX4_forget_31 ?_
        refine lv_istore_n (lv' := [(3, .int (g_Tree_size (g_State_first (g_LS_now u4)))), (2, .ref (a 6)), (0, .ref (a 0)), (1, .int v1)]) hx hb dX4_forget_34 rfl hl (by decide) rfl (fun ls hl => ?_)
        refine lv_aload_n hx hb dX4_forget_35 rfl (lv_at hl 1 rfl) ?_
        obtain ⟨u8, h9, hF⟩ := ob1_some hF
        have hPc := hP.sub (ws' := (W_Tree cI (sh a 6) (g_State_first (g_LS_now u4)))) [6, 7] rfl
        have hDc := hD.sub (ws' := (W_Tree cI (sh a 6) (g_State_first (g_LS_now u4)))) [6, 7] (by decide) rfl
        have hFc := va_free (wc := (W_Tree cI (sh a 6) (g_State_first (g_LS_now u4)))) hD hS hA [6, 7] rfl
        refine va_callv (va_runV (As := []) (rest := []) ⟨hx, hb, hml, hown, hts⟩ (c_X3_clear l dC dI cI (sh a 6) H.size _ _ h9) (cwV 0 hts gX4_forget_X3_clear rfl rfl rfl (by decide +kernel) ⟨Nat.le_of_ble_eq_true rfl, Nat.le_of_ble_eq_true rfl⟩) (jPreV hKi hPc hDc hN (ci := 3) rfl rfl) rfl rfl hl.1 rfl (lv_room (Nat.le_of_ble_eq_true rfl)) dX4_forget_36 ⟨Nat.le_of_ble_eq_true rfl, Nat.le_of_ble_eq_true rfl⟩) hS (fun q _ h => hFc q h) hFc (fun u' t H locs ht hvm hw hB hz1 hk1 hS => ?_)
        subst hw
        obtain ⟨hP1, -, hD1⟩ := hB
        rw [ht] at hP1
        obtain ⟨hP, hD⟩ := jJoinF (wa := (W_LS cI a u4)) (wb := List.flatten [W_Sav cS (a 13) [((q 0) 0), ((q 1) 0), ((q 2) 0), ((q 3) 0), ((q 4) 0), ((q 5) 0)], W_State cI (q 0) (z5 0), W_State cI (q 1) (z5 1), W_State cI (q 2) (z5 2), W_State cI (q 3) (z5 3), W_State cI (q 4) (z5 4), W_State cI (q 5) (z5 5)]) (wc := (W_Tree cI (sh a 6) (g_State_first (g_LS_now u4)))) (w1 := (W_Tree cI (sh a 6) u8)) (ws' := (W_LS cI a (s_LS_now u4 (s_State_first (g_LS_now u4) u8)))) hP hD [6, 7] [0, 1, 2, 3, 4, 5, 8, 9, 10, 11, 12] [0, 1, 2, 3, 4, 5, 11, 12, 6, 7, 8, 9, 10] rfl rfl (by decide) (by decide) hk1 hFc hP1 hD1 (by decide) rfl
        have hP : va_P (dC, dI) vwCl (List.flatten [W_LS cI a (s_LS_now u4 (s_State_first (g_LS_now u4) u8)), W_Sav cS (a 13) [((q 0) 0), ((q 1) 0), ((q 2) 0), ((q 3) 0), ((q 4) 0), ((q 5) 0)], W_State cI (q 0) (z5 0), W_State cI (q 1) (z5 1), W_State cI (q 2) (z5 2), W_State cI (q 3) (z5 3), W_State cI (q 4) (z5 4), W_State cI (q 5) (z5 5)]) H := hP
        have hD : va_D A (List.flatten [W_LS cI a (s_LS_now u4 (s_State_first (g_LS_now u4) u8)), W_Sav cS (a 13) [((q 0) 0), ((q 1) 0), ((q 2) 0), ((q 3) 0), ((q 4) 0), ((q 5) 0)], W_State cI (q 0) (z5 0), W_State cI (q 1) (z5 1), W_State cI (q 2) (z5 2), W_State cI (q 3) (z5 3), W_State cI (q 4) (z5 4), W_State cI (q 5) (z5 5)]) := hD
        refine lv_iload_n hx hb dX4_forget_39 rfl (lv_at hl 0 rfl) ?_
        have hP : va_P (dC, dI) vwCl (W_Full cI cS a q (s_LS_now u4 (s_State_first (g_LS_now u4) u8)) z5) H := hP
        have hD : va_D A (W_Full cI cS a q (s_LS_now u4 (s_State_first (g_LS_now u4) u8)) z5) := hD
        cases hF
        refine vx_ret ?_
        refine W.widen (k := 1) (n := 6) (Nat.zero_le _) (Nat.zero_le _) ?_
        exact W.iret (v := (g_Tree_size (g_State_first (g_LS_now u4)))) hx hb hr (fun t ht hW => ⟨⟨(g_Tree_size (g_State_first (g_LS_now u4))), ((s_LS_now u4 (s_State_first (g_LS_now u4) u8)), z5), rfl, rfl, q, by rw [ht]; exact hP, va_K.moved hW.alike hK, hD⟩, hS.F ht⟩) hS.2.2 dX4_forget_40
      · have hF := F_neg c7 hF
        have hPc := hP.sub (ws' := (W_State cI (sh a 5) (g_LS_now u4))) [5, 6, 7, 8, 9] rfl
        have hDc := hD.sub (ws' := (W_State cI (sh a 5) (g_LS_now u4))) [5, 6, 7, 8, 9] (by decide) rfl
        have hFc := va_free (wc := (W_State cI (sh a 5) (g_LS_now u4))) hD hS hA [5, 6, 7, 8, 9] rfl
        refine va_callr (va_runV (As := [.int v1]) (rest := []) ⟨hx, hb, hml, hown, hts⟩ (c_X2_tree_second l dC dI cI (sh a 5) H.size _ _ c7) (cwV 1 hts gX4_forget_X2_tree rfl rfl rfl (by decide +kernel) ⟨Nat.le_of_ble_eq_true rfl, Nat.le_of_ble_eq_true rfl⟩) (jPreV hKi hPc hDc hN (ci := 2) rfl rfl) rfl rfl hl.1 rfl (lv_room (Nat.le_of_ble_eq_true rfl)) dX4_forget_26 ⟨Nat.le_of_ble_eq_true rfl, Nat.le_of_ble_eq_true rfl⟩) hS (fun q _ h => hFc q h) hFc (fun u q9 t H locs ht hvm hw hB hz1 hk1 hS => ?_)
        obtain ⟨e9, hP1, -, hD1⟩ := hB
        subst e9
        rw [ht] at hP1
        obtain ⟨hP, hD⟩ := jJoinF (wa := W_LS cI a u4) (wb := List.flatten [W_Sav cS (a 13) [((q 0) 0), ((q 1) 0), ((q 2) 0), ((q 3) 0), ((q 4) 0), ((q 5) 0)], W_State cI (q 0) (z5 0), W_State cI (q 1) (z5 1), W_State cI (q 2) (z5 2), W_State cI (q 3) (z5 3), W_State cI (q 4) (z5 4), W_State cI (q 5) (z5 5)]) (wc := (W_State cI (sh a 5) (g_LS_now u4))) (w1 := (W_State cI (sh a 5) (g_LS_now u4))) (ws' := W_LS cI a u4) hP hD [5, 6, 7, 8, 9] [0, 1, 2, 3, 4, 10, 11, 12] [0, 1, 2, 3, 4, 8, 9, 10, 11, 12, 5, 6, 7] rfl rfl (by decide) (by decide) hk1 hFc hP1 hD1 (by decide) rfl
        have hP : va_P (dC, dI) vwCl (List.flatten [W_LS cI a u4, W_Sav cS (a 13) [((q 0) 0), ((q 1) 0), ((q 2) 0), ((q 3) 0), ((q 4) 0), ((q 5) 0)], W_State cI (q 0) (z5 0), W_State cI (q 1) (z5 1), W_State cI (q 2) (z5 2), W_State cI (q 3) (z5 3), W_State cI (q 4) (z5 4), W_State cI (q 5) (z5 5)]) H := hP
        have hD : va_D A (List.flatten [W_LS cI a u4, W_Sav cS (a 13) [((q 0) 0), ((q 1) 0), ((q 2) 0), ((q 3) 0), ((q 4) 0), ((q 5) 0)], W_State cI (q 0) (z5 0), W_State cI (q 1) (z5 1), W_State cI (q 2) (z5 2), W_State cI (q 3) (z5 3), W_State cI (q 4) (z5 4), W_State cI (q 5) (z5 5)]) := hD
        refine lv_astore_n (lv' := [(2, .ref (a 8)), (0, .ref (a 0)), (1, .int v1)]) hx hb dX4_forget_29 rfl hl (by decide) rfl (fun ls hl => ?_)
        refine lv_aload_n hx hb dX4_forget_30 rfl (lv_at hl 0 rfl) ?_
        refine va_get (D := (dC, dI)) (ci := 3) (v := .int (g_Tree_size (g_State_second (g_LS_now u4)))) (C := RX3) (T := TX3) (N := 3) hx hb hts hinX3 hown hK hP 8 rfl rfl 1 (by decide) (hts (Cond.fieldLink RX4 92 "LearnedShapes$Tree" "size" "I") (List.mem_of_getElem? (i := 4) rfl)) (fun _ h9 => h9) rfl dX4_forget_31 ?_
        refine lv_istore_n (lv' := [(3, .int (g_Tree_size (g_State_second (g_LS_now u4)))), (2, .ref (a 8)), (0, .ref (a 0)), (1, .int v1)]) hx hb dX4_forget_34 rfl hl (by decide) rfl (fun ls hl => ?_)
        refine lv_aload_n hx hb dX4_forget_35 rfl (lv_at hl 1 rfl) ?_
        obtain ⟨u10, h11, hF⟩ := ob1_some hF
        have hPc := hP.sub (ws' := (W_Tree cI (sh a 8) (g_State_second (g_LS_now u4)))) [8, 9] rfl
        have hDc := hD.sub (ws' := (W_Tree cI (sh a 8) (g_State_second (g_LS_now u4)))) [8, 9] (by decide) rfl
        have hFc := va_free (wc := (W_Tree cI (sh a 8) (g_State_second (g_LS_now u4)))) hD hS hA [8, 9] rfl
        refine va_callv (va_runV (As := []) (rest := []) ⟨hx, hb, hml, hown, hts⟩ (c_X3_clear l dC dI cI (sh a 8) H.size _ _ h11) (cwV 0 hts gX4_forget_X3_clear rfl rfl rfl (by decide +kernel) ⟨Nat.le_of_ble_eq_true rfl, Nat.le_of_ble_eq_true rfl⟩) (jPreV hKi hPc hDc hN (ci := 3) rfl rfl) rfl rfl hl.1 rfl (lv_room (Nat.le_of_ble_eq_true rfl)) dX4_forget_36 ⟨Nat.le_of_ble_eq_true rfl, Nat.le_of_ble_eq_true rfl⟩) hS (fun q _ h => hFc q h) hFc (fun u' t H locs ht hvm hw hB hz1 hk1 hS => ?_)
        subst hw
        obtain ⟨hP1, -, hD1⟩ := hB
        rw [ht] at hP1
        obtain ⟨hP, hD⟩ := jJoinF (wa := (W_LS cI a u4)) (wb := List.flatten [W_Sav cS (a 13) [((q 0) 0), ((q 1) 0), ((q 2) 0), ((q 3) 0), ((q 4) 0), ((q 5) 0)], W_State cI (q 0) (z5 0), W_State cI (q 1) (z5 1), W_State cI (q 2) (z5 2), W_State cI (q 3) (z5 3), W_State cI (q 4) (z5 4), W_State cI (q 5) (z5 5)]) (wc := (W_Tree cI (sh a 8) (g_State_second (g_LS_now u4)))) (w1 := (W_Tree cI (sh a 8) u10)) (ws' := (W_LS cI a (s_LS_now u4 (s_State_second (g_LS_now u4) u10)))) hP hD [8, 9] [0, 1, 2, 3, 4, 5, 6, 7, 10, 11, 12] [0, 1, 2, 3, 4, 5, 6, 7, 11, 12, 8, 9, 10] rfl rfl (by decide) (by decide) hk1 hFc hP1 hD1 (by decide) rfl
        have hP : va_P (dC, dI) vwCl (List.flatten [W_LS cI a (s_LS_now u4 (s_State_second (g_LS_now u4) u10)), W_Sav cS (a 13) [((q 0) 0), ((q 1) 0), ((q 2) 0), ((q 3) 0), ((q 4) 0), ((q 5) 0)], W_State cI (q 0) (z5 0), W_State cI (q 1) (z5 1), W_State cI (q 2) (z5 2), W_State cI (q 3) (z5 3), W_State cI (q 4) (z5 4), W_State cI (q 5) (z5 5)]) H := hP
        have hD : va_D A (List.flatten [W_LS cI a (s_LS_now u4 (s_State_second (g_LS_now u4) u10)), W_Sav cS (a 13) [((q 0) 0), ((q 1) 0), ((q 2) 0), ((q 3) 0), ((q 4) 0), ((q 5) 0)], W_State cI (q 0) (z5 0), W_State cI (q 1) (z5 1), W_State cI (q 2) (z5 2), W_State cI (q 3) (z5 3), W_State cI (q 4) (z5 4), W_State cI (q 5) (z5 5)]) := hD
        refine lv_iload_n hx hb dX4_forget_39 rfl (lv_at hl 0 rfl) ?_
        have hP : va_P (dC, dI) vwCl (W_Full cI cS a q (s_LS_now u4 (s_State_second (g_LS_now u4) u10)) z5) H := hP
        have hD : va_D A (W_Full cI cS a q (s_LS_now u4 (s_State_second (g_LS_now u4) u10)) z5) := hD
        cases hF
        refine vx_ret ?_
        refine W.widen (k := 1) (n := 6) (Nat.zero_le _) (Nat.zero_le _) ?_
        exact W.iret (v := (g_Tree_size (g_State_second (g_LS_now u4)))) hx hb hr (fun t ht hW => ⟨⟨(g_Tree_size (g_State_second (g_LS_now u4))), ((s_LS_now u4 (s_State_second (g_LS_now u4) u10)), z5), rfl, rfl, q, by rw [ht]; exact hP, va_K.moved hW.alike hK, hD⟩, hS.F ht⟩) hS.2.2 dX4_forget_40
    · have hF := F_pos c3 hF
      have hP : va_P (dC, dI) vwCl (W_Full cI cS a q S Z) H := hP
      have hD : va_D A (W_Full cI cS a q S Z) := hD
      cases hF
      obtain ⟨sa, hsa⟩ := hN.2.1 _ (List.mem_of_getElem? (i := 5) rfl)
      exact vx_throwS (names := ["java/lang/RuntimeException", "java/lang/Exception"]) (cls := "java/lang/IndexOutOfBoundsException") hx hb hl0 hown (by decide +kernel) (by decide +kernel) (hts (Cond.classLink RX4 49 "java/lang/IndexOutOfBoundsException") (List.mem_of_getElem? (i := 1) rfl)) (hts (Cond.initialized "java/lang/IndexOutOfBoundsException") (List.mem_of_getElem? (i := 2) rfl)) hsa (vx_hat (B := [Cond.castable "java/lang/IndexOutOfBoundsException" "java/lang/IndexOutOfBoundsException", Cond.declares ⟨"java/lang/RuntimeException", "<init>", "(Ljava/lang/String;)V"⟩, Cond.declares ⟨"java/lang/Exception", "<init>", "(Ljava/lang/String;)V"⟩, Cond.declares ⟨"java/lang/Throwable", "<init>", "(Ljava/lang/String;)V"⟩]) (fun w hw => hts w (List.mem_cons_of_mem _ (List.mem_append_right _ hw))) (by decide +kernel) (vx_c (va_Nw.use rfl (hN.1 _ (List.mem_of_getElem? (i := 11) rfl))) (vx_c (va_Nw.use rfl (hN.1 _ (List.mem_of_getElem? (i := 14) rfl))) (vx_c (va_Nw.use rfl (hN.1 _ (List.mem_of_getElem? (i := 15) rfl))) (vx_c (va_Nw.use rfl (hN.1 _ (List.mem_of_getElem? (i := 16) rfl))) vx_n))))) (by decide +kernel) hU hSN hS (hl.1.trans hml.symm) dX4_forget_7 dX4_forget_10 dX4_forget_11 dX4_forget_13 dX4_forget_16 (fun x hx => (hex x hx).elim) (Nat.le_of_ble_eq_true rfl) (Nat.le_of_ble_eq_true rfl) (Nat.le_of_ble_eq_true rfl) (Nat.le_of_ble_eq_true rfl) hlocks (fun t ha hz hk => ⟨(S, Z), trivial, ⟨rfl, q, jKeep hP hk, va_K.moved ha hK, hD⟩, jF hS hz hk⟩) hS.2.2 (Nat.le_of_ble_eq_true rfl) (Nat.le_of_ble_eq_true rfl)
  exact KE _ _ hP hD hS
set_option maxHeartbeats 4000000 in
set_option maxRecDepth 100000 in
theorem c_X4_swap (l : Launch) (dC : Nat → ClassId) (dI : Nat → Nat → Nat) (cI : ClassId) (cS : ClassId) (a : Nat → Nat) (q : Nat → Nat → Nat) (sz : Nat) (S : S_LS) (Z : (Nat → S_State))  (rr : Int32) (Y : S_LS) (YZ : (Nat → S_State)) (hF : F_X4_swap S Z  = some (rr, Y, YZ)) : Met l yX4_swap wsX4_swap ({ frames := 5, cells := 0, slots := 0, locals := 150 } : Room) (va_Pc [.ref (a 0)] (jPre (dC, dI) [(cI, .int), (cS, .object "LearnedShapes$State")] sz (W_Full cI cS a q S Z))) (va_Qi (fun (r' : Int32) (u : S_LS × (Nat → S_State)) => rr = r' ∧ (Y, YZ) = u) (fun (u : S_LS × (Nat → S_State)) (t : State) => ∃ q9 : Nat → Nat → Nat, jB (dC, dI) [(cI, .int), (cS, .object "LearnedShapes$State")] (va_A (W_Full cI cS a q S Z) sz) (W_Full cI cS a q9 u.1 u.2) t) (va_A (W_Full cI cS a q S Z) sz)) 0 0 (va_A (W_Full cI cS a q S Z) sz) := by
  refine Met.ofW (cc := cX4_swap) (maxL := 1) (ret := (some .int)) (by decide) rfl ?_
  intro p e s m args below meth c s₁ B hml hv
  obtain ⟨rfl, hsz, hP, hK, hD0, hN⟩ := hv
  have hx := B.exec
  have hb := B.bytes
  have hr := B.returns
  have hts := atoms_spec (ws := wsX4_swap) B.pre
  have hown : s.vm.findClass RX4 = some m.cls := findClass_of_methodNamed B.named
  have hlocks := B.notSynchronized
  have hKi : va_K (dC, dI) vwCl [(cI, .int)] s := hK.sub [0] rfl
  have hinX2 : ∀ w ∈ u_ws RX2 TX2 3, w ∈ wsX4_swap := by decide +kernel
  have hinX3 : ∀ w ∈ u_ws RX3 TX3 3, w ∈ wsX4_swap := by decide +kernel
  have hinX4 : ∀ w ∈ u_ws RX4 TX4 8, w ∈ wsX4_swap := by decide +kernel
  subst hsz
  have hD := hD0.self (sz := s.heap.size)
  generalize hAe : (va_A (W_Full cI cS a q S Z) s.heap.size) = A at hD ⊢
  have hA : ∀ q : Nat, s.heap.size ≤ q → A q := fun q h => by rw [← hAe]; exact Or.inr h
  have hS : va_S A s.heap s.heap [] := va_S.rf
  have hl := lv_entry ([.ref (a 0)]) (n := 1) (Nat.le_of_ble_eq_true rfl)
  rw [lg_entry_eq]
  generalize (lg_sl ([.ref (a 0)]) ++ List.replicate (1 - (lg_sl ([.ref (a 0)])).length) Slot.unset).toArray = ls at hl ⊢
  have hl : lv_has ls 1 [(0, .ref (a 0))] := hl
  have KE : ∀ (H : Heap) (locs : List Loc), va_P (dC, dI) vwCl (W_Full cI cS a q S Z) H → va_D A (W_Full cI cS a q S Z) → va_S A s.heap H locs → W p l e (headSpec wsX4_swap ({ frames := 5, cells := 0, slots := 0, locals := 150 } : Room)).room s m ([.ref (a 0)] : List Value).toArray below meth c H locs 0 0 (MQ below (va_Qi (fun (r' : Int32) (u : S_LS × (Nat → S_State)) => rr = r' ∧ (Y, YZ) = u) (fun (u : S_LS × (Nat → S_State)) (t : State) => ∃ q9 : Nat → Nat → Nat, jB (dC, dI) [(cI, .int), (cS, .object "LearnedShapes$State")] A (W_Full cI cS a q9 u.1 u.2) t) A) ([.ref (a 0)] : List Value).toArray s 0 0 A) (F0 m 0 ls []) := by
    intro H locs hP hD hS
    have hP : va_P (dC, dI) vwCl (List.flatten [W_LS cI a S, W_Sav cS (a 13) [((q 0) 0), ((q 1) 0), ((q 2) 0), ((q 3) 0), ((q 4) 0), ((q 5) 0)], W_State cI (q 0) (Z 0), W_State cI (q 1) (Z 1), W_State cI (q 2) (Z 2), W_State cI (q 3) (Z 3), W_State cI (q 4) (Z 4), W_State cI (q 5) (Z 5)]) H := hP
    have hD : va_D A (List.flatten [W_LS cI a S, W_Sav cS (a 13) [((q 0) 0), ((q 1) 0), ((q 2) 0), ((q 3) 0), ((q 4) 0), ((q 5) 0)], W_State cI (q 0) (Z 0), W_State cI (q 1) (Z 1), W_State cI (q 2) (Z 2), W_State cI (q 3) (Z 3), W_State cI (q 4) (Z 4), W_State cI (q 5) (Z 5)]) := hD
    unfold F_X4_swap at hF
    refine lv_aload_n hx hb dX4_swap_0 rfl (lv_at hl 0 rfl) ?_
    obtain ⟨u1, z2, h3, hF⟩ := ob2_some hF
    have hP : va_P (dC, dI) vwCl (W_Full cI cS a q S Z) H := hP
    have hD : va_D A (W_Full cI cS a q S Z) := hD
    have hPc := hP
    have hDc := hD
    have hFc := jFreeW (ws := (W_Full cI cS a q S Z)) hD hS hA
    refine va_callv (va_runV (As := []) (rest := []) ⟨hx, hb, hml, hown, hts⟩ (c_X4_saveState l dC dI cI cS a q H.size _ _ _ _ h3) (cwV 0 hts gX4_swap_X4_saveState rfl rfl rfl (by decide +kernel) ⟨Nat.le_of_ble_eq_true rfl, Nat.le_of_ble_eq_true rfl⟩) (jPreV hK hPc hDc hN (ci := 4) rfl rfl) rfl rfl hl.1 rfl (lv_room (Nat.le_of_ble_eq_true rfl)) dX4_swap_1 ⟨Nat.le_of_ble_eq_true rfl, Nat.le_of_ble_eq_true rfl⟩) hS (fun q _ h => hFc q h) hFc (fun u9 t H locs ht hvm hw hB hz1 hk1 hS => ?_)
    subst hw
    obtain ⟨q, hP1, -, hD1⟩ := hB
    rw [ht] at hP1
    have hP : va_P (dC, dI) vwCl (W_Full cI cS a q u1 z2) H := hP1
    have hD : va_D A (W_Full cI cS a q u1 z2) := hD1.weaken (fun _ _ _ h => hFc _ h)
    have hP : va_P (dC, dI) vwCl (List.flatten [W_LS cI a u1, W_Sav cS (a 13) [((q 0) 0), ((q 1) 0), ((q 2) 0), ((q 3) 0), ((q 4) 0), ((q 5) 0)], W_State cI (q 0) (z2 0), W_State cI (q 1) (z2 1), W_State cI (q 2) (z2 2), W_State cI (q 3) (z2 3), W_State cI (q 4) (z2 4), W_State cI (q 5) (z2 5)]) H := hP
    have hD : va_D A (List.flatten [W_LS cI a u1, W_Sav cS (a 13) [((q 0) 0), ((q 1) 0), ((q 2) 0), ((q 3) 0), ((q 4) 0), ((q 5) 0)], W_State cI (q 0) (z2 0), W_State cI (q 1) (z2 1), W_State cI (q 2) (z2 2), W_State cI (q 3) (z2 3), W_State cI (q 4) (z2 4), W_State cI (q 5) (z2 5)]) := hD
    refine lv_aload_n hx hb dX4_swap_4 rfl (lv_at hl 0 rfl) ?_
    refine va_get (D := (dC, dI)) (ci := 4) (v := .ref (a 10)) (C := RX4) (T := TX4) (N := 8) hx hb hts hinX4 hown hK hP 0 rfl rfl 6 (by decide) (hts (Cond.fieldLink RX4 34 "LearnedShapes" "work" "LLearnedShapes$Tree;") (List.mem_of_getElem? (i := 1) rfl)) (fun _ h9 => h9) rfl dX4_swap_5 ?_
    refine lv_aload_n hx hb dX4_swap_8 rfl (lv_at hl 0 rfl) ?_
    refine va_get (D := (dC, dI)) (ci := 4) (v := .ref (a 5)) (C := RX4) (T := TX4) (N := 8) hx hb hts hinX4 hown hK hP 0 rfl rfl 3 (by decide) (hts (Cond.fieldLink RX4 23 "LearnedShapes" "now" "LLearnedShapes$State;") (List.mem_of_getElem? (i := 2) rfl)) (fun _ h9 => h9) rfl dX4_swap_9 ?_
    refine va_get (D := (dC, dI)) (ci := 2) (v := .ref (a 6)) (C := RX2) (T := TX2) (N := 3) hx hb hts hinX2 hown hK hP 5 rfl rfl 0 (by decide) (hts (Cond.fieldLink RX4 104 "LearnedShapes$State" "first" "LLearnedShapes$Tree;") (List.mem_of_getElem? (i := 3) rfl)) (fun _ h9 => h9) rfl dX4_swap_12 ?_
    obtain ⟨u4, h5, hF⟩ := ob1_some hF
    have hPc := hP.sub (ws' := (W_Tree cI (sh a 10) (g_LS_work u1)) ++ (W_Tree cI (sh a 6) (g_State_first (g_LS_now u1)))) [10, 11, 6, 7] rfl
    have hDc := hD.sub (ws' := (W_Tree cI (sh a 10) (g_LS_work u1)) ++ (W_Tree cI (sh a 6) (g_State_first (g_LS_now u1)))) [10, 11, 6, 7] (by decide) rfl
    have hFc := va_free (wc := (W_Tree cI (sh a 10) (g_LS_work u1)) ++ (W_Tree cI (sh a 6) (g_State_first (g_LS_now u1)))) hD hS hA [10, 11, 6, 7] rfl
    refine va_callv (va_runV (As := [.ref (a 6)]) (rest := []) ⟨hx, hb, hml, hown, hts⟩ (c_X3_copyFrom l dC dI cI (sh a 10) (sh a 6) H.size _ _ _ h5) (cwV 1 hts gX4_swap_X3_copyFrom rfl rfl rfl (by decide +kernel) ⟨Nat.le_of_ble_eq_true rfl, Nat.le_of_ble_eq_true rfl⟩) (jPreV hKi hPc hDc hN (ci := 3) rfl rfl) rfl rfl hl.1 rfl (lv_room (Nat.le_of_ble_eq_true rfl)) dX4_swap_15 ⟨Nat.le_of_ble_eq_true rfl, Nat.le_of_ble_eq_true rfl⟩) hS (fun q _ h => hFc q h) hFc (fun u' t H locs ht hvm hw hB hz1 hk1 hS => ?_)
    subst hw
    obtain ⟨hP1, -, hD1⟩ := hB
    rw [ht] at hP1
    obtain ⟨hP, hD⟩ := jJoinF (wa := (W_LS cI a u1)) (wb := List.flatten [W_Sav cS (a 13) [((q 0) 0), ((q 1) 0), ((q 2) 0), ((q 3) 0), ((q 4) 0), ((q 5) 0)], W_State cI (q 0) (z2 0), W_State cI (q 1) (z2 1), W_State cI (q 2) (z2 2), W_State cI (q 3) (z2 3), W_State cI (q 4) (z2 4), W_State cI (q 5) (z2 5)]) (wc := (W_Tree cI (sh a 10) (g_LS_work u1)) ++ (W_Tree cI (sh a 6) (g_State_first (g_LS_now u1)))) (w1 := (W_Tree cI (sh a 10) u4) ++ (W_Tree cI (sh a 6) (g_State_first (g_LS_now u1)))) (ws' := (W_LS cI a (s_LS_work u1 u4))) hP hD [10, 11, 6, 7] [0, 1, 2, 3, 4, 5, 8, 9, 12] [0, 1, 2, 3, 4, 5, 11, 12, 6, 7, 9, 10, 8] rfl rfl (by decide) (by decide) hk1 hFc hP1 hD1 (by decide) rfl
    have hP : va_P (dC, dI) vwCl (List.flatten [W_LS cI a (s_LS_work u1 u4), W_Sav cS (a 13) [((q 0) 0), ((q 1) 0), ((q 2) 0), ((q 3) 0), ((q 4) 0), ((q 5) 0)], W_State cI (q 0) (z2 0), W_State cI (q 1) (z2 1), W_State cI (q 2) (z2 2), W_State cI (q 3) (z2 3), W_State cI (q 4) (z2 4), W_State cI (q 5) (z2 5)]) H := hP
    have hD : va_D A (List.flatten [W_LS cI a (s_LS_work u1 u4), W_Sav cS (a 13) [((q 0) 0), ((q 1) 0), ((q 2) 0), ((q 3) 0), ((q 4) 0), ((q 5) 0)], W_State cI (q 0) (z2 0), W_State cI (q 1) (z2 1), W_State cI (q 2) (z2 2), W_State cI (q 3) (z2 3), W_State cI (q 4) (z2 4), W_State cI (q 5) (z2 5)]) := hD
    refine lv_aload_n hx hb dX4_swap_18 rfl (lv_at hl 0 rfl) ?_
    refine va_get (D := (dC, dI)) (ci := 4) (v := .ref (a 5)) (C := RX4) (T := TX4) (N := 8) hx hb hts hinX4 hown hK hP 0 rfl rfl 3 (by decide) (hts (Cond.fieldLink RX4 23 "LearnedShapes" "now" "LLearnedShapes$State;") (List.mem_of_getElem? (i := 2) rfl)) (fun _ h9 => h9) rfl dX4_swap_19 ?_
    refine va_get (D := (dC, dI)) (ci := 2) (v := .ref (a 6)) (C := RX2) (T := TX2) (N := 3) hx hb hts hinX2 hown hK hP 5 rfl rfl 0 (by decide) (hts (Cond.fieldLink RX4 104 "LearnedShapes$State" "first" "LLearnedShapes$Tree;") (List.mem_of_getElem? (i := 3) rfl)) (fun _ h9 => h9) rfl dX4_swap_22 ?_
    refine lv_aload_n hx hb dX4_swap_25 rfl (lv_at hl 0 rfl) ?_
    refine va_get (D := (dC, dI)) (ci := 4) (v := .ref (a 5)) (C := RX4) (T := TX4) (N := 8) hx hb hts hinX4 hown hK hP 0 rfl rfl 3 (by decide) (hts (Cond.fieldLink RX4 23 "LearnedShapes" "now" "LLearnedShapes$State;") (List.mem_of_getElem? (i := 2) rfl)) (fun _ h9 => h9) rfl dX4_swap_26 ?_
    refine va_get (D := (dC, dI)) (ci := 2) (v := .ref (a 8)) (C := RX2) (T := TX2) (N := 3) hx hb hts hinX2 hown hK hP 5 rfl rfl 1 (by decide) (hts (Cond.fieldLink RX4 110 "LearnedShapes$State" "second" "LLearnedShapes$Tree;") (List.mem_of_getElem? (i := 4) rfl)) (fun _ h9 => h9) rfl dX4_swap_29 ?_
    obtain ⟨u6, h7, hF⟩ := ob1_some hF
    have hPc := hP.sub (ws' := (W_Tree cI (sh a 6) (g_State_first (g_LS_now u1))) ++ (W_Tree cI (sh a 8) (g_State_second (g_LS_now u1)))) [6, 7, 8, 9] rfl
    have hDc := hD.sub (ws' := (W_Tree cI (sh a 6) (g_State_first (g_LS_now u1))) ++ (W_Tree cI (sh a 8) (g_State_second (g_LS_now u1)))) [6, 7, 8, 9] (by decide) rfl
    have hFc := va_free (wc := (W_Tree cI (sh a 6) (g_State_first (g_LS_now u1))) ++ (W_Tree cI (sh a 8) (g_State_second (g_LS_now u1)))) hD hS hA [6, 7, 8, 9] rfl
    refine va_callv (va_runV (As := [.ref (a 8)]) (rest := []) ⟨hx, hb, hml, hown, hts⟩ (c_X3_copyFrom l dC dI cI (sh a 6) (sh a 8) H.size _ _ _ h7) (cwV 1 hts gX4_swap_X3_copyFrom rfl rfl rfl (by decide +kernel) ⟨Nat.le_of_ble_eq_true rfl, Nat.le_of_ble_eq_true rfl⟩) (jPreV hKi hPc hDc hN (ci := 3) rfl rfl) rfl rfl hl.1 rfl (lv_room (Nat.le_of_ble_eq_true rfl)) dX4_swap_32 ⟨Nat.le_of_ble_eq_true rfl, Nat.le_of_ble_eq_true rfl⟩) hS (fun q _ h => hFc q h) hFc (fun u' t H locs ht hvm hw hB hz1 hk1 hS => ?_)
    subst hw
    obtain ⟨hP1, -, hD1⟩ := hB
    rw [ht] at hP1
    obtain ⟨hP, hD⟩ := jJoinF (wa := (W_LS cI a (s_LS_work u1 u4))) (wb := List.flatten [W_Sav cS (a 13) [((q 0) 0), ((q 1) 0), ((q 2) 0), ((q 3) 0), ((q 4) 0), ((q 5) 0)], W_State cI (q 0) (z2 0), W_State cI (q 1) (z2 1), W_State cI (q 2) (z2 2), W_State cI (q 3) (z2 3), W_State cI (q 4) (z2 4), W_State cI (q 5) (z2 5)]) (wc := (W_Tree cI (sh a 6) (g_State_first (g_LS_now u1))) ++ (W_Tree cI (sh a 8) (g_State_second (g_LS_now u1)))) (w1 := (W_Tree cI (sh a 6) u6) ++ (W_Tree cI (sh a 8) (g_State_second (g_LS_now u1)))) (ws' := (W_LS cI a (s_LS_work (s_LS_now u1 (s_State_first (g_LS_now u1) u6)) u4))) hP hD [6, 7, 8, 9] [0, 1, 2, 3, 4, 5, 10, 11, 12] [0, 1, 2, 3, 4, 5, 9, 10, 11, 12, 6, 7, 8] rfl rfl (by decide) (by decide) hk1 hFc hP1 hD1 (by decide) rfl
    have hP : va_P (dC, dI) vwCl (List.flatten [W_LS cI a (s_LS_work (s_LS_now u1 (s_State_first (g_LS_now u1) u6)) u4), W_Sav cS (a 13) [((q 0) 0), ((q 1) 0), ((q 2) 0), ((q 3) 0), ((q 4) 0), ((q 5) 0)], W_State cI (q 0) (z2 0), W_State cI (q 1) (z2 1), W_State cI (q 2) (z2 2), W_State cI (q 3) (z2 3), W_State cI (q 4) (z2 4), W_State cI (q 5) (z2 5)]) H := hP
    have hD : va_D A (List.flatten [W_LS cI a (s_LS_work (s_LS_now u1 (s_State_first (g_LS_now u1) u6)) u4), W_Sav cS (a 13) [((q 0) 0), ((q 1) 0), ((q 2) 0), ((q 3) 0), ((q 4) 0), ((q 5) 0)], W_State cI (q 0) (z2 0), W_State cI (q 1) (z2 1), W_State cI (q 2) (z2 2), W_State cI (q 3) (z2 3), W_State cI (q 4) (z2 4), W_State cI (q 5) (z2 5)]) := hD
    refine lv_aload_n hx hb dX4_swap_35 rfl (lv_at hl 0 rfl) ?_
    refine va_get (D := (dC, dI)) (ci := 4) (v := .ref (a 5)) (C := RX4) (T := TX4) (N := 8) hx hb hts hinX4 hown hK hP 0 rfl rfl 3 (by decide) (hts (Cond.fieldLink RX4 23 "LearnedShapes" "now" "LLearnedShapes$State;") (List.mem_of_getElem? (i := 2) rfl)) (fun _ h9 => h9) rfl dX4_swap_36 ?_
    refine va_get (D := (dC, dI)) (ci := 2) (v := .ref (a 8)) (C := RX2) (T := TX2) (N := 3) hx hb hts hinX2 hown hK hP 5 rfl rfl 1 (by decide) (hts (Cond.fieldLink RX4 110 "LearnedShapes$State" "second" "LLearnedShapes$Tree;") (List.mem_of_getElem? (i := 4) rfl)) (fun _ h9 => h9) rfl dX4_swap_39 ?_
    refine lv_aload_n hx hb dX4_swap_42 rfl (lv_at hl 0 rfl) ?_
    refine va_get (D := (dC, dI)) (ci := 4) (v := .ref (a 10)) (C := RX4) (T := TX4) (N := 8) hx hb hts hinX4 hown hK hP 0 rfl rfl 6 (by decide) (hts (Cond.fieldLink RX4 34 "LearnedShapes" "work" "LLearnedShapes$Tree;") (List.mem_of_getElem? (i := 1) rfl)) (fun _ h9 => h9) rfl dX4_swap_43 ?_
    obtain ⟨u8, h9, hF⟩ := ob1_some hF
    have hPc := hP.sub (ws' := (W_Tree cI (sh a 8) (g_State_second (g_LS_now u1))) ++ (W_Tree cI (sh a 10) u4)) [8, 9, 10, 11] rfl
    have hDc := hD.sub (ws' := (W_Tree cI (sh a 8) (g_State_second (g_LS_now u1))) ++ (W_Tree cI (sh a 10) u4)) [8, 9, 10, 11] (by decide) rfl
    have hFc := va_free (wc := (W_Tree cI (sh a 8) (g_State_second (g_LS_now u1))) ++ (W_Tree cI (sh a 10) u4)) hD hS hA [8, 9, 10, 11] rfl
    refine va_callv (va_runV (As := [.ref (a 10)]) (rest := []) ⟨hx, hb, hml, hown, hts⟩ (c_X3_copyFrom l dC dI cI (sh a 8) (sh a 10) H.size _ _ _ h9) (cwV 1 hts gX4_swap_X3_copyFrom rfl rfl rfl (by decide +kernel) ⟨Nat.le_of_ble_eq_true rfl, Nat.le_of_ble_eq_true rfl⟩) (jPreV hKi hPc hDc hN (ci := 3) rfl rfl) rfl rfl hl.1 rfl (lv_room (Nat.le_of_ble_eq_true rfl)) dX4_swap_46 ⟨Nat.le_of_ble_eq_true rfl, Nat.le_of_ble_eq_true rfl⟩) hS (fun q _ h => hFc q h) hFc (fun u' t H locs ht hvm hw hB hz1 hk1 hS => ?_)
    subst hw
    obtain ⟨hP1, -, hD1⟩ := hB
    rw [ht] at hP1
    obtain ⟨hP, hD⟩ := jJoinF (wa := (W_LS cI a (s_LS_work (s_LS_now u1 (s_State_first (g_LS_now u1) u6)) u4))) (wb := List.flatten [W_Sav cS (a 13) [((q 0) 0), ((q 1) 0), ((q 2) 0), ((q 3) 0), ((q 4) 0), ((q 5) 0)], W_State cI (q 0) (z2 0), W_State cI (q 1) (z2 1), W_State cI (q 2) (z2 2), W_State cI (q 3) (z2 3), W_State cI (q 4) (z2 4), W_State cI (q 5) (z2 5)]) (wc := (W_Tree cI (sh a 8) (g_State_second (g_LS_now u1))) ++ (W_Tree cI (sh a 10) u4)) (w1 := (W_Tree cI (sh a 8) u8) ++ (W_Tree cI (sh a 10) u4)) (ws' := (W_LS cI a (s_LS_work (s_LS_now u1 (s_State_second (s_State_first (g_LS_now u1) u6) u8)) u4))) hP hD [8, 9, 10, 11] [0, 1, 2, 3, 4, 5, 6, 7, 12] [0, 1, 2, 3, 4, 5, 6, 7, 9, 10, 11, 12, 8] rfl rfl (by decide) (by decide) hk1 hFc hP1 hD1 (by decide) rfl
    have hP : va_P (dC, dI) vwCl (List.flatten [W_LS cI a (s_LS_work (s_LS_now u1 (s_State_second (s_State_first (g_LS_now u1) u6) u8)) u4), W_Sav cS (a 13) [((q 0) 0), ((q 1) 0), ((q 2) 0), ((q 3) 0), ((q 4) 0), ((q 5) 0)], W_State cI (q 0) (z2 0), W_State cI (q 1) (z2 1), W_State cI (q 2) (z2 2), W_State cI (q 3) (z2 3), W_State cI (q 4) (z2 4), W_State cI (q 5) (z2 5)]) H := hP
    have hD : va_D A (List.flatten [W_LS cI a (s_LS_work (s_LS_now u1 (s_State_second (s_State_first (g_LS_now u1) u6) u8)) u4), W_Sav cS (a 13) [((q 0) 0), ((q 1) 0), ((q 2) 0), ((q 3) 0), ((q 4) 0), ((q 5) 0)], W_State cI (q 0) (z2 0), W_State cI (q 1) (z2 1), W_State cI (q 2) (z2 2), W_State cI (q 3) (z2 3), W_State cI (q 4) (z2 4), W_State cI (q 5) (z2 5)]) := hD
    refine lv_aload_n hx hb dX4_swap_49 rfl (lv_at hl 0 rfl) ?_
    refine va_get (D := (dC, dI)) (ci := 4) (v := .ref (a 5)) (C := RX4) (T := TX4) (N := 8) hx hb hts hinX4 hown hK hP 0 rfl rfl 3 (by decide) (hts (Cond.fieldLink RX4 23 "LearnedShapes" "now" "LLearnedShapes$State;") (List.mem_of_getElem? (i := 2) rfl)) (fun _ h9 => h9) rfl dX4_swap_50 ?_
    refine va_get (D := (dC, dI)) (ci := 2) (v := .ref (a 6)) (C := RX2) (T := TX2) (N := 3) hx hb hts hinX2 hown hK hP 5 rfl rfl 0 (by decide) (hts (Cond.fieldLink RX4 104 "LearnedShapes$State" "first" "LLearnedShapes$Tree;") (List.mem_of_getElem? (i := 3) rfl)) (fun _ h9 => h9) rfl dX4_swap_53 ?_
    refine va_get (D := (dC, dI)) (ci := 3) (v := .int (g_Tree_size u6)) (C := RX3) (T := TX3) (N := 3) hx hb hts hinX3 hown hK hP 6 rfl rfl 1 (by decide) (hts (Cond.fieldLink RX4 92 "LearnedShapes$Tree" "size" "I") (List.mem_of_getElem? (i := 5) rfl)) (fun _ h9 => h9) rfl dX4_swap_56 ?_
    have hP : va_P (dC, dI) vwCl (W_Full cI cS a q (s_LS_work (s_LS_now u1 (s_State_second (s_State_first (g_LS_now u1) u6) u8)) u4) z2) H := hP
    have hD : va_D A (W_Full cI cS a q (s_LS_work (s_LS_now u1 (s_State_second (s_State_first (g_LS_now u1) u6) u8)) u4) z2) := hD
    have e50 := Option.some.inj hF
    obtain ⟨e60, e51⟩ := Prod.mk.inj e50
    obtain ⟨e61, e52⟩ := Prod.mk.inj e51
    subst e60
    subst e61
    subst e52
    exact W.iret (v := (g_Tree_size u6)) hx hb hr (fun t ht hW => ⟨⟨(g_Tree_size u6), ((s_LS_work (s_LS_now u1 (s_State_second (s_State_first (g_LS_now u1) u6) u8)) u4), z2), rfl, ⟨rfl, rfl⟩, q, by rw [ht]; exact hP, va_K.moved hW.alike hK, hD⟩, hS.F ht⟩) hS.2.2 dX4_swap_59
  exact KE _ _ hP hD hS
set_option maxHeartbeats 4000000 in
set_option maxRecDepth 100000 in
theorem c_X4_set (l : Launch) (dC : Nat → ClassId) (dI : Nat → Nat → Nat) (cI : ClassId) (hl0 : l.stackTraces = false) (cS : ClassId) (a : Nat → Nat) (q : Nat → Nat → Nat) (sz : Nat) (S : S_LS) (Z : (Nat → S_State)) (v1 : Int32) (res : Sum (String × (S_LS × (Nat → S_State))) (Int32 × S_LS × (Nat → S_State))) (hF : F_X4_set S Z v1 = some res) : vx_Met l yX4_set wsX4_set ({ frames := 6, cells := 1, slots := 6, locals := 150 } : Room) (va_Pc [.ref (a 0), .int v1] (jPreX (dC, dI) [(cI, .int), (cS, .object "LearnedShapes$State")] sz (W_Full cI cS a q S Z))) (va_Qi (fun (r' : Int32) (u : S_LS × (Nat → S_State)) => res = .inr (r', u)) (fun (u : S_LS × (Nat → S_State)) (t : State) => ∃ q9 : Nat → Nat → Nat, jB (dC, dI) [(cI, .int), (cS, .object "LearnedShapes$State")] (va_A (W_Full cI cS a q S Z) sz) (W_Full cI cS a q9 u.1 u.2) t) (va_A (W_Full cI cS a q S Z) sz)) (vx_X (fun _ : S_LS × (Nat → S_State) => True) (fun (E : String) (u : S_LS × (Nat → S_State)) (t : State) => res = .inl (E, u) ∧ (fun (u : S_LS × (Nat → S_State)) (t : State) => ∃ q9 : Nat → Nat → Nat, jB (dC, dI) [(cI, .int), (cS, .object "LearnedShapes$State")] (va_A (W_Full cI cS a q S Z) sz) (W_Full cI cS a q9 u.1 u.2) t) u t) (va_A (W_Full cI cS a q S Z) sz)) 1 6 (va_A (W_Full cI cS a q S Z) sz) := by
  refine vx_ofW (cc := cX4_set) (maxL := 3) (ret := (some .int)) (by decide) rfl ?_
  intro p e s m args below meth c s₁ B hml hex hv
  obtain ⟨rfl, ⟨hsz, hP, hK, hD0, hN⟩, hU, hSN⟩ := hv
  have hx := B.exec
  have hb := B.bytes
  have hr := B.returns
  have hts := atoms_spec (ws := wsX4_set) B.pre
  have hown : s.vm.findClass RX4 = some m.cls := findClass_of_methodNamed B.named
  have hlocks := B.notSynchronized
  have hKi : va_K (dC, dI) vwCl [(cI, .int)] s := hK.sub [0] rfl
  have hinX2 : ∀ w ∈ u_ws RX2 TX2 3, w ∈ wsX4_set := by decide +kernel
  have hinX4 : ∀ w ∈ u_ws RX4 TX4 8, w ∈ wsX4_set := by decide +kernel
  subst hsz
  have hD := hD0.self (sz := s.heap.size)
  generalize hAe : (va_A (W_Full cI cS a q S Z) s.heap.size) = A at hD hU hSN ⊢
  have hA : ∀ q : Nat, s.heap.size ≤ q → A q := fun q h => by rw [← hAe]; exact Or.inr h
  have hS : va_S A s.heap s.heap [] := va_S.rf
  have hl := lv_entry ([.ref (a 0), .int v1]) (n := 3) (Nat.le_of_ble_eq_true rfl)
  rw [lg_entry_eq]
  generalize (lg_sl ([.ref (a 0), .int v1]) ++ List.replicate (3 - (lg_sl ([.ref (a 0), .int v1])).length) Slot.unset).toArray = ls at hl ⊢
  have hl : lv_has ls 3 [(0, .ref (a 0)), (1, .int v1)] := hl
  have KE : ∀ (H : Heap) (locs : List Loc), va_P (dC, dI) vwCl (W_Full cI cS a q S Z) H → va_D A (W_Full cI cS a q S Z) → va_S A s.heap H locs → W p l e (headSpec wsX4_set ({ frames := 6, cells := 1, slots := 6, locals := 150 } : Room)).room s m ([.ref (a 0), .int v1] : List Value).toArray below meth c H locs 0 0 (vx_MQ below (va_Qi (fun (r' : Int32) (u : S_LS × (Nat → S_State)) => res = .inr (r', u)) (fun (u : S_LS × (Nat → S_State)) (t : State) => ∃ q9 : Nat → Nat → Nat, jB (dC, dI) [(cI, .int), (cS, .object "LearnedShapes$State")] A (W_Full cI cS a q9 u.1 u.2) t) A) (vx_X (fun _ : S_LS × (Nat → S_State) => True) (fun (E : String) (u : S_LS × (Nat → S_State)) (t : State) => res = .inl (E, u) ∧ (fun (u : S_LS × (Nat → S_State)) (t : State) => ∃ q9 : Nat → Nat → Nat, jB (dC, dI) [(cI, .int), (cS, .object "LearnedShapes$State")] A (W_Full cI cS a q9 u.1 u.2) t) u t) A) ([.ref (a 0), .int v1] : List Value).toArray s 1 6 A) (F0 m 0 ls []) := by
    intro H locs hP hD hS
    have hP : va_P (dC, dI) vwCl (List.flatten [W_LS cI a S, W_Sav cS (a 13) [((q 0) 0), ((q 1) 0), ((q 2) 0), ((q 3) 0), ((q 4) 0), ((q 5) 0)], W_State cI (q 0) (Z 0), W_State cI (q 1) (Z 1), W_State cI (q 2) (Z 2), W_State cI (q 3) (Z 3), W_State cI (q 4) (Z 4), W_State cI (q 5) (Z 5)]) H := hP
    have hD : va_D A (List.flatten [W_LS cI a S, W_Sav cS (a 13) [((q 0) 0), ((q 1) 0), ((q 2) 0), ((q 3) 0), ((q 4) 0), ((q 5) 0)], W_State cI (q 0) (Z 0), W_State cI (q 1) (Z 1), W_State cI (q 2) (Z 2), W_State cI (q 3) (Z 3), W_State cI (q 4) (Z 4), W_State cI (q 5) (Z 5)]) := hD
    unfold F_X4_set at hF
    refine lv_iload_n hx hb dX4_set_0 rfl (lv_at hl 1 rfl) ?_
    refine lv_if_lt (tgt := 9) hx hb dX4_set_1 (by decide) (fun c1 => ?_) (fun c1 => ?_)
    · have hF := F_pos c1 hF
      have hP : va_P (dC, dI) vwCl (W_Full cI cS a q S Z) H := hP
      have hD : va_D A (W_Full cI cS a q S Z) := hD
      cases hF
      obtain ⟨sa, hsa⟩ := hN.2.1 _ (List.mem_of_getElem? (i := 12) rfl)
      exact vx_throwS (names := ["java/lang/RuntimeException", "java/lang/Exception"]) (cls := "java/lang/IllegalArgumentException") hx hb hl0 hown (by decide +kernel) (by decide +kernel) (hts (Cond.classLink RX4 64 "java/lang/IllegalArgumentException") (List.mem_of_getElem? (i := 1) rfl)) (hts (Cond.initialized "java/lang/IllegalArgumentException") (List.mem_of_getElem? (i := 2) rfl)) hsa (vx_hat (B := [Cond.castable "java/lang/IllegalArgumentException" "java/lang/IllegalArgumentException", Cond.declares ⟨"java/lang/RuntimeException", "<init>", "(Ljava/lang/String;)V"⟩, Cond.declares ⟨"java/lang/Exception", "<init>", "(Ljava/lang/String;)V"⟩, Cond.declares ⟨"java/lang/Throwable", "<init>", "(Ljava/lang/String;)V"⟩]) (fun w hw => hts w (List.mem_cons_of_mem _ (List.mem_append_right _ hw))) (by decide +kernel) (vx_c (va_Nw.use rfl (hN.1 _ (List.mem_of_getElem? (i := 12) rfl))) (vx_c (va_Nw.use rfl (hN.1 _ (List.mem_of_getElem? (i := 14) rfl))) (vx_c (va_Nw.use rfl (hN.1 _ (List.mem_of_getElem? (i := 15) rfl))) (vx_c (va_Nw.use rfl (hN.1 _ (List.mem_of_getElem? (i := 16) rfl))) vx_n))))) (by decide +kernel) hU hSN hS (hl.1.trans hml.symm) dX4_set_9 dX4_set_12 dX4_set_13 dX4_set_15 dX4_set_18 (fun x hx => (hex x hx).elim) (Nat.le_of_ble_eq_true rfl) (Nat.le_of_ble_eq_true rfl) (Nat.le_of_ble_eq_true rfl) (Nat.le_of_ble_eq_true rfl) hlocks (fun t ha hz hk => ⟨(S, Z), trivial, ⟨rfl, q, jKeep hP hk, va_K.moved ha hK, hD⟩, jF hS hz hk⟩) hS.2.2 (Nat.le_of_ble_eq_true rfl) (Nat.le_of_ble_eq_true rfl)
    · have hF := F_neg c1 hF
      refine lv_iload_n hx hb dX4_set_4 rfl (lv_at hl 1 rfl) ?_
      refine lv_iconst (v := (1 : Int32)) hx hb dX4_set_5 (by decide) ?_
      refine lv_icmp_le (tgt := 19) hx hb dX4_set_6 (by decide) (fun c2 => ?_) (fun c2 => ?_)
      · have hF := F_pos c2 hF
        refine lv_aload_n hx hb dX4_set_19 rfl (lv_at hl 0 rfl) ?_
        obtain ⟨u3, z4, h5, hF⟩ := ob2_some hF
        have hP : va_P (dC, dI) vwCl (W_Full cI cS a q S Z) H := hP
        have hD : va_D A (W_Full cI cS a q S Z) := hD
        have hPc := hP
        have hDc := hD
        have hFc := jFreeW (ws := (W_Full cI cS a q S Z)) hD hS hA
        refine va_callv (va_runV (As := []) (rest := []) ⟨hx, hb, hml, hown, hts⟩ (c_X4_saveState l dC dI cI cS a q H.size _ _ _ _ h5) (cwV 0 hts gX4_set_X4_saveState rfl rfl rfl (by decide +kernel) ⟨Nat.le_of_ble_eq_true rfl, Nat.le_of_ble_eq_true rfl⟩) (jPreV hK hPc hDc hN (ci := 4) rfl rfl) rfl rfl hl.1 rfl (lv_room (Nat.le_of_ble_eq_true rfl)) dX4_set_20 ⟨Nat.le_of_ble_eq_true rfl, Nat.le_of_ble_eq_true rfl⟩) hS (fun q _ h => hFc q h) hFc (fun u9 t H locs ht hvm hw hB hz1 hk1 hS => ?_)
        subst hw
        obtain ⟨q, hP1, -, hD1⟩ := hB
        rw [ht] at hP1
        have hP : va_P (dC, dI) vwCl (W_Full cI cS a q u3 z4) H := hP1
        have hD : va_D A (W_Full cI cS a q u3 z4) := hD1.weaken (fun _ _ _ h => hFc _ h)
        have hP : va_P (dC, dI) vwCl (List.flatten [W_LS cI a u3, W_Sav cS (a 13) [((q 0) 0), ((q 1) 0), ((q 2) 0), ((q 3) 0), ((q 4) 0), ((q 5) 0)], W_State cI (q 0) (z4 0), W_State cI (q 1) (z4 1), W_State cI (q 2) (z4 2), W_State cI (q 3) (z4 3), W_State cI (q 4) (z4 4), W_State cI (q 5) (z4 5)]) H := hP
        have hD : va_D A (List.flatten [W_LS cI a u3, W_Sav cS (a 13) [((q 0) 0), ((q 1) 0), ((q 2) 0), ((q 3) 0), ((q 4) 0), ((q 5) 0)], W_State cI (q 0) (z4 0), W_State cI (q 1) (z4 1), W_State cI (q 2) (z4 2), W_State cI (q 3) (z4 3), W_State cI (q 4) (z4 4), W_State cI (q 5) (z4 5)]) := hD
        refine lv_aload_n hx hb dX4_set_23 rfl (lv_at hl 0 rfl) ?_
        refine va_get (D := (dC, dI)) (ci := 4) (v := .ref (a 5)) (C := RX4) (T := TX4) (N := 8) hx hb hts hinX4 hown hK hP 0 rfl rfl 3 (by decide) (hts (Cond.fieldLink RX4 23 "LearnedShapes" "now" "LLearnedShapes$State;") (List.mem_of_getElem? (i := 3) rfl)) (fun _ h9 => h9) rfl dX4_set_24 ?_
        refine va_get (D := (dC, dI)) (ci := 2) (v := .int (g_State_setting (g_LS_now u3))) (C := RX2) (T := TX2) (N := 3) hx hb hts hinX2 hown hK hP 5 rfl rfl 2 (by decide) (hts (Cond.fieldLink RX4 115 "LearnedShapes$State" "setting" "I") (List.mem_of_getElem? (i := 4) rfl)) (fun _ h9 => h9) rfl dX4_set_27 ?_
        refine lv_istore_n (lv' := [(2, .int (g_State_setting (g_LS_now u3))), (0, .ref (a 0)), (1, .int v1)]) hx hb dX4_set_30 rfl hl (by decide) rfl (fun ls hl => ?_)
        refine lv_aload_n hx hb dX4_set_31 rfl (lv_at hl 1 rfl) ?_
        refine va_get (D := (dC, dI)) (ci := 4) (v := .ref (a 5)) (C := RX4) (T := TX4) (N := 8) hx hb hts hinX4 hown hK hP 0 rfl rfl 3 (by decide) (hts (Cond.fieldLink RX4 23 "LearnedShapes" "now" "LLearnedShapes$State;") (List.mem_of_getElem? (i := 3) rfl)) (fun _ h9 => h9) rfl dX4_set_32 ?_
        refine lv_iload_n hx hb dX4_set_35 rfl (lv_at hl 2 rfl) ?_
        refine va_put (D := (dC, dI)) (ci := 2) (v := .int v1) (ty := .int) (C := RX2) (T := TX2) (N := 3) hx hb hts hinX2 tyX2 tyX2_ok nmX2 hown hK hP hD hS 5 rfl rfl 2 (by decide) (hts (Cond.fieldLink RX4 115 "LearnedShapes$State" "setting" "I") (List.mem_of_getElem? (i := 4) rfl)) (fun _ h9 => h9) rfl (by decide +kernel) (rfl) rfl (Nat.le_of_ble_eq_true rfl) dX4_set_36 (fun H locs hP hD hS => ?_)
        have hP : va_P (dC, dI) vwCl (List.flatten [W_LS cI a (s_LS_now u3 (s_State_setting (g_LS_now u3) v1)), W_Sav cS (a 13) [((q 0) 0), ((q 1) 0), ((q 2) 0), ((q 3) 0), ((q 4) 0), ((q 5) 0)], W_State cI (q 0) (z4 0), W_State cI (q 1) (z4 1), W_State cI (q 2) (z4 2), W_State cI (q 3) (z4 3), W_State cI (q 4) (z4 4), W_State cI (q 5) (z4 5)]) H := hP
        have hD : va_D A (List.flatten [W_LS cI a (s_LS_now u3 (s_State_setting (g_LS_now u3) v1)), W_Sav cS (a 13) [((q 0) 0), ((q 1) 0), ((q 2) 0), ((q 3) 0), ((q 4) 0), ((q 5) 0)], W_State cI (q 0) (z4 0), W_State cI (q 1) (z4 1), W_State cI (q 2) (z4 2), W_State cI (q 3) (z4 3), W_State cI (q 4) (z4 4), W_State cI (q 5) (z4 5)]) := hD
        refine lv_iload_n hx hb dX4_set_39 rfl (lv_at hl 0 rfl) ?_
        have hP : va_P (dC, dI) vwCl (W_Full cI cS a q (s_LS_now u3 (s_State_setting (g_LS_now u3) v1)) z4) H := hP
        have hD : va_D A (W_Full cI cS a q (s_LS_now u3 (s_State_setting (g_LS_now u3) v1)) z4) := hD
        cases hF
        refine vx_ret ?_
        refine W.widen (k := 1) (n := 6) (Nat.zero_le _) (Nat.zero_le _) ?_
        exact W.iret (v := (g_State_setting (g_LS_now u3))) hx hb hr (fun t ht hW => ⟨⟨(g_State_setting (g_LS_now u3)), ((s_LS_now u3 (s_State_setting (g_LS_now u3) v1)), z4), rfl, rfl, q, by rw [ht]; exact hP, va_K.moved hW.alike hK, hD⟩, hS.F ht⟩) hS.2.2 dX4_set_40
      · have hF := F_neg c2 hF
        have hP : va_P (dC, dI) vwCl (W_Full cI cS a q S Z) H := hP
        have hD : va_D A (W_Full cI cS a q S Z) := hD
        cases hF
        obtain ⟨sa, hsa⟩ := hN.2.1 _ (List.mem_of_getElem? (i := 12) rfl)
        exact vx_throwS (names := ["java/lang/RuntimeException", "java/lang/Exception"]) (cls := "java/lang/IllegalArgumentException") hx hb hl0 hown (by decide +kernel) (by decide +kernel) (hts (Cond.classLink RX4 64 "java/lang/IllegalArgumentException") (List.mem_of_getElem? (i := 1) rfl)) (hts (Cond.initialized "java/lang/IllegalArgumentException") (List.mem_of_getElem? (i := 2) rfl)) hsa (vx_hat (B := [Cond.castable "java/lang/IllegalArgumentException" "java/lang/IllegalArgumentException", Cond.declares ⟨"java/lang/RuntimeException", "<init>", "(Ljava/lang/String;)V"⟩, Cond.declares ⟨"java/lang/Exception", "<init>", "(Ljava/lang/String;)V"⟩, Cond.declares ⟨"java/lang/Throwable", "<init>", "(Ljava/lang/String;)V"⟩]) (fun w hw => hts w (List.mem_cons_of_mem _ (List.mem_append_right _ hw))) (by decide +kernel) (vx_c (va_Nw.use rfl (hN.1 _ (List.mem_of_getElem? (i := 12) rfl))) (vx_c (va_Nw.use rfl (hN.1 _ (List.mem_of_getElem? (i := 14) rfl))) (vx_c (va_Nw.use rfl (hN.1 _ (List.mem_of_getElem? (i := 15) rfl))) (vx_c (va_Nw.use rfl (hN.1 _ (List.mem_of_getElem? (i := 16) rfl))) vx_n))))) (by decide +kernel) hU hSN hS (hl.1.trans hml.symm) dX4_set_9 dX4_set_12 dX4_set_13 dX4_set_15 dX4_set_18 (fun x hx => (hex x hx).elim) (Nat.le_of_ble_eq_true rfl) (Nat.le_of_ble_eq_true rfl) (Nat.le_of_ble_eq_true rfl) (Nat.le_of_ble_eq_true rfl) hlocks (fun t ha hz hk => ⟨(S, Z), trivial, ⟨rfl, q, jKeep hP hk, va_K.moved ha hK, hD⟩, jF hS hz hk⟩) hS.2.2 (Nat.le_of_ble_eq_true rfl) (Nat.le_of_ble_eq_true rfl)
  exact KE _ _ hP hD hS
set_option maxHeartbeats 4000000 in
set_option maxRecDepth 100000 in
theorem c_X4_undo (l : Launch) (dC : Nat → ClassId) (dI : Nat → Nat → Nat) (cI : ClassId) (hl0 : l.stackTraces = false) (cS : ClassId) (a : Nat → Nat) (q : Nat → Nat → Nat) (sz : Nat) (S : S_LS) (Z : (Nat → S_State))  (res : Sum (String × (S_LS)) (Int32 × S_LS)) (hF : F_X4_undo S Z  = some res) : vx_Met l yX4_undo wsX4_undo ({ frames := 6, cells := 1, slots := 6, locals := 129 } : Room) (va_Pc [.ref (a 0)] (jPreX (dC, dI) [(cI, .int), (cS, .object "LearnedShapes$State")] sz (W_Full cI cS a q S Z))) (va_Qi (fun (r' : Int32) (u : S_LS) => res = .inr (r', u)) (fun (u : S_LS) (t : State) => ∃ q9 : Nat → Nat → Nat, jB (dC, dI) [(cI, .int), (cS, .object "LearnedShapes$State")] (va_A (W_Full cI cS a q S Z) sz) (W_Full cI cS a q9 u Z) t) (va_A (W_Full cI cS a q S Z) sz)) (vx_X (fun _ : S_LS => True) (fun (E : String) (u : S_LS) (t : State) => res = .inl (E, u) ∧ (fun (u : S_LS) (t : State) => ∃ q9 : Nat → Nat → Nat, jB (dC, dI) [(cI, .int), (cS, .object "LearnedShapes$State")] (va_A (W_Full cI cS a q S Z) sz) (W_Full cI cS a q9 u Z) t) u t) (va_A (W_Full cI cS a q S Z) sz)) 1 6 (va_A (W_Full cI cS a q S Z) sz) := by
  refine vx_ofW (cc := cX4_undo) (maxL := 2) (ret := (some .int)) (by decide) rfl ?_
  intro p e s m args below meth c s₁ B hml hex hv
  obtain ⟨rfl, ⟨hsz, hP, hK, hD0, hN⟩, hU, hSN⟩ := hv
  have hx := B.exec
  have hb := B.bytes
  have hr := B.returns
  have hts := atoms_spec (ws := wsX4_undo) B.pre
  have hown : s.vm.findClass RX4 = some m.cls := findClass_of_methodNamed B.named
  have hlocks := B.notSynchronized
  have hKi : va_K (dC, dI) vwCl [(cI, .int)] s := hK.sub [0] rfl
  have hinX4 : ∀ w ∈ u_ws RX4 TX4 8, w ∈ wsX4_undo := by decide +kernel
  subst hsz
  have hD := hD0.self (sz := s.heap.size)
  generalize hAe : (va_A (W_Full cI cS a q S Z) s.heap.size) = A at hD hU hSN ⊢
  have hA : ∀ q : Nat, s.heap.size ≤ q → A q := fun q h => by rw [← hAe]; exact Or.inr h
  have hS : va_S A s.heap s.heap [] := va_S.rf
  have hl := lv_entry ([.ref (a 0)]) (n := 2) (Nat.le_of_ble_eq_true rfl)
  rw [lg_entry_eq]
  generalize (lg_sl ([.ref (a 0)]) ++ List.replicate (2 - (lg_sl ([.ref (a 0)])).length) Slot.unset).toArray = ls at hl ⊢
  have hl : lv_has ls 2 [(0, .ref (a 0))] := hl
  have KE : ∀ (H : Heap) (locs : List Loc), va_P (dC, dI) vwCl (W_Full cI cS a q S Z) H → va_D A (W_Full cI cS a q S Z) → va_S A s.heap H locs → W p l e (headSpec wsX4_undo ({ frames := 6, cells := 1, slots := 6, locals := 129 } : Room)).room s m ([.ref (a 0)] : List Value).toArray below meth c H locs 0 0 (vx_MQ below (va_Qi (fun (r' : Int32) (u : S_LS) => res = .inr (r', u)) (fun (u : S_LS) (t : State) => ∃ q9 : Nat → Nat → Nat, jB (dC, dI) [(cI, .int), (cS, .object "LearnedShapes$State")] A (W_Full cI cS a q9 u Z) t) A) (vx_X (fun _ : S_LS => True) (fun (E : String) (u : S_LS) (t : State) => res = .inl (E, u) ∧ (fun (u : S_LS) (t : State) => ∃ q9 : Nat → Nat → Nat, jB (dC, dI) [(cI, .int), (cS, .object "LearnedShapes$State")] A (W_Full cI cS a q9 u Z) t) u t) A) ([.ref (a 0)] : List Value).toArray s 1 6 A) (F0 m 0 ls []) := by
    intro H locs hP hD hS
    have hP : va_P (dC, dI) vwCl (List.flatten [W_LS cI a S, W_Sav cS (a 13) [((q 0) 0), ((q 1) 0), ((q 2) 0), ((q 3) 0), ((q 4) 0), ((q 5) 0)], W_State cI (q 0) (Z 0), W_State cI (q 1) (Z 1), W_State cI (q 2) (Z 2), W_State cI (q 3) (Z 3), W_State cI (q 4) (Z 4), W_State cI (q 5) (Z 5)]) H := hP
    have hD : va_D A (List.flatten [W_LS cI a S, W_Sav cS (a 13) [((q 0) 0), ((q 1) 0), ((q 2) 0), ((q 3) 0), ((q 4) 0), ((q 5) 0)], W_State cI (q 0) (Z 0), W_State cI (q 1) (Z 1), W_State cI (q 2) (Z 2), W_State cI (q 3) (Z 3), W_State cI (q 4) (Z 4), W_State cI (q 5) (Z 5)]) := hD
    unfold F_X4_undo at hF
    refine lv_aload_n hx hb dX4_undo_0 rfl (lv_at hl 0 rfl) ?_
    refine lv_aload_n hx hb dX4_undo_1 rfl (lv_at hl 0 rfl) ?_
    refine va_get (D := (dC, dI)) (ci := 4) (v := .int (g_LS_savedStates S)) (C := RX4) (T := TX4) (N := 8) hx hb hts hinX4 hown hK hP 0 rfl rfl 5 (by decide) (hts (Cond.fieldLink RX4 125 "LearnedShapes" "savedStates" "I") (List.mem_of_getElem? (i := 3) rfl)) (fun _ h9 => h9) rfl dX4_undo_2 ?_
    refine lv_iconst (v := (1 : Int32)) hx hb dX4_undo_5 (by decide) ?_
    refine lv_isub hx hb dX4_undo_6 ?_
    by_cases c1 : ((g_LS_savedStates S) - (1 : Int32)) = (0 : Int32)
    · have hF := F_pos c1 hF
      have hP : va_P (dC, dI) vwCl (W_Full cI cS a q S Z) H := hP
      have hD : va_D A (W_Full cI cS a q S Z) := hD
      have hPc := hP
      have hDc := hD
      have hFc := jFreeW (ws := (W_Full cI cS a q S Z)) hD hS hA
      refine va_callq (va_runV (As := [.int ((g_LS_savedStates S) - (1 : Int32))]) (rest := []) ⟨hx, hb, hml, hown, hts⟩ (c_X4_savedAt_0 l dC dI cI cS a q H.size _ _ _ c1) (cwV 1 hts gX4_undo_X4_savedAt rfl rfl rfl (by decide +kernel) ⟨Nat.le_of_ble_eq_true rfl, Nat.le_of_ble_eq_true rfl⟩) (jPreV hK hPc hDc hN (ci := 4) rfl rfl) rfl rfl hl.1 rfl (lv_room (Nat.le_of_ble_eq_true rfl)) dX4_undo_7 ⟨Nat.le_of_ble_eq_true rfl, Nat.le_of_ble_eq_true rfl⟩) hS (fun q _ h => hFc q h) hFc (fun r9 u9 t H locs ht hvm hw hB hz1 hk1 hS => ?_)
      subst hw
      obtain ⟨hP1, -, hD1⟩ := hB
      rw [ht] at hP1
      have hP : va_P (dC, dI) vwCl ((W_Full cI cS a q S Z)) H := hP1
      have hD : va_D A ((W_Full cI cS a q S Z)) := hD1.weaken (fun _ _ _ h => hFc _ h)
      have hP : va_P (dC, dI) vwCl (List.flatten [W_LS cI a S, W_Sav cS (a 13) [((q 0) 0), ((q 1) 0), ((q 2) 0), ((q 3) 0), ((q 4) 0), ((q 5) 0)], W_State cI (q 0) (Z 0), W_State cI (q 1) (Z 1), W_State cI (q 2) (Z 2), W_State cI (q 3) (Z 3), W_State cI (q 4) (Z 4), W_State cI (q 5) (Z 5)]) H := hP
      have hD : va_D A (List.flatten [W_LS cI a S, W_Sav cS (a 13) [((q 0) 0), ((q 1) 0), ((q 2) 0), ((q 3) 0), ((q 4) 0), ((q 5) 0)], W_State cI (q 0) (Z 0), W_State cI (q 1) (Z 1), W_State cI (q 2) (Z 2), W_State cI (q 3) (Z 3), W_State cI (q 4) (Z 4), W_State cI (q 5) (Z 5)]) := hD
      refine W.eq (g2 := F0 m 10 ls [.ref ((q 0) 0)]) rfl ?_
      refine lv_astore_n (lv' := [(1, .ref ((q 0) 0)), (0, .ref (a 0))]) hx hb dX4_undo_10 rfl hl (by decide) rfl (fun ls hl => ?_)
      refine lv_aload_n hx hb dX4_undo_11 rfl (lv_at hl 1 rfl) ?_
      refine va_get (D := (dC, dI)) (ci := 4) (v := .int (g_LS_savedStates S)) (C := RX4) (T := TX4) (N := 8) hx hb hts hinX4 hown hK hP 0 rfl rfl 5 (by decide) (hts (Cond.fieldLink RX4 125 "LearnedShapes" "savedStates" "I") (List.mem_of_getElem? (i := 3) rfl)) (fun _ h9 => h9) rfl dX4_undo_12 ?_
      refine lv_if_le (tgt := 22) hx hb dX4_undo_15 (by decide) (fun c2 => ?_) (fun c2 => ?_)
      · have hF := F_pos c2 hF
        have hP : va_P (dC, dI) vwCl (W_Full cI cS a q S Z) H := hP
        have hD : va_D A (W_Full cI cS a q S Z) := hD
        cases hF
        obtain ⟨sa, hsa⟩ := hN.2.1 _ (List.mem_of_getElem? (i := 14) rfl)
        exact vx_throwS (names := ["java/lang/RuntimeException", "java/lang/Exception"]) (cls := "java/lang/IllegalStateException") hx hb hl0 hown (by decide +kernel) (by decide +kernel) (hts (Cond.classLink RX4 81 "java/lang/IllegalStateException") (List.mem_of_getElem? (i := 1) rfl)) (hts (Cond.initialized "java/lang/IllegalStateException") (List.mem_of_getElem? (i := 2) rfl)) hsa (vx_hat (B := [Cond.castable "java/lang/IllegalStateException" "java/lang/IllegalStateException", Cond.declares ⟨"java/lang/RuntimeException", "<init>", "(Ljava/lang/String;)V"⟩, Cond.declares ⟨"java/lang/Exception", "<init>", "(Ljava/lang/String;)V"⟩, Cond.declares ⟨"java/lang/Throwable", "<init>", "(Ljava/lang/String;)V"⟩]) (fun w hw => hts w (List.mem_cons_of_mem _ (List.mem_append_right _ hw))) (by decide +kernel) (vx_c (va_Nw.use rfl (hN.1 _ (List.mem_of_getElem? (i := 13) rfl))) (vx_c (va_Nw.use rfl (hN.1 _ (List.mem_of_getElem? (i := 14) rfl))) (vx_c (va_Nw.use rfl (hN.1 _ (List.mem_of_getElem? (i := 15) rfl))) (vx_c (va_Nw.use rfl (hN.1 _ (List.mem_of_getElem? (i := 16) rfl))) vx_n))))) (by decide +kernel) hU hSN hS (hl.1.trans hml.symm) dX4_undo_22 dX4_undo_25 dX4_undo_26 dX4_undo_28 dX4_undo_31 (fun x hx => (hex x hx).elim) (Nat.le_of_ble_eq_true rfl) (Nat.le_of_ble_eq_true rfl) (Nat.le_of_ble_eq_true rfl) (Nat.le_of_ble_eq_true rfl) hlocks (fun t ha hz hk => ⟨S, trivial, ⟨rfl, q, jKeep hP hk, va_K.moved ha hK, hD⟩, jF hS hz hk⟩) hS.2.2 (Nat.le_of_ble_eq_true rfl) (Nat.le_of_ble_eq_true rfl)
      · have hF := F_neg c2 hF
        refine lv_aload_n hx hb dX4_undo_18 rfl (lv_at hl 0 rfl) ?_
        refine lv_ifnonnull (tgt := 32) hx hb dX4_undo_19 (by decide) ?_
        refine lv_aload_n hx hb dX4_undo_32 rfl (lv_at hl 1 rfl) ?_
        refine va_get (D := (dC, dI)) (ci := 4) (v := .ref (a 5)) (C := RX4) (T := TX4) (N := 8) hx hb hts hinX4 hown hK hP 0 rfl rfl 3 (by decide) (hts (Cond.fieldLink RX4 23 "LearnedShapes" "now" "LLearnedShapes$State;") (List.mem_of_getElem? (i := 4) rfl)) (fun _ h9 => h9) rfl dX4_undo_33 ?_
        refine lv_aload_n hx hb dX4_undo_36 rfl (lv_at hl 0 rfl) ?_
        obtain ⟨u3, h4, hF⟩ := ob1_some hF
        obtain ⟨hP, hD⟩ := jBlk (bs := [W_LS cI a S, W_Sav cS (a 13) [((q 0) 0), ((q 1) 0), ((q 2) 0), ((q 3) 0), ((q 4) 0), ((q 5) 0)], W_State cI (q 0) (Z 0), W_State cI (q 1) (Z 1), W_State cI (q 2) (Z 2), W_State cI (q 3) (Z 3), W_State cI (q 4) (Z 4), W_State cI (q 5) (Z 5)]) (bs' := [W_LS cI a S, W_State cI (q 0) (Z 0), W_Sav cS (a 13) [((q 0) 0), ((q 1) 0), ((q 2) 0), ((q 3) 0), ((q 4) 0), ((q 5) 0)], W_State cI (q 1) (Z 1), W_State cI (q 2) (Z 2), W_State cI (q 3) (Z 3), W_State cI (q 4) (Z 4), W_State cI (q 5) (Z 5)]) hP hD [0, 2, 1, 3, 4, 5, 6, 7] rfl rfl
        have hPc := hP.sub (ws' := (W_State cI (sh a 5) (g_LS_now S)) ++ (W_State cI (q 0) (Z 0))) [5, 6, 7, 8, 9, 13, 14, 15, 16, 17] rfl
        have hDc := hD.sub (ws' := (W_State cI (sh a 5) (g_LS_now S)) ++ (W_State cI (q 0) (Z 0))) [5, 6, 7, 8, 9, 13, 14, 15, 16, 17] (by decide) rfl
        have hFc := va_free (wc := (W_State cI (sh a 5) (g_LS_now S)) ++ (W_State cI (q 0) (Z 0))) hD hS hA [5, 6, 7, 8, 9, 13, 14, 15, 16, 17] rfl
        refine va_callv (va_runV (As := [.ref ((q 0) 0)]) (rest := []) ⟨hx, hb, hml, hown, hts⟩ (c_X2_copyFrom l dC dI cI (sh a 5) (q 0) H.size _ _ _ h4) (cwV 1 hts gX4_undo_X2_copyFrom rfl rfl rfl (by decide +kernel) ⟨Nat.le_of_ble_eq_true rfl, Nat.le_of_ble_eq_true rfl⟩) (jPreV hKi hPc hDc hN (ci := 2) rfl rfl) rfl rfl hl.1 rfl (lv_room (Nat.le_of_ble_eq_true rfl)) dX4_undo_37 ⟨Nat.le_of_ble_eq_true rfl, Nat.le_of_ble_eq_true rfl⟩) hS (fun q _ h => hFc q h) hFc (fun u' t H locs ht hvm hw hB hz1 hk1 hS => ?_)
        subst hw
        obtain ⟨hP1, -, hD1⟩ := hB
        rw [ht] at hP1
        obtain ⟨hP, hD⟩ := jJoinF (wa := (W_LS cI a S) ++ (W_State cI (q 0) (Z 0))) (wb := List.flatten [W_Sav cS (a 13) [((q 0) 0), ((q 1) 0), ((q 2) 0), ((q 3) 0), ((q 4) 0), ((q 5) 0)], W_State cI (q 1) (Z 1), W_State cI (q 2) (Z 2), W_State cI (q 3) (Z 3), W_State cI (q 4) (Z 4), W_State cI (q 5) (Z 5)]) (wc := (W_State cI (sh a 5) (g_LS_now S)) ++ (W_State cI (q 0) (Z 0))) (w1 := (W_State cI (sh a 5) u3) ++ (W_State cI (q 0) (Z 0))) (ws' := (W_LS cI a (s_LS_now S u3)) ++ (W_State cI (q 0) (Z 0))) hP hD [5, 6, 7, 8, 9, 13, 14, 15, 16, 17] [0, 1, 2, 3, 4, 10, 11, 12] [0, 1, 2, 3, 4, 8, 9, 10, 11, 12, 5, 6, 7, 13, 14, 15, 16, 17] rfl rfl (by decide) (by decide) hk1 hFc hP1 hD1 (by decide) rfl
        obtain ⟨hP, hD⟩ := jBlk (bs := [W_LS cI a (s_LS_now S u3), W_State cI (q 0) (Z 0), W_Sav cS (a 13) [((q 0) 0), ((q 1) 0), ((q 2) 0), ((q 3) 0), ((q 4) 0), ((q 5) 0)], W_State cI (q 1) (Z 1), W_State cI (q 2) (Z 2), W_State cI (q 3) (Z 3), W_State cI (q 4) (Z 4), W_State cI (q 5) (Z 5)]) (bs' := [W_LS cI a (s_LS_now S u3), W_Sav cS (a 13) [((q 0) 0), ((q 1) 0), ((q 2) 0), ((q 3) 0), ((q 4) 0), ((q 5) 0)], W_State cI (q 0) (Z 0), W_State cI (q 1) (Z 1), W_State cI (q 2) (Z 2), W_State cI (q 3) (Z 3), W_State cI (q 4) (Z 4), W_State cI (q 5) (Z 5)]) hP hD [0, 2, 1, 3, 4, 5, 6, 7] rfl rfl
        have hP : va_P (dC, dI) vwCl (List.flatten [W_LS cI a (s_LS_now S u3), W_Sav cS (a 13) [((q 0) 0), ((q 1) 0), ((q 2) 0), ((q 3) 0), ((q 4) 0), ((q 5) 0)], W_State cI (q 0) (Z 0), W_State cI (q 1) (Z 1), W_State cI (q 2) (Z 2), W_State cI (q 3) (Z 3), W_State cI (q 4) (Z 4), W_State cI (q 5) (Z 5)]) H := hP
        have hD : va_D A (List.flatten [W_LS cI a (s_LS_now S u3), W_Sav cS (a 13) [((q 0) 0), ((q 1) 0), ((q 2) 0), ((q 3) 0), ((q 4) 0), ((q 5) 0)], W_State cI (q 0) (Z 0), W_State cI (q 1) (Z 1), W_State cI (q 2) (Z 2), W_State cI (q 3) (Z 3), W_State cI (q 4) (Z 4), W_State cI (q 5) (Z 5)]) := hD
        refine lv_aload_n hx hb dX4_undo_40 rfl (lv_at hl 1 rfl) ?_
        refine lv_dup hx hb dX4_undo_41 rfl ?_
        refine va_get (D := (dC, dI)) (ci := 4) (v := .int (g_LS_savedStates S)) (C := RX4) (T := TX4) (N := 8) hx hb hts hinX4 hown hK hP 0 rfl rfl 5 (by decide) (hts (Cond.fieldLink RX4 125 "LearnedShapes" "savedStates" "I") (List.mem_of_getElem? (i := 3) rfl)) (fun _ h9 => h9) rfl dX4_undo_42 ?_
        refine lv_iconst (v := (1 : Int32)) hx hb dX4_undo_45 (by decide) ?_
        refine lv_isub hx hb dX4_undo_46 ?_
        refine va_put (D := (dC, dI)) (ci := 4) (v := .int ((g_LS_savedStates S) - (1 : Int32))) (ty := .int) (C := RX4) (T := TX4) (N := 8) hx hb hts hinX4 tyX4 tyX4_ok nmX4 hown hK hP hD hS 0 rfl rfl 5 (by decide) (hts (Cond.fieldLink RX4 125 "LearnedShapes" "savedStates" "I") (List.mem_of_getElem? (i := 3) rfl)) (fun _ h9 => h9) rfl (by decide +kernel) (rfl) rfl (Nat.le_of_ble_eq_true rfl) dX4_undo_47 (fun H locs hP hD hS => ?_)
        have hP : va_P (dC, dI) vwCl (List.flatten [W_LS cI a (s_LS_savedStates (s_LS_now S u3) ((g_LS_savedStates S) - (1 : Int32))), W_Sav cS (a 13) [((q 0) 0), ((q 1) 0), ((q 2) 0), ((q 3) 0), ((q 4) 0), ((q 5) 0)], W_State cI (q 0) (Z 0), W_State cI (q 1) (Z 1), W_State cI (q 2) (Z 2), W_State cI (q 3) (Z 3), W_State cI (q 4) (Z 4), W_State cI (q 5) (Z 5)]) H := hP
        have hD : va_D A (List.flatten [W_LS cI a (s_LS_savedStates (s_LS_now S u3) ((g_LS_savedStates S) - (1 : Int32))), W_Sav cS (a 13) [((q 0) 0), ((q 1) 0), ((q 2) 0), ((q 3) 0), ((q 4) 0), ((q 5) 0)], W_State cI (q 0) (Z 0), W_State cI (q 1) (Z 1), W_State cI (q 2) (Z 2), W_State cI (q 3) (Z 3), W_State cI (q 4) (Z 4), W_State cI (q 5) (Z 5)]) := hD
        refine lv_aload_n hx hb dX4_undo_50 rfl (lv_at hl 1 rfl) ?_
        refine va_get (D := (dC, dI)) (ci := 4) (v := .int ((g_LS_savedStates S) - (1 : Int32))) (C := RX4) (T := TX4) (N := 8) hx hb hts hinX4 hown hK hP 0 rfl rfl 5 (by decide) (hts (Cond.fieldLink RX4 125 "LearnedShapes" "savedStates" "I") (List.mem_of_getElem? (i := 3) rfl)) (fun _ h9 => h9) rfl dX4_undo_51 ?_
        have hP : va_P (dC, dI) vwCl (W_Full cI cS a q (s_LS_savedStates (s_LS_now S u3) ((g_LS_savedStates S) - (1 : Int32))) Z) H := hP
        have hD : va_D A (W_Full cI cS a q (s_LS_savedStates (s_LS_now S u3) ((g_LS_savedStates S) - (1 : Int32))) Z) := hD
        cases hF
        refine vx_ret ?_
        refine W.widen (k := 1) (n := 6) (Nat.zero_le _) (Nat.zero_le _) ?_
        exact W.iret (v := ((g_LS_savedStates S) - (1 : Int32))) hx hb hr (fun t ht hW => ⟨⟨((g_LS_savedStates S) - (1 : Int32)), (s_LS_savedStates (s_LS_now S u3) ((g_LS_savedStates S) - (1 : Int32))), rfl, rfl, q, by rw [ht]; exact hP, va_K.moved hW.alike hK, hD⟩, hS.F ht⟩) hS.2.2 dX4_undo_54
    · have hF := F_neg c1 hF
      by_cases c5 : ((g_LS_savedStates S) - (1 : Int32)) = (1 : Int32)
      · have hF := F_pos c5 hF
        have hP : va_P (dC, dI) vwCl (W_Full cI cS a q S Z) H := hP
        have hD : va_D A (W_Full cI cS a q S Z) := hD
        have hPc := hP
        have hDc := hD
        have hFc := jFreeW (ws := (W_Full cI cS a q S Z)) hD hS hA
        refine va_callq (va_runV (As := [.int ((g_LS_savedStates S) - (1 : Int32))]) (rest := []) ⟨hx, hb, hml, hown, hts⟩ (c_X4_savedAt_1 l dC dI cI cS a q H.size _ _ _ c5) (cwV 1 hts gX4_undo_X4_savedAt rfl rfl rfl (by decide +kernel) ⟨Nat.le_of_ble_eq_true rfl, Nat.le_of_ble_eq_true rfl⟩) (jPreV hK hPc hDc hN (ci := 4) rfl rfl) rfl rfl hl.1 rfl (lv_room (Nat.le_of_ble_eq_true rfl)) dX4_undo_7 ⟨Nat.le_of_ble_eq_true rfl, Nat.le_of_ble_eq_true rfl⟩) hS (fun q _ h => hFc q h) hFc (fun r9 u9 t H locs ht hvm hw hB hz1 hk1 hS => ?_)
        subst hw
        obtain ⟨hP1, -, hD1⟩ := hB
        rw [ht] at hP1
        have hP : va_P (dC, dI) vwCl ((W_Full cI cS a q S Z)) H := hP1
        have hD : va_D A ((W_Full cI cS a q S Z)) := hD1.weaken (fun _ _ _ h => hFc _ h)
        have hP : va_P (dC, dI) vwCl (List.flatten [W_LS cI a S, W_Sav cS (a 13) [((q 0) 0), ((q 1) 0), ((q 2) 0), ((q 3) 0), ((q 4) 0), ((q 5) 0)], W_State cI (q 0) (Z 0), W_State cI (q 1) (Z 1), W_State cI (q 2) (Z 2), W_State cI (q 3) (Z 3), W_State cI (q 4) (Z 4), W_State cI (q 5) (Z 5)]) H := hP
        have hD : va_D A (List.flatten [W_LS cI a S, W_Sav cS (a 13) [((q 0) 0), ((q 1) 0), ((q 2) 0), ((q 3) 0), ((q 4) 0), ((q 5) 0)], W_State cI (q 0) (Z 0), W_State cI (q 1) (Z 1), W_State cI (q 2) (Z 2), W_State cI (q 3) (Z 3), W_State cI (q 4) (Z 4), W_State cI (q 5) (Z 5)]) := hD
        refine W.eq (g2 := F0 m 10 ls [.ref ((q 1) 0)]) rfl ?_
        refine lv_astore_n (lv' := [(1, .ref ((q 1) 0)), (0, .ref (a 0))]) hx hb dX4_undo_10 rfl hl (by decide) rfl (fun ls hl => ?_)
        refine lv_aload_n hx hb dX4_undo_11 rfl (lv_at hl 1 rfl) ?_
        refine va_get (D := (dC, dI)) (ci := 4) (v := .int (g_LS_savedStates S)) (C := RX4) (T := TX4) (N := 8) hx hb hts hinX4 hown hK hP 0 rfl rfl 5 (by decide) (hts (Cond.fieldLink RX4 125 "LearnedShapes" "savedStates" "I") (List.mem_of_getElem? (i := 3) rfl)) (fun _ h9 => h9) rfl dX4_undo_12 ?_
        refine lv_if_le (tgt := 22) hx hb dX4_undo_15 (by decide) (fun c6 => ?_) (fun c6 => ?_)
        · have hF := F_pos c6 hF
          have hP : va_P (dC, dI) vwCl (W_Full cI cS a q S Z) H := hP
          have hD : va_D A (W_Full cI cS a q S Z) := hD
          cases hF
          obtain ⟨sa, hsa⟩ := hN.2.1 _ (List.mem_of_getElem? (i := 14) rfl)
          exact vx_throwS (names := ["java/lang/RuntimeException", "java/lang/Exception"]) (cls := "java/lang/IllegalStateException") hx hb hl0 hown (by decide +kernel) (by decide +kernel) (hts (Cond.classLink RX4 81 "java/lang/IllegalStateException") (List.mem_of_getElem? (i := 1) rfl)) (hts (Cond.initialized "java/lang/IllegalStateException") (List.mem_of_getElem? (i := 2) rfl)) hsa (vx_hat (B := [Cond.castable "java/lang/IllegalStateException" "java/lang/IllegalStateException", Cond.declares ⟨"java/lang/RuntimeException", "<init>", "(Ljava/lang/String;)V"⟩, Cond.declares ⟨"java/lang/Exception", "<init>", "(Ljava/lang/String;)V"⟩, Cond.declares ⟨"java/lang/Throwable", "<init>", "(Ljava/lang/String;)V"⟩]) (fun w hw => hts w (List.mem_cons_of_mem _ (List.mem_append_right _ hw))) (by decide +kernel) (vx_c (va_Nw.use rfl (hN.1 _ (List.mem_of_getElem? (i := 13) rfl))) (vx_c (va_Nw.use rfl (hN.1 _ (List.mem_of_getElem? (i := 14) rfl))) (vx_c (va_Nw.use rfl (hN.1 _ (List.mem_of_getElem? (i := 15) rfl))) (vx_c (va_Nw.use rfl (hN.1 _ (List.mem_of_getElem? (i := 16) rfl))) vx_n))))) (by decide +kernel) hU hSN hS (hl.1.trans hml.symm) dX4_undo_22 dX4_undo_25 dX4_undo_26 dX4_undo_28 dX4_undo_31 (fun x hx => (hex x hx).elim) (Nat.le_of_ble_eq_true rfl) (Nat.le_of_ble_eq_true rfl) (Nat.le_of_ble_eq_true rfl) (Nat.le_of_ble_eq_true rfl) hlocks (fun t ha hz hk => ⟨S, trivial, ⟨rfl, q, jKeep hP hk, va_K.moved ha hK, hD⟩, jF hS hz hk⟩) hS.2.2 (Nat.le_of_ble_eq_true rfl) (Nat.le_of_ble_eq_true rfl)
        · have hF := F_neg c6 hF
          refine lv_aload_n hx hb dX4_undo_18 rfl (lv_at hl 0 rfl) ?_
          refine lv_ifnonnull (tgt := 32) hx hb dX4_undo_19 (by decide) ?_
          refine lv_aload_n hx hb dX4_undo_32 rfl (lv_at hl 1 rfl) ?_
          refine va_get (D := (dC, dI)) (ci := 4) (v := .ref (a 5)) (C := RX4) (T := TX4) (N := 8) hx hb hts hinX4 hown hK hP 0 rfl rfl 3 (by decide) (hts (Cond.fieldLink RX4 23 "LearnedShapes" "now" "LLearnedShapes$State;") (List.mem_of_getElem? (i := 4) rfl)) (fun _ h9 => h9) rfl dX4_undo_33 ?_
          refine lv_aload_n hx hb dX4_undo_36 rfl (lv_at hl 0 rfl) ?_
          obtain ⟨u7, h8, hF⟩ := ob1_some hF
          obtain ⟨hP, hD⟩ := jBlk (bs := [W_LS cI a S, W_Sav cS (a 13) [((q 0) 0), ((q 1) 0), ((q 2) 0), ((q 3) 0), ((q 4) 0), ((q 5) 0)], W_State cI (q 0) (Z 0), W_State cI (q 1) (Z 1), W_State cI (q 2) (Z 2), W_State cI (q 3) (Z 3), W_State cI (q 4) (Z 4), W_State cI (q 5) (Z 5)]) (bs' := [W_LS cI a S, W_State cI (q 1) (Z 1), W_Sav cS (a 13) [((q 0) 0), ((q 1) 0), ((q 2) 0), ((q 3) 0), ((q 4) 0), ((q 5) 0)], W_State cI (q 0) (Z 0), W_State cI (q 2) (Z 2), W_State cI (q 3) (Z 3), W_State cI (q 4) (Z 4), W_State cI (q 5) (Z 5)]) hP hD [0, 3, 1, 2, 4, 5, 6, 7] rfl rfl
          have hPc := hP.sub (ws' := (W_State cI (sh a 5) (g_LS_now S)) ++ (W_State cI (q 1) (Z 1))) [5, 6, 7, 8, 9, 13, 14, 15, 16, 17] rfl
          have hDc := hD.sub (ws' := (W_State cI (sh a 5) (g_LS_now S)) ++ (W_State cI (q 1) (Z 1))) [5, 6, 7, 8, 9, 13, 14, 15, 16, 17] (by decide) rfl
          have hFc := va_free (wc := (W_State cI (sh a 5) (g_LS_now S)) ++ (W_State cI (q 1) (Z 1))) hD hS hA [5, 6, 7, 8, 9, 13, 14, 15, 16, 17] rfl
          refine va_callv (va_runV (As := [.ref ((q 1) 0)]) (rest := []) ⟨hx, hb, hml, hown, hts⟩ (c_X2_copyFrom l dC dI cI (sh a 5) (q 1) H.size _ _ _ h8) (cwV 1 hts gX4_undo_X2_copyFrom rfl rfl rfl (by decide +kernel) ⟨Nat.le_of_ble_eq_true rfl, Nat.le_of_ble_eq_true rfl⟩) (jPreV hKi hPc hDc hN (ci := 2) rfl rfl) rfl rfl hl.1 rfl (lv_room (Nat.le_of_ble_eq_true rfl)) dX4_undo_37 ⟨Nat.le_of_ble_eq_true rfl, Nat.le_of_ble_eq_true rfl⟩) hS (fun q _ h => hFc q h) hFc (fun u' t H locs ht hvm hw hB hz1 hk1 hS => ?_)
          subst hw
          obtain ⟨hP1, -, hD1⟩ := hB
          rw [ht] at hP1
          obtain ⟨hP, hD⟩ := jJoinF (wa := (W_LS cI a S) ++ (W_State cI (q 1) (Z 1))) (wb := List.flatten [W_Sav cS (a 13) [((q 0) 0), ((q 1) 0), ((q 2) 0), ((q 3) 0), ((q 4) 0), ((q 5) 0)], W_State cI (q 0) (Z 0), W_State cI (q 2) (Z 2), W_State cI (q 3) (Z 3), W_State cI (q 4) (Z 4), W_State cI (q 5) (Z 5)]) (wc := (W_State cI (sh a 5) (g_LS_now S)) ++ (W_State cI (q 1) (Z 1))) (w1 := (W_State cI (sh a 5) u7) ++ (W_State cI (q 1) (Z 1))) (ws' := (W_LS cI a (s_LS_now S u7)) ++ (W_State cI (q 1) (Z 1))) hP hD [5, 6, 7, 8, 9, 13, 14, 15, 16, 17] [0, 1, 2, 3, 4, 10, 11, 12] [0, 1, 2, 3, 4, 8, 9, 10, 11, 12, 5, 6, 7, 13, 14, 15, 16, 17] rfl rfl (by decide) (by decide) hk1 hFc hP1 hD1 (by decide) rfl
          obtain ⟨hP, hD⟩ := jBlk (bs := [W_LS cI a (s_LS_now S u7), W_State cI (q 1) (Z 1), W_Sav cS (a 13) [((q 0) 0), ((q 1) 0), ((q 2) 0), ((q 3) 0), ((q 4) 0), ((q 5) 0)], W_State cI (q 0) (Z 0), W_State cI (q 2) (Z 2), W_State cI (q 3) (Z 3), W_State cI (q 4) (Z 4), W_State cI (q 5) (Z 5)]) (bs' := [W_LS cI a (s_LS_now S u7), W_Sav cS (a 13) [((q 0) 0), ((q 1) 0), ((q 2) 0), ((q 3) 0), ((q 4) 0), ((q 5) 0)], W_State cI (q 0) (Z 0), W_State cI (q 1) (Z 1), W_State cI (q 2) (Z 2), W_State cI (q 3) (Z 3), W_State cI (q 4) (Z 4), W_State cI (q 5) (Z 5)]) hP hD [0, 2, 3, 1, 4, 5, 6, 7] rfl rfl
          have hP : va_P (dC, dI) vwCl (List.flatten [W_LS cI a (s_LS_now S u7), W_Sav cS (a 13) [((q 0) 0), ((q 1) 0), ((q 2) 0), ((q 3) 0), ((q 4) 0), ((q 5) 0)], W_State cI (q 0) (Z 0), W_State cI (q 1) (Z 1), W_State cI (q 2) (Z 2), W_State cI (q 3) (Z 3), W_State cI (q 4) (Z 4), W_State cI (q 5) (Z 5)]) H := hP
          have hD : va_D A (List.flatten [W_LS cI a (s_LS_now S u7), W_Sav cS (a 13) [((q 0) 0), ((q 1) 0), ((q 2) 0), ((q 3) 0), ((q 4) 0), ((q 5) 0)], W_State cI (q 0) (Z 0), W_State cI (q 1) (Z 1), W_State cI (q 2) (Z 2), W_State cI (q 3) (Z 3), W_State cI (q 4) (Z 4), W_State cI (q 5) (Z 5)]) := hD
          refine lv_aload_n hx hb dX4_undo_40 rfl (lv_at hl 1 rfl) ?_
          refine lv_dup hx hb dX4_undo_41 rfl ?_
          refine va_get (D := (dC, dI)) (ci := 4) (v := .int (g_LS_savedStates S)) (C := RX4) (T := TX4) (N := 8) hx hb hts hinX4 hown hK hP 0 rfl rfl 5 (by decide) (hts (Cond.fieldLink RX4 125 "LearnedShapes" "savedStates" "I") (List.mem_of_getElem? (i := 3) rfl)) (fun _ h9 => h9) rfl dX4_undo_42 ?_
          refine lv_iconst (v := (1 : Int32)) hx hb dX4_undo_45 (by decide) ?_
          refine lv_isub hx hb dX4_undo_46 ?_
          refine va_put (D := (dC, dI)) (ci := 4) (v := .int ((g_LS_savedStates S) - (1 : Int32))) (ty := .int) (C := RX4) (T := TX4) (N := 8) hx hb hts hinX4 tyX4 tyX4_ok nmX4 hown hK hP hD hS 0 rfl rfl 5 (by decide) (hts (Cond.fieldLink RX4 125 "LearnedShapes" "savedStates" "I") (List.mem_of_getElem? (i := 3) rfl)) (fun _ h9 => h9) rfl (by decide +kernel) (rfl) rfl (Nat.le_of_ble_eq_true rfl) dX4_undo_47 (fun H locs hP hD hS => ?_)
          have hP : va_P (dC, dI) vwCl (List.flatten [W_LS cI a (s_LS_savedStates (s_LS_now S u7) ((g_LS_savedStates S) - (1 : Int32))), W_Sav cS (a 13) [((q 0) 0), ((q 1) 0), ((q 2) 0), ((q 3) 0), ((q 4) 0), ((q 5) 0)], W_State cI (q 0) (Z 0), W_State cI (q 1) (Z 1), W_State cI (q 2) (Z 2), W_State cI (q 3) (Z 3), W_State cI (q 4) (Z 4), W_State cI (q 5) (Z 5)]) H := hP
          have hD : va_D A (List.flatten [W_LS cI a (s_LS_savedStates (s_LS_now S u7) ((g_LS_savedStates S) - (1 : Int32))), W_Sav cS (a 13) [((q 0) 0), ((q 1) 0), ((q 2) 0), ((q 3) 0), ((q 4) 0), ((q 5) 0)], W_State cI (q 0) (Z 0), W_State cI (q 1) (Z 1), W_State cI (q 2) (Z 2), W_State cI (q 3) (Z 3), W_State cI (q 4) (Z 4), W_State cI (q 5) (Z 5)]) := hD
          refine lv_aload_n hx hb dX4_undo_50 rfl (lv_at hl 1 rfl) ?_
          refine va_get (D := (dC, dI)) (ci := 4) (v := .int ((g_LS_savedStates S) - (1 : Int32))) (C := RX4) (T := TX4) (N := 8) hx hb hts hinX4 hown hK hP 0 rfl rfl 5 (by decide) (hts (Cond.fieldLink RX4 125 "LearnedShapes" "savedStates" "I") (List.mem_of_getElem? (i := 3) rfl)) (fun _ h9 => h9) rfl dX4_undo_51 ?_
          have hP : va_P (dC, dI) vwCl (W_Full cI cS a q (s_LS_savedStates (s_LS_now S u7) ((g_LS_savedStates S) - (1 : Int32))) Z) H := hP
          have hD : va_D A (W_Full cI cS a q (s_LS_savedStates (s_LS_now S u7) ((g_LS_savedStates S) - (1 : Int32))) Z) := hD
          cases hF
          refine vx_ret ?_
          refine W.widen (k := 1) (n := 6) (Nat.zero_le _) (Nat.zero_le _) ?_
          exact W.iret (v := ((g_LS_savedStates S) - (1 : Int32))) hx hb hr (fun t ht hW => ⟨⟨((g_LS_savedStates S) - (1 : Int32)), (s_LS_savedStates (s_LS_now S u7) ((g_LS_savedStates S) - (1 : Int32))), rfl, rfl, q, by rw [ht]; exact hP, va_K.moved hW.alike hK, hD⟩, hS.F ht⟩) hS.2.2 dX4_undo_54
      · have hF := F_neg c5 hF
        by_cases c9 : ((g_LS_savedStates S) - (1 : Int32)) = (2 : Int32)
        · have hF := F_pos c9 hF
          have hP : va_P (dC, dI) vwCl (W_Full cI cS a q S Z) H := hP
          have hD : va_D A (W_Full cI cS a q S Z) := hD
          have hPc := hP
          have hDc := hD
          have hFc := jFreeW (ws := (W_Full cI cS a q S Z)) hD hS hA
          refine va_callq (va_runV (As := [.int ((g_LS_savedStates S) - (1 : Int32))]) (rest := []) ⟨hx, hb, hml, hown, hts⟩ (c_X4_savedAt_2 l dC dI cI cS a q H.size _ _ _ c9) (cwV 1 hts gX4_undo_X4_savedAt rfl rfl rfl (by decide +kernel) ⟨Nat.le_of_ble_eq_true rfl, Nat.le_of_ble_eq_true rfl⟩) (jPreV hK hPc hDc hN (ci := 4) rfl rfl) rfl rfl hl.1 rfl (lv_room (Nat.le_of_ble_eq_true rfl)) dX4_undo_7 ⟨Nat.le_of_ble_eq_true rfl, Nat.le_of_ble_eq_true rfl⟩) hS (fun q _ h => hFc q h) hFc (fun r9 u9 t H locs ht hvm hw hB hz1 hk1 hS => ?_)
          subst hw
          obtain ⟨hP1, -, hD1⟩ := hB
          rw [ht] at hP1
          have hP : va_P (dC, dI) vwCl ((W_Full cI cS a q S Z)) H := hP1
          have hD : va_D A ((W_Full cI cS a q S Z)) := hD1.weaken (fun _ _ _ h => hFc _ h)
          have hP : va_P (dC, dI) vwCl (List.flatten [W_LS cI a S, W_Sav cS (a 13) [((q 0) 0), ((q 1) 0), ((q 2) 0), ((q 3) 0), ((q 4) 0), ((q 5) 0)], W_State cI (q 0) (Z 0), W_State cI (q 1) (Z 1), W_State cI (q 2) (Z 2), W_State cI (q 3) (Z 3), W_State cI (q 4) (Z 4), W_State cI (q 5) (Z 5)]) H := hP
          have hD : va_D A (List.flatten [W_LS cI a S, W_Sav cS (a 13) [((q 0) 0), ((q 1) 0), ((q 2) 0), ((q 3) 0), ((q 4) 0), ((q 5) 0)], W_State cI (q 0) (Z 0), W_State cI (q 1) (Z 1), W_State cI (q 2) (Z 2), W_State cI (q 3) (Z 3), W_State cI (q 4) (Z 4), W_State cI (q 5) (Z 5)]) := hD
          refine W.eq (g2 := F0 m 10 ls [.ref ((q 2) 0)]) rfl ?_
          refine lv_astore_n (lv' := [(1, .ref ((q 2) 0)), (0, .ref (a 0))]) hx hb dX4_undo_10 rfl hl (by decide) rfl (fun ls hl => ?_)
          refine lv_aload_n hx hb dX4_undo_11 rfl (lv_at hl 1 rfl) ?_
          refine va_get (D := (dC, dI)) (ci := 4) (v := .int (g_LS_savedStates S)) (C := RX4) (T := TX4) (N := 8) hx hb hts hinX4 hown hK hP 0 rfl rfl 5 (by decide) (hts (Cond.fieldLink RX4 125 "LearnedShapes" "savedStates" "I") (List.mem_of_getElem? (i := 3) rfl)) (fun _ h9 => h9) rfl dX4_undo_12 ?_
          refine lv_if_le (tgt := 22) hx hb dX4_undo_15 (by decide) (fun c10 => ?_) (fun c10 => ?_)
          · have hF := F_pos c10 hF
            have hP : va_P (dC, dI) vwCl (W_Full cI cS a q S Z) H := hP
            have hD : va_D A (W_Full cI cS a q S Z) := hD
            cases hF
            obtain ⟨sa, hsa⟩ := hN.2.1 _ (List.mem_of_getElem? (i := 14) rfl)
            exact vx_throwS (names := ["java/lang/RuntimeException", "java/lang/Exception"]) (cls := "java/lang/IllegalStateException") hx hb hl0 hown (by decide +kernel) (by decide +kernel) (hts (Cond.classLink RX4 81 "java/lang/IllegalStateException") (List.mem_of_getElem? (i := 1) rfl)) (hts (Cond.initialized "java/lang/IllegalStateException") (List.mem_of_getElem? (i := 2) rfl)) hsa (vx_hat (B := [Cond.castable "java/lang/IllegalStateException" "java/lang/IllegalStateException", Cond.declares ⟨"java/lang/RuntimeException", "<init>", "(Ljava/lang/String;)V"⟩, Cond.declares ⟨"java/lang/Exception", "<init>", "(Ljava/lang/String;)V"⟩, Cond.declares ⟨"java/lang/Throwable", "<init>", "(Ljava/lang/String;)V"⟩]) (fun w hw => hts w (List.mem_cons_of_mem _ (List.mem_append_right _ hw))) (by decide +kernel) (vx_c (va_Nw.use rfl (hN.1 _ (List.mem_of_getElem? (i := 13) rfl))) (vx_c (va_Nw.use rfl (hN.1 _ (List.mem_of_getElem? (i := 14) rfl))) (vx_c (va_Nw.use rfl (hN.1 _ (List.mem_of_getElem? (i := 15) rfl))) (vx_c (va_Nw.use rfl (hN.1 _ (List.mem_of_getElem? (i := 16) rfl))) vx_n))))) (by decide +kernel) hU hSN hS (hl.1.trans hml.symm) dX4_undo_22 dX4_undo_25 dX4_undo_26 dX4_undo_28 dX4_undo_31 (fun x hx => (hex x hx).elim) (Nat.le_of_ble_eq_true rfl) (Nat.le_of_ble_eq_true rfl) (Nat.le_of_ble_eq_true rfl) (Nat.le_of_ble_eq_true rfl) hlocks (fun t ha hz hk => ⟨S, trivial, ⟨rfl, q, jKeep hP hk, va_K.moved ha hK, hD⟩, jF hS hz hk⟩) hS.2.2 (Nat.le_of_ble_eq_true rfl) (Nat.le_of_ble_eq_true rfl)
          · have hF := F_neg c10 hF
            refine lv_aload_n hx hb dX4_undo_18 rfl (lv_at hl 0 rfl) ?_
            refine lv_ifnonnull (tgt := 32) hx hb dX4_undo_19 (by decide) ?_
            refine lv_aload_n hx hb dX4_undo_32 rfl (lv_at hl 1 rfl) ?_
            refine va_get (D := (dC, dI)) (ci := 4) (v := .ref (a 5)) (C := RX4) (T := TX4) (N := 8) hx hb hts hinX4 hown hK hP 0 rfl rfl 3 (by decide) (hts (Cond.fieldLink RX4 23 "LearnedShapes" "now" "LLearnedShapes$State;") (List.mem_of_getElem? (i := 4) rfl)) (fun _ h9 => h9) rfl dX4_undo_33 ?_
            refine lv_aload_n hx hb dX4_undo_36 rfl (lv_at hl 0 rfl) ?_
            obtain ⟨u11, h12, hF⟩ := ob1_some hF
            obtain ⟨hP, hD⟩ := jBlk (bs := [W_LS cI a S, W_Sav cS (a 13) [((q 0) 0), ((q 1) 0), ((q 2) 0), ((q 3) 0), ((q 4) 0), ((q 5) 0)], W_State cI (q 0) (Z 0), W_State cI (q 1) (Z 1), W_State cI (q 2) (Z 2), W_State cI (q 3) (Z 3), W_State cI (q 4) (Z 4), W_State cI (q 5) (Z 5)]) (bs' := [W_LS cI a S, W_State cI (q 2) (Z 2), W_Sav cS (a 13) [((q 0) 0), ((q 1) 0), ((q 2) 0), ((q 3) 0), ((q 4) 0), ((q 5) 0)], W_State cI (q 0) (Z 0), W_State cI (q 1) (Z 1), W_State cI (q 3) (Z 3), W_State cI (q 4) (Z 4), W_State cI (q 5) (Z 5)]) hP hD [0, 4, 1, 2, 3, 5, 6, 7] rfl rfl
            have hPc := hP.sub (ws' := (W_State cI (sh a 5) (g_LS_now S)) ++ (W_State cI (q 2) (Z 2))) [5, 6, 7, 8, 9, 13, 14, 15, 16, 17] rfl
            have hDc := hD.sub (ws' := (W_State cI (sh a 5) (g_LS_now S)) ++ (W_State cI (q 2) (Z 2))) [5, 6, 7, 8, 9, 13, 14, 15, 16, 17] (by decide) rfl
            have hFc := va_free (wc := (W_State cI (sh a 5) (g_LS_now S)) ++ (W_State cI (q 2) (Z 2))) hD hS hA [5, 6, 7, 8, 9, 13, 14, 15, 16, 17] rfl
            refine va_callv (va_runV (As := [.ref ((q 2) 0)]) (rest := []) ⟨hx, hb, hml, hown, hts⟩ (c_X2_copyFrom l dC dI cI (sh a 5) (q 2) H.size _ _ _ h12) (cwV 1 hts gX4_undo_X2_copyFrom rfl rfl rfl (by decide +kernel) ⟨Nat.le_of_ble_eq_true rfl, Nat.le_of_ble_eq_true rfl⟩) (jPreV hKi hPc hDc hN (ci := 2) rfl rfl) rfl rfl hl.1 rfl (lv_room (Nat.le_of_ble_eq_true rfl)) dX4_undo_37 ⟨Nat.le_of_ble_eq_true rfl, Nat.le_of_ble_eq_true rfl⟩) hS (fun q _ h => hFc q h) hFc (fun u' t H locs ht hvm hw hB hz1 hk1 hS => ?_)
            subst hw
            obtain ⟨hP1, -, hD1⟩ := hB
            rw [ht] at hP1
            obtain ⟨hP, hD⟩ := jJoinF (wa := (W_LS cI a S) ++ (W_State cI (q 2) (Z 2))) (wb := List.flatten [W_Sav cS (a 13) [((q 0) 0), ((q 1) 0), ((q 2) 0), ((q 3) 0), ((q 4) 0), ((q 5) 0)], W_State cI (q 0) (Z 0), W_State cI (q 1) (Z 1), W_State cI (q 3) (Z 3), W_State cI (q 4) (Z 4), W_State cI (q 5) (Z 5)]) (wc := (W_State cI (sh a 5) (g_LS_now S)) ++ (W_State cI (q 2) (Z 2))) (w1 := (W_State cI (sh a 5) u11) ++ (W_State cI (q 2) (Z 2))) (ws' := (W_LS cI a (s_LS_now S u11)) ++ (W_State cI (q 2) (Z 2))) hP hD [5, 6, 7, 8, 9, 13, 14, 15, 16, 17] [0, 1, 2, 3, 4, 10, 11, 12] [0, 1, 2, 3, 4, 8, 9, 10, 11, 12, 5, 6, 7, 13, 14, 15, 16, 17] rfl rfl (by decide) (by decide) hk1 hFc hP1 hD1 (by decide) rfl
            obtain ⟨hP, hD⟩ := jBlk (bs := [W_LS cI a (s_LS_now S u11), W_State cI (q 2) (Z 2), W_Sav cS (a 13) [((q 0) 0), ((q 1) 0), ((q 2) 0), ((q 3) 0), ((q 4) 0), ((q 5) 0)], W_State cI (q 0) (Z 0), W_State cI (q 1) (Z 1), W_State cI (q 3) (Z 3), W_State cI (q 4) (Z 4), W_State cI (q 5) (Z 5)]) (bs' := [W_LS cI a (s_LS_now S u11), W_Sav cS (a 13) [((q 0) 0), ((q 1) 0), ((q 2) 0), ((q 3) 0), ((q 4) 0), ((q 5) 0)], W_State cI (q 0) (Z 0), W_State cI (q 1) (Z 1), W_State cI (q 2) (Z 2), W_State cI (q 3) (Z 3), W_State cI (q 4) (Z 4), W_State cI (q 5) (Z 5)]) hP hD [0, 2, 3, 4, 1, 5, 6, 7] rfl rfl
            have hP : va_P (dC, dI) vwCl (List.flatten [W_LS cI a (s_LS_now S u11), W_Sav cS (a 13) [((q 0) 0), ((q 1) 0), ((q 2) 0), ((q 3) 0), ((q 4) 0), ((q 5) 0)], W_State cI (q 0) (Z 0), W_State cI (q 1) (Z 1), W_State cI (q 2) (Z 2), W_State cI (q 3) (Z 3), W_State cI (q 4) (Z 4), W_State cI (q 5) (Z 5)]) H := hP
            have hD : va_D A (List.flatten [W_LS cI a (s_LS_now S u11), W_Sav cS (a 13) [((q 0) 0), ((q 1) 0), ((q 2) 0), ((q 3) 0), ((q 4) 0), ((q 5) 0)], W_State cI (q 0) (Z 0), W_State cI (q 1) (Z 1), W_State cI (q 2) (Z 2), W_State cI (q 3) (Z 3), W_State cI (q 4) (Z 4), W_State cI (q 5) (Z 5)]) := hD
            refine lv_aload_n hx hb dX4_undo_40 rfl (lv_at hl 1 rfl) ?_
            refine lv_dup hx hb dX4_undo_41 rfl ?_
            refine va_get (D := (dC, dI)) (ci := 4) (v := .int (g_LS_savedStates S)) (C := RX4) (T := TX4) (N := 8) hx hb hts hinX4 hown hK hP 0 rfl rfl 5 (by decide) (hts (Cond.fieldLink RX4 125 "LearnedShapes" "savedStates" "I") (List.mem_of_getElem? (i := 3) rfl)) (fun _ h9 => h9) rfl dX4_undo_42 ?_
            refine lv_iconst (v := (1 : Int32)) hx hb dX4_undo_45 (by decide) ?_
            refine lv_isub hx hb dX4_undo_46 ?_
            refine va_put (D := (dC, dI)) (ci := 4) (v := .int ((g_LS_savedStates S) - (1 : Int32))) (ty := .int) (C := RX4) (T := TX4) (N := 8) hx hb hts hinX4 tyX4 tyX4_ok nmX4 hown hK hP hD hS 0 rfl rfl 5 (by decide) (hts (Cond.fieldLink RX4 125 "LearnedShapes" "savedStates" "I") (List.mem_of_getElem? (i := 3) rfl)) (fun _ h9 => h9) rfl (by decide +kernel) (rfl) rfl (Nat.le_of_ble_eq_true rfl) dX4_undo_47 (fun H locs hP hD hS => ?_)
            have hP : va_P (dC, dI) vwCl (List.flatten [W_LS cI a (s_LS_savedStates (s_LS_now S u11) ((g_LS_savedStates S) - (1 : Int32))), W_Sav cS (a 13) [((q 0) 0), ((q 1) 0), ((q 2) 0), ((q 3) 0), ((q 4) 0), ((q 5) 0)], W_State cI (q 0) (Z 0), W_State cI (q 1) (Z 1), W_State cI (q 2) (Z 2), W_State cI (q 3) (Z 3), W_State cI (q 4) (Z 4), W_State cI (q 5) (Z 5)]) H := hP
            have hD : va_D A (List.flatten [W_LS cI a (s_LS_savedStates (s_LS_now S u11) ((g_LS_savedStates S) - (1 : Int32))), W_Sav cS (a 13) [((q 0) 0), ((q 1) 0), ((q 2) 0), ((q 3) 0), ((q 4) 0), ((q 5) 0)], W_State cI (q 0) (Z 0), W_State cI (q 1) (Z 1), W_State cI (q 2) (Z 2), W_State cI (q 3) (Z 3), W_State cI (q 4) (Z 4), W_State cI (q 5) (Z 5)]) := hD
            refine lv_aload_n hx hb dX4_undo_50 rfl (lv_at hl 1 rfl) ?_
            refine va_get (D := (dC, dI)) (ci := 4) (v := .int ((g_LS_savedStates S) - (1 : Int32))) (C := RX4) (T := TX4) (N := 8) hx hb hts hinX4 hown hK hP 0 rfl rfl 5 (by decide) (hts (Cond.fieldLink RX4 125 "LearnedShapes" "savedStates" "I") (List.mem_of_getElem? (i := 3) rfl)) (fun _ h9 => h9) rfl dX4_undo_51 ?_
            have hP : va_P (dC, dI) vwCl (W_Full cI cS a q (s_LS_savedStates (s_LS_now S u11) ((g_LS_savedStates S) - (1 : Int32))) Z) H := hP
            have hD : va_D A (W_Full cI cS a q (s_LS_savedStates (s_LS_now S u11) ((g_LS_savedStates S) - (1 : Int32))) Z) := hD
            cases hF
            refine vx_ret ?_
            refine W.widen (k := 1) (n := 6) (Nat.zero_le _) (Nat.zero_le _) ?_
            exact W.iret (v := ((g_LS_savedStates S) - (1 : Int32))) hx hb hr (fun t ht hW => ⟨⟨((g_LS_savedStates S) - (1 : Int32)), (s_LS_savedStates (s_LS_now S u11) ((g_LS_savedStates S) - (1 : Int32))), rfl, rfl, q, by rw [ht]; exact hP, va_K.moved hW.alike hK, hD⟩, hS.F ht⟩) hS.2.2 dX4_undo_54
        · have hF := F_neg c9 hF
          by_cases c13 : ((g_LS_savedStates S) - (1 : Int32)) = (3 : Int32)
          · have hF := F_pos c13 hF
            have hP : va_P (dC, dI) vwCl (W_Full cI cS a q S Z) H := hP
            have hD : va_D A (W_Full cI cS a q S Z) := hD
            have hPc := hP
            have hDc := hD
            have hFc := jFreeW (ws := (W_Full cI cS a q S Z)) hD hS hA
            refine va_callq (va_runV (As := [.int ((g_LS_savedStates S) - (1 : Int32))]) (rest := []) ⟨hx, hb, hml, hown, hts⟩ (c_X4_savedAt_3 l dC dI cI cS a q H.size _ _ _ c13) (cwV 1 hts gX4_undo_X4_savedAt rfl rfl rfl (by decide +kernel) ⟨Nat.le_of_ble_eq_true rfl, Nat.le_of_ble_eq_true rfl⟩) (jPreV hK hPc hDc hN (ci := 4) rfl rfl) rfl rfl hl.1 rfl (lv_room (Nat.le_of_ble_eq_true rfl)) dX4_undo_7 ⟨Nat.le_of_ble_eq_true rfl, Nat.le_of_ble_eq_true rfl⟩) hS (fun q _ h => hFc q h) hFc (fun r9 u9 t H locs ht hvm hw hB hz1 hk1 hS => ?_)
            subst hw
            obtain ⟨hP1, -, hD1⟩ := hB
            rw [ht] at hP1
            have hP : va_P (dC, dI) vwCl ((W_Full cI cS a q S Z)) H := hP1
            have hD : va_D A ((W_Full cI cS a q S Z)) := hD1.weaken (fun _ _ _ h => hFc _ h)
            have hP : va_P (dC, dI) vwCl (List.flatten [W_LS cI a S, W_Sav cS (a 13) [((q 0) 0), ((q 1) 0), ((q 2) 0), ((q 3) 0), ((q 4) 0), ((q 5) 0)], W_State cI (q 0) (Z 0), W_State cI (q 1) (Z 1), W_State cI (q 2) (Z 2), W_State cI (q 3) (Z 3), W_State cI (q 4) (Z 4), W_State cI (q 5) (Z 5)]) H := hP
            have hD : va_D A (List.flatten [W_LS cI a S, W_Sav cS (a 13) [((q 0) 0), ((q 1) 0), ((q 2) 0), ((q 3) 0), ((q 4) 0), ((q 5) 0)], W_State cI (q 0) (Z 0), W_State cI (q 1) (Z 1), W_State cI (q 2) (Z 2), W_State cI (q 3) (Z 3), W_State cI (q 4) (Z 4), W_State cI (q 5) (Z 5)]) := hD
            refine W.eq (g2 := F0 m 10 ls [.ref ((q 3) 0)]) rfl ?_
            refine lv_astore_n (lv' := [(1, .ref ((q 3) 0)), (0, .ref (a 0))]) hx hb dX4_undo_10 rfl hl (by decide) rfl (fun ls hl => ?_)
            refine lv_aload_n hx hb dX4_undo_11 rfl (lv_at hl 1 rfl) ?_
            refine va_get (D := (dC, dI)) (ci := 4) (v := .int (g_LS_savedStates S)) (C := RX4) (T := TX4) (N := 8) hx hb hts hinX4 hown hK hP 0 rfl rfl 5 (by decide) (hts (Cond.fieldLink RX4 125 "LearnedShapes" "savedStates" "I") (List.mem_of_getElem? (i := 3) rfl)) (fun _ h9 => h9) rfl dX4_undo_12 ?_
            refine lv_if_le (tgt := 22) hx hb dX4_undo_15 (by decide) (fun c14 => ?_) (fun c14 => ?_)
            · have hF := F_pos c14 hF
              have hP : va_P (dC, dI) vwCl (W_Full cI cS a q S Z) H := hP
              have hD : va_D A (W_Full cI cS a q S Z) := hD
              cases hF
              obtain ⟨sa, hsa⟩ := hN.2.1 _ (List.mem_of_getElem? (i := 14) rfl)
              exact vx_throwS (names := ["java/lang/RuntimeException", "java/lang/Exception"]) (cls := "java/lang/IllegalStateException") hx hb hl0 hown (by decide +kernel) (by decide +kernel) (hts (Cond.classLink RX4 81 "java/lang/IllegalStateException") (List.mem_of_getElem? (i := 1) rfl)) (hts (Cond.initialized "java/lang/IllegalStateException") (List.mem_of_getElem? (i := 2) rfl)) hsa (vx_hat (B := [Cond.castable "java/lang/IllegalStateException" "java/lang/IllegalStateException", Cond.declares ⟨"java/lang/RuntimeException", "<init>", "(Ljava/lang/String;)V"⟩, Cond.declares ⟨"java/lang/Exception", "<init>", "(Ljava/lang/String;)V"⟩, Cond.declares ⟨"java/lang/Throwable", "<init>", "(Ljava/lang/String;)V"⟩]) (fun w hw => hts w (List.mem_cons_of_mem _ (List.mem_append_right _ hw))) (by decide +kernel) (vx_c (va_Nw.use rfl (hN.1 _ (List.mem_of_getElem? (i := 13) rfl))) (vx_c (va_Nw.use rfl (hN.1 _ (List.mem_of_getElem? (i := 14) rfl))) (vx_c (va_Nw.use rfl (hN.1 _ (List.mem_of_getElem? (i := 15) rfl))) (vx_c (va_Nw.use rfl (hN.1 _ (List.mem_of_getElem? (i := 16) rfl))) vx_n))))) (by decide +kernel) hU hSN hS (hl.1.trans hml.symm) dX4_undo_22 dX4_undo_25 dX4_undo_26 dX4_undo_28 dX4_undo_31 (fun x hx => (hex x hx).elim) (Nat.le_of_ble_eq_true rfl) (Nat.le_of_ble_eq_true rfl) (Nat.le_of_ble_eq_true rfl) (Nat.le_of_ble_eq_true rfl) hlocks (fun t ha hz hk => ⟨S, trivial, ⟨rfl, q, jKeep hP hk, va_K.moved ha hK, hD⟩, jF hS hz hk⟩) hS.2.2 (Nat.le_of_ble_eq_true rfl) (Nat.le_of_ble_eq_true rfl)
            · have hF := F_neg c14 hF
              refine lv_aload_n hx hb dX4_undo_18 rfl (lv_at hl 0 rfl) ?_
              refine lv_ifnonnull (tgt := 32) hx hb dX4_undo_19 (by decide) ?_
              refine lv_aload_n hx hb dX4_undo_32 rfl (lv_at hl 1 rfl) ?_
              refine va_get (D := (dC, dI)) (ci := 4) (v := .ref (a 5)) (C := RX4) (T := TX4) (N := 8) hx hb hts hinX4 hown hK hP 0 rfl rfl 3 (by decide) (hts (Cond.fieldLink RX4 23 "LearnedShapes" "now" "LLearnedShapes$State;") (List.mem_of_getElem? (i := 4) rfl)) (fun _ h9 => h9) rfl dX4_undo_33 ?_
              refine lv_aload_n hx hb dX4_undo_36 rfl (lv_at hl 0 rfl) ?_
              obtain ⟨u15, h16, hF⟩ := ob1_some hF
              obtain ⟨hP, hD⟩ := jBlk (bs := [W_LS cI a S, W_Sav cS (a 13) [((q 0) 0), ((q 1) 0), ((q 2) 0), ((q 3) 0), ((q 4) 0), ((q 5) 0)], W_State cI (q 0) (Z 0), W_State cI (q 1) (Z 1), W_State cI (q 2) (Z 2), W_State cI (q 3) (Z 3), W_State cI (q 4) (Z 4), W_State cI (q 5) (Z 5)]) (bs' := [W_LS cI a S, W_State cI (q 3) (Z 3), W_Sav cS (a 13) [((q 0) 0), ((q 1) 0), ((q 2) 0), ((q 3) 0), ((q 4) 0), ((q 5) 0)], W_State cI (q 0) (Z 0), W_State cI (q 1) (Z 1), W_State cI (q 2) (Z 2), W_State cI (q 4) (Z 4), W_State cI (q 5) (Z 5)]) hP hD [0, 5, 1, 2, 3, 4, 6, 7] rfl rfl
              have hPc := hP.sub (ws' := (W_State cI (sh a 5) (g_LS_now S)) ++ (W_State cI (q 3) (Z 3))) [5, 6, 7, 8, 9, 13, 14, 15, 16, 17] rfl
              have hDc := hD.sub (ws' := (W_State cI (sh a 5) (g_LS_now S)) ++ (W_State cI (q 3) (Z 3))) [5, 6, 7, 8, 9, 13, 14, 15, 16, 17] (by decide) rfl
              have hFc := va_free (wc := (W_State cI (sh a 5) (g_LS_now S)) ++ (W_State cI (q 3) (Z 3))) hD hS hA [5, 6, 7, 8, 9, 13, 14, 15, 16, 17] rfl
              refine va_callv (va_runV (As := [.ref ((q 3) 0)]) (rest := []) ⟨hx, hb, hml, hown, hts⟩ (c_X2_copyFrom l dC dI cI (sh a 5) (q 3) H.size _ _ _ h16) (cwV 1 hts gX4_undo_X2_copyFrom rfl rfl rfl (by decide +kernel) ⟨Nat.le_of_ble_eq_true rfl, Nat.le_of_ble_eq_true rfl⟩) (jPreV hKi hPc hDc hN (ci := 2) rfl rfl) rfl rfl hl.1 rfl (lv_room (Nat.le_of_ble_eq_true rfl)) dX4_undo_37 ⟨Nat.le_of_ble_eq_true rfl, Nat.le_of_ble_eq_true rfl⟩) hS (fun q _ h => hFc q h) hFc (fun u' t H locs ht hvm hw hB hz1 hk1 hS => ?_)
              subst hw
              obtain ⟨hP1, -, hD1⟩ := hB
              rw [ht] at hP1
              obtain ⟨hP, hD⟩ := jJoinF (wa := (W_LS cI a S) ++ (W_State cI (q 3) (Z 3))) (wb := List.flatten [W_Sav cS (a 13) [((q 0) 0), ((q 1) 0), ((q 2) 0), ((q 3) 0), ((q 4) 0), ((q 5) 0)], W_State cI (q 0) (Z 0), W_State cI (q 1) (Z 1), W_State cI (q 2) (Z 2), W_State cI (q 4) (Z 4), W_State cI (q 5) (Z 5)]) (wc := (W_State cI (sh a 5) (g_LS_now S)) ++ (W_State cI (q 3) (Z 3))) (w1 := (W_State cI (sh a 5) u15) ++ (W_State cI (q 3) (Z 3))) (ws' := (W_LS cI a (s_LS_now S u15)) ++ (W_State cI (q 3) (Z 3))) hP hD [5, 6, 7, 8, 9, 13, 14, 15, 16, 17] [0, 1, 2, 3, 4, 10, 11, 12] [0, 1, 2, 3, 4, 8, 9, 10, 11, 12, 5, 6, 7, 13, 14, 15, 16, 17] rfl rfl (by decide) (by decide) hk1 hFc hP1 hD1 (by decide) rfl
              obtain ⟨hP, hD⟩ := jBlk (bs := [W_LS cI a (s_LS_now S u15), W_State cI (q 3) (Z 3), W_Sav cS (a 13) [((q 0) 0), ((q 1) 0), ((q 2) 0), ((q 3) 0), ((q 4) 0), ((q 5) 0)], W_State cI (q 0) (Z 0), W_State cI (q 1) (Z 1), W_State cI (q 2) (Z 2), W_State cI (q 4) (Z 4), W_State cI (q 5) (Z 5)]) (bs' := [W_LS cI a (s_LS_now S u15), W_Sav cS (a 13) [((q 0) 0), ((q 1) 0), ((q 2) 0), ((q 3) 0), ((q 4) 0), ((q 5) 0)], W_State cI (q 0) (Z 0), W_State cI (q 1) (Z 1), W_State cI (q 2) (Z 2), W_State cI (q 3) (Z 3), W_State cI (q 4) (Z 4), W_State cI (q 5) (Z 5)]) hP hD [0, 2, 3, 4, 5, 1, 6, 7] rfl rfl
              have hP : va_P (dC, dI) vwCl (List.flatten [W_LS cI a (s_LS_now S u15), W_Sav cS (a 13) [((q 0) 0), ((q 1) 0), ((q 2) 0), ((q 3) 0), ((q 4) 0), ((q 5) 0)], W_State cI (q 0) (Z 0), W_State cI (q 1) (Z 1), W_State cI (q 2) (Z 2), W_State cI (q 3) (Z 3), W_State cI (q 4) (Z 4), W_State cI (q 5) (Z 5)]) H := hP
              have hD : va_D A (List.flatten [W_LS cI a (s_LS_now S u15), W_Sav cS (a 13) [((q 0) 0), ((q 1) 0), ((q 2) 0), ((q 3) 0), ((q 4) 0), ((q 5) 0)], W_State cI (q 0) (Z 0), W_State cI (q 1) (Z 1), W_State cI (q 2) (Z 2), W_State cI (q 3) (Z 3), W_State cI (q 4) (Z 4), W_State cI (q 5) (Z 5)]) := hD
              refine lv_aload_n hx hb dX4_undo_40 rfl (lv_at hl 1 rfl) ?_
              refine lv_dup hx hb dX4_undo_41 rfl ?_
              refine va_get (D := (dC, dI)) (ci := 4) (v := .int (g_LS_savedStates S)) (C := RX4) (T := TX4) (N := 8) hx hb hts hinX4 hown hK hP 0 rfl rfl 5 (by decide) (hts (Cond.fieldLink RX4 125 "LearnedShapes" "savedStates" "I") (List.mem_of_getElem? (i := 3) rfl)) (fun _ h9 => h9) rfl dX4_undo_42 ?_
              refine lv_iconst (v := (1 : Int32)) hx hb dX4_undo_45 (by decide) ?_
              refine lv_isub hx hb dX4_undo_46 ?_
              refine va_put (D := (dC, dI)) (ci := 4) (v := .int ((g_LS_savedStates S) - (1 : Int32))) (ty := .int) (C := RX4) (T := TX4) (N := 8) hx hb hts hinX4 tyX4 tyX4_ok nmX4 hown hK hP hD hS 0 rfl rfl 5 (by decide) (hts (Cond.fieldLink RX4 125 "LearnedShapes" "savedStates" "I") (List.mem_of_getElem? (i := 3) rfl)) (fun _ h9 => h9) rfl (by decide +kernel) (rfl) rfl (Nat.le_of_ble_eq_true rfl) dX4_undo_47 (fun H locs hP hD hS => ?_)
              have hP : va_P (dC, dI) vwCl (List.flatten [W_LS cI a (s_LS_savedStates (s_LS_now S u15) ((g_LS_savedStates S) - (1 : Int32))), W_Sav cS (a 13) [((q 0) 0), ((q 1) 0), ((q 2) 0), ((q 3) 0), ((q 4) 0), ((q 5) 0)], W_State cI (q 0) (Z 0), W_State cI (q 1) (Z 1), W_State cI (q 2) (Z 2), W_State cI (q 3) (Z 3), W_State cI (q 4) (Z 4), W_State cI (q 5) (Z 5)]) H := hP
              have hD : va_D A (List.flatten [W_LS cI a (s_LS_savedStates (s_LS_now S u15) ((g_LS_savedStates S) - (1 : Int32))), W_Sav cS (a 13) [((q 0) 0), ((q 1) 0), ((q 2) 0), ((q 3) 0), ((q 4) 0), ((q 5) 0)], W_State cI (q 0) (Z 0), W_State cI (q 1) (Z 1), W_State cI (q 2) (Z 2), W_State cI (q 3) (Z 3), W_State cI (q 4) (Z 4), W_State cI (q 5) (Z 5)]) := hD
              refine lv_aload_n hx hb dX4_undo_50 rfl (lv_at hl 1 rfl) ?_
              refine va_get (D := (dC, dI)) (ci := 4) (v := .int ((g_LS_savedStates S) - (1 : Int32))) (C := RX4) (T := TX4) (N := 8) hx hb hts hinX4 hown hK hP 0 rfl rfl 5 (by decide) (hts (Cond.fieldLink RX4 125 "LearnedShapes" "savedStates" "I") (List.mem_of_getElem? (i := 3) rfl)) (fun _ h9 => h9) rfl dX4_undo_51 ?_
              have hP : va_P (dC, dI) vwCl (W_Full cI cS a q (s_LS_savedStates (s_LS_now S u15) ((g_LS_savedStates S) - (1 : Int32))) Z) H := hP
              have hD : va_D A (W_Full cI cS a q (s_LS_savedStates (s_LS_now S u15) ((g_LS_savedStates S) - (1 : Int32))) Z) := hD
              cases hF
              refine vx_ret ?_
              refine W.widen (k := 1) (n := 6) (Nat.zero_le _) (Nat.zero_le _) ?_
              exact W.iret (v := ((g_LS_savedStates S) - (1 : Int32))) hx hb hr (fun t ht hW => ⟨⟨((g_LS_savedStates S) - (1 : Int32)), (s_LS_savedStates (s_LS_now S u15) ((g_LS_savedStates S) - (1 : Int32))), rfl, rfl, q, by rw [ht]; exact hP, va_K.moved hW.alike hK, hD⟩, hS.F ht⟩) hS.2.2 dX4_undo_54
          · have hF := F_neg c13 hF
            by_cases c17 : ((g_LS_savedStates S) - (1 : Int32)) = (4 : Int32)
            · have hF := F_pos c17 hF
              have hP : va_P (dC, dI) vwCl (W_Full cI cS a q S Z) H := hP
              have hD : va_D A (W_Full cI cS a q S Z) := hD
              have hPc := hP
              have hDc := hD
              have hFc := jFreeW (ws := (W_Full cI cS a q S Z)) hD hS hA
              refine va_callq (va_runV (As := [.int ((g_LS_savedStates S) - (1 : Int32))]) (rest := []) ⟨hx, hb, hml, hown, hts⟩ (c_X4_savedAt_4 l dC dI cI cS a q H.size _ _ _ c17) (cwV 1 hts gX4_undo_X4_savedAt rfl rfl rfl (by decide +kernel) ⟨Nat.le_of_ble_eq_true rfl, Nat.le_of_ble_eq_true rfl⟩) (jPreV hK hPc hDc hN (ci := 4) rfl rfl) rfl rfl hl.1 rfl (lv_room (Nat.le_of_ble_eq_true rfl)) dX4_undo_7 ⟨Nat.le_of_ble_eq_true rfl, Nat.le_of_ble_eq_true rfl⟩) hS (fun q _ h => hFc q h) hFc (fun r9 u9 t H locs ht hvm hw hB hz1 hk1 hS => ?_)
              subst hw
              obtain ⟨hP1, -, hD1⟩ := hB
              rw [ht] at hP1
              have hP : va_P (dC, dI) vwCl ((W_Full cI cS a q S Z)) H := hP1
              have hD : va_D A ((W_Full cI cS a q S Z)) := hD1.weaken (fun _ _ _ h => hFc _ h)
              have hP : va_P (dC, dI) vwCl (List.flatten [W_LS cI a S, W_Sav cS (a 13) [((q 0) 0), ((q 1) 0), ((q 2) 0), ((q 3) 0), ((q 4) 0), ((q 5) 0)], W_State cI (q 0) (Z 0), W_State cI (q 1) (Z 1), W_State cI (q 2) (Z 2), W_State cI (q 3) (Z 3), W_State cI (q 4) (Z 4), W_State cI (q 5) (Z 5)]) H := hP
              have hD : va_D A (List.flatten [W_LS cI a S, W_Sav cS (a 13) [((q 0) 0), ((q 1) 0), ((q 2) 0), ((q 3) 0), ((q 4) 0), ((q 5) 0)], W_State cI (q 0) (Z 0), W_State cI (q 1) (Z 1), W_State cI (q 2) (Z 2), W_State cI (q 3) (Z 3), W_State cI (q 4) (Z 4), W_State cI (q 5) (Z 5)]) := hD
              refine W.eq (g2 := F0 m 10 ls [.ref ((q 4) 0)]) rfl ?_
              refine lv_astore_n (lv' := [(1, .ref ((q 4) 0)), (0, .ref (a 0))]) hx hb dX4_undo_10 rfl hl (by decide) rfl (fun ls hl => ?_)
              refine lv_aload_n hx hb dX4_undo_11 rfl (lv_at hl 1 rfl) ?_
              refine va_get (D := (dC, dI)) (ci := 4) (v := .int (g_LS_savedStates S)) (C := RX4) (T := TX4) (N := 8) hx hb hts hinX4 hown hK hP 0 rfl rfl 5 (by decide) (hts (Cond.fieldLink RX4 125 "LearnedShapes" "savedStates" "I") (List.mem_of_getElem? (i := 3) rfl)) (fun _ h9 => h9) rfl dX4_undo_12 ?_
              refine lv_if_le (tgt := 22) hx hb dX4_undo_15 (by decide) (fun c18 => ?_) (fun c18 => ?_)
              · have hF := F_pos c18 hF
                have hP : va_P (dC, dI) vwCl (W_Full cI cS a q S Z) H := hP
                have hD : va_D A (W_Full cI cS a q S Z) := hD
                cases hF
                obtain ⟨sa, hsa⟩ := hN.2.1 _ (List.mem_of_getElem? (i := 14) rfl)
                exact vx_throwS (names := ["java/lang/RuntimeException", "java/lang/Exception"]) (cls := "java/lang/IllegalStateException") hx hb hl0 hown (by decide +kernel) (by decide +kernel) (hts (Cond.classLink RX4 81 "java/lang/IllegalStateException") (List.mem_of_getElem? (i := 1) rfl)) (hts (Cond.initialized "java/lang/IllegalStateException") (List.mem_of_getElem? (i := 2) rfl)) hsa (vx_hat (B := [Cond.castable "java/lang/IllegalStateException" "java/lang/IllegalStateException", Cond.declares ⟨"java/lang/RuntimeException", "<init>", "(Ljava/lang/String;)V"⟩, Cond.declares ⟨"java/lang/Exception", "<init>", "(Ljava/lang/String;)V"⟩, Cond.declares ⟨"java/lang/Throwable", "<init>", "(Ljava/lang/String;)V"⟩]) (fun w hw => hts w (List.mem_cons_of_mem _ (List.mem_append_right _ hw))) (by decide +kernel) (vx_c (va_Nw.use rfl (hN.1 _ (List.mem_of_getElem? (i := 13) rfl))) (vx_c (va_Nw.use rfl (hN.1 _ (List.mem_of_getElem? (i := 14) rfl))) (vx_c (va_Nw.use rfl (hN.1 _ (List.mem_of_getElem? (i := 15) rfl))) (vx_c (va_Nw.use rfl (hN.1 _ (List.mem_of_getElem? (i := 16) rfl))) vx_n))))) (by decide +kernel) hU hSN hS (hl.1.trans hml.symm) dX4_undo_22 dX4_undo_25 dX4_undo_26 dX4_undo_28 dX4_undo_31 (fun x hx => (hex x hx).elim) (Nat.le_of_ble_eq_true rfl) (Nat.le_of_ble_eq_true rfl) (Nat.le_of_ble_eq_true rfl) (Nat.le_of_ble_eq_true rfl) hlocks (fun t ha hz hk => ⟨S, trivial, ⟨rfl, q, jKeep hP hk, va_K.moved ha hK, hD⟩, jF hS hz hk⟩) hS.2.2 (Nat.le_of_ble_eq_true rfl) (Nat.le_of_ble_eq_true rfl)
              · have hF := F_neg c18 hF
                refine lv_aload_n hx hb dX4_undo_18 rfl (lv_at hl 0 rfl) ?_
                refine lv_ifnonnull (tgt := 32) hx hb dX4_undo_19 (by decide) ?_
                refine lv_aload_n hx hb dX4_undo_32 rfl (lv_at hl 1 rfl) ?_
                refine va_get (D := (dC, dI)) (ci := 4) (v := .ref (a 5)) (C := RX4) (T := TX4) (N := 8) hx hb hts hinX4 hown hK hP 0 rfl rfl 3 (by decide) (hts (Cond.fieldLink RX4 23 "LearnedShapes" "now" "LLearnedShapes$State;") (List.mem_of_getElem? (i := 4) rfl)) (fun _ h9 => h9) rfl dX4_undo_33 ?_
                refine lv_aload_n hx hb dX4_undo_36 rfl (lv_at hl 0 rfl) ?_
                obtain ⟨u19, h20, hF⟩ := ob1_some hF
                obtain ⟨hP, hD⟩ := jBlk (bs := [W_LS cI a S, W_Sav cS (a 13) [((q 0) 0), ((q 1) 0), ((q 2) 0), ((q 3) 0), ((q 4) 0), ((q 5) 0)], W_State cI (q 0) (Z 0), W_State cI (q 1) (Z 1), W_State cI (q 2) (Z 2), W_State cI (q 3) (Z 3), W_State cI (q 4) (Z 4), W_State cI (q 5) (Z 5)]) (bs' := [W_LS cI a S, W_State cI (q 4) (Z 4), W_Sav cS (a 13) [((q 0) 0), ((q 1) 0), ((q 2) 0), ((q 3) 0), ((q 4) 0), ((q 5) 0)], W_State cI (q 0) (Z 0), W_State cI (q 1) (Z 1), W_State cI (q 2) (Z 2), W_State cI (q 3) (Z 3), W_State cI (q 5) (Z 5)]) hP hD [0, 6, 1, 2, 3, 4, 5, 7] rfl rfl
                have hPc := hP.sub (ws' := (W_State cI (sh a 5) (g_LS_now S)) ++ (W_State cI (q 4) (Z 4))) [5, 6, 7, 8, 9, 13, 14, 15, 16, 17] rfl
                have hDc := hD.sub (ws' := (W_State cI (sh a 5) (g_LS_now S)) ++ (W_State cI (q 4) (Z 4))) [5, 6, 7, 8, 9, 13, 14, 15, 16, 17] (by decide) rfl
                have hFc := va_free (wc := (W_State cI (sh a 5) (g_LS_now S)) ++ (W_State cI (q 4) (Z 4))) hD hS hA [5, 6, 7, 8, 9, 13, 14, 15, 16, 17] rfl
                refine va_callv (va_runV (As := [.ref ((q 4) 0)]) (rest := []) ⟨hx, hb, hml, hown, hts⟩ (c_X2_copyFrom l dC dI cI (sh a 5) (q 4) H.size _ _ _ h20) (cwV 1 hts gX4_undo_X2_copyFrom rfl rfl rfl (by decide +kernel) ⟨Nat.le_of_ble_eq_true rfl, Nat.le_of_ble_eq_true rfl⟩) (jPreV hKi hPc hDc hN (ci := 2) rfl rfl) rfl rfl hl.1 rfl (lv_room (Nat.le_of_ble_eq_true rfl)) dX4_undo_37 ⟨Nat.le_of_ble_eq_true rfl, Nat.le_of_ble_eq_true rfl⟩) hS (fun q _ h => hFc q h) hFc (fun u' t H locs ht hvm hw hB hz1 hk1 hS => ?_)
                subst hw
                obtain ⟨hP1, -, hD1⟩ := hB
                rw [ht] at hP1
                obtain ⟨hP, hD⟩ := jJoinF (wa := (W_LS cI a S) ++ (W_State cI (q 4) (Z 4))) (wb := List.flatten [W_Sav cS (a 13) [((q 0) 0), ((q 1) 0), ((q 2) 0), ((q 3) 0), ((q 4) 0), ((q 5) 0)], W_State cI (q 0) (Z 0), W_State cI (q 1) (Z 1), W_State cI (q 2) (Z 2), W_State cI (q 3) (Z 3), W_State cI (q 5) (Z 5)]) (wc := (W_State cI (sh a 5) (g_LS_now S)) ++ (W_State cI (q 4) (Z 4))) (w1 := (W_State cI (sh a 5) u19) ++ (W_State cI (q 4) (Z 4))) (ws' := (W_LS cI a (s_LS_now S u19)) ++ (W_State cI (q 4) (Z 4))) hP hD [5, 6, 7, 8, 9, 13, 14, 15, 16, 17] [0, 1, 2, 3, 4, 10, 11, 12] [0, 1, 2, 3, 4, 8, 9, 10, 11, 12, 5, 6, 7, 13, 14, 15, 16, 17] rfl rfl (by decide) (by decide) hk1 hFc hP1 hD1 (by decide) rfl
                obtain ⟨hP, hD⟩ := jBlk (bs := [W_LS cI a (s_LS_now S u19), W_State cI (q 4) (Z 4), W_Sav cS (a 13) [((q 0) 0), ((q 1) 0), ((q 2) 0), ((q 3) 0), ((q 4) 0), ((q 5) 0)], W_State cI (q 0) (Z 0), W_State cI (q 1) (Z 1), W_State cI (q 2) (Z 2), W_State cI (q 3) (Z 3), W_State cI (q 5) (Z 5)]) (bs' := [W_LS cI a (s_LS_now S u19), W_Sav cS (a 13) [((q 0) 0), ((q 1) 0), ((q 2) 0), ((q 3) 0), ((q 4) 0), ((q 5) 0)], W_State cI (q 0) (Z 0), W_State cI (q 1) (Z 1), W_State cI (q 2) (Z 2), W_State cI (q 3) (Z 3), W_State cI (q 4) (Z 4), W_State cI (q 5) (Z 5)]) hP hD [0, 2, 3, 4, 5, 6, 1, 7] rfl rfl
                have hP : va_P (dC, dI) vwCl (List.flatten [W_LS cI a (s_LS_now S u19), W_Sav cS (a 13) [((q 0) 0), ((q 1) 0), ((q 2) 0), ((q 3) 0), ((q 4) 0), ((q 5) 0)], W_State cI (q 0) (Z 0), W_State cI (q 1) (Z 1), W_State cI (q 2) (Z 2), W_State cI (q 3) (Z 3), W_State cI (q 4) (Z 4), W_State cI (q 5) (Z 5)]) H := hP
                have hD : va_D A (List.flatten [W_LS cI a (s_LS_now S u19), W_Sav cS (a 13) [((q 0) 0), ((q 1) 0), ((q 2) 0), ((q 3) 0), ((q 4) 0), ((q 5) 0)], W_State cI (q 0) (Z 0), W_State cI (q 1) (Z 1), W_State cI (q 2) (Z 2), W_State cI (q 3) (Z 3), W_State cI (q 4) (Z 4), W_State cI (q 5) (Z 5)]) := hD
                refine lv_aload_n hx hb dX4_undo_40 rfl (lv_at hl 1 rfl) ?_
                refine lv_dup hx hb dX4_undo_41 rfl ?_
                refine va_get (D := (dC, dI)) (ci := 4) (v := .int (g_LS_savedStates S)) (C := RX4) (T := TX4) (N := 8) hx hb hts hinX4 hown hK hP 0 rfl rfl 5 (by decide) (hts (Cond.fieldLink RX4 125 "LearnedShapes" "savedStates" "I") (List.mem_of_getElem? (i := 3) rfl)) (fun _ h9 => h9) rfl dX4_undo_42 ?_
                refine lv_iconst (v := (1 : Int32)) hx hb dX4_undo_45 (by decide) ?_
                refine lv_isub hx hb dX4_undo_46 ?_
                refine va_put (D := (dC, dI)) (ci := 4) (v := .int ((g_LS_savedStates S) - (1 : Int32))) (ty := .int) (C := RX4) (T := TX4) (N := 8) hx hb hts hinX4 tyX4 tyX4_ok nmX4 hown hK hP hD hS 0 rfl rfl 5 (by decide) (hts (Cond.fieldLink RX4 125 "LearnedShapes" "savedStates" "I") (List.mem_of_getElem? (i := 3) rfl)) (fun _ h9 => h9) rfl (by decide +kernel) (rfl) rfl (Nat.le_of_ble_eq_true rfl) dX4_undo_47 (fun H locs hP hD hS => ?_)
                have hP : va_P (dC, dI) vwCl (List.flatten [W_LS cI a (s_LS_savedStates (s_LS_now S u19) ((g_LS_savedStates S) - (1 : Int32))), W_Sav cS (a 13) [((q 0) 0), ((q 1) 0), ((q 2) 0), ((q 3) 0), ((q 4) 0), ((q 5) 0)], W_State cI (q 0) (Z 0), W_State cI (q 1) (Z 1), W_State cI (q 2) (Z 2), W_State cI (q 3) (Z 3), W_State cI (q 4) (Z 4), W_State cI (q 5) (Z 5)]) H := hP
                have hD : va_D A (List.flatten [W_LS cI a (s_LS_savedStates (s_LS_now S u19) ((g_LS_savedStates S) - (1 : Int32))), W_Sav cS (a 13) [((q 0) 0), ((q 1) 0), ((q 2) 0), ((q 3) 0), ((q 4) 0), ((q 5) 0)], W_State cI (q 0) (Z 0), W_State cI (q 1) (Z 1), W_State cI (q 2) (Z 2), W_State cI (q 3) (Z 3), W_State cI (q 4) (Z 4), W_State cI (q 5) (Z 5)]) := hD
                refine lv_aload_n hx hb dX4_undo_50 rfl (lv_at hl 1 rfl) ?_
                refine va_get (D := (dC, dI)) (ci := 4) (v := .int ((g_LS_savedStates S) - (1 : Int32))) (C := RX4) (T := TX4) (N := 8) hx hb hts hinX4 hown hK hP 0 rfl rfl 5 (by decide) (hts (Cond.fieldLink RX4 125 "LearnedShapes" "savedStates" "I") (List.mem_of_getElem? (i := 3) rfl)) (fun _ h9 => h9) rfl dX4_undo_51 ?_
                have hP : va_P (dC, dI) vwCl (W_Full cI cS a q (s_LS_savedStates (s_LS_now S u19) ((g_LS_savedStates S) - (1 : Int32))) Z) H := hP
                have hD : va_D A (W_Full cI cS a q (s_LS_savedStates (s_LS_now S u19) ((g_LS_savedStates S) - (1 : Int32))) Z) := hD
                cases hF
                refine vx_ret ?_
                refine W.widen (k := 1) (n := 6) (Nat.zero_le _) (Nat.zero_le _) ?_
                exact W.iret (v := ((g_LS_savedStates S) - (1 : Int32))) hx hb hr (fun t ht hW => ⟨⟨((g_LS_savedStates S) - (1 : Int32)), (s_LS_savedStates (s_LS_now S u19) ((g_LS_savedStates S) - (1 : Int32))), rfl, rfl, q, by rw [ht]; exact hP, va_K.moved hW.alike hK, hD⟩, hS.F ht⟩) hS.2.2 dX4_undo_54
            · have hF := F_neg c17 hF
              by_cases c21 : ((g_LS_savedStates S) - (1 : Int32)) = (5 : Int32)
              · have hF := F_pos c21 hF
                have hP : va_P (dC, dI) vwCl (W_Full cI cS a q S Z) H := hP
                have hD : va_D A (W_Full cI cS a q S Z) := hD
                have hPc := hP
                have hDc := hD
                have hFc := jFreeW (ws := (W_Full cI cS a q S Z)) hD hS hA
                refine va_callq (va_runV (As := [.int ((g_LS_savedStates S) - (1 : Int32))]) (rest := []) ⟨hx, hb, hml, hown, hts⟩ (c_X4_savedAt_5 l dC dI cI cS a q H.size _ _ _ c21) (cwV 1 hts gX4_undo_X4_savedAt rfl rfl rfl (by decide +kernel) ⟨Nat.le_of_ble_eq_true rfl, Nat.le_of_ble_eq_true rfl⟩) (jPreV hK hPc hDc hN (ci := 4) rfl rfl) rfl rfl hl.1 rfl (lv_room (Nat.le_of_ble_eq_true rfl)) dX4_undo_7 ⟨Nat.le_of_ble_eq_true rfl, Nat.le_of_ble_eq_true rfl⟩) hS (fun q _ h => hFc q h) hFc (fun r9 u9 t H locs ht hvm hw hB hz1 hk1 hS => ?_)
                subst hw
                obtain ⟨hP1, -, hD1⟩ := hB
                rw [ht] at hP1
                have hP : va_P (dC, dI) vwCl ((W_Full cI cS a q S Z)) H := hP1
                have hD : va_D A ((W_Full cI cS a q S Z)) := hD1.weaken (fun _ _ _ h => hFc _ h)
                have hP : va_P (dC, dI) vwCl (List.flatten [W_LS cI a S, W_Sav cS (a 13) [((q 0) 0), ((q 1) 0), ((q 2) 0), ((q 3) 0), ((q 4) 0), ((q 5) 0)], W_State cI (q 0) (Z 0), W_State cI (q 1) (Z 1), W_State cI (q 2) (Z 2), W_State cI (q 3) (Z 3), W_State cI (q 4) (Z 4), W_State cI (q 5) (Z 5)]) H := hP
                have hD : va_D A (List.flatten [W_LS cI a S, W_Sav cS (a 13) [((q 0) 0), ((q 1) 0), ((q 2) 0), ((q 3) 0), ((q 4) 0), ((q 5) 0)], W_State cI (q 0) (Z 0), W_State cI (q 1) (Z 1), W_State cI (q 2) (Z 2), W_State cI (q 3) (Z 3), W_State cI (q 4) (Z 4), W_State cI (q 5) (Z 5)]) := hD
                refine W.eq (g2 := F0 m 10 ls [.ref ((q 5) 0)]) rfl ?_
                refine lv_astore_n (lv' := [(1, .ref ((q 5) 0)), (0, .ref (a 0))]) hx hb dX4_undo_10 rfl hl (by decide) rfl (fun ls hl => ?_)
                refine lv_aload_n hx hb dX4_undo_11 rfl (lv_at hl 1 rfl) ?_
                refine va_get (D := (dC, dI)) (ci := 4) (v := .int (g_LS_savedStates S)) (C := RX4) (T := TX4) (N := 8) hx hb hts hinX4 hown hK hP 0 rfl rfl 5 (by decide) (hts (Cond.fieldLink RX4 125 "LearnedShapes" "savedStates" "I") (List.mem_of_getElem? (i := 3) rfl)) (fun _ h9 => h9) rfl dX4_undo_12 ?_
                refine lv_if_le (tgt := 22) hx hb dX4_undo_15 (by decide) (fun c22 => ?_) (fun c22 => ?_)
                · have hF := F_pos c22 hF
                  have hP : va_P (dC, dI) vwCl (W_Full cI cS a q S Z) H := hP
                  have hD : va_D A (W_Full cI cS a q S Z) := hD
                  cases hF
                  obtain ⟨sa, hsa⟩ := hN.2.1 _ (List.mem_of_getElem? (i := 14) rfl)
                  exact vx_throwS (names := ["java/lang/RuntimeException", "java/lang/Exception"]) (cls := "java/lang/IllegalStateException") hx hb hl0 hown (by decide +kernel) (by decide +kernel) (hts (Cond.classLink RX4 81 "java/lang/IllegalStateException") (List.mem_of_getElem? (i := 1) rfl)) (hts (Cond.initialized "java/lang/IllegalStateException") (List.mem_of_getElem? (i := 2) rfl)) hsa (vx_hat (B := [Cond.castable "java/lang/IllegalStateException" "java/lang/IllegalStateException", Cond.declares ⟨"java/lang/RuntimeException", "<init>", "(Ljava/lang/String;)V"⟩, Cond.declares ⟨"java/lang/Exception", "<init>", "(Ljava/lang/String;)V"⟩, Cond.declares ⟨"java/lang/Throwable", "<init>", "(Ljava/lang/String;)V"⟩]) (fun w hw => hts w (List.mem_cons_of_mem _ (List.mem_append_right _ hw))) (by decide +kernel) (vx_c (va_Nw.use rfl (hN.1 _ (List.mem_of_getElem? (i := 13) rfl))) (vx_c (va_Nw.use rfl (hN.1 _ (List.mem_of_getElem? (i := 14) rfl))) (vx_c (va_Nw.use rfl (hN.1 _ (List.mem_of_getElem? (i := 15) rfl))) (vx_c (va_Nw.use rfl (hN.1 _ (List.mem_of_getElem? (i := 16) rfl))) vx_n))))) (by decide +kernel) hU hSN hS (hl.1.trans hml.symm) dX4_undo_22 dX4_undo_25 dX4_undo_26 dX4_undo_28 dX4_undo_31 (fun x hx => (hex x hx).elim) (Nat.le_of_ble_eq_true rfl) (Nat.le_of_ble_eq_true rfl) (Nat.le_of_ble_eq_true rfl) (Nat.le_of_ble_eq_true rfl) hlocks (fun t ha hz hk => ⟨S, trivial, ⟨rfl, q, jKeep hP hk, va_K.moved ha hK, hD⟩, jF hS hz hk⟩) hS.2.2 (Nat.le_of_ble_eq_true rfl) (Nat.le_of_ble_eq_true rfl)
                · have hF := F_neg c22 hF
                  refine lv_aload_n hx hb dX4_undo_18 rfl (lv_at hl 0 rfl) ?_
                  refine lv_ifnonnull (tgt := 32) hx hb dX4_undo_19 (by decide) ?_
                  refine lv_aload_n hx hb dX4_undo_32 rfl (lv_at hl 1 rfl) ?_
                  refine va_get (D := (dC, dI)) (ci := 4) (v := .ref (a 5)) (C := RX4) (T := TX4) (N := 8) hx hb hts hinX4 hown hK hP 0 rfl rfl 3 (by decide) (hts (Cond.fieldLink RX4 23 "LearnedShapes" "now" "LLearnedShapes$State;") (List.mem_of_getElem? (i := 4) rfl)) (fun _ h9 => h9) rfl dX4_undo_33 ?_
                  refine lv_aload_n hx hb dX4_undo_36 rfl (lv_at hl 0 rfl) ?_
                  obtain ⟨u23, h24, hF⟩ := ob1_some hF
                  obtain ⟨hP, hD⟩ := jBlk (bs := [W_LS cI a S, W_Sav cS (a 13) [((q 0) 0), ((q 1) 0), ((q 2) 0), ((q 3) 0), ((q 4) 0), ((q 5) 0)], W_State cI (q 0) (Z 0), W_State cI (q 1) (Z 1), W_State cI (q 2) (Z 2), W_State cI (q 3) (Z 3), W_State cI (q 4) (Z 4), W_State cI (q 5) (Z 5)]) (bs' := [W_LS cI a S, W_State cI (q 5) (Z 5), W_Sav cS (a 13) [((q 0) 0), ((q 1) 0), ((q 2) 0), ((q 3) 0), ((q 4) 0), ((q 5) 0)], W_State cI (q 0) (Z 0), W_State cI (q 1) (Z 1), W_State cI (q 2) (Z 2), W_State cI (q 3) (Z 3), W_State cI (q 4) (Z 4)]) hP hD [0, 7, 1, 2, 3, 4, 5, 6] rfl rfl
                  have hPc := hP.sub (ws' := (W_State cI (sh a 5) (g_LS_now S)) ++ (W_State cI (q 5) (Z 5))) [5, 6, 7, 8, 9, 13, 14, 15, 16, 17] rfl
                  have hDc := hD.sub (ws' := (W_State cI (sh a 5) (g_LS_now S)) ++ (W_State cI (q 5) (Z 5))) [5, 6, 7, 8, 9, 13, 14, 15, 16, 17] (by decide) rfl
                  have hFc := va_free (wc := (W_State cI (sh a 5) (g_LS_now S)) ++ (W_State cI (q 5) (Z 5))) hD hS hA [5, 6, 7, 8, 9, 13, 14, 15, 16, 17] rfl
                  refine va_callv (va_runV (As := [.ref ((q 5) 0)]) (rest := []) ⟨hx, hb, hml, hown, hts⟩ (c_X2_copyFrom l dC dI cI (sh a 5) (q 5) H.size _ _ _ h24) (cwV 1 hts gX4_undo_X2_copyFrom rfl rfl rfl (by decide +kernel) ⟨Nat.le_of_ble_eq_true rfl, Nat.le_of_ble_eq_true rfl⟩) (jPreV hKi hPc hDc hN (ci := 2) rfl rfl) rfl rfl hl.1 rfl (lv_room (Nat.le_of_ble_eq_true rfl)) dX4_undo_37 ⟨Nat.le_of_ble_eq_true rfl, Nat.le_of_ble_eq_true rfl⟩) hS (fun q _ h => hFc q h) hFc (fun u' t H locs ht hvm hw hB hz1 hk1 hS => ?_)
                  subst hw
                  obtain ⟨hP1, -, hD1⟩ := hB
                  rw [ht] at hP1
                  obtain ⟨hP, hD⟩ := jJoinF (wa := (W_LS cI a S) ++ (W_State cI (q 5) (Z 5))) (wb := List.flatten [W_Sav cS (a 13) [((q 0) 0), ((q 1) 0), ((q 2) 0), ((q 3) 0), ((q 4) 0), ((q 5) 0)], W_State cI (q 0) (Z 0), W_State cI (q 1) (Z 1), W_State cI (q 2) (Z 2), W_State cI (q 3) (Z 3), W_State cI (q 4) (Z 4)]) (wc := (W_State cI (sh a 5) (g_LS_now S)) ++ (W_State cI (q 5) (Z 5))) (w1 := (W_State cI (sh a 5) u23) ++ (W_State cI (q 5) (Z 5))) (ws' := (W_LS cI a (s_LS_now S u23)) ++ (W_State cI (q 5) (Z 5))) hP hD [5, 6, 7, 8, 9, 13, 14, 15, 16, 17] [0, 1, 2, 3, 4, 10, 11, 12] [0, 1, 2, 3, 4, 8, 9, 10, 11, 12, 5, 6, 7, 13, 14, 15, 16, 17] rfl rfl (by decide) (by decide) hk1 hFc hP1 hD1 (by decide) rfl
                  obtain ⟨hP, hD⟩ := jBlk (bs := [W_LS cI a (s_LS_now S u23), W_State cI (q 5) (Z 5), W_Sav cS (a 13) [((q 0) 0), ((q 1) 0), ((q 2) 0), ((q 3) 0), ((q 4) 0), ((q 5) 0)], W_State cI (q 0) (Z 0), W_State cI (q 1) (Z 1), W_State cI (q 2) (Z 2), W_State cI (q 3) (Z 3), W_State cI (q 4) (Z 4)]) (bs' := [W_LS cI a (s_LS_now S u23), W_Sav cS (a 13) [((q 0) 0), ((q 1) 0), ((q 2) 0), ((q 3) 0), ((q 4) 0), ((q 5) 0)], W_State cI (q 0) (Z 0), W_State cI (q 1) (Z 1), W_State cI (q 2) (Z 2), W_State cI (q 3) (Z 3), W_State cI (q 4) (Z 4), W_State cI (q 5) (Z 5)]) hP hD [0, 2, 3, 4, 5, 6, 7, 1] rfl rfl
                  have hP : va_P (dC, dI) vwCl (List.flatten [W_LS cI a (s_LS_now S u23), W_Sav cS (a 13) [((q 0) 0), ((q 1) 0), ((q 2) 0), ((q 3) 0), ((q 4) 0), ((q 5) 0)], W_State cI (q 0) (Z 0), W_State cI (q 1) (Z 1), W_State cI (q 2) (Z 2), W_State cI (q 3) (Z 3), W_State cI (q 4) (Z 4), W_State cI (q 5) (Z 5)]) H := hP
                  have hD : va_D A (List.flatten [W_LS cI a (s_LS_now S u23), W_Sav cS (a 13) [((q 0) 0), ((q 1) 0), ((q 2) 0), ((q 3) 0), ((q 4) 0), ((q 5) 0)], W_State cI (q 0) (Z 0), W_State cI (q 1) (Z 1), W_State cI (q 2) (Z 2), W_State cI (q 3) (Z 3), W_State cI (q 4) (Z 4), W_State cI (q 5) (Z 5)]) := hD
                  refine lv_aload_n hx hb dX4_undo_40 rfl (lv_at hl 1 rfl) ?_
                  refine lv_dup hx hb dX4_undo_41 rfl ?_
                  refine va_get (D := (dC, dI)) (ci := 4) (v := .int (g_LS_savedStates S)) (C := RX4) (T := TX4) (N := 8) hx hb hts hinX4 hown hK hP 0 rfl rfl 5 (by decide) (hts (Cond.fieldLink RX4 125 "LearnedShapes" "savedStates" "I") (List.mem_of_getElem? (i := 3) rfl)) (fun _ h9 => h9) rfl dX4_undo_42 ?_
                  refine lv_iconst (v := (1 : Int32)) hx hb dX4_undo_45 (by decide) ?_
                  refine lv_isub hx hb dX4_undo_46 ?_
                  refine va_put (D := (dC, dI)) (ci := 4) (v := .int ((g_LS_savedStates S) - (1 : Int32))) (ty := .int) (C := RX4) (T := TX4) (N := 8) hx hb hts hinX4 tyX4 tyX4_ok nmX4 hown hK hP hD hS 0 rfl rfl 5 (by decide) (hts (Cond.fieldLink RX4 125 "LearnedShapes" "savedStates" "I") (List.mem_of_getElem? (i := 3) rfl)) (fun _ h9 => h9) rfl (by decide +kernel) (rfl) rfl (Nat.le_of_ble_eq_true rfl) dX4_undo_47 (fun H locs hP hD hS => ?_)
                  have hP : va_P (dC, dI) vwCl (List.flatten [W_LS cI a (s_LS_savedStates (s_LS_now S u23) ((g_LS_savedStates S) - (1 : Int32))), W_Sav cS (a 13) [((q 0) 0), ((q 1) 0), ((q 2) 0), ((q 3) 0), ((q 4) 0), ((q 5) 0)], W_State cI (q 0) (Z 0), W_State cI (q 1) (Z 1), W_State cI (q 2) (Z 2), W_State cI (q 3) (Z 3), W_State cI (q 4) (Z 4), W_State cI (q 5) (Z 5)]) H := hP
                  have hD : va_D A (List.flatten [W_LS cI a (s_LS_savedStates (s_LS_now S u23) ((g_LS_savedStates S) - (1 : Int32))), W_Sav cS (a 13) [((q 0) 0), ((q 1) 0), ((q 2) 0), ((q 3) 0), ((q 4) 0), ((q 5) 0)], W_State cI (q 0) (Z 0), W_State cI (q 1) (Z 1), W_State cI (q 2) (Z 2), W_State cI (q 3) (Z 3), W_State cI (q 4) (Z 4), W_State cI (q 5) (Z 5)]) := hD
                  refine lv_aload_n hx hb dX4_undo_50 rfl (lv_at hl 1 rfl) ?_
                  refine va_get (D := (dC, dI)) (ci := 4) (v := .int ((g_LS_savedStates S) - (1 : Int32))) (C := RX4) (T := TX4) (N := 8) hx hb hts hinX4 hown hK hP 0 rfl rfl 5 (by decide) (hts (Cond.fieldLink RX4 125 "LearnedShapes" "savedStates" "I") (List.mem_of_getElem? (i := 3) rfl)) (fun _ h9 => h9) rfl dX4_undo_51 ?_
                  have hP : va_P (dC, dI) vwCl (W_Full cI cS a q (s_LS_savedStates (s_LS_now S u23) ((g_LS_savedStates S) - (1 : Int32))) Z) H := hP
                  have hD : va_D A (W_Full cI cS a q (s_LS_savedStates (s_LS_now S u23) ((g_LS_savedStates S) - (1 : Int32))) Z) := hD
                  cases hF
                  refine vx_ret ?_
                  refine W.widen (k := 1) (n := 6) (Nat.zero_le _) (Nat.zero_le _) ?_
                  exact W.iret (v := ((g_LS_savedStates S) - (1 : Int32))) hx hb hr (fun t ht hW => ⟨⟨((g_LS_savedStates S) - (1 : Int32)), (s_LS_savedStates (s_LS_now S u23) ((g_LS_savedStates S) - (1 : Int32))), rfl, rfl, q, by rw [ht]; exact hP, va_K.moved hW.alike hK, hD⟩, hS.F ht⟩) hS.2.2 dX4_undo_54
              · have hF := F_neg c21 hF
                obtain ⟨g25, hF⟩ := og_some hF
                have hP : va_P (dC, dI) vwCl (W_Full cI cS a q S Z) H := hP
                have hD : va_D A (W_Full cI cS a q S Z) := hD
                have hPc := hP
                have hDc := hD
                have hFc := jFreeW (ws := (W_Full cI cS a q S Z)) hD hS hA
                refine va_callq (va_runV (As := [.int ((g_LS_savedStates S) - (1 : Int32))]) (rest := []) ⟨hx, hb, hml, hown, hts⟩ (c_X4_savedAt_n l dC dI cI cS a q H.size _ _ _ (of_decide_eq_true g25)) (cwV 1 hts gX4_undo_X4_savedAt rfl rfl rfl (by decide +kernel) ⟨Nat.le_of_ble_eq_true rfl, Nat.le_of_ble_eq_true rfl⟩) (jPreV hK hPc hDc hN (ci := 4) rfl rfl) rfl rfl hl.1 rfl (lv_room (Nat.le_of_ble_eq_true rfl)) dX4_undo_7 ⟨Nat.le_of_ble_eq_true rfl, Nat.le_of_ble_eq_true rfl⟩) hS (fun q _ h => hFc q h) hFc (fun r9 u9 t H locs ht hvm hw hB hz1 hk1 hS => ?_)
                subst hw
                obtain ⟨hP1, -, hD1⟩ := hB
                rw [ht] at hP1
                have hP : va_P (dC, dI) vwCl ((W_Full cI cS a q S Z)) H := hP1
                have hD : va_D A ((W_Full cI cS a q S Z)) := hD1.weaken (fun _ _ _ h => hFc _ h)
                have hP : va_P (dC, dI) vwCl (List.flatten [W_LS cI a S, W_Sav cS (a 13) [((q 0) 0), ((q 1) 0), ((q 2) 0), ((q 3) 0), ((q 4) 0), ((q 5) 0)], W_State cI (q 0) (Z 0), W_State cI (q 1) (Z 1), W_State cI (q 2) (Z 2), W_State cI (q 3) (Z 3), W_State cI (q 4) (Z 4), W_State cI (q 5) (Z 5)]) H := hP
                have hD : va_D A (List.flatten [W_LS cI a S, W_Sav cS (a 13) [((q 0) 0), ((q 1) 0), ((q 2) 0), ((q 3) 0), ((q 4) 0), ((q 5) 0)], W_State cI (q 0) (Z 0), W_State cI (q 1) (Z 1), W_State cI (q 2) (Z 2), W_State cI (q 3) (Z 3), W_State cI (q 4) (Z 4), W_State cI (q 5) (Z 5)]) := hD
                refine W.eq (g2 := F0 m 10 ls [.null]) rfl ?_
                refine lv_astore_nN (lv' := [(1, .null), (0, .ref (a 0))]) hx hb dX4_undo_10 rfl hl (by decide) rfl (fun ls hl => ?_)
                refine lv_aload_n hx hb dX4_undo_11 rfl (lv_at hl 1 rfl) ?_
                refine va_get (D := (dC, dI)) (ci := 4) (v := .int (g_LS_savedStates S)) (C := RX4) (T := TX4) (N := 8) hx hb hts hinX4 hown hK hP 0 rfl rfl 5 (by decide) (hts (Cond.fieldLink RX4 125 "LearnedShapes" "savedStates" "I") (List.mem_of_getElem? (i := 3) rfl)) (fun _ h9 => h9) rfl dX4_undo_12 ?_
                refine lv_if_le (tgt := 22) hx hb dX4_undo_15 (by decide) (fun c26 => ?_) (fun c26 => ?_)
                · have hF := F_pos c26 hF
                  have hP : va_P (dC, dI) vwCl (W_Full cI cS a q S Z) H := hP
                  have hD : va_D A (W_Full cI cS a q S Z) := hD
                  cases hF
                  obtain ⟨sa, hsa⟩ := hN.2.1 _ (List.mem_of_getElem? (i := 14) rfl)
                  exact vx_throwS (names := ["java/lang/RuntimeException", "java/lang/Exception"]) (cls := "java/lang/IllegalStateException") hx hb hl0 hown (by decide +kernel) (by decide +kernel) (hts (Cond.classLink RX4 81 "java/lang/IllegalStateException") (List.mem_of_getElem? (i := 1) rfl)) (hts (Cond.initialized "java/lang/IllegalStateException") (List.mem_of_getElem? (i := 2) rfl)) hsa (vx_hat (B := [Cond.castable "java/lang/IllegalStateException" "java/lang/IllegalStateException", Cond.declares ⟨"java/lang/RuntimeException", "<init>", "(Ljava/lang/String;)V"⟩, Cond.declares ⟨"java/lang/Exception", "<init>", "(Ljava/lang/String;)V"⟩, Cond.declares ⟨"java/lang/Throwable", "<init>", "(Ljava/lang/String;)V"⟩]) (fun w hw => hts w (List.mem_cons_of_mem _ (List.mem_append_right _ hw))) (by decide +kernel) (vx_c (va_Nw.use rfl (hN.1 _ (List.mem_of_getElem? (i := 13) rfl))) (vx_c (va_Nw.use rfl (hN.1 _ (List.mem_of_getElem? (i := 14) rfl))) (vx_c (va_Nw.use rfl (hN.1 _ (List.mem_of_getElem? (i := 15) rfl))) (vx_c (va_Nw.use rfl (hN.1 _ (List.mem_of_getElem? (i := 16) rfl))) vx_n))))) (by decide +kernel) hU hSN hS (hl.1.trans hml.symm) dX4_undo_22 dX4_undo_25 dX4_undo_26 dX4_undo_28 dX4_undo_31 (fun x hx => (hex x hx).elim) (Nat.le_of_ble_eq_true rfl) (Nat.le_of_ble_eq_true rfl) (Nat.le_of_ble_eq_true rfl) (Nat.le_of_ble_eq_true rfl) hlocks (fun t ha hz hk => ⟨S, trivial, ⟨rfl, q, jKeep hP hk, va_K.moved ha hK, hD⟩, jF hS hz hk⟩) hS.2.2 (Nat.le_of_ble_eq_true rfl) (Nat.le_of_ble_eq_true rfl)
                · have hF := F_neg c26 hF
                  refine lv_aload_nN hx hb dX4_undo_18 rfl (lv_at hl 0 rfl) ?_
                  refine lv_ifnonnullN hx hb dX4_undo_19 ?_
                  have hP : va_P (dC, dI) vwCl (W_Full cI cS a q S Z) H := hP
                  have hD : va_D A (W_Full cI cS a q S Z) := hD
                  cases hF
                  obtain ⟨sa, hsa⟩ := hN.2.1 _ (List.mem_of_getElem? (i := 14) rfl)
                  exact vx_throwS (names := ["java/lang/RuntimeException", "java/lang/Exception"]) (cls := "java/lang/IllegalStateException") hx hb hl0 hown (by decide +kernel) (by decide +kernel) (hts (Cond.classLink RX4 81 "java/lang/IllegalStateException") (List.mem_of_getElem? (i := 1) rfl)) (hts (Cond.initialized "java/lang/IllegalStateException") (List.mem_of_getElem? (i := 2) rfl)) hsa (vx_hat (B := [Cond.castable "java/lang/IllegalStateException" "java/lang/IllegalStateException", Cond.declares ⟨"java/lang/RuntimeException", "<init>", "(Ljava/lang/String;)V"⟩, Cond.declares ⟨"java/lang/Exception", "<init>", "(Ljava/lang/String;)V"⟩, Cond.declares ⟨"java/lang/Throwable", "<init>", "(Ljava/lang/String;)V"⟩]) (fun w hw => hts w (List.mem_cons_of_mem _ (List.mem_append_right _ hw))) (by decide +kernel) (vx_c (va_Nw.use rfl (hN.1 _ (List.mem_of_getElem? (i := 13) rfl))) (vx_c (va_Nw.use rfl (hN.1 _ (List.mem_of_getElem? (i := 14) rfl))) (vx_c (va_Nw.use rfl (hN.1 _ (List.mem_of_getElem? (i := 15) rfl))) (vx_c (va_Nw.use rfl (hN.1 _ (List.mem_of_getElem? (i := 16) rfl))) vx_n))))) (by decide +kernel) hU hSN hS (hl.1.trans hml.symm) dX4_undo_22 dX4_undo_25 dX4_undo_26 dX4_undo_28 dX4_undo_31 (fun x hx => (hex x hx).elim) (Nat.le_of_ble_eq_true rfl) (Nat.le_of_ble_eq_true rfl) (Nat.le_of_ble_eq_true rfl) (Nat.le_of_ble_eq_true rfl) hlocks (fun t ha hz hk => ⟨S, trivial, ⟨rfl, q, jKeep hP hk, va_K.moved ha hK, hD⟩, jF hS hz hk⟩) hS.2.2 (Nat.le_of_ble_eq_true rfl) (Nat.le_of_ble_eq_true rfl)
  exact KE _ _ hP hD hS
