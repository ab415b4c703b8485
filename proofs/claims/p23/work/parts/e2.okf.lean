set_option maxHeartbeats 4000000 in
set_option maxRecDepth 100000 in
theorem c_X4_forget_ok (l : Launch) (dC : Nat → ClassId) (dI : Nat → Nat → Nat) (cI : ClassId) (cS : ClassId) (a : Nat → Nat) (q : Nat → Nat → Nat) (sz : Nat) (S : S_LS) (Z : (Nat → S_State)) (v1 : Int32) (rr : Int32) (Y : S_LS) (YZ : (Nat → S_State)) (hF : F_X4_forget S Z v1 = some (.inr (rr, Y, YZ))) : Met l yX4_forget wsX4_forget ({ frames := 6, cells := 0, slots := 0, locals := 150 } : Room) (va_Pc [.ref (a 0), .int v1] (jPre (dC, dI) [(cI, .int), (cS, .object "LearnedShapes$State")] sz (W_Full cI cS a q S Z))) (va_Qi (fun (r' : Int32) (u : S_LS × (Nat → S_State)) => rr = r' ∧ (Y, YZ) = u) (fun (u : S_LS × (Nat → S_State)) (t : State) => ∃ q9 : Nat → Nat → Nat, jB (dC, dI) [(cI, .int), (cS, .object "LearnedShapes$State")] (va_A (W_Full cI cS a q S Z) sz) (W_Full cI cS a q9 u.1 u.2) t) (va_A (W_Full cI cS a q S Z) sz)) 0 0 (va_A (W_Full cI cS a q S Z) sz) := by
  refine Met.ofW (cc := cX4_forget) (maxL := 4) (ret := (some .int)) (by decide) rfl ?_
  intro p e s m args below meth c s₁ B hml hv
  obtain ⟨rfl, hsz, hP, hK, hD0, hN⟩ := hv
  have hx := B.exec
  have hb := B.bytes
  have hr := B.returns
  have hts := atoms_spec (ws := wsX4_forget) B.pre
  have hown : s.vm.findClass RX4 = some m.cls := findClass_of_methodNamed B.named
  have hlocks := B.notSynchronized
  have hKi : va_K (dC, dI) vwCl [(cI, .int)] s := hK.sub [0] rfl
  have hinX3 : ∀ w ∈ u_ws RX3 TX3 3, w ∈ wsX4_forget := by decide +kernel
  have hinX4 : ∀ w ∈ u_ws RX4 TX4 8, w ∈ wsX4_forget := by decide +kernel
  subst hsz
  have hD := hD0.self (sz := s.heap.size)
  generalize hAe : (va_A (W_Full cI cS a q S Z) s.heap.size) = A at hD ⊢
  have hA : ∀ q : Nat, s.heap.size ≤ q → A q := fun q h => by rw [← hAe]; exact Or.inr h
  have hS : va_S A s.heap s.heap [] := va_S.rf
  have hl := lv_entry ([.ref (a 0), .int v1]) (n := 4) (Nat.le_of_ble_eq_true rfl)
  rw [lg_entry_eq]
  generalize (lg_sl ([.ref (a 0), .int v1]) ++ List.replicate (4 - (lg_sl ([.ref (a 0), .int v1])).length) Slot.unset).toArray = ls at hl ⊢
  have hl : lv_has ls 4 [(0, .ref (a 0)), (1, .int v1)] := hl
  have KE : ∀ (H : Heap) (locs : List Loc), va_P (dC, dI) vwCl (W_Full cI cS a q S Z) H → va_D A (W_Full cI cS a q S Z) → va_S A s.heap H locs → W p l e (headSpec wsX4_forget ({ frames := 6, cells := 0, slots := 0, locals := 150 } : Room)).room s m ([.ref (a 0), .int v1] : List Value).toArray below meth c H locs 0 0 (MQ below (va_Qi (fun (r' : Int32) (u : S_LS × (Nat → S_State)) => rr = r' ∧ (Y, YZ) = u) (fun (u : S_LS × (Nat → S_State)) (t : State) => ∃ q9 : Nat → Nat → Nat, jB (dC, dI) [(cI, .int), (cS, .object "LearnedShapes$State")] A (W_Full cI cS a q9 u.1 u.2) t) A) ([.ref (a 0), .int v1] : List Value).toArray s 0 0 A) (F0 m 0 ls []) := by
    intro H locs hP hD hS
    have hP : va_P (dC, dI) vwCl (List.flatten [W_LS cI a S, W_Sav cS (a 13) [((q 0) 0), ((q 1) 0), ((q 2) 0), ((q 3) 0), ((q 4) 0), ((q 5) 0)], W_State cI (q 0) (Z 0), W_State cI (q 1) (Z 1), W_State cI (q 2) (Z 2), W_State cI (q 3) (Z 3), W_State cI (q 4) (Z 4), W_State cI (q 5) (Z 5)]) H := hP
    have hD : va_D A (List.flatten [W_LS cI a S, W_Sav cS (a 13) [((q 0) 0), ((q 1) 0), ((q 2) 0), ((q 3) 0), ((q 4) 0), ((q 5) 0)], W_State cI (q 0) (Z 0), W_State cI (q 1) (Z 1), W_State cI (q 2) (Z 2), W_State cI (q 3) (Z 3), W_State cI (q 4) (Z 4), W_State cI (q 5) (Z 5)]) := hD
    unfold F_X4_forget at hF
    refine lv_iload_n hx hb dX4_forget_0 rfl (lv_at hl 1 rfl) ?_
    obtain ⟨r1, h2, hF⟩ := ob1_some hF
    have hPc : va_P (dC, dI) vwCl ([] : va_W) H := fun k q h => by simp at h
    have hDc : va_D A ([] : va_W) := ⟨fun i j p q h => by simp at h, fun k q h => by simp at h⟩
    have hFc := jFreeW (ws := []) hDc hS hA
    refine va_calli (va_runS (As := [.int v1]) (rest := []) ⟨hx, hb, hml, hown, hts⟩ (c_X4_isShape l dC dI cI  H.size _ _ h2) (va_cwS 1 hts gX4_forget_X4_isShape rfl rfl rfl (by decide +kernel) ⟨Nat.le_of_ble_eq_true rfl, Nat.le_of_ble_eq_true rfl⟩) (jPreS hKi hPc hDc hN) rfl rfl hl.1 rfl (lv_room (Nat.le_of_ble_eq_true rfl)) dX4_forget_1 ⟨Nat.le_of_ble_eq_true rfl, Nat.le_of_ble_eq_true rfl⟩) hS (fun q _ h => hFc q h) hFc (fun r' u' t H locs ht hvm hw hB hz1 hk1 hS => ?_)
    subst hw
    obtain ⟨hP1, -, hD1⟩ := hB
    rw [ht] at hP1
    obtain ⟨hP, hD⟩ := jJoinF (wa := (W_LS cI a S)) (wb := List.flatten [W_Sav cS (a 13) [((q 0) 0), ((q 1) 0), ((q 2) 0), ((q 3) 0), ((q 4) 0), ((q 5) 0)], W_State cI (q 0) (Z 0), W_State cI (q 1) (Z 1), W_State cI (q 2) (Z 2), W_State cI (q 3) (Z 3), W_State cI (q 4) (Z 4), W_State cI (q 5) (Z 5)]) (wc := ([] : va_W)) (w1 := ([] : va_W)) (ws' := (W_LS cI a S)) hP hD [] [0, 1, 2, 3, 4, 5, 6, 7, 8, 9, 10, 11, 12] [0, 1, 2, 3, 4, 5, 6, 7, 8, 9, 10, 11, 12] rfl rfl (by decide) (by decide) hk1 hFc hP1 hD1 (by decide) rfl
    have hP : va_P (dC, dI) vwCl (List.flatten [W_LS cI a S, W_Sav cS (a 13) [((q 0) 0), ((q 1) 0), ((q 2) 0), ((q 3) 0), ((q 4) 0), ((q 5) 0)], W_State cI (q 0) (Z 0), W_State cI (q 1) (Z 1), W_State cI (q 2) (Z 2), W_State cI (q 3) (Z 3), W_State cI (q 4) (Z 4), W_State cI (q 5) (Z 5)]) H := hP
    have hD : va_D A (List.flatten [W_LS cI a S, W_Sav cS (a 13) [((q 0) 0), ((q 1) 0), ((q 2) 0), ((q 3) 0), ((q 4) 0), ((q 5) 0)], W_State cI (q 0) (Z 0), W_State cI (q 1) (Z 1), W_State cI (q 2) (Z 2), W_State cI (q 3) (Z 3), W_State cI (q 4) (Z 4), W_State cI (q 5) (Z 5)]) := hD
    refine lv_if_ne (tgt := 17) hx hb dX4_forget_4 (by decide) (fun c3 => ?_) (fun c3 => ?_)
    · have hF := F_neg c3 hF
      refine lv_aload_n hx hb dX4_forget_17 rfl (lv_at hl 0 rfl) ?_
      obtain ⟨u4, z5, h6, hF⟩ := ob2_some hF
      have hP : va_P (dC, dI) vwCl (W_Full cI cS a q S Z) H := hP
      have hD : va_D A (W_Full cI cS a q S Z) := hD
      have hPc := hP
      have hDc := hD
      have hFc := jFreeW (ws := (W_Full cI cS a q S Z)) hD hS hA
      refine va_callv (va_runV (As := []) (rest := []) ⟨hx, hb, hml, hown, hts⟩ (c_X4_saveState l dC dI cI cS a q H.size _ _ _ _ h6) (cwV 0 hts gX4_forget_X4_saveState rfl rfl rfl (by decide +kernel) ⟨Nat.le_of_ble_eq_true rfl, Nat.le_of_ble_eq_true rfl⟩) (jPreV hK hPc hDc hN (ci := 4) rfl rfl) rfl rfl hl.1 rfl (lv_room (Nat.le_of_ble_eq_true rfl)) dX4_forget_18 ⟨Nat.le_of_ble_eq_true rfl, Nat.le_of_ble_eq_true rfl⟩) hS (fun q _ h => hFc q h) hFc (fun u9 t H locs ht hvm hw hB hz1 hk1 hS => ?_)
      subst hw
      obtain ⟨q, hP1, -, hD1⟩ := hB
      rw [ht] at hP1
      have hP : va_P (dC, dI) vwCl (W_Full cI cS a q u4 z5) H := hP1
      have hD : va_D A (W_Full cI cS a q u4 z5) := hD1.weaken (fun _ _ _ h => hFc _ h)
      have hP : va_P (dC, dI) vwCl (List.flatten [W_LS cI a u4, W_Sav cS (a 13) [((q 0) 0), ((q 1) 0), ((q 2) 0), ((q 3) 0), ((q 4) 0), ((q 5) 0)], W_State cI (q 0) (z5 0), W_State cI (q 1) (z5 1), W_State cI (q 2) (z5 2), W_State cI (q 3) (z5 3), W_State cI (q 4) (z5 4), W_State cI (q 5) (z5 5)]) H := hP
      have hD : va_D A (List.flatten [W_LS cI a u4, W_Sav cS (a 13) [((q 0) 0), ((q 1) 0), ((q 2) 0), ((q 3) 0), ((q 4) 0), ((q 5) 0)], W_State cI (q 0) (z5 0), W_State cI (q 1) (z5 1), W_State cI (q 2) (z5 2), W_State cI (q 3) (z5 3), W_State cI (q 4) (z5 4), W_State cI (q 5) (z5 5)]) := hD
      refine lv_aload_n hx hb dX4_forget_21 rfl (lv_at hl 0 rfl) ?_
      refine va_get (D := (dC, dI)) (ci := 4) (v := .ref (a 5)) (C := RX4) (T := TX4) (N := 8) hx hb hts hinX4 hown hK hP 0 rfl rfl 3 (by decide) (hts (Cond.fieldLink RX4 23 "LearnedShapes" "now" "LLearnedShapes$State;") (List.mem_of_getElem? (i := 3) rfl)) (fun _ h9 => h9) rfl dX4_forget_22 ?_
      refine lv_iload_n hx hb dX4_forget_25 rfl (lv_at hl 1 rfl) ?_
      by_cases c7 : v1 = 0
      · have hF := F_pos c7 hF
        have hPc := hP.sub (ws' := (W_State cI (sh a 5) (g_LS_now u4))) [5, 6, 7, 8, 9] rfl
        have hDc := hD.sub (ws' := (W_State cI (sh a 5) (g_LS_now u4))) [5, 6, 7, 8, 9] (by decide) rfl
        have hFc := va_free (wc := (W_State cI (sh a 5) (g_LS_now u4))) hD hS hA [5, 6, 7, 8, 9] rfl
        refine va_callr (va_runV (As := [.int v1]) (rest := []) ⟨hx, hb, hml, hown, hts⟩ (c_X2_tree_first l dC dI cI (sh a 5) H.size _ _ c7) (cwV 1 hts gX4_forget_X2_tree rfl rfl rfl (by decide +kernel) ⟨Nat.le_of_ble_eq_true rfl, Nat.le_of_ble_eq_true rfl⟩) (jPreV hKi hPc hDc hN (ci := 2) rfl rfl) rfl rfl hl.1 rfl (lv_room (Nat.le_of_ble_eq_true rfl)) dX4_forget_26 ⟨Nat.le_of_ble_eq_true rfl, Nat.le_of_ble_eq_true rfl⟩) hS (fun q _ h => hFc q h) hFc (fun u q9 t H locs ht hvm hw hB hz1 hk1 hS => ?_)
        obtain ⟨e9, hP1, -, hD1⟩ := hB
        subst e9
        rw [ht] at hP1
        obtain ⟨hP, hD⟩ := jJoinF (wa := W_LS cI a u4) (wb := List.flatten [W_Sav cS (a 13) [((q 0) 0), ((q 1) 0), ((q 2) 0), ((q 3) 0), ((q 4) 0), ((q 5) 0)], W_State cI (q 0) (z5 0), W_State cI (q 1) (z5 1), W_State cI (q 2) (z5 2), W_State cI (q 3) (z5 3), W_State cI (q 4) (z5 4), W_State cI (q 5) (z5 5)]) (wc := (W_State cI (sh a 5) (g_LS_now u4))) (w1 := (W_State cI (sh a 5) (g_LS_now u4))) (ws' := W_LS cI a u4) hP hD [5, 6, 7, 8, 9] [0, 1, 2, 3, 4, 10, 11, 12] [0, 1, 2, 3, 4, 8, 9, 10, 11, 12, 5, 6, 7] rfl rfl (by decide) (by decide) hk1 hFc hP1 hD1 (by decide) rfl
        have hP : va_P (dC, dI) vwCl (List.flatten [W_LS cI a u4, W_Sav cS (a 13) [((q 0) 0), ((q 1) 0), ((q 2) 0), ((q 3) 0), ((q 4) 0), ((q 5) 0)], W_State cI (q 0) (z5 0), W_State cI (q 1) (z5 1), W_State cI (q 2) (z5 2), W_State cI (q 3) (z5 3), W_State cI (q 4) (z5 4), W_State cI (q 5) (z5 5)]) H := hP
        have hD : va_D A (List.flatten [W_LS cI a u4, W_Sav cS (a 13) [((q 0) 0), ((q 1) 0), ((q 2) 0), ((q 3) 0), ((q 4) 0), ((q 5) 0)], W_State cI (q 0) (z5 0), W_State cI (q 1) (z5 1), W_State cI (q 2) (z5 2), W_State cI (q 3) (z5 3), W_State cI (q 4) (z5 4), W_State cI (q 5) (z5 5)]) := hD
        refine lv_astore_n (lv' := [(2, .ref (a 6)), (0, .ref (a 0)), (1, .int v1)]) hx hb dX4_forget_29 rfl hl (by decide) rfl (fun ls hl => ?_)
        refine lv_aload_n hx hb dX4_forget_30 rfl (lv_at hl 0 rfl) ?_
        refine va_get (D := (dC, dI)) (ci := 3) (v := .int (g_Tree_size (g_State_first (g_LS_now u4)))) (C := RX3) (T := TX3) (N := 3) hx hb hts hinX3 hown hK hP 6 rfl rfl 1 (by decide) (hts (Cond.fieldLink RX4 92 "LearnedShapes$Tree" "size" "I") (List.mem_of_getElem? (i := 4) rfl)) (fun _ h9 => h9) rfl dX4_forget_31 ?_
        refine lv_istore_n (lv' := [(3, .int (g_Tree_size (g_State_first (g_LS_now u4)))), (2, .ref (a 6)), (0, .ref (a 0)), (1, .int v1)]) hx hb dX4_forget_34 rfl hl (by decide) rfl (fun ls hl => ?_)
        refine lv_aload_n hx hb dX4_forget_35 rfl (lv_at hl 1 rfl) ?_
        obtain ⟨u8, h9, hF⟩ := ob1_some hF
        have hPc := hP.sub (ws' := (W_Tree cI (sh a 6) (g_State_first (g_LS_now u4)))) [6, 7] rfl
        have hDc := hD.sub (ws' := (W_Tree cI (sh a 6) (g_State_first (g_LS_now u4)))) [6, 7] (by decide) rfl
        have hFc := va_free (wc := (W_Tree cI (sh a 6) (g_State_first (g_LS_now u4)))) hD hS hA [6, 7] rfl
        refine va_callv (va_runV (As := []) (rest := []) ⟨hx, hb, hml, hown, hts⟩ (c_X3_clear l dC dI cI (sh a 6) H.size _ _ h9) (cwV 0 hts gX4_forget_X3_clear rfl rfl rfl (by decide +kernel) ⟨Nat.le_of_ble_eq_true rfl, Nat.le_of_ble_eq_true rfl⟩) (jPreV hKi hPc hDc hN (ci := 3) rfl rfl) rfl rfl hl.1 rfl (lv_room (Nat.le_of_ble_eq_true rfl)) dX4_forget_36 ⟨Nat.le_of_ble_eq_true rfl, Nat.le_of_ble_eq_true rfl⟩) hS (fun q _ h => hFc q h) hFc (fun u' t H locs ht hvm hw hB hz1 hk1 hS => ?_)
        subst hw
        obtain ⟨hP1, -, hD1⟩ := hB
        rw [ht] at hP1
        obtain ⟨hP, hD⟩ := jJoinF (wa := (W_LS cI a u4)) (wb := List.flatten [W_Sav cS (a 13) [((q 0) 0), ((q 1) 0), ((q 2) 0), ((q 3) 0), ((q 4) 0), ((q 5) 0)], W_State cI (q 0) (z5 0), W_State cI (q 1) (z5 1), W_State cI (q 2) (z5 2), W_State cI (q 3) (z5 3), W_State cI (q 4) (z5 4), W_State cI (q 5) (z5 5)]) (wc := (W_Tree cI (sh a 6) (g_State_first (g_LS_now u4)))) (w1 := (W_Tree cI (sh a 6) u8)) (ws' := (W_LS cI a (s_LS_now u4 (s_State_first (g_LS_now u4) u8)))) hP hD [6, 7] [0, 1, 2, 3, 4, 5, 8, 9, 10, 11, 12] [0, 1, 2, 3, 4, 5, 11, 12, 6, 7, 8, 9, 10] rfl rfl (by decide) (by decide) hk1 hFc hP1 hD1 (by decide) rfl
        have hP : va_P (dC, dI) vwCl (List.flatten [W_LS cI a (s_LS_now u4 (s_State_first (g_LS_now u4) u8)), W_Sav cS (a 13) [((q 0) 0), ((q 1) 0), ((q 2) 0), ((q 3) 0), ((q 4) 0), ((q 5) 0)], W_State cI (q 0) (z5 0), W_State cI (q 1) (z5 1), W_State cI (q 2) (z5 2), W_State cI (q 3) (z5 3), W_State cI (q 4) (z5 4), W_State cI (q 5) (z5 5)]) H := hP
        have hD : va_D A (List.flatten [W_LS cI a (s_LS_now u4 (s_State_first (g_LS_now u4) u8)), W_Sav cS (a 13) [((q 0) 0), ((q 1) 0), ((q 2) 0), ((q 3) 0), ((q 4) 0), ((q 5) 0)], W_State cI (q 0) (z5 0), W_State cI (q 1) (z5 1), W_State cI (q 2) (z5 2), W_State cI (q 3) (z5 3), W_State cI (q 4) (z5 4), W_State cI (q 5) (z5 5)]) := hD
        refine lv_iload_n hx hb dX4_forget_39 rfl (lv_at hl 0 rfl) ?_
        have hP : va_P (dC, dI) vwCl (W_Full cI cS a q (s_LS_now u4 (s_State_first (g_LS_now u4) u8)) z5) H := hP
        have hD : va_D A (W_Full cI cS a q (s_LS_now u4 (s_State_first (g_LS_now u4) u8)) z5) := hD
        have e50 := Sum.inr.inj (Option.some.inj hF)
        obtain ⟨e60, e51⟩ := Prod.mk.inj e50
        obtain ⟨e61, e52⟩ := Prod.mk.inj e51
        subst e60
        subst e61
        subst e52
        exact W.iret (v := (g_Tree_size (g_State_first (g_LS_now u4)))) hx hb hr (fun t ht hW => ⟨⟨(g_Tree_size (g_State_first (g_LS_now u4))), ((s_LS_now u4 (s_State_first (g_LS_now u4) u8)), z5), rfl, ⟨rfl, rfl⟩, q, by rw [ht]; exact hP, va_K.moved hW.alike hK, hD⟩, hS.F ht⟩) hS.2.2 dX4_forget_40
      · have hF := F_neg c7 hF
        have hPc := hP.sub (ws' := (W_State cI (sh a 5) (g_LS_now u4))) [5, 6, 7, 8, 9] rfl
        have hDc := hD.sub (ws' := (W_State cI (sh a 5) (g_LS_now u4))) [5, 6, 7, 8, 9] (by decide) rfl
        have hFc := va_free (wc := (W_State cI (sh a 5) (g_LS_now u4))) hD hS hA [5, 6, 7, 8, 9] rfl
        refine va_callr (va_runV (As := [.int v1]) (rest := []) ⟨hx, hb, hml, hown, hts⟩ (c_X2_tree_second l dC dI cI (sh a 5) H.size _ _ c7) (cwV 1 hts gX4_forget_X2_tree rfl rfl rfl (by decide +kernel) ⟨Nat.le_of_ble_eq_true rfl, Nat.le_of_ble_eq_true rfl⟩) (jPreV hKi hPc hDc hN (ci := 2) rfl rfl) rfl rfl hl.1 rfl (lv_room (Nat.le_of_ble_eq_true rfl)) dX4_forget_26 ⟨Nat.le_of_ble_eq_true rfl, Nat.le_of_ble_eq_true rfl⟩) hS (fun q _ h => hFc q h) hFc (fun u q9 t H locs ht hvm hw hB hz1 hk1 hS => ?_)
        obtain ⟨e9, hP1, -, hD1⟩ := hB
        subst e9
        rw [ht] at hP1
        obtain ⟨hP, hD⟩ := jJoinF (wa := W_LS cI a u4) (wb := List.flatten [W_Sav cS (a 13) [((q 0) 0), ((q 1) 0), ((q 2) 0), ((q 3) 0), ((q 4) 0), ((q 5) 0)], W_State cI (q 0) (z5 0), W_State cI (q 1) (z5 1), W_State cI (q 2) (z5 2), W_State cI (q 3) (z5 3), W_State cI (q 4) (z5 4), W_State cI (q 5) (z5 5)]) (wc := (W_State cI (sh a 5) (g_LS_now u4))) (w1 := (W_State cI (sh a 5) (g_LS_now u4))) (ws' := W_LS cI a u4) hP hD [5, 6, 7, 8, 9] [0, 1, 2, 3, 4, 10, 11, 12] [0, 1, 2, 3, 4, 8, 9, 10, 11, 12, 5, 6, 7] rfl rfl (by decide) (by decide) hk1 hFc hP1 hD1 (by decide) rfl
        have hP : va_P (dC, dI) vwCl (List.flatten [W_LS cI a u4, W_Sav cS (a 13) [((q 0) 0), ((q 1) 0), ((q 2) 0), ((q 3) 0), ((q 4) 0), ((q 5) 0)], W_State cI (q 0) (z5 0), W_State cI (q 1) (z5 1), W_State cI (q 2) (z5 2), W_State cI (q 3) (z5 3), W_State cI (q 4) (z5 4), W_State cI (q 5) (z5 5)]) H := hP
        have hD : va_D A (List.flatten [W_LS cI a u4, W_Sav cS (a 13) [((q 0) 0), ((q 1) 0), ((q 2) 0), ((q 3) 0), ((q 4) 0), ((q 5) 0)], W_State cI (q 0) (z5 0), W_State cI (q 1) (z5 1), W_State cI (q 2) (z5 2), W_State cI (q 3) (z5 3), W_State cI (q 4) (z5 4), W_State cI (q 5) (z5 5)]) := hD
        refine lv_astore_n (lv' := [(2, .ref (a 8)), (0, .ref (a 0)), (1, .int v1)]) hx hb dX4_forget_29 rfl hl (by decide) rfl (fun ls hl => ?_)
        refine lv_aload_n hx hb dX4_forget_30 rfl (lv_at hl 0 rfl) ?_
        refine va_get (D := (dC, dI)) (ci := 3) (v := .int (g_Tree_size (g_State_second (g_LS_now u4)))) (C := RX3) (T := TX3) (N := 3) hx hb hts hinX3 hown hK hP 8 rfl rfl 1 (by decide) (hts (Cond.fieldLink RX4 92 "LearnedShapes$Tree" "size" "I") (List.mem_of_getElem? (i := 4) rfl)) (fun _ h9 => h9) rfl dX4_forget_31 ?_
        refine lv_istore_n (lv' := [(3, .int (g_Tree_size (g_State_second (g_LS_now u4)))), (2, .ref (a 8)), (0, .ref (a 0)), (1, .int v1)]) hx hb dX4_forget_34 rfl hl (by decide) rfl (fun ls hl => ?_)
        refine lv_aload_n hx hb dX4_forget_35 rfl (lv_at hl 1 rfl) ?_
        obtain ⟨u10, h11, hF⟩ := ob1_some hF
        have hPc := hP.sub (ws' := (W_Tree cI (sh a 8) (g_State_second (g_LS_now u4)))) [8, 9] rfl
        have hDc := hD.sub (ws' := (W_Tree cI (sh a 8) (g_State_second (g_LS_now u4)))) [8, 9] (by decide) rfl
        have hFc := va_free (wc := (W_Tree cI (sh a 8) (g_State_second (g_LS_now u4)))) hD hS hA [8, 9] rfl
        refine va_callv (va_runV (As := []) (rest := []) ⟨hx, hb, hml, hown, hts⟩ (c_X3_clear l dC dI cI (sh a 8) H.size _ _ h11) (cwV 0 hts gX4_forget_X3_clear rfl rfl rfl (by decide +kernel) ⟨Nat.le_of_ble_eq_true rfl, Nat.le_of_ble_eq_true rfl⟩) (jPreV hKi hPc hDc hN (ci := 3) rfl rfl) rfl rfl hl.1 rfl (lv_room (Nat.le_of_ble_eq_true rfl)) dX4_forget_36 ⟨Nat.le_of_ble_eq_true rfl, Nat.le_of_ble_eq_true rfl⟩) hS (fun q _ h => hFc q h) hFc (fun u' t H locs ht hvm hw hB hz1 hk1 hS => ?_)
        subst hw
        obtain ⟨hP1, -, hD1⟩ := hB
        rw [ht] at hP1
        obtain ⟨hP, hD⟩ := jJoinF (wa := (W_LS cI a u4)) (wb := List.flatten [W_Sav cS (a 13) [((q 0) 0), ((q 1) 0), ((q 2) 0), ((q 3) 0), ((q 4) 0), ((q 5) 0)], W_State cI (q 0) (z5 0), W_State cI (q 1) (z5 1), W_State cI (q 2) (z5 2), W_State cI (q 3) (z5 3), W_State cI (q 4) (z5 4), W_State cI (q 5) (z5 5)]) (wc := (W_Tree cI (sh a 8) (g_State_second (g_LS_now u4)))) (w1 := (W_Tree cI (sh a 8) u10)) (ws' := (W_LS cI a (s_LS_now u4 (s_State_second (g_LS_now u4) u10)))) hP hD [8, 9] [0, 1, 2, 3, 4, 5, 6, 7, 10, 11, 12] [0, 1, 2, 3, 4, 5, 6, 7, 11, 12, 8, 9, 10] rfl rfl (by decide) (by decide) hk1 hFc hP1 hD1 (by decide) rfl
        have hP : va_P (dC, dI) vwCl (List.flatten [W_LS cI a (s_LS_now u4 (s_State_second (g_LS_now u4) u10)), W_Sav cS (a 13) [((q 0) 0), ((q 1) 0), ((q 2) 0), ((q 3) 0), ((q 4) 0), ((q 5) 0)], W_State cI (q 0) (z5 0), W_State cI (q 1) (z5 1), W_State cI (q 2) (z5 2), W_State cI (q 3) (z5 3), W_State cI (q 4) (z5 4), W_State cI (q 5) (z5 5)]) H := hP
        have hD : va_D A (List.flatten [W_LS cI a (s_LS_now u4 (s_State_second (g_LS_now u4) u10)), W_Sav cS (a 13) [((q 0) 0), ((q 1) 0), ((q 2) 0), ((q 3) 0), ((q 4) 0), ((q 5) 0)], W_State cI (q 0) (z5 0), W_State cI (q 1) (z5 1), W_State cI (q 2) (z5 2), W_State cI (q 3) (z5 3), W_State cI (q 4) (z5 4), W_State cI (q 5) (z5 5)]) := hD
        refine lv_iload_n hx hb dX4_forget_39 rfl (lv_at hl 0 rfl) ?_
        have hP : va_P (dC, dI) vwCl (W_Full cI cS a q (s_LS_now u4 (s_State_second (g_LS_now u4) u10)) z5) H := hP
        have hD : va_D A (W_Full cI cS a q (s_LS_now u4 (s_State_second (g_LS_now u4) u10)) z5) := hD
        have e50 := Sum.inr.inj (Option.some.inj hF)
        obtain ⟨e60, e51⟩ := Prod.mk.inj e50
        obtain ⟨e61, e52⟩ := Prod.mk.inj e51
        subst e60
        subst e61
        subst e52
        exact W.iret (v := (g_Tree_size (g_State_second (g_LS_now u4)))) hx hb hr (fun t ht hW => ⟨⟨(g_Tree_size (g_State_second (g_LS_now u4))), ((s_LS_now u4 (s_State_second (g_LS_now u4) u10)), z5), rfl, ⟨rfl, rfl⟩, q, by rw [ht]; exact hP, va_K.moved hW.alike hK, hD⟩, hS.F ht⟩) hS.2.2 dX4_forget_40
    · have hF := F_pos c3 hF
      exact nomatch hF
  exact KE _ _ hP hD hS
set_option maxHeartbeats 4000000 in
set_option maxRecDepth 100000 in
theorem c_X4_set_ok (l : Launch) (dC : Nat → ClassId) (dI : Nat → Nat → Nat) (cI : ClassId) (cS : ClassId) (a : Nat → Nat) (q : Nat → Nat → Nat) (sz : Nat) (S : S_LS) (Z : (Nat → S_State)) (v1 : Int32) (rr : Int32) (Y : S_LS) (YZ : (Nat → S_State)) (hF : F_X4_set S Z v1 = some (.inr (rr, Y, YZ))) : Met l yX4_set wsX4_set ({ frames := 6, cells := 0, slots := 0, locals := 150 } : Room) (va_Pc [.ref (a 0), .int v1] (jPre (dC, dI) [(cI, .int), (cS, .object "LearnedShapes$State")] sz (W_Full cI cS a q S Z))) (va_Qi (fun (r' : Int32) (u : S_LS × (Nat → S_State)) => rr = r' ∧ (Y, YZ) = u) (fun (u : S_LS × (Nat → S_State)) (t : State) => ∃ q9 : Nat → Nat → Nat, jB (dC, dI) [(cI, .int), (cS, .object "LearnedShapes$State")] (va_A (W_Full cI cS a q S Z) sz) (W_Full cI cS a q9 u.1 u.2) t) (va_A (W_Full cI cS a q S Z) sz)) 0 0 (va_A (W_Full cI cS a q S Z) sz) := by
  refine Met.ofW (cc := cX4_set) (maxL := 3) (ret := (some .int)) (by decide) rfl ?_
  intro p e s m args below meth c s₁ B hml hv
  obtain ⟨rfl, hsz, hP, hK, hD0, hN⟩ := hv
  have hx := B.exec
  have hb := B.bytes
  have hr := B.returns
  have hts := atoms_spec (ws := wsX4_set) B.pre
  have hown : s.vm.findClass RX4 = some m.cls := findClass_of_methodNamed B.named
  have hlocks := B.notSynchronized
  have hKi : va_K (dC, dI) vwCl [(cI, .int)] s := hK.sub [0] rfl
  have hinX2 : ∀ w ∈ u_ws RX2 TX2 3, w ∈ wsX4_set := by decide +kernel
  have hinX4 : ∀ w ∈ u_ws RX4 TX4 8, w ∈ wsX4_set := by decide +kernel
  subst hsz
  have hD := hD0.self (sz := s.heap.size)
  generalize hAe : (va_A (W_Full cI cS a q S Z) s.heap.size) = A at hD ⊢
  have hA : ∀ q : Nat, s.heap.size ≤ q → A q := fun q h => by rw [← hAe]; exact Or.inr h
  have hS : va_S A s.heap s.heap [] := va_S.rf
  have hl := lv_entry ([.ref (a 0), .int v1]) (n := 3) (Nat.le_of_ble_eq_true rfl)
  rw [lg_entry_eq]
  generalize (lg_sl ([.ref (a 0), .int v1]) ++ List.replicate (3 - (lg_sl ([.ref (a 0), .int v1])).length) Slot.unset).toArray = ls at hl ⊢
  have hl : lv_has ls 3 [(0, .ref (a 0)), (1, .int v1)] := hl
  have KE : ∀ (H : Heap) (locs : List Loc), va_P (dC, dI) vwCl (W_Full cI cS a q S Z) H → va_D A (W_Full cI cS a q S Z) → va_S A s.heap H locs → W p l e (headSpec wsX4_set ({ frames := 6, cells := 0, slots := 0, locals := 150 } : Room)).room s m ([.ref (a 0), .int v1] : List Value).toArray below meth c H locs 0 0 (MQ below (va_Qi (fun (r' : Int32) (u : S_LS × (Nat → S_State)) => rr = r' ∧ (Y, YZ) = u) (fun (u : S_LS × (Nat → S_State)) (t : State) => ∃ q9 : Nat → Nat → Nat, jB (dC, dI) [(cI, .int), (cS, .object "LearnedShapes$State")] A (W_Full cI cS a q9 u.1 u.2) t) A) ([.ref (a 0), .int v1] : List Value).toArray s 0 0 A) (F0 m 0 ls []) := by
    intro H locs hP hD hS
    have hP : va_P (dC, dI) vwCl (List.flatten [W_LS cI a S, W_Sav cS (a 13) [((q 0) 0), ((q 1) 0), ((q 2) 0), ((q 3) 0), ((q 4) 0), ((q 5) 0)], W_State cI (q 0) (Z 0), W_State cI (q 1) (Z 1), W_State cI (q 2) (Z 2), W_State cI (q 3) (Z 3), W_State cI (q 4) (Z 4), W_State cI (q 5) (Z 5)]) H := hP
    have hD : va_D A (List.flatten [W_LS cI a S, W_Sav cS (a 13) [((q 0) 0), ((q 1) 0), ((q 2) 0), ((q 3) 0), ((q 4) 0), ((q 5) 0)], W_State cI (q 0) (Z 0), W_State cI (q 1) (Z 1), W_State cI (q 2) (Z 2), W_State cI (q 3) (Z 3), W_State cI (q 4) (Z 4), W_State cI (q 5) (Z 5)]) := hD
    unfold F_X4_set at hF
    refine lv_iload_n hx hb dX4_set_0 rfl (lv_at hl 1 rfl) ?_
    refine lv_if_lt (tgt := 9) hx hb dX4_set_1 (by decide) (fun c1 => ?_) (fun c1 => ?_)
    · have hF := F_pos c1 hF
      exact nomatch hF
    · have hF := F_neg c1 hF
      refine lv_iload_n hx hb dX4_set_4 rfl (lv_at hl 1 rfl) ?_
      refine lv_iconst (v := (1 : Int32)) hx hb dX4_set_5 (by decide) ?_
      refine lv_icmp_le (tgt := 19) hx hb dX4_set_6 (by decide) (fun c2 => ?_) (fun c2 => ?_)
      · have hF := F_pos c2 hF
        refine lv_aload_n hx hb dX4_set_19 rfl (lv_at hl 0 rfl) ?_
        obtain ⟨u3, z4, h5, hF⟩ := ob2_some hF
        have hP : va_P (dC, dI) vwCl (W_Full cI cS a q S Z) H := hP
        have hD : va_D A (W_Full cI cS a q S Z) := hD
        have hPc := hP
        have hDc := hD
        have hFc := jFreeW (ws := (W_Full cI cS a q S Z)) hD hS hA
        refine va_callv (va_runV (As := []) (rest := []) ⟨hx, hb, hml, hown, hts⟩ (c_X4_saveState l dC dI cI cS a q H.size _ _ _ _ h5) (cwV 0 hts gX4_set_X4_saveState rfl rfl rfl (by decide +kernel) ⟨Nat.le_of_ble_eq_true rfl, Nat.le_of_ble_eq_true rfl⟩) (jPreV hK hPc hDc hN (ci := 4) rfl rfl) rfl rfl hl.1 rfl (lv_room (Nat.le_of_ble_eq_true rfl)) dX4_set_20 ⟨Nat.le_of_ble_eq_true rfl, Nat.le_of_ble_eq_true rfl⟩) hS (fun q _ h => hFc q h) hFc (fun u9 t H locs ht hvm hw hB hz1 hk1 hS => ?_)
        subst hw
        obtain ⟨q, hP1, -, hD1⟩ := hB
        rw [ht] at hP1
        have hP : va_P (dC, dI) vwCl (W_Full cI cS a q u3 z4) H := hP1
        have hD : va_D A (W_Full cI cS a q u3 z4) := hD1.weaken (fun _ _ _ h => hFc _ h)
        have hP : va_P (dC, dI) vwCl (List.flatten [W_LS cI a u3, W_Sav cS (a 13) [((q 0) 0), ((q 1) 0), ((q 2) 0), ((q 3) 0), ((q 4) 0), ((q 5) 0)], W_State cI (q 0) (z4 0), W_State cI (q 1) (z4 1), W_State cI (q 2) (z4 2), W_State cI (q 3) (z4 3), W_State cI (q 4) (z4 4), W_State cI (q 5) (z4 5)]) H := hP
        have hD : va_D A (List.flatten [W_LS cI a u3, W_Sav cS (a 13) [((q 0) 0), ((q 1) 0), ((q 2) 0), ((q 3) 0), ((q 4) 0), ((q 5) 0)], W_State cI (q 0) (z4 0), W_State cI (q 1) (z4 1), W_State cI (q 2) (z4 2), W_State cI (q 3) (z4 3), W_State cI (q 4) (z4 4), W_State cI (q 5) (z4 5)]) := hD
        refine lv_aload_n hx hb dX4_set_23 rfl (lv_at hl 0 rfl) ?_
        refine va_get (D := (dC, dI)) (ci := 4) (v := .ref (a 5)) (C := RX4) (T := TX4) (N := 8) hx hb hts hinX4 hown hK hP 0 rfl rfl 3 (by decide) (hts (Cond.fieldLink RX4 23 "LearnedShapes" "now" "LLearnedShapes$State;") (List.mem_of_getElem? (i := 3) rfl)) (fun _ h9 => h9) rfl dX4_set_24 ?_
        refine va_get (D := (dC, dI)) (ci := 2) (v := .int (g_State_setting (g_LS_now u3))) (C := RX2) (T := TX2) (N := 3) hx hb hts hinX2 hown hK hP 5 rfl rfl 2 (by decide) (hts (Cond.fieldLink RX4 115 "LearnedShapes$State" "setting" "I") (List.mem_of_getElem? (i := 4) rfl)) (fun _ h9 => h9) rfl dX4_set_27 ?_
        refine lv_istore_n (lv' := [(2, .int (g_State_setting (g_LS_now u3))), (0, .ref (a 0)), (1, .int v1)]) hx hb dX4_set_30 rfl hl (by decide) rfl (fun ls hl => ?_)
        refine lv_aload_n hx hb dX4_set_31 rfl (lv_at hl 1 rfl) ?_
        refine va_get (D := (dC, dI)) (ci := 4) (v := .ref (a 5)) (C := RX4) (T := TX4) (N := 8) hx hb hts hinX4 hown hK hP 0 rfl rfl 3 (by decide) (hts (Cond.fieldLink RX4 23 "LearnedShapes" "now" "LLearnedShapes$State;") (List.mem_of_getElem? (i := 3) rfl)) (fun _ h9 => h9) rfl dX4_set_32 ?_
        refine lv_iload_n hx hb dX4_set_35 rfl (lv_at hl 2 rfl) ?_
        refine va_put (D := (dC, dI)) (ci := 2) (v := .int v1) (ty := .int) (C := RX2) (T := TX2) (N := 3) hx hb hts hinX2 tyX2 tyX2_ok nmX2 hown hK hP hD hS 5 rfl rfl 2 (by decide) (hts (Cond.fieldLink RX4 115 "LearnedShapes$State" "setting" "I") (List.mem_of_getElem? (i := 4) rfl)) (fun _ h9 => h9) rfl (by decide +kernel) (rfl) rfl (Nat.le_of_ble_eq_true rfl) dX4_set_36 (fun H locs hP hD hS => ?_)
        have hP : va_P (dC, dI) vwCl (List.flatten [W_LS cI a (s_LS_now u3 (s_State_setting (g_LS_now u3) v1)), W_Sav cS (a 13) [((q 0) 0), ((q 1) 0), ((q 2) 0), ((q 3) 0), ((q 4) 0), ((q 5) 0)], W_State cI (q 0) (z4 0), W_State cI (q 1) (z4 1), W_State cI (q 2) (z4 2), W_State cI (q 3) (z4 3), W_State cI (q 4) (z4 4), W_State cI (q 5) (z4 5)]) H := hP
        have hD : va_D A (List.flatten [W_LS cI a (s_LS_now u3 (s_State_setting (g_LS_now u3) v1)), W_Sav cS (a 13) [((q 0) 0), ((q 1) 0), ((q 2) 0), ((q 3) 0), ((q 4) 0), ((q 5) 0)], W_State cI (q 0) (z4 0), W_State cI (q 1) (z4 1), W_State cI (q 2) (z4 2), W_State cI (q 3) (z4 3), W_State cI (q 4) (z4 4), W_State cI (q 5) (z4 5)]) := hD
        refine lv_iload_n hx hb dX4_set_39 rfl (lv_at hl 0 rfl) ?_
        have hP : va_P (dC, dI) vwCl (W_Full cI cS a q (s_LS_now u3 (s_State_setting (g_LS_now u3) v1)) z4) H := hP
        have hD : va_D A (W_Full cI cS a q (s_LS_now u3 (s_State_setting (g_LS_now u3) v1)) z4) := hD
        have e50 := Sum.inr.inj (Option.some.inj hF)
        obtain ⟨e60, e51⟩ := Prod.mk.inj e50
        obtain ⟨e61, e52⟩ := Prod.mk.inj e51
        subst e60
        subst e61
        subst e52
        exact W.iret (v := (g_State_setting (g_LS_now u3))) hx hb hr (fun t ht hW => ⟨⟨(g_State_setting (g_LS_now u3)), ((s_LS_now u3 (s_State_setting (g_LS_now u3) v1)), z4), rfl, ⟨rfl, rfl⟩, q, by rw [ht]; exact hP, va_K.moved hW.alike hK, hD⟩, hS.F ht⟩) hS.2.2 dX4_set_40
      · have hF := F_neg c2 hF
        exact nomatch hF
  exact KE _ _ hP hD hS
