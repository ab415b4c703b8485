set_option maxHeartbeats 4000000 in
set_option maxRecDepth 100000 in
theorem c_X5_nextNode (l : Launch) (dC : Nat → ClassId) (dI : Nat → Nat → Nat) (cI : ClassId) (a : Nat → Nat) (sz : Nat) (S : S_Model) (v1 : Int32) (rr : Int32) (hF : F_X5_nextNode S v1 = some rr) : Met l yX5_nextNode wsX5_nextNode ({ frames := 2, cells := 0, slots := 0, locals := 47 } : Room) (va_Pc [.ref (a 0), .int v1] (jPre (dC, dI) [(cI, .int)] sz ((W_Model cI a S)))) (va_Qi (fun (r' : Int32) (_ : Unit) => rr = r') (fun _ : Unit => jB (dC, dI) [(cI, .int)] (va_A ((W_Model cI a S)) sz) ((W_Model cI a S))) (va_A ((W_Model cI a S)) sz)) 0 0 (va_A ((W_Model cI a S)) sz) := by
  refine Met.ofW (cc := cX5_nextNode) (maxL := 4) (ret := (some .int)) (by decide) rfl ?_
  intro p e s m args below meth c s₁ B hml hv
  obtain ⟨rfl, hsz, hP, hK, hD0, hN⟩ := hv
  have hx := B.exec
  have hb := B.bytes
  have hr := B.returns
  have hts := atoms_spec (ws := wsX5_nextNode) B.pre
  have hown : s.vm.findClass RX5 = some m.cls := findClass_of_methodNamed B.named
  have hlocks := B.notSynchronized
  have hinX5 : ∀ w ∈ u_ws RX5 TX5 26, w ∈ wsX5_nextNode := by decide +kernel
  subst hsz
  have hD := hD0.self (sz := s.heap.size)
  generalize hAe : (va_A ((W_Model cI a S)) s.heap.size) = A at hD ⊢
  have hA : ∀ q : Nat, s.heap.size ≤ q → A q := fun q h => by rw [← hAe]; exact Or.inr h
  have hS : va_S A s.heap s.heap [] := va_S.rf
  have hl := lv_entry ([.ref (a 0), .int v1]) (n := 4) (Nat.le_of_ble_eq_true rfl)
  rw [lg_entry_eq]
  generalize (lg_sl ([.ref (a 0), .int v1]) ++ List.replicate (4 - (lg_sl ([.ref (a 0), .int v1])).length) Slot.unset).toArray = ls at hl ⊢
  have hl : lv_has ls 4 [(0, .ref (a 0)), (1, .int v1)] := hl
  have K9 : ∀ (n9 : Nat) (x2 : Int32) (x3 : Int32) (H : Heap) (locs : List Loc), F_X5_nextNode_9 S n9 x2 x3 = some rr → va_P (dC, dI) vwCl ((W_Model cI a S)) H → va_D A ((W_Model cI a S)) → va_S A s.heap H locs → ∀ ls : Array Slot, lv_has ls 4 [(0, .ref (a 0)), (2, .int x2), (3, .int x3)] → W p l e (headSpec wsX5_nextNode ({ frames := 2, cells := 0, slots := 0, locals := 47 } : Room)).room s m ([.ref (a 0), .int v1] : List Value).toArray below meth c H locs 0 0 (MQ below (va_Qi (fun (r' : Int32) (_ : Unit) => rr = r') (fun _ : Unit => jB (dC, dI) [(cI, .int)] A ((W_Model cI a S))) A) ([.ref (a 0), .int v1] : List Value).toArray s 0 0 A) (F0 m 9 ls []) := by
    intro n9
    induction n9 with
    | zero => intro x2 x3 H locs hF; exact nomatch hF
    | succ n9 ih9 =>
      intro x2 x3 H locs hF hP hD hS ls hl
      rw [F_X5_nextNode_9_s] at hF
      refine lv_iload_n hx hb dX5_nextNode_9 rfl (lv_at hl 1 rfl) ?_
      refine lv_iconst (v := (-1 : Int32)) hx hb dX5_nextNode_10 (by decide) ?_
      refine lv_icmp_ne (tgt := 60) hx hb dX5_nextNode_11 (by decide) (fun c1 => ?_) (fun c1 => ?_)
      · have hF := F_neg c1 hF
        refine lv_iload_n hx hb dX5_nextNode_60 rfl (lv_at hl 1 rfl) ?_
        have e50 := Option.some.inj hF
        subst e50
        exact W.iret (v := x2) hx hb hr (fun t ht hW => ⟨⟨x2, (), rfl, rfl, by rw [ht]; exact hP, va_K.moved hW.alike hK, hD⟩, hS.F ht⟩) hS.2.2 dX5_nextNode_61
      · have hF := F_pos c1 hF
        refine lv_iload_n hx hb dX5_nextNode_14 rfl (lv_at hl 2 rfl) ?_
        refine lv_if_le (tgt := 60) hx hb dX5_nextNode_15 (by decide) (fun c2 => ?_) (fun c2 => ?_)
        · have hF := F_pos c2 hF
          refine lv_iload_n hx hb dX5_nextNode_60 rfl (lv_at hl 1 rfl) ?_
          have e50 := Option.some.inj hF
          subst e50
          exact W.iret (v := x2) hx hb hr (fun t ht hW => ⟨⟨x2, (), rfl, rfl, by rw [ht]; exact hP, va_K.moved hW.alike hK, hD⟩, hS.F ht⟩) hS.2.2 dX5_nextNode_61
        · have hF := F_neg c2 hF
          refine lv_aload_n hx hb dX5_nextNode_18 rfl (lv_at hl 0 rfl) ?_
          refine lv_aload_n hx hb dX5_nextNode_19 rfl (lv_at hl 0 rfl) ?_
          refine wg_tree (v := .ref (a 11)) hx hb hts hinX5 hown hK hP rfl (hts (Cond.fieldLink RX5 40 "LearnedShapesModel" "tree" "[I") (List.mem_of_getElem? (i := 1) rfl)) dX5_nextNode_20 ?_
          refine lv_bipush (v := (7 : Int32)) hx hb dX5_nextNode_23 (by decide) ?_
          refine lv_iload_n hx hb dX5_nextNode_25 rfl (lv_at hl 2 rfl) ?_
          refine lv_imul hx hb dX5_nextNode_26 ?_
          refine lv_iconst (v := (1 : Int32)) hx hb dX5_nextNode_27 (by decide) ?_
          refine lv_iadd hx hb dX5_nextNode_28 ?_
          obtain ⟨g3, hF⟩ := og_some hF
          refine wl_tree (f := (g_Model_tree S)) hx hb hK hP rfl (inb_in g3) dX5_nextNode_29 ?_
          refine lv_aload_n hx hb dX5_nextNode_30 rfl (lv_at hl 0 rfl) ?_
          refine wg_tree (v := .ref (a 11)) hx hb hts hinX5 hown hK hP rfl (hts (Cond.fieldLink RX5 40 "LearnedShapesModel" "tree" "[I") (List.mem_of_getElem? (i := 1) rfl)) dX5_nextNode_31 ?_
          refine lv_bipush (v := (7 : Int32)) hx hb dX5_nextNode_34 (by decide) ?_
          refine lv_iload_n hx hb dX5_nextNode_36 rfl (lv_at hl 2 rfl) ?_
          refine lv_imul hx hb dX5_nextNode_37 ?_
          refine lv_iconst (v := (2 : Int32)) hx hb dX5_nextNode_38 (by decide) ?_
          refine lv_iadd hx hb dX5_nextNode_39 ?_
          obtain ⟨g4, hF⟩ := og_some hF
          refine wl_tree (f := (g_Model_tree S)) hx hb hK hP rfl (inb_in g4) dX5_nextNode_40 ?_
          obtain ⟨r5, h6, hF⟩ := ob1_some hF
          have hPc : va_P (dC, dI) vwCl ((W_Model cI a S)) H := hP
          have hDc : va_D A ((W_Model cI a S)) := hD
          have hFc := jFreeW (ws := (W_Model cI a S)) hD hS hA
          refine va_calli (va_runV (As := [.int ((g_Model_tree S) (((7 : Int32) * x3) + (1 : Int32)).toNatClampNeg), .int ((g_Model_tree S) (((7 : Int32) * x3) + (2 : Int32)).toNatClampNeg)]) (rest := []) ⟨hx, hb, hml, hown, hts⟩ (c_X5_nextChild l dC dI cI a H.size _ _ _ _ h6) (cwV 2 hts gX5_nextNode_X5_nextChild rfl rfl rfl (by decide +kernel) ⟨Nat.le_of_ble_eq_true rfl, Nat.le_of_ble_eq_true rfl⟩) (jPreV hK hPc hDc hN (ci := 5) rfl rfl) rfl rfl hl.1 rfl (lv_room (Nat.le_of_ble_eq_true rfl)) dX5_nextNode_41 ⟨Nat.le_of_ble_eq_true rfl, Nat.le_of_ble_eq_true rfl⟩) hS (fun q _ h => hFc q h) hFc (fun r' u' t H locs ht hvm hw hB hz1 hk1 hS => ?_)
          subst hw
          obtain ⟨hP1, -, hD1⟩ := hB
          rw [ht] at hP1
          have hP : va_P (dC, dI) vwCl ((W_Model cI a S)) H := hP1
          have hD : va_D A ((W_Model cI a S)) := hD1.weaken (fun _ _ _ h => hFc _ h)
          refine lv_istore_n (lv' := [(2, .int r5), (0, .ref (a 0)), (3, .int x3)]) hx hb dX5_nextNode_44 rfl hl (by decide) rfl (fun ls hl => ?_)
          refine lv_aload_n hx hb dX5_nextNode_45 rfl (lv_at hl 1 rfl) ?_
          refine wg_tree (v := .ref (a 11)) hx hb hts hinX5 hown hK hP rfl (hts (Cond.fieldLink RX5 40 "LearnedShapesModel" "tree" "[I") (List.mem_of_getElem? (i := 1) rfl)) dX5_nextNode_46 ?_
          refine lv_bipush (v := (7 : Int32)) hx hb dX5_nextNode_49 (by decide) ?_
          refine lv_iload_n hx hb dX5_nextNode_51 rfl (lv_at hl 2 rfl) ?_
          refine lv_imul hx hb dX5_nextNode_52 ?_
          refine lv_iconst (v := (1 : Int32)) hx hb dX5_nextNode_53 (by decide) ?_
          refine lv_iadd hx hb dX5_nextNode_54 ?_
          obtain ⟨g7, hF⟩ := og_some hF
          refine wl_tree (f := (g_Model_tree S)) hx hb hK hP rfl (inb_in g7) dX5_nextNode_55 ?_
          refine lv_istore_n (lv' := [(3, .int ((g_Model_tree S) (((7 : Int32) * x3) + (1 : Int32)).toNatClampNeg)), (2, .int r5), (0, .ref (a 0))]) hx hb dX5_nextNode_56 rfl hl (by decide) rfl (fun ls hl => ?_)
          refine lv_goto (tgt := 9) hx hb dX5_nextNode_57 (by decide) ?_
          exact ih9 _ _ _ _ hF hP hD hS _ (lv_sub hl [2, 1, 0] rfl)
  have KE : ∀ (H : Heap) (locs : List Loc), va_P (dC, dI) vwCl ((W_Model cI a S)) H → va_D A ((W_Model cI a S)) → va_S A s.heap H locs → W p l e (headSpec wsX5_nextNode ({ frames := 2, cells := 0, slots := 0, locals := 47 } : Room)).room s m ([.ref (a 0), .int v1] : List Value).toArray below meth c H locs 0 0 (MQ below (va_Qi (fun (r' : Int32) (_ : Unit) => rr = r') (fun _ : Unit => jB (dC, dI) [(cI, .int)] A ((W_Model cI a S))) A) ([.ref (a 0), .int v1] : List Value).toArray s 0 0 A) (F0 m 0 ls []) := by
    intro H locs hP hD hS
    unfold F_X5_nextNode at hF
    refine lv_aload_n hx hb dX5_nextNode_0 rfl (lv_at hl 0 rfl) ?_
    refine lv_iload_n hx hb dX5_nextNode_1 rfl (lv_at hl 1 rfl) ?_
    refine lv_iconst (v := (-1 : Int32)) hx hb dX5_nextNode_2 (by decide) ?_
    obtain ⟨r8, h9, hF⟩ := ob1_some hF
    have hPc : va_P (dC, dI) vwCl ((W_Model cI a S)) H := hP
    have hDc : va_D A ((W_Model cI a S)) := hD
    have hFc := jFreeW (ws := (W_Model cI a S)) hD hS hA
    refine va_calli (va_runV (As := [.int v1, .int (-1 : Int32)]) (rest := []) ⟨hx, hb, hml, hown, hts⟩ (c_X5_nextChild l dC dI cI a H.size _ _ _ _ h9) (cwV 2 hts gX5_nextNode_X5_nextChild rfl rfl rfl (by decide +kernel) ⟨Nat.le_of_ble_eq_true rfl, Nat.le_of_ble_eq_true rfl⟩) (jPreV hK hPc hDc hN (ci := 5) rfl rfl) rfl rfl hl.1 rfl (lv_room (Nat.le_of_ble_eq_true rfl)) dX5_nextNode_3 ⟨Nat.le_of_ble_eq_true rfl, Nat.le_of_ble_eq_true rfl⟩) hS (fun q _ h => hFc q h) hFc (fun r' u' t H locs ht hvm hw hB hz1 hk1 hS => ?_)
    subst hw
    obtain ⟨hP1, -, hD1⟩ := hB
    rw [ht] at hP1
    have hP : va_P (dC, dI) vwCl ((W_Model cI a S)) H := hP1
    have hD : va_D A ((W_Model cI a S)) := hD1.weaken (fun _ _ _ h => hFc _ h)
    refine lv_istore_n (lv' := [(2, .int r8), (0, .ref (a 0)), (1, .int v1)]) hx hb dX5_nextNode_6 rfl hl (by decide) rfl (fun ls hl => ?_)
    refine lv_iload_n hx hb dX5_nextNode_7 rfl (lv_at hl 2 rfl) ?_
    refine lv_istore_n (lv' := [(3, .int v1), (2, .int r8), (0, .ref (a 0)), (1, .int v1)]) hx hb dX5_nextNode_8 rfl hl (by decide) rfl (fun ls hl => ?_)
    exact K9 _ _ _ _ _ hF hP hD hS _ (lv_sub hl [2, 1, 0] rfl)
  exact KE _ _ hP hD hS
set_option maxHeartbeats 4000000 in
set_option maxRecDepth 100000 in
theorem c_X5_becomes (l : Launch) (dC : Nat → ClassId) (dI : Nat → Nat → Nat) (cI : ClassId) (a : Nat → Nat) (sz : Nat) (S : S_Model) (v1 : Int32) (Y : S_Model) (hF : F_X5_becomes S v1 = some Y) : Met l yX5_becomes wsX5_becomes ({ frames := 3, cells := 0, slots := 0, locals := 70 } : Room) (va_Pc [.ref (a 0), .int v1] (jPre (dC, dI) [(cI, .int)] sz ((W_Model cI a S)))) (va_Qv (fun u : S_Model => Y = u) (fun u : S_Model => jB (dC, dI) [(cI, .int)] (va_A ((W_Model cI a S)) sz) ((W_Model cI a u))) (va_A ((W_Model cI a S)) sz)) 0 0 (va_A ((W_Model cI a S)) sz) := by
  refine Met.ofW (cc := cX5_becomes) (maxL := 6) (ret := none) (by decide) rfl ?_
  intro p e s m args below meth c s₁ B hml hv
  obtain ⟨rfl, hsz, hP, hK, hD0, hN⟩ := hv
  have hx := B.exec
  have hb := B.bytes
  have hr := B.returns
  have hts := atoms_spec (ws := wsX5_becomes) B.pre
  have hown : s.vm.findClass RX5 = some m.cls := findClass_of_methodNamed B.named
  have hlocks := B.notSynchronized
  have hinX5 : ∀ w ∈ u_ws RX5 TX5 26, w ∈ wsX5_becomes := by decide +kernel
  subst hsz
  have hD := hD0.self (sz := s.heap.size)
  generalize hAe : (va_A ((W_Model cI a S)) s.heap.size) = A at hD ⊢
  have hA : ∀ q : Nat, s.heap.size ≤ q → A q := fun q h => by rw [← hAe]; exact Or.inr h
  have hS : va_S A s.heap s.heap [] := va_S.rf
  have hl := lv_entry ([.ref (a 0), .int v1]) (n := 6) (Nat.le_of_ble_eq_true rfl)
  rw [lg_entry_eq]
  generalize (lg_sl ([.ref (a 0), .int v1]) ++ List.replicate (6 - (lg_sl ([.ref (a 0), .int v1])).length) Slot.unset).toArray = ls at hl ⊢
  have hl : lv_has ls 6 [(0, .ref (a 0)), (1, .int v1)] := hl
  have K15 : ∀ (n15 : Nat) (S : S_Model) (x2 : Int32) (x3 : Int32) (H : Heap) (locs : List Loc), F_X5_becomes_15 v1 n15 S x2 x3 = some Y → va_P (dC, dI) vwCl ((W_Model cI a S)) H → va_D A ((W_Model cI a S)) → va_S A s.heap H locs → ∀ ls : Array Slot, lv_has ls 6 [(0, .ref (a 0)), (1, .int v1), (2, .int x2), (3, .int x3)] → W p l e (headSpec wsX5_becomes ({ frames := 3, cells := 0, slots := 0, locals := 70 } : Room)).room s m ([.ref (a 0), .int v1] : List Value).toArray below meth c H locs 0 0 (MQ below (va_Qv (fun u : S_Model => Y = u) (fun u : S_Model => jB (dC, dI) [(cI, .int)] A ((W_Model cI a u))) A) ([.ref (a 0), .int v1] : List Value).toArray s 0 0 A) (F0 m 15 ls []) := by
    intro n15
    induction n15 with
    | zero => intro S x2 x3 H locs hF; exact nomatch hF
    | succ n15 ih15 =>
      intro S x2 x3 H locs hF hP hD hS ls hl
      rw [F_X5_becomes_15_s] at hF
      have K44 : ∀ (n44 : Nat) (S : S_Model) (x2 : Int32) (x3 : Int32) (x4 : Int32) (x5 : Int32) (H : Heap) (locs : List Loc), F_X5_becomes_44 v1 (F_X5_becomes_15 v1 n15) n44 S x2 x3 x4 x5 = some Y → va_P (dC, dI) vwCl ((W_Model cI a S)) H → va_D A ((W_Model cI a S)) → va_S A s.heap H locs → ∀ ls : Array Slot, lv_has ls 6 [(0, .ref (a 0)), (1, .int v1), (2, .int x2), (3, .int x3), (4, .int x4), (5, .int x5)] → W p l e (headSpec wsX5_becomes ({ frames := 3, cells := 0, slots := 0, locals := 70 } : Room)).room s m ([.ref (a 0), .int v1] : List Value).toArray below meth c H locs 0 0 (MQ below (va_Qv (fun u : S_Model => Y = u) (fun u : S_Model => jB (dC, dI) [(cI, .int)] A ((W_Model cI a u))) A) ([.ref (a 0), .int v1] : List Value).toArray s 0 0 A) (F0 m 44 ls []) := by
        intro n44
        induction n44 with
        | zero => intro S x2 x3 x4 x5 H locs hF; exact nomatch hF
        | succ n44 ih44 =>
          intro S x2 x3 x4 x5 H locs hF hP hD hS ls hl
          rw [F_X5_becomes_44_s] at hF
          refine lv_iload hx hb dX5_becomes_44 (lv_at hl 5 rfl) ?_
          refine lv_bipush (v := (7 : Int32)) hx hb dX5_becomes_46 (by decide) ?_
          refine lv_icmp_ge (tgt := 79) hx hb dX5_becomes_48 (by decide) (fun c1 => ?_) (fun c1 => ?_)
          · have hF := F_pos c1 hF
            refine lv_aload_n hx hb dX5_becomes_79 rfl (lv_at hl 0 rfl) ?_
            refine wg_now (v := .ref (a 1)) hx hb hts hinX5 hown hK hP rfl (hts (Cond.fieldLink RX5 7 "LearnedShapesModel" "now" "[I") (List.mem_of_getElem? (i := 3) rfl)) dX5_becomes_80 ?_
            refine lv_iload hx hb dX5_becomes_83 (lv_at hl 4 rfl) ?_
            refine lv_iconst (v := (1 : Int32)) hx hb dX5_becomes_85 (by decide) ?_
            refine lv_iadd hx hb dX5_becomes_86 ?_
            refine lv_iload_n hx hb dX5_becomes_87 rfl (lv_at hl 3 rfl) ?_
            refine lv_if_ne (tgt := 95) hx hb dX5_becomes_88 (by decide) (fun c2 => ?_) (fun c2 => ?_)
            · have hF := F_neg c2 hF
              refine lv_aload_n hx hb dX5_becomes_95 rfl (lv_at hl 0 rfl) ?_
              refine wg_order (v := .ref (a 13)) hx hb hts hinX5 hown hK hP rfl (hts (Cond.fieldLink RX5 46 "LearnedShapesModel" "order" "[I") (List.mem_of_getElem? (i := 2) rfl)) dX5_becomes_96 ?_
              refine lv_aload_n hx hb dX5_becomes_99 rfl (lv_at hl 0 rfl) ?_
              refine wg_tree (v := .ref (a 11)) hx hb hts hinX5 hown hK hP rfl (hts (Cond.fieldLink RX5 40 "LearnedShapesModel" "tree" "[I") (List.mem_of_getElem? (i := 4) rfl)) dX5_becomes_100 ?_
              refine lv_bipush (v := (7 : Int32)) hx hb dX5_becomes_103 (by decide) ?_
              refine lv_iload_n hx hb dX5_becomes_105 rfl (lv_at hl 3 rfl) ?_
              refine lv_imul hx hb dX5_becomes_106 ?_
              refine lv_iconst (v := (1 : Int32)) hx hb dX5_becomes_107 (by decide) ?_
              refine lv_iadd hx hb dX5_becomes_108 ?_
              obtain ⟨g3, hF⟩ := og_some hF
              refine wl_tree (f := (g_Model_tree S)) hx hb hK hP rfl (inb_in g3) dX5_becomes_109 ?_
              obtain ⟨g4, hF⟩ := og_some hF
              refine wl_order (f := (g_Model_order S)) hx hb hK hP rfl (inb_in g4) dX5_becomes_110 ?_
              obtain ⟨g5, hF⟩ := og_some hF
              refine ws_now (f := (g_Model_now S)) hx hb hK hP hD hS rfl (inb_in g5) dX5_becomes_111 (fun H locs hP hD hS => ?_)
              refine lv_iinc (v := (x2 + (1 : Int32))) (lv' := [(2, .int (x2 + (1 : Int32))), (0, .ref (a 0)), (1, .int v1), (3, .int x3), (4, .int x4), (5, .int x5)]) hx hb dX5_becomes_112 hl (k := 2) rfl rfl (by decide) rfl (fun ls hl => ?_)
              refine lv_aload_n hx hb dX5_becomes_115 rfl (lv_at hl 1 rfl) ?_
              refine lv_iload_n hx hb dX5_becomes_116 rfl (lv_at hl 3 rfl) ?_
              obtain ⟨r6, h7, hF⟩ := ob1_some hF
              have hPc : va_P (dC, dI) vwCl ((W_Model cI a (s_Model_now S (upd (g_Model_now S) (x4 + (1 : Int32)).toNatClampNeg ((g_Model_order S) ((g_Model_tree S) (((7 : Int32) * x3) + (1 : Int32)).toNatClampNeg).toNatClampNeg))))) H := hP
              have hDc : va_D A ((W_Model cI a (s_Model_now S (upd (g_Model_now S) (x4 + (1 : Int32)).toNatClampNeg ((g_Model_order S) ((g_Model_tree S) (((7 : Int32) * x3) + (1 : Int32)).toNatClampNeg).toNatClampNeg))))) := hD
              have hFc := jFreeW (ws := (W_Model cI a (s_Model_now S (upd (g_Model_now S) (x4 + (1 : Int32)).toNatClampNeg ((g_Model_order S) ((g_Model_tree S) (((7 : Int32) * x3) + (1 : Int32)).toNatClampNeg).toNatClampNeg))))) hD hS hA
              refine va_calli (va_runV (As := [.int x3]) (rest := []) ⟨hx, hb, hml, hown, hts⟩ (c_X5_nextNode l dC dI cI a H.size _ _ _ h7) (cwV 1 hts gX5_becomes_X5_nextNode rfl rfl rfl (by decide +kernel) ⟨Nat.le_of_ble_eq_true rfl, Nat.le_of_ble_eq_true rfl⟩) (jPreV hK hPc hDc hN (ci := 5) rfl rfl) rfl rfl hl.1 rfl (lv_room (Nat.le_of_ble_eq_true rfl)) dX5_becomes_117 ⟨Nat.le_of_ble_eq_true rfl, Nat.le_of_ble_eq_true rfl⟩) hS (fun q _ h => hFc q h) hFc (fun r' u' t H locs ht hvm hw hB hz1 hk1 hS => ?_)
              subst hw
              obtain ⟨hP1, -, hD1⟩ := hB
              rw [ht] at hP1
              have hP : va_P (dC, dI) vwCl ((W_Model cI a (s_Model_now S (upd (g_Model_now S) (x4 + (1 : Int32)).toNatClampNeg ((g_Model_order S) ((g_Model_tree S) (((7 : Int32) * x3) + (1 : Int32)).toNatClampNeg).toNatClampNeg))))) H := hP1
              have hD : va_D A ((W_Model cI a (s_Model_now S (upd (g_Model_now S) (x4 + (1 : Int32)).toNatClampNeg ((g_Model_order S) ((g_Model_tree S) (((7 : Int32) * x3) + (1 : Int32)).toNatClampNeg).toNatClampNeg))))) := hD1.weaken (fun _ _ _ h => hFc _ h)
              refine lv_istore_n (lv' := [(3, .int r6), (2, .int (x2 + (1 : Int32))), (0, .ref (a 0)), (1, .int v1), (4, .int x4), (5, .int x5)]) hx hb dX5_becomes_120 rfl hl (by decide) rfl (fun ls hl => ?_)
              refine lv_goto (tgt := 15) hx hb dX5_becomes_121 (by decide) ?_
              exact ih15 _ _ _ _ _ hF hP hD hS _ (lv_sub hl [2, 3, 1, 0] rfl)
            · have hF := F_pos c2 hF
              refine lv_iconst (v := (-1 : Int32)) hx hb dX5_becomes_91 (by decide) ?_
              refine lv_goto (tgt := 111) hx hb dX5_becomes_92 (by decide) ?_
              obtain ⟨g8, hF⟩ := og_some hF
              refine ws_now (f := (g_Model_now S)) hx hb hK hP hD hS rfl (inb_in g8) dX5_becomes_111 (fun H locs hP hD hS => ?_)
              refine lv_iinc (v := (x2 + (1 : Int32))) (lv' := [(2, .int (x2 + (1 : Int32))), (0, .ref (a 0)), (1, .int v1), (3, .int x3), (4, .int x4), (5, .int x5)]) hx hb dX5_becomes_112 hl (k := 2) rfl rfl (by decide) rfl (fun ls hl => ?_)
              refine lv_aload_n hx hb dX5_becomes_115 rfl (lv_at hl 1 rfl) ?_
              refine lv_iload_n hx hb dX5_becomes_116 rfl (lv_at hl 3 rfl) ?_
              obtain ⟨r9, h10, hF⟩ := ob1_some hF
              have hPc : va_P (dC, dI) vwCl ((W_Model cI a (s_Model_now S (upd (g_Model_now S) (x4 + (1 : Int32)).toNatClampNeg (-1 : Int32))))) H := hP
              have hDc : va_D A ((W_Model cI a (s_Model_now S (upd (g_Model_now S) (x4 + (1 : Int32)).toNatClampNeg (-1 : Int32))))) := hD
              have hFc := jFreeW (ws := (W_Model cI a (s_Model_now S (upd (g_Model_now S) (x4 + (1 : Int32)).toNatClampNeg (-1 : Int32))))) hD hS hA
              refine va_calli (va_runV (As := [.int x3]) (rest := []) ⟨hx, hb, hml, hown, hts⟩ (c_X5_nextNode l dC dI cI a H.size _ _ _ h10) (cwV 1 hts gX5_becomes_X5_nextNode rfl rfl rfl (by decide +kernel) ⟨Nat.le_of_ble_eq_true rfl, Nat.le_of_ble_eq_true rfl⟩) (jPreV hK hPc hDc hN (ci := 5) rfl rfl) rfl rfl hl.1 rfl (lv_room (Nat.le_of_ble_eq_true rfl)) dX5_becomes_117 ⟨Nat.le_of_ble_eq_true rfl, Nat.le_of_ble_eq_true rfl⟩) hS (fun q _ h => hFc q h) hFc (fun r' u' t H locs ht hvm hw hB hz1 hk1 hS => ?_)
              subst hw
              obtain ⟨hP1, -, hD1⟩ := hB
              rw [ht] at hP1
              have hP : va_P (dC, dI) vwCl ((W_Model cI a (s_Model_now S (upd (g_Model_now S) (x4 + (1 : Int32)).toNatClampNeg (-1 : Int32))))) H := hP1
              have hD : va_D A ((W_Model cI a (s_Model_now S (upd (g_Model_now S) (x4 + (1 : Int32)).toNatClampNeg (-1 : Int32))))) := hD1.weaken (fun _ _ _ h => hFc _ h)
              refine lv_istore_n (lv' := [(3, .int r9), (2, .int (x2 + (1 : Int32))), (0, .ref (a 0)), (1, .int v1), (4, .int x4), (5, .int x5)]) hx hb dX5_becomes_120 rfl hl (by decide) rfl (fun ls hl => ?_)
              refine lv_goto (tgt := 15) hx hb dX5_becomes_121 (by decide) ?_
              exact ih15 _ _ _ _ _ hF hP hD hS _ (lv_sub hl [2, 3, 1, 0] rfl)
          · have hF := F_neg c1 hF
            refine lv_aload_n hx hb dX5_becomes_51 rfl (lv_at hl 0 rfl) ?_
            refine wg_now (v := .ref (a 1)) hx hb hts hinX5 hown hK hP rfl (hts (Cond.fieldLink RX5 7 "LearnedShapesModel" "now" "[I") (List.mem_of_getElem? (i := 3) rfl)) dX5_becomes_52 ?_
            refine lv_iload hx hb dX5_becomes_55 (lv_at hl 4 rfl) ?_
            refine lv_iload hx hb dX5_becomes_57 (lv_at hl 5 rfl) ?_
            refine lv_iadd hx hb dX5_becomes_59 ?_
            refine lv_aload_n hx hb dX5_becomes_60 rfl (lv_at hl 0 rfl) ?_
            refine wg_tree (v := .ref (a 11)) hx hb hts hinX5 hown hK hP rfl (hts (Cond.fieldLink RX5 40 "LearnedShapesModel" "tree" "[I") (List.mem_of_getElem? (i := 4) rfl)) dX5_becomes_61 ?_
            refine lv_bipush (v := (7 : Int32)) hx hb dX5_becomes_64 (by decide) ?_
            refine lv_iload_n hx hb dX5_becomes_66 rfl (lv_at hl 3 rfl) ?_
            refine lv_imul hx hb dX5_becomes_67 ?_
            refine lv_iload hx hb dX5_becomes_68 (lv_at hl 5 rfl) ?_
            refine lv_iadd hx hb dX5_becomes_70 ?_
            obtain ⟨g11, hF⟩ := og_some hF
            refine wl_tree (f := (g_Model_tree S)) hx hb hK hP rfl (inb_in g11) dX5_becomes_71 ?_
            obtain ⟨g12, hF⟩ := og_some hF
            refine ws_now (f := (g_Model_now S)) hx hb hK hP hD hS rfl (inb_in g12) dX5_becomes_72 (fun H locs hP hD hS => ?_)
            refine lv_iinc (v := (x5 + (1 : Int32))) (lv' := [(5, .int (x5 + (1 : Int32))), (0, .ref (a 0)), (1, .int v1), (2, .int x2), (3, .int x3), (4, .int x4)]) hx hb dX5_becomes_73 hl (k := 5) rfl rfl (by decide) rfl (fun ls hl => ?_)
            refine lv_goto (tgt := 44) hx hb dX5_becomes_76 (by decide) ?_
            exact ih44 _ _ _ _ _ _ _ hF hP hD hS _ (lv_sub hl [1, 2, 3, 4, 5, 0] rfl)
      refine lv_iload_n hx hb dX5_becomes_15 rfl (lv_at hl 3 rfl) ?_
      refine lv_iconst (v := (-1 : Int32)) hx hb dX5_becomes_16 (by decide) ?_
      refine lv_icmp_eq (tgt := 124) hx hb dX5_becomes_17 (by decide) (fun c13 => ?_) (fun c13 => ?_)
      · have hF := F_pos c13 hF
        refine lv_aload_n hx hb dX5_becomes_124 rfl (lv_at hl 0 rfl) ?_
        refine wg_now (v := .ref (a 1)) hx hb hts hinX5 hown hK hP rfl (hts (Cond.fieldLink RX5 7 "LearnedShapesModel" "now" "[I") (List.mem_of_getElem? (i := 3) rfl)) dX5_becomes_125 ?_
        refine lv_iconst (v := (3 : Int32)) hx hb dX5_becomes_128 (by decide) ?_
        refine lv_iload_n hx hb dX5_becomes_129 rfl (lv_at hl 1 rfl) ?_
        refine lv_iadd hx hb dX5_becomes_130 ?_
        refine lv_iload_n hx hb dX5_becomes_131 rfl (lv_at hl 2 rfl) ?_
        obtain ⟨g14, hF⟩ := og_some hF
        refine ws_now (f := (g_Model_now S)) hx hb hK hP hD hS rfl (inb_in g14) dX5_becomes_132 (fun H locs hP hD hS => ?_)
        have e50 := Option.some.inj hF
        subst e50
        exact W.vret hx hb hr (fun t ht hW => ⟨⟨(s_Model_now S (upd (g_Model_now S) ((3 : Int32) + v1).toNatClampNeg x2)), rfl, rfl, by rw [ht]; exact hP, va_K.moved hW.alike hK, hD⟩, hS.F ht⟩) hS.2.2 dX5_becomes_133
      · have hF := F_neg c13 hF
        refine lv_aload_n hx hb dX5_becomes_20 rfl (lv_at hl 0 rfl) ?_
        refine wg_order (v := .ref (a 13)) hx hb hts hinX5 hown hK hP rfl (hts (Cond.fieldLink RX5 46 "LearnedShapesModel" "order" "[I") (List.mem_of_getElem? (i := 2) rfl)) dX5_becomes_21 ?_
        refine lv_iload_n hx hb dX5_becomes_24 rfl (lv_at hl 3 rfl) ?_
        refine lv_iload_n hx hb dX5_becomes_25 rfl (lv_at hl 2 rfl) ?_
        obtain ⟨g15, hF⟩ := og_some hF
        refine ws_order (f := (g_Model_order S)) hx hb hK hP hD hS rfl (inb_in g15) dX5_becomes_26 (fun H locs hP hD hS => ?_)
        refine lv_iconst (v := (5 : Int32)) hx hb dX5_becomes_27 (by decide) ?_
        refine lv_sipush (v := (210 : Int32)) hx hb dX5_becomes_28 (by decide) ?_
        refine lv_iload_n hx hb dX5_becomes_31 rfl (lv_at hl 1 rfl) ?_
        refine lv_imul hx hb dX5_becomes_32 ?_
        refine lv_iadd hx hb dX5_becomes_33 ?_
        refine lv_bipush (v := (7 : Int32)) hx hb dX5_becomes_34 (by decide) ?_
        refine lv_iload_n hx hb dX5_becomes_36 rfl (lv_at hl 2 rfl) ?_
        refine lv_imul hx hb dX5_becomes_37 ?_
        refine lv_iadd hx hb dX5_becomes_38 ?_
        refine lv_istore (lv' := [(4, .int (((5 : Int32) + ((210 : Int32) * v1)) + ((7 : Int32) * x2))), (0, .ref (a 0)), (1, .int v1), (2, .int x2), (3, .int x3)]) hx hb dX5_becomes_39 hl (by decide) rfl (fun ls hl => ?_)
        refine lv_iconst (v := (0 : Int32)) hx hb dX5_becomes_41 (by decide) ?_
        refine lv_istore (lv' := [(5, .int (0 : Int32)), (4, .int (((5 : Int32) + ((210 : Int32) * v1)) + ((7 : Int32) * x2))), (0, .ref (a 0)), (1, .int v1), (2, .int x2), (3, .int x3)]) hx hb dX5_becomes_42 hl (by decide) rfl (fun ls hl => ?_)
        exact K44 _ _ _ _ _ _ _ _ hF hP hD hS _ (lv_sub hl [2, 3, 4, 5, 1, 0] rfl)
  have KE : ∀ (H : Heap) (locs : List Loc), va_P (dC, dI) vwCl ((W_Model cI a S)) H → va_D A ((W_Model cI a S)) → va_S A s.heap H locs → W p l e (headSpec wsX5_becomes ({ frames := 3, cells := 0, slots := 0, locals := 70 } : Room)).room s m ([.ref (a 0), .int v1] : List Value).toArray below meth c H locs 0 0 (MQ below (va_Qv (fun u : S_Model => Y = u) (fun u : S_Model => jB (dC, dI) [(cI, .int)] A ((W_Model cI a u))) A) ([.ref (a 0), .int v1] : List Value).toArray s 0 0 A) (F0 m 0 ls []) := by
    intro H locs hP hD hS
    unfold F_X5_becomes at hF
    refine lv_iconst (v := (0 : Int32)) hx hb dX5_becomes_0 (by decide) ?_
    refine lv_istore_n (lv' := [(2, .int (0 : Int32)), (0, .ref (a 0)), (1, .int v1)]) hx hb dX5_becomes_1 rfl hl (by decide) rfl (fun ls hl => ?_)
    refine lv_aload_n hx hb dX5_becomes_2 rfl (lv_at hl 1 rfl) ?_
    refine wg_top (v := .int (g_Model_top S)) hx hb hts hinX5 hown hK hP rfl (hts (Cond.fieldLink RX5 123 "LearnedShapesModel" "top" "I") (List.mem_of_getElem? (i := 1) rfl)) dX5_becomes_3 ?_
    refine lv_if_le (tgt := 13) hx hb dX5_becomes_6 (by decide) (fun c16 => ?_) (fun c16 => ?_)
    · have hF := F_pos c16 hF
      refine lv_iconst (v := (-1 : Int32)) hx hb dX5_becomes_13 (by decide) ?_
      refine lv_istore_n (lv' := [(3, .int (-1 : Int32)), (2, .int (0 : Int32)), (0, .ref (a 0)), (1, .int v1)]) hx hb dX5_becomes_14 rfl hl (by decide) rfl (fun ls hl => ?_)
      exact K15 _ _ _ _ _ _ hF hP hD hS _ (lv_sub hl [2, 3, 1, 0] rfl)
    · have hF := F_neg c16 hF
      refine lv_iconst (v := (0 : Int32)) hx hb dX5_becomes_9 (by decide) ?_
      refine lv_goto (tgt := 14) hx hb dX5_becomes_10 (by decide) ?_
      refine lv_istore_n (lv' := [(3, .int (0 : Int32)), (2, .int (0 : Int32)), (0, .ref (a 0)), (1, .int v1)]) hx hb dX5_becomes_14 rfl hl (by decide) rfl (fun ls hl => ?_)
      exact K15 _ _ _ _ _ _ hF hP hD hS _ (lv_sub hl [2, 3, 1, 0] rfl)
  exact KE _ _ hP hD hS
set_option maxHeartbeats 4000000 in
set_option maxRecDepth 100000 in
theorem c_X5_learn (l : Launch) (dC : Nat → ClassId) (dI : Nat → Nat → Nat) (cI : ClassId) (a : Nat → Nat) (sz : Nat) (S : S_Model) (v1 : Int32) (rr : Int32) (Y : S_Model) (hF : F_X5_learn S v1 = some (rr, Y)) : Met l yX5_learn wsX5_learn ({ frames := 7, cells := 0, slots := 0, locals := 155 } : Room) (va_Pc [.ref (a 0), .int v1] (jPre (dC, dI) [(cI, .int)] sz ((W_Model cI a S)))) (va_Qi (fun (r' : Int32) (u : S_Model) => rr = r' ∧ Y = u) (fun u : S_Model => jB (dC, dI) [(cI, .int)] (va_A ((W_Model cI a S)) sz) ((W_Model cI a u))) (va_A ((W_Model cI a S)) sz)) 0 0 (va_A ((W_Model cI a S)) sz) := by
  refine Met.ofW (cc := cX5_learn) (maxL := 2) (ret := (some .int)) (by decide) rfl ?_
  intro p e s m args below meth c s₁ B hml hv
  obtain ⟨rfl, hsz, hP, hK, hD0, hN⟩ := hv
  have hx := B.exec
  have hb := B.bytes
  have hr := B.returns
  have hts := atoms_spec (ws := wsX5_learn) B.pre
  have hown : s.vm.findClass RX5 = some m.cls := findClass_of_methodNamed B.named
  have hlocks := B.notSynchronized
  have hinX5 : ∀ w ∈ u_ws RX5 TX5 26, w ∈ wsX5_learn := by decide +kernel
  subst hsz
  have hD := hD0.self (sz := s.heap.size)
  generalize hAe : (va_A ((W_Model cI a S)) s.heap.size) = A at hD ⊢
  have hA : ∀ q : Nat, s.heap.size ≤ q → A q := fun q h => by rw [← hAe]; exact Or.inr h
  have hS : va_S A s.heap s.heap [] := va_S.rf
  have hl := lv_entry ([.ref (a 0), .int v1]) (n := 2) (Nat.le_of_ble_eq_true rfl)
  rw [lg_entry_eq]
  generalize (lg_sl ([.ref (a 0), .int v1]) ++ List.replicate (2 - (lg_sl ([.ref (a 0), .int v1])).length) Slot.unset).toArray = ls at hl ⊢
  have hl : lv_has ls 2 [(0, .ref (a 0)), (1, .int v1)] := hl
  have KE : ∀ (H : Heap) (locs : List Loc), va_P (dC, dI) vwCl ((W_Model cI a S)) H → va_D A ((W_Model cI a S)) → va_S A s.heap H locs → W p l e (headSpec wsX5_learn ({ frames := 7, cells := 0, slots := 0, locals := 155 } : Room)).room s m ([.ref (a 0), .int v1] : List Value).toArray below meth c H locs 0 0 (MQ below (va_Qi (fun (r' : Int32) (u : S_Model) => rr = r' ∧ Y = u) (fun u : S_Model => jB (dC, dI) [(cI, .int)] A ((W_Model cI a u))) A) ([.ref (a 0), .int v1] : List Value).toArray s 0 0 A) (F0 m 0 ls []) := by
    intro H locs hP hD hS
    unfold F_X5_learn at hF
    refine lv_aload_n hx hb dX5_learn_0 rfl (lv_at hl 0 rfl) ?_
    refine lv_iconst (v := (0 : Int32)) hx hb dX5_learn_1 (by decide) ?_
    refine wp_thrown (v := (0 : Int32)) hx hb hts hinX5 hown hK hP hD hS (hts (Cond.fieldLink RX5 49 "LearnedShapesModel" "thrown" "I") (List.mem_of_getElem? (i := 1) rfl)) (rfl) (rfl) dX5_learn_2 (fun H locs hP hD hS => ?_)
    refine lv_iload_n hx hb dX5_learn_5 rfl (lv_at hl 1 rfl) ?_
    obtain ⟨r1, h2, hF⟩ := ob1_some hF
    have hPc : va_P (dC, dI) vwCl ([] : va_W) H := fun k q h => by simp at h
    have hDc : va_D A ([] : va_W) := ⟨fun i j p q h => by simp at h, fun k q h => by simp at h⟩
    have hFc := jFreeW (ws := []) hDc hS hA
    refine va_calli (va_runS (As := [.int v1]) (rest := []) ⟨hx, hb, hml, hown, hts⟩ (c_X5_isShape l dC dI cI  H.size _ _ h2) (va_cwS 1 hts gX5_learn_X5_isShape rfl rfl rfl (by decide +kernel) ⟨Nat.le_of_ble_eq_true rfl, Nat.le_of_ble_eq_true rfl⟩) (jPreS hK hPc hDc hN) rfl rfl hl.1 rfl (lv_room (Nat.le_of_ble_eq_true rfl)) dX5_learn_6 ⟨Nat.le_of_ble_eq_true rfl, Nat.le_of_ble_eq_true rfl⟩) hS (fun q _ h => hFc q h) hFc (fun r' u' t H locs ht hvm hw hB hz1 hk1 hS => ?_)
    subst hw
    obtain ⟨hP1, -, hD1⟩ := hB
    rw [ht] at hP1
    have hP : va_P (dC, dI) vwCl ((W_Model cI a (s_Model_thrown S (0 : Int32)))) H := jNone hP hk1
    refine lv_if_ne (tgt := 18) hx hb dX5_learn_9 (by decide) (fun c3 => ?_) (fun c3 => ?_)
    · have hF := F_neg c3 hF
      refine lv_aload_n hx hb dX5_learn_18 rfl (lv_at hl 0 rfl) ?_
      obtain ⟨r4, u5, h6, hF⟩ := ob2_some hF
      have hPc : va_P (dC, dI) vwCl ((W_Model cI a (s_Model_thrown S (0 : Int32)))) H := hP
      have hDc : va_D A ((W_Model cI a (s_Model_thrown S (0 : Int32)))) := hD
      have hFc := jFreeW (ws := (W_Model cI a (s_Model_thrown S (0 : Int32)))) hD hS hA
      refine va_calli (va_runV (As := []) (rest := []) ⟨hx, hb, hml, hown, hts⟩ (c_X5_isText l dC dI cI a H.size _ _ _ h6) (cwV 0 hts gX5_learn_X5_isText rfl rfl rfl (by decide +kernel) ⟨Nat.le_of_ble_eq_true rfl, Nat.le_of_ble_eq_true rfl⟩) (jPreV hK hPc hDc hN (ci := 5) rfl rfl) rfl rfl hl.1 rfl (lv_room (Nat.le_of_ble_eq_true rfl)) dX5_learn_19 ⟨Nat.le_of_ble_eq_true rfl, Nat.le_of_ble_eq_true rfl⟩) hS (fun q _ h => hFc q h) hFc (fun r' u' t H locs ht hvm hw hB hz1 hk1 hS => ?_)
      obtain ⟨e1, e2⟩ := hw
      subst e1
      subst e2
      obtain ⟨hP1, -, hD1⟩ := hB
      rw [ht] at hP1
      have hP : va_P (dC, dI) vwCl ((W_Model cI a u5)) H := hP1
      have hD : va_D A ((W_Model cI a u5)) := hD1.weaken (fun _ _ _ h => hFc _ h)
      refine lv_if_ne (tgt := 31) hx hb dX5_learn_22 (by decide) (fun c7 => ?_) (fun c7 => ?_)
      · have hF := F_neg c7 hF
        refine lv_aload_n hx hb dX5_learn_31 rfl (lv_at hl 0 rfl) ?_
        refine lv_iload_n hx hb dX5_learn_32 rfl (lv_at hl 1 rfl) ?_
        obtain ⟨u8, h9, hF⟩ := ob1_some hF
        have hPc : va_P (dC, dI) vwCl ((W_Model cI a u5)) H := hP
        have hDc : va_D A ((W_Model cI a u5)) := hD
        have hFc := jFreeW (ws := (W_Model cI a u5)) hD hS hA
        refine va_callv (va_runV (As := [.int v1]) (rest := []) ⟨hx, hb, hml, hown, hts⟩ (c_X5_shows l dC dI cI a H.size _ _ _ h9) (cwV 1 hts gX5_learn_X5_shows rfl rfl rfl (by decide +kernel) ⟨Nat.le_of_ble_eq_true rfl, Nat.le_of_ble_eq_true rfl⟩) (jPreV hK hPc hDc hN (ci := 5) rfl rfl) rfl rfl hl.1 rfl (lv_room (Nat.le_of_ble_eq_true rfl)) dX5_learn_33 ⟨Nat.le_of_ble_eq_true rfl, Nat.le_of_ble_eq_true rfl⟩) hS (fun q _ h => hFc q h) hFc (fun u' t H locs ht hvm hw hB hz1 hk1 hS => ?_)
        subst hw
        obtain ⟨hP1, -, hD1⟩ := hB
        rw [ht] at hP1
        have hP : va_P (dC, dI) vwCl ((W_Model cI a u8)) H := hP1
        have hD : va_D A ((W_Model cI a u8)) := hD1.weaken (fun _ _ _ h => hFc _ h)
        refine lv_aload_n hx hb dX5_learn_36 rfl (lv_at hl 0 rfl) ?_
        obtain ⟨r10, h11, hF⟩ := ob1_some hF
        have hPc : va_P (dC, dI) vwCl ((W_Model cI a u8)) H := hP
        have hDc : va_D A ((W_Model cI a u8)) := hD
        have hFc := jFreeW (ws := (W_Model cI a u8)) hD hS hA
        refine va_calli (va_runV (As := []) (rest := []) ⟨hx, hb, hml, hown, hts⟩ (c_X5_isRefused l dC dI cI a H.size _ _ h11) (cwV 0 hts gX5_learn_X5_isRefused rfl rfl rfl (by decide +kernel) ⟨Nat.le_of_ble_eq_true rfl, Nat.le_of_ble_eq_true rfl⟩) (jPreV hK hPc hDc hN (ci := 5) rfl rfl) rfl rfl hl.1 rfl (lv_room (Nat.le_of_ble_eq_true rfl)) dX5_learn_37 ⟨Nat.le_of_ble_eq_true rfl, Nat.le_of_ble_eq_true rfl⟩) hS (fun q _ h => hFc q h) hFc (fun r' u' t H locs ht hvm hw hB hz1 hk1 hS => ?_)
        subst hw
        obtain ⟨hP1, -, hD1⟩ := hB
        rw [ht] at hP1
        have hP : va_P (dC, dI) vwCl ((W_Model cI a u8)) H := hP1
        have hD : va_D A ((W_Model cI a u8)) := hD1.weaken (fun _ _ _ h => hFc _ h)
        refine lv_if_eq (tgt := 49) hx hb dX5_learn_40 (by decide) (fun c12 => ?_) (fun c12 => ?_)
        · have hF := F_pos c12 hF
          refine lv_aload_n hx hb dX5_learn_49 rfl (lv_at hl 0 rfl) ?_
          obtain ⟨u13, h14, hF⟩ := ob1_some hF
          have hPc : va_P (dC, dI) vwCl ((W_Model cI a u8)) H := hP
          have hDc : va_D A ((W_Model cI a u8)) := hD
          have hFc := jFreeW (ws := (W_Model cI a u8)) hD hS hA
          refine va_callv (va_runV (As := []) (rest := []) ⟨hx, hb, hml, hown, hts⟩ (c_X5_saves l dC dI cI a H.size _ _ h14) (cwV 0 hts gX5_learn_X5_saves rfl rfl rfl (by decide +kernel) ⟨Nat.le_of_ble_eq_true rfl, Nat.le_of_ble_eq_true rfl⟩) (jPreV hK hPc hDc hN (ci := 5) rfl rfl) rfl rfl hl.1 rfl (lv_room (Nat.le_of_ble_eq_true rfl)) dX5_learn_50 ⟨Nat.le_of_ble_eq_true rfl, Nat.le_of_ble_eq_true rfl⟩) hS (fun q _ h => hFc q h) hFc (fun u' t H locs ht hvm hw hB hz1 hk1 hS => ?_)
          subst hw
          obtain ⟨hP1, -, hD1⟩ := hB
          rw [ht] at hP1
          have hP : va_P (dC, dI) vwCl ((W_Model cI a u13)) H := hP1
          have hD : va_D A ((W_Model cI a u13)) := hD1.weaken (fun _ _ _ h => hFc _ h)
          refine lv_aload_n hx hb dX5_learn_53 rfl (lv_at hl 0 rfl) ?_
          refine lv_iload_n hx hb dX5_learn_54 rfl (lv_at hl 1 rfl) ?_
          obtain ⟨u15, h16, hF⟩ := ob1_some hF
          have hPc : va_P (dC, dI) vwCl ((W_Model cI a u13)) H := hP
          have hDc : va_D A ((W_Model cI a u13)) := hD
          have hFc := jFreeW (ws := (W_Model cI a u13)) hD hS hA
          refine va_callv (va_runV (As := [.int v1]) (rest := []) ⟨hx, hb, hml, hown, hts⟩ (c_X5_becomes l dC dI cI a H.size _ _ _ h16) (cwV 1 hts gX5_learn_X5_becomes rfl rfl rfl (by decide +kernel) ⟨Nat.le_of_ble_eq_true rfl, Nat.le_of_ble_eq_true rfl⟩) (jPreV hK hPc hDc hN (ci := 5) rfl rfl) rfl rfl hl.1 rfl (lv_room (Nat.le_of_ble_eq_true rfl)) dX5_learn_55 ⟨Nat.le_of_ble_eq_true rfl, Nat.le_of_ble_eq_true rfl⟩) hS (fun q _ h => hFc q h) hFc (fun u' t H locs ht hvm hw hB hz1 hk1 hS => ?_)
          subst hw
          obtain ⟨hP1, -, hD1⟩ := hB
          rw [ht] at hP1
          have hP : va_P (dC, dI) vwCl ((W_Model cI a u15)) H := hP1
          have hD : va_D A ((W_Model cI a u15)) := hD1.weaken (fun _ _ _ h => hFc _ h)
          refine lv_aload_n hx hb dX5_learn_58 rfl (lv_at hl 0 rfl) ?_
          refine wg_now (v := .ref (a 1)) hx hb hts hinX5 hown hK hP rfl (hts (Cond.fieldLink RX5 7 "LearnedShapesModel" "now" "[I") (List.mem_of_getElem? (i := 2) rfl)) dX5_learn_59 ?_
          refine lv_iconst (v := (1 : Int32)) hx hb dX5_learn_62 (by decide) ?_
          refine lv_iload_n hx hb dX5_learn_63 rfl (lv_at hl 1 rfl) ?_
          refine lv_iadd hx hb dX5_learn_64 ?_
          refine lv_dup2_11 hx hb dX5_learn_65 rfl rfl ?_
          obtain ⟨g17, hF⟩ := og_some hF
          refine wl_now (f := (g_Model_now u15)) hx hb hK hP rfl (inb_in g17) dX5_learn_66 ?_
          refine lv_iconst (v := (1 : Int32)) hx hb dX5_learn_67 (by decide) ?_
          refine lv_iadd hx hb dX5_learn_68 ?_
          obtain ⟨g18, hF⟩ := og_some hF
          refine ws_now (f := (g_Model_now u15)) hx hb hK hP hD hS rfl (inb_in g18) dX5_learn_69 (fun H locs hP hD hS => ?_)
          refine lv_aload_n hx hb dX5_learn_70 rfl (lv_at hl 0 rfl) ?_
          refine lv_iconst (v := (0 : Int32)) hx hb dX5_learn_71 (by decide) ?_
          refine wp_typed (v := (0 : Int32)) hx hb hts hinX5 hown hK hP hD hS (hts (Cond.fieldLink RX5 71 "LearnedShapesModel" "typed" "I") (List.mem_of_getElem? (i := 3) rfl)) (rfl) (rfl) dX5_learn_72 (fun H locs hP hD hS => ?_)
          refine lv_aload_n hx hb dX5_learn_75 rfl (lv_at hl 0 rfl) ?_
          refine wg_now (v := .ref (a 1)) hx hb hts hinX5 hown hK hP rfl (hts (Cond.fieldLink RX5 7 "LearnedShapesModel" "now" "[I") (List.mem_of_getElem? (i := 2) rfl)) dX5_learn_76 ?_
          refine lv_iconst (v := (3 : Int32)) hx hb dX5_learn_79 (by decide) ?_
          refine lv_iload_n hx hb dX5_learn_80 rfl (lv_at hl 1 rfl) ?_
          refine lv_iadd hx hb dX5_learn_81 ?_
          obtain ⟨g19, hF⟩ := og_some hF
          refine wl_now (f := (upd (g_Model_now u15) ((1 : Int32) + v1).toNatClampNeg (((g_Model_now u15) ((1 : Int32) + v1).toNatClampNeg) + (1 : Int32)))) hx hb hK hP rfl (inb_in g19) dX5_learn_82 ?_
          have e50 := Option.some.inj hF
          obtain ⟨e60, e51⟩ := Prod.mk.inj e50
          subst e60
          subst e51
          exact W.iret (v := ((upd (g_Model_now u15) ((1 : Int32) + v1).toNatClampNeg (((g_Model_now u15) ((1 : Int32) + v1).toNatClampNeg) + (1 : Int32))) ((3 : Int32) + v1).toNatClampNeg)) hx hb hr (fun t ht hW => ⟨⟨((upd (g_Model_now u15) ((1 : Int32) + v1).toNatClampNeg (((g_Model_now u15) ((1 : Int32) + v1).toNatClampNeg) + (1 : Int32))) ((3 : Int32) + v1).toNatClampNeg), (s_Model_typed (s_Model_now u15 (upd (g_Model_now u15) ((1 : Int32) + v1).toNatClampNeg (((g_Model_now u15) ((1 : Int32) + v1).toNatClampNeg) + (1 : Int32)))) (0 : Int32)), rfl, ⟨rfl, rfl⟩, by rw [ht]; exact hP, va_K.moved hW.alike hK, hD⟩, hS.F ht⟩) hS.2.2 dX5_learn_83
        · have hF := F_neg c12 hF
          refine lv_aload_n hx hb dX5_learn_43 rfl (lv_at hl 0 rfl) ?_
          refine lv_iconst (v := (3 : Int32)) hx hb dX5_learn_44 (by decide) ?_
          obtain ⟨r20, u21, h22, hF⟩ := ob2_some hF
          have hPc : va_P (dC, dI) vwCl ((W_Model cI a u8)) H := hP
          have hDc : va_D A ((W_Model cI a u8)) := hD
          have hFc := jFreeW (ws := (W_Model cI a u8)) hD hS hA
          refine va_calli (va_runV (As := [.int (3 : Int32)]) (rest := []) ⟨hx, hb, hml, hown, hts⟩ (c_X5_fails l dC dI cI a H.size _ _ _ _ h22) (cwV 1 hts gX5_learn_X5_fails rfl rfl rfl (by decide +kernel) ⟨Nat.le_of_ble_eq_true rfl, Nat.le_of_ble_eq_true rfl⟩) (jPreV hK hPc hDc hN (ci := 5) rfl rfl) rfl rfl hl.1 rfl (lv_room (Nat.le_of_ble_eq_true rfl)) dX5_learn_45 ⟨Nat.le_of_ble_eq_true rfl, Nat.le_of_ble_eq_true rfl⟩) hS (fun q _ h => hFc q h) hFc (fun r' u' t H locs ht hvm hw hB hz1 hk1 hS => ?_)
          obtain ⟨e1, e2⟩ := hw
          subst e1
          subst e2
          obtain ⟨hP1, -, hD1⟩ := hB
          rw [ht] at hP1
          have hP : va_P (dC, dI) vwCl ((W_Model cI a u21)) H := hP1
          have hD : va_D A ((W_Model cI a u21)) := hD1.weaken (fun _ _ _ h => hFc _ h)
          have e50 := Option.some.inj hF
          obtain ⟨e60, e51⟩ := Prod.mk.inj e50
          subst e60
          subst e51
          exact W.iret (v := r20) hx hb hr (fun t ht hW => ⟨⟨r20, u21, rfl, ⟨rfl, rfl⟩, by rw [ht]; exact hP, va_K.moved hW.alike hK, hD⟩, hS.F ht⟩) hS.2.2 dX5_learn_48
      · have hF := F_pos c7 hF
        refine lv_aload_n hx hb dX5_learn_25 rfl (lv_at hl 0 rfl) ?_
        refine lv_iconst (v := (2 : Int32)) hx hb dX5_learn_26 (by decide) ?_
        obtain ⟨r23, u24, h25, hF⟩ := ob2_some hF
        have hPc : va_P (dC, dI) vwCl ((W_Model cI a u5)) H := hP
        have hDc : va_D A ((W_Model cI a u5)) := hD
        have hFc := jFreeW (ws := (W_Model cI a u5)) hD hS hA
        refine va_calli (va_runV (As := [.int (2 : Int32)]) (rest := []) ⟨hx, hb, hml, hown, hts⟩ (c_X5_fails l dC dI cI a H.size _ _ _ _ h25) (cwV 1 hts gX5_learn_X5_fails rfl rfl rfl (by decide +kernel) ⟨Nat.le_of_ble_eq_true rfl, Nat.le_of_ble_eq_true rfl⟩) (jPreV hK hPc hDc hN (ci := 5) rfl rfl) rfl rfl hl.1 rfl (lv_room (Nat.le_of_ble_eq_true rfl)) dX5_learn_27 ⟨Nat.le_of_ble_eq_true rfl, Nat.le_of_ble_eq_true rfl⟩) hS (fun q _ h => hFc q h) hFc (fun r' u' t H locs ht hvm hw hB hz1 hk1 hS => ?_)
        obtain ⟨e1, e2⟩ := hw
        subst e1
        subst e2
        obtain ⟨hP1, -, hD1⟩ := hB
        rw [ht] at hP1
        have hP : va_P (dC, dI) vwCl ((W_Model cI a u24)) H := hP1
        have hD : va_D A ((W_Model cI a u24)) := hD1.weaken (fun _ _ _ h => hFc _ h)
        have e50 := Option.some.inj hF
        obtain ⟨e60, e51⟩ := Prod.mk.inj e50
        subst e60
        subst e51
        exact W.iret (v := r23) hx hb hr (fun t ht hW => ⟨⟨r23, u24, rfl, ⟨rfl, rfl⟩, by rw [ht]; exact hP, va_K.moved hW.alike hK, hD⟩, hS.F ht⟩) hS.2.2 dX5_learn_30
    · have hF := F_pos c3 hF
      refine lv_aload_n hx hb dX5_learn_12 rfl (lv_at hl 0 rfl) ?_
      refine lv_iconst (v := (1 : Int32)) hx hb dX5_learn_13 (by decide) ?_
      obtain ⟨r26, u27, h28, hF⟩ := ob2_some hF
      have hPc : va_P (dC, dI) vwCl ((W_Model cI a (s_Model_thrown S (0 : Int32)))) H := hP
      have hDc : va_D A ((W_Model cI a (s_Model_thrown S (0 : Int32)))) := hD
      have hFc := jFreeW (ws := (W_Model cI a (s_Model_thrown S (0 : Int32)))) hD hS hA
      refine va_calli (va_runV (As := [.int (1 : Int32)]) (rest := []) ⟨hx, hb, hml, hown, hts⟩ (c_X5_fails l dC dI cI a H.size _ _ _ _ h28) (cwV 1 hts gX5_learn_X5_fails rfl rfl rfl (by decide +kernel) ⟨Nat.le_of_ble_eq_true rfl, Nat.le_of_ble_eq_true rfl⟩) (jPreV hK hPc hDc hN (ci := 5) rfl rfl) rfl rfl hl.1 rfl (lv_room (Nat.le_of_ble_eq_true rfl)) dX5_learn_14 ⟨Nat.le_of_ble_eq_true rfl, Nat.le_of_ble_eq_true rfl⟩) hS (fun q _ h => hFc q h) hFc (fun r' u' t H locs ht hvm hw hB hz1 hk1 hS => ?_)
      obtain ⟨e1, e2⟩ := hw
      subst e1
      subst e2
      obtain ⟨hP1, -, hD1⟩ := hB
      rw [ht] at hP1
      have hP : va_P (dC, dI) vwCl ((W_Model cI a u27)) H := hP1
      have hD : va_D A ((W_Model cI a u27)) := hD1.weaken (fun _ _ _ h => hFc _ h)
      have e50 := Option.some.inj hF
      obtain ⟨e60, e51⟩ := Prod.mk.inj e50
      subst e60
      subst e51
      exact W.iret (v := r26) hx hb hr (fun t ht hW => ⟨⟨r26, u27, rfl, ⟨rfl, rfl⟩, by rw [ht]; exact hP, va_K.moved hW.alike hK, hD⟩, hS.F ht⟩) hS.2.2 dX5_learn_17
  exact KE _ _ hP hD hS
set_option maxHeartbeats 4000000 in
set_option maxRecDepth 100000 in
theorem c_X5_joins (l : Launch) (dC : Nat → ClassId) (dI : Nat → Nat → Nat) (cI : ClassId) (a : Nat → Nat) (sz : Nat) (S : S_Model) (v1 : Int32) (Y : S_Model) (hF : F_X5_joins S v1 = some Y) : Met l yX5_joins wsX5_joins ({ frames := 2, cells := 0, slots := 0, locals := 48 } : Room) (va_Pc [.ref (a 0), .int v1] (jPre (dC, dI) [(cI, .int)] sz ((W_Model cI a S)))) (va_Qv (fun u : S_Model => Y = u) (fun u : S_Model => jB (dC, dI) [(cI, .int)] (va_A ((W_Model cI a S)) sz) ((W_Model cI a u))) (va_A ((W_Model cI a S)) sz)) 0 0 (va_A ((W_Model cI a S)) sz) := by
  refine Met.ofW (cc := cX5_joins) (maxL := 9) (ret := none) (by decide) rfl ?_
  intro p e s m args below meth c s₁ B hml hv
  obtain ⟨rfl, hsz, hP, hK, hD0, hN⟩ := hv
  have hx := B.exec
  have hb := B.bytes
  have hr := B.returns
  have hts := atoms_spec (ws := wsX5_joins) B.pre
  have hown : s.vm.findClass RX5 = some m.cls := findClass_of_methodNamed B.named
  have hlocks := B.notSynchronized
  have hinX5 : ∀ w ∈ u_ws RX5 TX5 26, w ∈ wsX5_joins := by decide +kernel
  subst hsz
  have hD := hD0.self (sz := s.heap.size)
  generalize hAe : (va_A ((W_Model cI a S)) s.heap.size) = A at hD ⊢
  have hA : ∀ q : Nat, s.heap.size ≤ q → A q := fun q h => by rw [← hAe]; exact Or.inr h
  have hS : va_S A s.heap s.heap [] := va_S.rf
  have hl := lv_entry ([.ref (a 0), .int v1]) (n := 9) (Nat.le_of_ble_eq_true rfl)
  rw [lg_entry_eq]
  generalize (lg_sl ([.ref (a 0), .int v1]) ++ List.replicate (9 - (lg_sl ([.ref (a 0), .int v1])).length) Slot.unset).toArray = ls at hl ⊢
  have hl : lv_has ls 9 [(0, .ref (a 0)), (1, .int v1)] := hl
  have K11 : ∀ (n11 : Nat) (S : S_Model) (x2 : Int32) (x3 : Int32) (H : Heap) (locs : List Loc), F_X5_joins_11 v1 n11 S x2 x3 = some Y → va_P (dC, dI) vwCl ((W_Model cI a S)) H → va_D A ((W_Model cI a S)) → va_S A s.heap H locs → ∀ ls : Array Slot, lv_has ls 9 [(0, .ref (a 0)), (1, .int v1), (2, .int x2), (3, .int x3)] → W p l e (headSpec wsX5_joins ({ frames := 2, cells := 0, slots := 0, locals := 48 } : Room)).room s m ([.ref (a 0), .int v1] : List Value).toArray below meth c H locs 0 0 (MQ below (va_Qv (fun u : S_Model => Y = u) (fun u : S_Model => jB (dC, dI) [(cI, .int)] A ((W_Model cI a u))) A) ([.ref (a 0), .int v1] : List Value).toArray s 0 0 A) (F0 m 11 ls []) := by
    intro n11
    induction n11 with
    | zero => intro S x2 x3 H locs hF; exact nomatch hF
    | succ n11 ih11 =>
      intro S x2 x3 H locs hF hP hD hS ls hl
      rw [F_X5_joins_11_s] at hF
      have K248 : ∀ (S : S_Model) (x2 : Int32) (x3 : Int32) (x5 : Int32) (x7 : Int32) (x8 : Int32) (H : Heap) (locs : List Loc), F_X5_joins_248 v1 (F_X5_joins_11 v1 n11) S x2 x3 x5 x7 x8 = some Y → va_P (dC, dI) vwCl ((W_Model cI a S)) H → va_D A ((W_Model cI a S)) → va_S A s.heap H locs → ∀ ls : Array Slot, lv_has ls 9 [(0, .ref (a 0)), (1, .int v1), (2, .int x2), (3, .int x3), (5, .int x5), (7, .int x7), (8, .int x8)] → W p l e (headSpec wsX5_joins ({ frames := 2, cells := 0, slots := 0, locals := 48 } : Room)).room s m ([.ref (a 0), .int v1] : List Value).toArray below meth c H locs 0 0 (MQ below (va_Qv (fun u : S_Model => Y = u) (fun u : S_Model => jB (dC, dI) [(cI, .int)] A ((W_Model cI a u))) A) ([.ref (a 0), .int v1] : List Value).toArray s 0 0 A) (F0 m 248 ls []) := by
        intro S x2 x3 x5 x7 x8 H locs hF hP hD hS ls hl
        unfold F_X5_joins_248 at hF
        refine lv_aload_n hx hb dX5_joins_248 rfl (lv_at hl 0 rfl) ?_
        refine lv_iload hx hb dX5_joins_249 (lv_at hl 5 rfl) ?_
        refine lv_aload_n hx hb dX5_joins_251 rfl (lv_at hl 0 rfl) ?_
        refine wg_tree (v := .ref (a 11)) hx hb hts hinX5 hown hK hP rfl (hts (Cond.fieldLink RX5 40 "LearnedShapesModel" "tree" "[I") (List.mem_of_getElem? (i := 3) rfl)) dX5_joins_252 ?_
        refine lv_iload hx hb dX5_joins_255 (lv_at hl 6 rfl) ?_
        obtain ⟨g1, hF⟩ := og_some hF
        refine wl_tree (f := (g_Model_tree S)) hx hb hK hP rfl (inb_in g1) dX5_joins_257 ?_
        refine lv_aload_n hx hb dX5_joins_258 rfl (lv_at hl 0 rfl) ?_
        refine lv_iload_n hx hb dX5_joins_259 rfl (lv_at hl 2 rfl) ?_
        refine lv_iload_n hx hb dX5_joins_260 rfl (lv_at hl 3 rfl) ?_
        refine lv_iconst (v := (0 : Int32)) hx hb dX5_joins_261 (by decide) ?_
        obtain ⟨r2, h3, hF⟩ := ob1_some hF
        have hPc : va_P (dC, dI) vwCl ((W_Model cI a S)) H := hP
        have hDc : va_D A ((W_Model cI a S)) := hD
        have hFc := jFreeW (ws := (W_Model cI a S)) hD hS hA
        refine va_calli (va_runV (As := [.int x2, .int x3, .int (0 : Int32)]) (rest := [.int ((g_Model_tree S) x8.toNatClampNeg), .int x7, .ref (a 0)]) ⟨hx, hb, hml, hown, hts⟩ (c_X5_of l dC dI cI a H.size _ _ _ _ _ h3) (cwV 3 hts gX5_joins_X5_of rfl rfl rfl (by decide +kernel) ⟨Nat.le_of_ble_eq_true rfl, Nat.le_of_ble_eq_true rfl⟩) (jPreV hK hPc hDc hN (ci := 5) rfl rfl) rfl rfl hl.1 rfl (lv_room (Nat.le_of_ble_eq_true rfl)) dX5_joins_262 ⟨Nat.le_of_ble_eq_true rfl, Nat.le_of_ble_eq_true rfl⟩) hS (fun q _ h => hFc q h) hFc (fun r' u' t H locs ht hvm hw hB hz1 hk1 hS => ?_)
        subst hw
        obtain ⟨hP1, -, hD1⟩ := hB
        rw [ht] at hP1
        have hP : va_P (dC, dI) vwCl ((W_Model cI a S)) H := hP1
        have hD : va_D A ((W_Model cI a S)) := hD1.weaken (fun _ _ _ h => hFc _ h)
        obtain ⟨r4, h5, hF⟩ := ob1_some hF
        have hPc : va_P (dC, dI) vwCl ([] : va_W) H := fun k q h => by simp at h
        have hDc : va_D A ([] : va_W) := ⟨fun i j p q h => by simp at h, fun k q h => by simp at h⟩
        have hFc := jFreeW (ws := []) hDc hS hA
        refine va_calli (va_runS (As := [.int ((g_Model_tree S) x8.toNatClampNeg), .int r2]) (rest := [.int x7, .ref (a 0)]) ⟨hx, hb, hml, hown, hts⟩ (c_X5_joined l dC dI cI  H.size _ _ _ h5) (va_cwS 2 hts gX5_joins_X5_joined rfl rfl rfl (by decide +kernel) ⟨Nat.le_of_ble_eq_true rfl, Nat.le_of_ble_eq_true rfl⟩) (jPreS hK hPc hDc hN) rfl rfl hl.1 rfl (lv_room (Nat.le_of_ble_eq_true rfl)) dX5_joins_265 ⟨Nat.le_of_ble_eq_true rfl, Nat.le_of_ble_eq_true rfl⟩) hS (fun q _ h => hFc q h) hFc (fun r' u' t H locs ht hvm hw hB hz1 hk1 hS => ?_)
        subst hw
        obtain ⟨hP1, -, hD1⟩ := hB
        rw [ht] at hP1
        have hP : va_P (dC, dI) vwCl ((W_Model cI a S)) H := jNone hP hk1
        refine lv_iload hx hb dX5_joins_268 (lv_at hl 4 rfl) ?_
        obtain ⟨u6, h7, hF⟩ := ob1_some hF
        have hPc : va_P (dC, dI) vwCl ((W_Model cI a S)) H := hP
        have hDc : va_D A ((W_Model cI a S)) := hD
        have hFc := jFreeW (ws := (W_Model cI a S)) hD hS hA
        refine va_callv (va_runV (As := [.int x7, .int r4, .int x5]) (rest := []) ⟨hx, hb, hml, hown, hts⟩ (c_X5_widens l dC dI cI a H.size _ _ _ _ _ h7) (cwV 3 hts gX5_joins_X5_widens rfl rfl rfl (by decide +kernel) ⟨Nat.le_of_ble_eq_true rfl, Nat.le_of_ble_eq_true rfl⟩) (jPreV hK hPc hDc hN (ci := 5) rfl rfl) rfl rfl hl.1 rfl (lv_room (Nat.le_of_ble_eq_true rfl)) dX5_joins_270 ⟨Nat.le_of_ble_eq_true rfl, Nat.le_of_ble_eq_true rfl⟩) hS (fun q _ h => hFc q h) hFc (fun u' t H locs ht hvm hw hB hz1 hk1 hS => ?_)
        subst hw
        obtain ⟨hP1, -, hD1⟩ := hB
        rw [ht] at hP1
        have hP : va_P (dC, dI) vwCl ((W_Model cI a u6)) H := hP1
        have hD : va_D A ((W_Model cI a u6)) := hD1.weaken (fun _ _ _ h => hFc _ h)
        refine lv_iinc (v := (x3 + (1 : Int32))) (lv' := [(3, .int (x3 + (1 : Int32))), (0, .ref (a 0)), (1, .int v1), (2, .int x2), (5, .int x5), (7, .int x7), (8, .int x8)]) hx hb dX5_joins_273 hl (k := 3) rfl rfl (by decide) rfl (fun ls hl => ?_)
        refine lv_goto (tgt := 11) hx hb dX5_joins_276 (by decide) ?_
        exact ih11 _ _ _ _ _ hF hP hD hS _ (lv_sub hl [1, 2, 3, 0] rfl)
      have K229 : ∀ (S : S_Model) (x2 : Int32) (x3 : Int32) (x5 : Int32) (x7 : Int32) (x8 : Int32) (H : Heap) (locs : List Loc), F_X5_joins_229 v1 (F_X5_joins_11 v1 n11) S x2 x3 x5 x7 x8 = some Y → va_P (dC, dI) vwCl ((W_Model cI a S)) H → va_D A ((W_Model cI a S)) → va_S A s.heap H locs → ∀ ls : Array Slot, lv_has ls 9 [(0, .ref (a 0)), (1, .int v1), (2, .int x2), (3, .int x3), (5, .int x5), (7, .int x7), (8, .int x8)] → W p l e (headSpec wsX5_joins ({ frames := 2, cells := 0, slots := 0, locals := 48 } : Room)).room s m ([.ref (a 0), .int v1] : List Value).toArray below meth c H locs 0 0 (MQ below (va_Qv (fun u : S_Model => Y = u) (fun u : S_Model => jB (dC, dI) [(cI, .int)] A ((W_Model cI a u))) A) ([.ref (a 0), .int v1] : List Value).toArray s 0 0 A) (F0 m 229 ls []) := by
        intro S x2 x3 x5 x7 x8 H locs hF hP hD hS ls hl
        unfold F_X5_joins_229 at hF
        refine lv_aload_n hx hb dX5_joins_229 rfl (lv_at hl 0 rfl) ?_
        refine wg_tree (v := .ref (a 11)) hx hb hts hinX5 hown hK hP rfl (hts (Cond.fieldLink RX5 40 "LearnedShapesModel" "tree" "[I") (List.mem_of_getElem? (i := 3) rfl)) dX5_joins_230 ?_
        refine lv_iload hx hb dX5_joins_233 (lv_at hl 6 rfl) ?_
        refine lv_iconst (v := (4 : Int32)) hx hb dX5_joins_235 (by decide) ?_
        refine lv_iadd hx hb dX5_joins_236 ?_
        refine lv_dup2_11 hx hb dX5_joins_237 rfl rfl ?_
        obtain ⟨g8, hF⟩ := og_some hF
        refine wl_tree (f := (g_Model_tree S)) hx hb hK hP rfl (inb_in g8) dX5_joins_238 ?_
        refine lv_aload_n hx hb dX5_joins_239 rfl (lv_at hl 0 rfl) ?_
        refine lv_iload_n hx hb dX5_joins_240 rfl (lv_at hl 2 rfl) ?_
        refine lv_iload_n hx hb dX5_joins_241 rfl (lv_at hl 3 rfl) ?_
        refine lv_iconst (v := (4 : Int32)) hx hb dX5_joins_242 (by decide) ?_
        obtain ⟨r9, h10, hF⟩ := ob1_some hF
        have hPc : va_P (dC, dI) vwCl ((W_Model cI a S)) H := hP
        have hDc : va_D A ((W_Model cI a S)) := hD
        have hFc := jFreeW (ws := (W_Model cI a S)) hD hS hA
        refine va_calli (va_runV (As := [.int x2, .int x3, .int (4 : Int32)]) (rest := [.int ((g_Model_tree S) (x8 + (4 : Int32)).toNatClampNeg), .int (x8 + (4 : Int32)), .ref (a 11)]) ⟨hx, hb, hml, hown, hts⟩ (c_X5_of l dC dI cI a H.size _ _ _ _ _ h10) (cwV 3 hts gX5_joins_X5_of rfl rfl rfl (by decide +kernel) ⟨Nat.le_of_ble_eq_true rfl, Nat.le_of_ble_eq_true rfl⟩) (jPreV hK hPc hDc hN (ci := 5) rfl rfl) rfl rfl hl.1 rfl (lv_room (Nat.le_of_ble_eq_true rfl)) dX5_joins_243 ⟨Nat.le_of_ble_eq_true rfl, Nat.le_of_ble_eq_true rfl⟩) hS (fun q _ h => hFc q h) hFc (fun r' u' t H locs ht hvm hw hB hz1 hk1 hS => ?_)
        subst hw
        obtain ⟨hP1, -, hD1⟩ := hB
        rw [ht] at hP1
        have hP : va_P (dC, dI) vwCl ((W_Model cI a S)) H := hP1
        have hD : va_D A ((W_Model cI a S)) := hD1.weaken (fun _ _ _ h => hFc _ h)
        refine lv_ior hx hb dX5_joins_246 ?_
        obtain ⟨g11, hF⟩ := og_some hF
        refine ws_tree (f := (g_Model_tree S)) hx hb hK hP hD hS rfl (inb_in g11) dX5_joins_247 (fun H locs hP hD hS => ?_)
        exact K248 _ _ _ _ _ _ _ _ hF hP hD hS _ (lv_sub hl [0, 1, 2, 3, 4, 5, 6] rfl)
      have K210 : ∀ (S : S_Model) (x2 : Int32) (x3 : Int32) (x5 : Int32) (x7 : Int32) (x8 : Int32) (H : Heap) (locs : List Loc), F_X5_joins_210 v1 (F_X5_joins_11 v1 n11) S x2 x3 x5 x7 x8 = some Y → va_P (dC, dI) vwCl ((W_Model cI a S)) H → va_D A ((W_Model cI a S)) → va_S A s.heap H locs → ∀ ls : Array Slot, lv_has ls 9 [(0, .ref (a 0)), (1, .int v1), (2, .int x2), (3, .int x3), (5, .int x5), (7, .int x7), (8, .int x8)] → W p l e (headSpec wsX5_joins ({ frames := 2, cells := 0, slots := 0, locals := 48 } : Room)).room s m ([.ref (a 0), .int v1] : List Value).toArray below meth c H locs 0 0 (MQ below (va_Qv (fun u : S_Model => Y = u) (fun u : S_Model => jB (dC, dI) [(cI, .int)] A ((W_Model cI a u))) A) ([.ref (a 0), .int v1] : List Value).toArray s 0 0 A) (F0 m 210 ls []) := by
        intro S x2 x3 x5 x7 x8 H locs hF hP hD hS ls hl
        unfold F_X5_joins_210 at hF
        refine lv_aload_n hx hb dX5_joins_210 rfl (lv_at hl 0 rfl) ?_
        refine wg_tree (v := .ref (a 11)) hx hb hts hinX5 hown hK hP rfl (hts (Cond.fieldLink RX5 40 "LearnedShapesModel" "tree" "[I") (List.mem_of_getElem? (i := 3) rfl)) dX5_joins_211 ?_
        refine lv_iload hx hb dX5_joins_214 (lv_at hl 6 rfl) ?_
        refine lv_iconst (v := (5 : Int32)) hx hb dX5_joins_216 (by decide) ?_
        refine lv_iadd hx hb dX5_joins_217 ?_
        refine lv_dup2_11 hx hb dX5_joins_218 rfl rfl ?_
        obtain ⟨g12, hF⟩ := og_some hF
        refine wl_tree (f := (g_Model_tree S)) hx hb hK hP rfl (inb_in g12) dX5_joins_219 ?_
        refine lv_aload_n hx hb dX5_joins_220 rfl (lv_at hl 0 rfl) ?_
        refine lv_iload_n hx hb dX5_joins_221 rfl (lv_at hl 2 rfl) ?_
        refine lv_iload_n hx hb dX5_joins_222 rfl (lv_at hl 3 rfl) ?_
        refine lv_iconst (v := (5 : Int32)) hx hb dX5_joins_223 (by decide) ?_
        obtain ⟨r13, h14, hF⟩ := ob1_some hF
        have hPc : va_P (dC, dI) vwCl ((W_Model cI a S)) H := hP
        have hDc : va_D A ((W_Model cI a S)) := hD
        have hFc := jFreeW (ws := (W_Model cI a S)) hD hS hA
        refine va_calli (va_runV (As := [.int x2, .int x3, .int (5 : Int32)]) (rest := [.int ((g_Model_tree S) (x8 + (5 : Int32)).toNatClampNeg), .int (x8 + (5 : Int32)), .ref (a 11)]) ⟨hx, hb, hml, hown, hts⟩ (c_X5_of l dC dI cI a H.size _ _ _ _ _ h14) (cwV 3 hts gX5_joins_X5_of rfl rfl rfl (by decide +kernel) ⟨Nat.le_of_ble_eq_true rfl, Nat.le_of_ble_eq_true rfl⟩) (jPreV hK hPc hDc hN (ci := 5) rfl rfl) rfl rfl hl.1 rfl (lv_room (Nat.le_of_ble_eq_true rfl)) dX5_joins_224 ⟨Nat.le_of_ble_eq_true rfl, Nat.le_of_ble_eq_true rfl⟩) hS (fun q _ h => hFc q h) hFc (fun r' u' t H locs ht hvm hw hB hz1 hk1 hS => ?_)
        subst hw
        obtain ⟨hP1, -, hD1⟩ := hB
        rw [ht] at hP1
        have hP : va_P (dC, dI) vwCl ((W_Model cI a S)) H := hP1
        have hD : va_D A ((W_Model cI a S)) := hD1.weaken (fun _ _ _ h => hFc _ h)
        refine lv_iadd hx hb dX5_joins_227 ?_
        obtain ⟨g15, hF⟩ := og_some hF
        refine ws_tree (f := (g_Model_tree S)) hx hb hK hP hD hS rfl (inb_in g15) dX5_joins_228 (fun H locs hP hD hS => ?_)
        exact K229 _ _ _ _ _ _ _ _ hF hP hD hS _ (lv_sub hl [0, 1, 2, 3, 4, 5, 6] rfl)
      have K191 : ∀ (S : S_Model) (x2 : Int32) (x3 : Int32) (x5 : Int32) (x7 : Int32) (x8 : Int32) (H : Heap) (locs : List Loc), F_X5_joins_191 v1 (F_X5_joins_11 v1 n11) S x2 x3 x5 x7 x8 = some Y → va_P (dC, dI) vwCl ((W_Model cI a S)) H → va_D A ((W_Model cI a S)) → va_S A s.heap H locs → ∀ ls : Array Slot, lv_has ls 9 [(0, .ref (a 0)), (1, .int v1), (2, .int x2), (3, .int x3), (5, .int x5), (7, .int x7), (8, .int x8)] → W p l e (headSpec wsX5_joins ({ frames := 2, cells := 0, slots := 0, locals := 48 } : Room)).room s m ([.ref (a 0), .int v1] : List Value).toArray below meth c H locs 0 0 (MQ below (va_Qv (fun u : S_Model => Y = u) (fun u : S_Model => jB (dC, dI) [(cI, .int)] A ((W_Model cI a u))) A) ([.ref (a 0), .int v1] : List Value).toArray s 0 0 A) (F0 m 191 ls []) := by
        intro S x2 x3 x5 x7 x8 H locs hF hP hD hS ls hl
        unfold F_X5_joins_191 at hF
        refine lv_aload_n hx hb dX5_joins_191 rfl (lv_at hl 0 rfl) ?_
        refine wg_tree (v := .ref (a 11)) hx hb hts hinX5 hown hK hP rfl (hts (Cond.fieldLink RX5 40 "LearnedShapesModel" "tree" "[I") (List.mem_of_getElem? (i := 3) rfl)) dX5_joins_192 ?_
        refine lv_iload hx hb dX5_joins_195 (lv_at hl 6 rfl) ?_
        refine lv_iconst (v := (3 : Int32)) hx hb dX5_joins_197 (by decide) ?_
        refine lv_iadd hx hb dX5_joins_198 ?_
        refine lv_dup2_11 hx hb dX5_joins_199 rfl rfl ?_
        obtain ⟨g16, hF⟩ := og_some hF
        refine wl_tree (f := (g_Model_tree S)) hx hb hK hP rfl (inb_in g16) dX5_joins_200 ?_
        refine lv_aload_n hx hb dX5_joins_201 rfl (lv_at hl 0 rfl) ?_
        refine lv_iload_n hx hb dX5_joins_202 rfl (lv_at hl 2 rfl) ?_
        refine lv_iload_n hx hb dX5_joins_203 rfl (lv_at hl 3 rfl) ?_
        refine lv_iconst (v := (3 : Int32)) hx hb dX5_joins_204 (by decide) ?_
        obtain ⟨r17, h18, hF⟩ := ob1_some hF
        have hPc : va_P (dC, dI) vwCl ((W_Model cI a S)) H := hP
        have hDc : va_D A ((W_Model cI a S)) := hD
        have hFc := jFreeW (ws := (W_Model cI a S)) hD hS hA
        refine va_calli (va_runV (As := [.int x2, .int x3, .int (3 : Int32)]) (rest := [.int ((g_Model_tree S) (x8 + (3 : Int32)).toNatClampNeg), .int (x8 + (3 : Int32)), .ref (a 11)]) ⟨hx, hb, hml, hown, hts⟩ (c_X5_of l dC dI cI a H.size _ _ _ _ _ h18) (cwV 3 hts gX5_joins_X5_of rfl rfl rfl (by decide +kernel) ⟨Nat.le_of_ble_eq_true rfl, Nat.le_of_ble_eq_true rfl⟩) (jPreV hK hPc hDc hN (ci := 5) rfl rfl) rfl rfl hl.1 rfl (lv_room (Nat.le_of_ble_eq_true rfl)) dX5_joins_205 ⟨Nat.le_of_ble_eq_true rfl, Nat.le_of_ble_eq_true rfl⟩) hS (fun q _ h => hFc q h) hFc (fun r' u' t H locs ht hvm hw hB hz1 hk1 hS => ?_)
        subst hw
        obtain ⟨hP1, -, hD1⟩ := hB
        rw [ht] at hP1
        have hP : va_P (dC, dI) vwCl ((W_Model cI a S)) H := hP1
        have hD : va_D A ((W_Model cI a S)) := hD1.weaken (fun _ _ _ h => hFc _ h)
        refine lv_iadd hx hb dX5_joins_208 ?_
        obtain ⟨g19, hF⟩ := og_some hF
        refine ws_tree (f := (g_Model_tree S)) hx hb hK hP hD hS rfl (inb_in g19) dX5_joins_209 (fun H locs hP hD hS => ?_)
        exact K210 _ _ _ _ _ _ _ _ hF hP hD hS _ (lv_sub hl [0, 1, 2, 3, 4, 5, 6] rfl)
      have K170 : ∀ (S : S_Model) (x2 : Int32) (x3 : Int32) (x5 : Int32) (x7 : Int32) (H : Heap) (locs : List Loc), F_X5_joins_170 v1 (F_X5_joins_11 v1 n11) S x2 x3 x5 x7 = some Y → va_P (dC, dI) vwCl ((W_Model cI a S)) H → va_D A ((W_Model cI a S)) → va_S A s.heap H locs → ∀ ls : Array Slot, lv_has ls 9 [(0, .ref (a 0)), (1, .int v1), (2, .int x2), (3, .int x3), (5, .int x5), (7, .int x7)] → W p l e (headSpec wsX5_joins ({ frames := 2, cells := 0, slots := 0, locals := 48 } : Room)).room s m ([.ref (a 0), .int v1] : List Value).toArray below meth c H locs 0 0 (MQ below (va_Qv (fun u : S_Model => Y = u) (fun u : S_Model => jB (dC, dI) [(cI, .int)] A ((W_Model cI a u))) A) ([.ref (a 0), .int v1] : List Value).toArray s 0 0 A) (F0 m 170 ls []) := by
        intro S x2 x3 x5 x7 H locs hF hP hD hS ls hl
        unfold F_X5_joins_170 at hF
        refine lv_aload_n hx hb dX5_joins_170 rfl (lv_at hl 0 rfl) ?_
        refine wg_place (v := .ref (a 12)) hx hb hts hinX5 hown hK hP rfl (hts (Cond.fieldLink RX5 43 "LearnedShapesModel" "place" "[I") (List.mem_of_getElem? (i := 2) rfl)) dX5_joins_171 ?_
        refine lv_iload_n hx hb dX5_joins_174 rfl (lv_at hl 3 rfl) ?_
        refine lv_iload hx hb dX5_joins_175 (lv_at hl 5 rfl) ?_
        obtain ⟨g20, hF⟩ := og_some hF
        refine ws_place (f := (g_Model_place S)) hx hb hK hP hD hS rfl (inb_in g20) dX5_joins_177 (fun H locs hP hD hS => ?_)
        refine lv_iload hx hb dX5_joins_178 (lv_at hl 5 rfl) ?_
        refine lv_iconst (v := (-1 : Int32)) hx hb dX5_joins_180 (by decide) ?_
        refine lv_icmp_eq (tgt := 273) hx hb dX5_joins_181 (by decide) (fun c21 => ?_) (fun c21 => ?_)
        · have hF := F_pos c21 hF
          refine lv_iinc (v := (x3 + (1 : Int32))) (lv' := [(3, .int (x3 + (1 : Int32))), (0, .ref (a 0)), (1, .int v1), (2, .int x2), (5, .int x5), (7, .int x7)]) hx hb dX5_joins_273 hl (k := 3) rfl rfl (by decide) rfl (fun ls hl => ?_)
          refine lv_goto (tgt := 11) hx hb dX5_joins_276 (by decide) ?_
          exact ih11 _ _ _ _ _ hF hP hD hS _ (lv_sub hl [1, 2, 3, 0] rfl)
        · have hF := F_neg c21 hF
          refine lv_bipush (v := (7 : Int32)) hx hb dX5_joins_184 (by decide) ?_
          refine lv_iload hx hb dX5_joins_186 (lv_at hl 5 rfl) ?_
          refine lv_imul hx hb dX5_joins_188 ?_
          refine lv_istore (lv' := [(8, .int ((7 : Int32) * x7)), (0, .ref (a 0)), (1, .int v1), (2, .int x2), (3, .int x3), (5, .int x5), (7, .int x7)]) hx hb dX5_joins_189 hl (by decide) rfl (fun ls hl => ?_)
          exact K191 _ _ _ _ _ _ _ _ hF hP hD hS _ (lv_sub hl [1, 2, 3, 4, 5, 6, 0] rfl)
      have K133 : ∀ (S : S_Model) (x2 : Int32) (x3 : Int32) (x4 : Int32) (x5 : Int32) (x6 : Bool) (t0 : Int32) (H : Heap) (locs : List Loc), F_X5_joins_133 v1 (F_X5_joins_11 v1 n11) S x2 x3 x4 x5 x6 t0 = some Y → va_P (dC, dI) vwCl ((W_Model cI a S)) H → va_D A ((W_Model cI a S)) → va_S A s.heap H locs → ∀ ls : Array Slot, lv_has ls 9 [(0, .ref (a 0)), (1, .int v1), (2, .int x2), (3, .int x3), (4, .int x4), (5, .int x5), (6, .int (b2i x6))] → W p l e (headSpec wsX5_joins ({ frames := 2, cells := 0, slots := 0, locals := 48 } : Room)).room s m ([.ref (a 0), .int v1] : List Value).toArray below meth c H locs 0 0 (MQ below (va_Qv (fun u : S_Model => Y = u) (fun u : S_Model => jB (dC, dI) [(cI, .int)] A ((W_Model cI a u))) A) ([.ref (a 0), .int v1] : List Value).toArray s 0 0 A) (F0 m 133 ls [.int t0]) := by
        intro S x2 x3 x4 x5 x6 t0 H locs hF hP hD hS ls hl
        unfold F_X5_joins_133 at hF
        refine lv_istore (lv' := [(7, .int t0), (0, .ref (a 0)), (1, .int v1), (2, .int x2), (3, .int x3), (4, .int x4), (5, .int x5), (6, .int (b2i x6))]) hx hb dX5_joins_133 hl (by decide) rfl (fun ls hl => ?_)
        refine lv_iload hx hb dX5_joins_135 (lv_at hl 7 rfl) ?_
        refine lv_if_ne (tgt := 170) hx hb dX5_joins_137 (by decide) (fun c22 => ?_) (fun c22 => ?_)
        · have hF := F_neg c22 hF
          exact K170 _ _ _ _ _ _ _ hF hP hD hS _ (lv_sub hl [1, 2, 3, 4, 6, 0] rfl)
        · have hF := F_pos c22 hF
          refine lv_iload hx hb dX5_joins_140 (lv_at hl 0 rfl) ?_
          refine lv_iconst (v := (-1 : Int32)) hx hb dX5_joins_142 (by decide) ?_
          refine lv_icmp_ne (tgt := 170) hx hb dX5_joins_143 (by decide) (fun c23 => ?_) (fun c23 => ?_)
          · have hF := F_neg c23 hF
            exact K170 _ _ _ _ _ _ _ hF hP hD hS _ (lv_sub hl [1, 2, 3, 4, 6, 0] rfl)
          · have hF := F_pos c23 hF
            refine lv_aload_n hx hb dX5_joins_146 rfl (lv_at hl 1 rfl) ?_
            refine lv_iload hx hb dX5_joins_147 (lv_at hl 5 rfl) ?_
            refine lv_aload_n hx hb dX5_joins_149 rfl (lv_at hl 1 rfl) ?_
            refine lv_iload_n hx hb dX5_joins_150 rfl (lv_at hl 3 rfl) ?_
            refine lv_iload_n hx hb dX5_joins_151 rfl (lv_at hl 4 rfl) ?_
            refine lv_iconst (v := (2 : Int32)) hx hb dX5_joins_152 (by decide) ?_
            obtain ⟨r24, h25, hF⟩ := ob1_some hF
            have hPc : va_P (dC, dI) vwCl ((W_Model cI a S)) H := hP
            have hDc : va_D A ((W_Model cI a S)) := hD
            have hFc := jFreeW (ws := (W_Model cI a S)) hD hS hA
            refine va_calli (va_runV (As := [.int x2, .int x3, .int (2 : Int32)]) (rest := [.int x4, .ref (a 0)]) ⟨hx, hb, hml, hown, hts⟩ (c_X5_of l dC dI cI a H.size _ _ _ _ _ h25) (cwV 3 hts gX5_joins_X5_of rfl rfl rfl (by decide +kernel) ⟨Nat.le_of_ble_eq_true rfl, Nat.le_of_ble_eq_true rfl⟩) (jPreV hK hPc hDc hN (ci := 5) rfl rfl) rfl rfl hl.1 rfl (lv_room (Nat.le_of_ble_eq_true rfl)) dX5_joins_153 ⟨Nat.le_of_ble_eq_true rfl, Nat.le_of_ble_eq_true rfl⟩) hS (fun q _ h => hFc q h) hFc (fun r' u' t H locs ht hvm hw hB hz1 hk1 hS => ?_)
            subst hw
            obtain ⟨hP1, -, hD1⟩ := hB
            rw [ht] at hP1
            have hP : va_P (dC, dI) vwCl ((W_Model cI a S)) H := hP1
            have hD : va_D A ((W_Model cI a S)) := hD1.weaken (fun _ _ _ h => hFc _ h)
            refine lv_aload_n hx hb dX5_joins_156 rfl (lv_at hl 1 rfl) ?_
            refine lv_iload_n hx hb dX5_joins_157 rfl (lv_at hl 3 rfl) ?_
            refine lv_iload_n hx hb dX5_joins_158 rfl (lv_at hl 4 rfl) ?_
            refine lv_iconst (v := (0 : Int32)) hx hb dX5_joins_159 (by decide) ?_
            obtain ⟨r26, h27, hF⟩ := ob1_some hF
            have hPc : va_P (dC, dI) vwCl ((W_Model cI a S)) H := hP
            have hDc : va_D A ((W_Model cI a S)) := hD
            have hFc := jFreeW (ws := (W_Model cI a S)) hD hS hA
            refine va_calli (va_runV (As := [.int x2, .int x3, .int (0 : Int32)]) (rest := [.int r24, .int x4, .ref (a 0)]) ⟨hx, hb, hml, hown, hts⟩ (c_X5_of l dC dI cI a H.size _ _ _ _ _ h27) (cwV 3 hts gX5_joins_X5_of rfl rfl rfl (by decide +kernel) ⟨Nat.le_of_ble_eq_true rfl, Nat.le_of_ble_eq_true rfl⟩) (jPreV hK hPc hDc hN (ci := 5) rfl rfl) rfl rfl hl.1 rfl (lv_room (Nat.le_of_ble_eq_true rfl)) dX5_joins_160 ⟨Nat.le_of_ble_eq_true rfl, Nat.le_of_ble_eq_true rfl⟩) hS (fun q _ h => hFc q h) hFc (fun r' u' t H locs ht hvm hw hB hz1 hk1 hS => ?_)
            subst hw
            obtain ⟨hP1, -, hD1⟩ := hB
            rw [ht] at hP1
            have hP : va_P (dC, dI) vwCl ((W_Model cI a S)) H := hP1
            have hD : va_D A ((W_Model cI a S)) := hD1.weaken (fun _ _ _ h => hFc _ h)
            refine lv_iload hx hb dX5_joins_163 (lv_at hl 6 rfl) ?_
            obtain ⟨r28, u29, h30, hF⟩ := ob2_some hF
            have hPc : va_P (dC, dI) vwCl ((W_Model cI a S)) H := hP
            have hDc : va_D A ((W_Model cI a S)) := hD
            have hFc := jFreeW (ws := (W_Model cI a S)) hD hS hA
            refine va_calli (va_runV (As := [.int x4, .int r24, .int r26, .int x5]) (rest := []) ⟨hx, hb, hml, hown, hts⟩ (c_X5_makes l dC dI cI a H.size _ _ _ _ _ _ _ h30) (cwV 4 hts gX5_joins_X5_makes rfl rfl rfl (by decide +kernel) ⟨Nat.le_of_ble_eq_true rfl, Nat.le_of_ble_eq_true rfl⟩) (jPreV hK hPc hDc hN (ci := 5) rfl rfl) rfl rfl hl.1 rfl (lv_room (Nat.le_of_ble_eq_true rfl)) dX5_joins_165 ⟨Nat.le_of_ble_eq_true rfl, Nat.le_of_ble_eq_true rfl⟩) hS (fun q _ h => hFc q h) hFc (fun r' u' t H locs ht hvm hw hB hz1 hk1 hS => ?_)
            obtain ⟨e1, e2⟩ := hw
            subst e1
            subst e2
            obtain ⟨hP1, -, hD1⟩ := hB
            rw [ht] at hP1
            have hP : va_P (dC, dI) vwCl ((W_Model cI a u29)) H := hP1
            have hD : va_D A ((W_Model cI a u29)) := hD1.weaken (fun _ _ _ h => hFc _ h)
            refine lv_istore (lv' := [(7, .int r28), (0, .ref (a 0)), (1, .int v1), (2, .int x2), (3, .int x3), (4, .int x4), (5, .int x5), (6, .int (b2i x6))]) hx hb dX5_joins_168 hl (by decide) rfl (fun ls hl => ?_)
            exact K170 _ _ _ _ _ _ _ hF hP hD hS _ (lv_sub hl [1, 2, 3, 4, 6, 0] rfl)
      have K94 : ∀ (S : S_Model) (x2 : Int32) (x3 : Int32) (x4 : Int32) (x5 : Int32) (t0 : Bool) (H : Heap) (locs : List Loc), F_X5_joins_94 v1 (F_X5_joins_11 v1 n11) S x2 x3 x4 x5 t0 = some Y → va_P (dC, dI) vwCl ((W_Model cI a S)) H → va_D A ((W_Model cI a S)) → va_S A s.heap H locs → ∀ ls : Array Slot, lv_has ls 9 [(0, .ref (a 0)), (1, .int v1), (2, .int x2), (3, .int x3), (4, .int x4), (5, .int x5)] → W p l e (headSpec wsX5_joins ({ frames := 2, cells := 0, slots := 0, locals := 48 } : Room)).room s m ([.ref (a 0), .int v1] : List Value).toArray below meth c H locs 0 0 (MQ below (va_Qv (fun u : S_Model => Y = u) (fun u : S_Model => jB (dC, dI) [(cI, .int)] A ((W_Model cI a u))) A) ([.ref (a 0), .int v1] : List Value).toArray s 0 0 A) (F0 m 94 ls [.int (b2i t0)]) := by
        intro S x2 x3 x4 x5 t0 H locs hF hP hD hS ls hl
        unfold F_X5_joins_94 at hF
        refine lv_istore (lv' := [(6, .int (b2i t0)), (0, .ref (a 0)), (1, .int v1), (2, .int x2), (3, .int x3), (4, .int x4), (5, .int x5)]) hx hb dX5_joins_94 hl (by decide) rfl (fun ls hl => ?_)
        refine lv_iload hx hb dX5_joins_96 (lv_at hl 0 rfl) ?_
        refine lv_if_eq (tgt := 105) hx hb dX5_joins_98 (by decide) (fun c31 => ?_) (fun c31 => ?_)
        · have hF := F_pos c31 hF
          refine lv_iload_n hx hb dX5_joins_105 rfl (lv_at hl 4 rfl) ?_
          refine lv_if_ne (tgt := 120) hx hb dX5_joins_106 (by decide) (fun c32 => ?_) (fun c32 => ?_)
          · have hF := F_neg c32 hF
            refine lv_aload_n hx hb dX5_joins_120 rfl (lv_at hl 1 rfl) ?_
            refine lv_iload hx hb dX5_joins_121 (lv_at hl 5 rfl) ?_
            refine lv_aload_n hx hb dX5_joins_123 rfl (lv_at hl 1 rfl) ?_
            refine lv_iload_n hx hb dX5_joins_124 rfl (lv_at hl 3 rfl) ?_
            refine lv_iload_n hx hb dX5_joins_125 rfl (lv_at hl 4 rfl) ?_
            refine lv_iconst (v := (2 : Int32)) hx hb dX5_joins_126 (by decide) ?_
            obtain ⟨r33, h34, hF⟩ := ob1_some hF
            have hPc : va_P (dC, dI) vwCl ((W_Model cI a S)) H := hP
            have hDc : va_D A ((W_Model cI a S)) := hD
            have hFc := jFreeW (ws := (W_Model cI a S)) hD hS hA
            refine va_calli (va_runV (As := [.int x2, .int x3, .int (2 : Int32)]) (rest := [.int x4, .ref (a 0)]) ⟨hx, hb, hml, hown, hts⟩ (c_X5_of l dC dI cI a H.size _ _ _ _ _ h34) (cwV 3 hts gX5_joins_X5_of rfl rfl rfl (by decide +kernel) ⟨Nat.le_of_ble_eq_true rfl, Nat.le_of_ble_eq_true rfl⟩) (jPreV hK hPc hDc hN (ci := 5) rfl rfl) rfl rfl hl.1 rfl (lv_room (Nat.le_of_ble_eq_true rfl)) dX5_joins_127 ⟨Nat.le_of_ble_eq_true rfl, Nat.le_of_ble_eq_true rfl⟩) hS (fun q _ h => hFc q h) hFc (fun r' u' t H locs ht hvm hw hB hz1 hk1 hS => ?_)
            subst hw
            obtain ⟨hP1, -, hD1⟩ := hB
            rw [ht] at hP1
            have hP : va_P (dC, dI) vwCl ((W_Model cI a S)) H := hP1
            have hD : va_D A ((W_Model cI a S)) := hD1.weaken (fun _ _ _ h => hFc _ h)
            obtain ⟨r35, h36, hF⟩ := ob1_some hF
            have hPc : va_P (dC, dI) vwCl ((W_Model cI a S)) H := hP
            have hDc : va_D A ((W_Model cI a S)) := hD
            have hFc := jFreeW (ws := (W_Model cI a S)) hD hS hA
            refine va_calli (va_runV (As := [.int x4, .int r33]) (rest := []) ⟨hx, hb, hml, hown, hts⟩ (c_X5_childAt l dC dI cI a H.size _ _ _ _ h36) (cwV 2 hts gX5_joins_X5_childAt rfl rfl rfl (by decide +kernel) ⟨Nat.le_of_ble_eq_true rfl, Nat.le_of_ble_eq_true rfl⟩) (jPreV hK hPc hDc hN (ci := 5) rfl rfl) rfl rfl hl.1 rfl (lv_room (Nat.le_of_ble_eq_true rfl)) dX5_joins_130 ⟨Nat.le_of_ble_eq_true rfl, Nat.le_of_ble_eq_true rfl⟩) hS (fun q _ h => hFc q h) hFc (fun r' u' t H locs ht hvm hw hB hz1 hk1 hS => ?_)
            subst hw
            obtain ⟨hP1, -, hD1⟩ := hB
            rw [ht] at hP1
            have hP : va_P (dC, dI) vwCl ((W_Model cI a S)) H := hP1
            have hD : va_D A ((W_Model cI a S)) := hD1.weaken (fun _ _ _ h => hFc _ h)
            exact K133 _ _ _ _ _ _ _ _ _ hF hP hD hS _ (lv_sub hl [1, 2, 3, 4, 5, 6, 0] rfl)
          · have hF := F_pos c32 hF
            refine lv_aload_n hx hb dX5_joins_109 rfl (lv_at hl 1 rfl) ?_
            refine wg_top (v := .int (g_Model_top S)) hx hb hts hinX5 hown hK hP rfl (hts (Cond.fieldLink RX5 123 "LearnedShapesModel" "top" "I") (List.mem_of_getElem? (i := 4) rfl)) dX5_joins_110 ?_
            refine lv_if_le (tgt := 120) hx hb dX5_joins_113 (by decide) (fun c37 => ?_) (fun c37 => ?_)
            · have hF := F_pos c37 hF
              refine lv_aload_n hx hb dX5_joins_120 rfl (lv_at hl 1 rfl) ?_
              refine lv_iload hx hb dX5_joins_121 (lv_at hl 5 rfl) ?_
              refine lv_aload_n hx hb dX5_joins_123 rfl (lv_at hl 1 rfl) ?_
              refine lv_iload_n hx hb dX5_joins_124 rfl (lv_at hl 3 rfl) ?_
              refine lv_iload_n hx hb dX5_joins_125 rfl (lv_at hl 4 rfl) ?_
              refine lv_iconst (v := (2 : Int32)) hx hb dX5_joins_126 (by decide) ?_
              obtain ⟨r38, h39, hF⟩ := ob1_some hF
              have hPc : va_P (dC, dI) vwCl ((W_Model cI a S)) H := hP
              have hDc : va_D A ((W_Model cI a S)) := hD
              have hFc := jFreeW (ws := (W_Model cI a S)) hD hS hA
              refine va_calli (va_runV (As := [.int x2, .int x3, .int (2 : Int32)]) (rest := [.int x4, .ref (a 0)]) ⟨hx, hb, hml, hown, hts⟩ (c_X5_of l dC dI cI a H.size _ _ _ _ _ h39) (cwV 3 hts gX5_joins_X5_of rfl rfl rfl (by decide +kernel) ⟨Nat.le_of_ble_eq_true rfl, Nat.le_of_ble_eq_true rfl⟩) (jPreV hK hPc hDc hN (ci := 5) rfl rfl) rfl rfl hl.1 rfl (lv_room (Nat.le_of_ble_eq_true rfl)) dX5_joins_127 ⟨Nat.le_of_ble_eq_true rfl, Nat.le_of_ble_eq_true rfl⟩) hS (fun q _ h => hFc q h) hFc (fun r' u' t H locs ht hvm hw hB hz1 hk1 hS => ?_)
              subst hw
              obtain ⟨hP1, -, hD1⟩ := hB
              rw [ht] at hP1
              have hP : va_P (dC, dI) vwCl ((W_Model cI a S)) H := hP1
              have hD : va_D A ((W_Model cI a S)) := hD1.weaken (fun _ _ _ h => hFc _ h)
              obtain ⟨r40, h41, hF⟩ := ob1_some hF
              have hPc : va_P (dC, dI) vwCl ((W_Model cI a S)) H := hP
              have hDc : va_D A ((W_Model cI a S)) := hD
              have hFc := jFreeW (ws := (W_Model cI a S)) hD hS hA
              refine va_calli (va_runV (As := [.int x4, .int r38]) (rest := []) ⟨hx, hb, hml, hown, hts⟩ (c_X5_childAt l dC dI cI a H.size _ _ _ _ h41) (cwV 2 hts gX5_joins_X5_childAt rfl rfl rfl (by decide +kernel) ⟨Nat.le_of_ble_eq_true rfl, Nat.le_of_ble_eq_true rfl⟩) (jPreV hK hPc hDc hN (ci := 5) rfl rfl) rfl rfl hl.1 rfl (lv_room (Nat.le_of_ble_eq_true rfl)) dX5_joins_130 ⟨Nat.le_of_ble_eq_true rfl, Nat.le_of_ble_eq_true rfl⟩) hS (fun q _ h => hFc q h) hFc (fun r' u' t H locs ht hvm hw hB hz1 hk1 hS => ?_)
              subst hw
              obtain ⟨hP1, -, hD1⟩ := hB
              rw [ht] at hP1
              have hP : va_P (dC, dI) vwCl ((W_Model cI a S)) H := hP1
              have hD : va_D A ((W_Model cI a S)) := hD1.weaken (fun _ _ _ h => hFc _ h)
              exact K133 _ _ _ _ _ _ _ _ _ hF hP hD hS _ (lv_sub hl [1, 2, 3, 4, 5, 6, 0] rfl)
            · have hF := F_neg c37 hF
              refine lv_iconst (v := (0 : Int32)) hx hb dX5_joins_116 (by decide) ?_
              refine lv_goto (tgt := 133) hx hb dX5_joins_117 (by decide) ?_
              exact K133 _ _ _ _ _ _ _ _ _ hF hP hD hS _ (lv_sub hl [1, 2, 3, 4, 5, 6, 0] rfl)
        · have hF := F_neg c31 hF
          refine lv_iconst (v := (-1 : Int32)) hx hb dX5_joins_101 (by decide) ?_
          refine lv_goto (tgt := 133) hx hb dX5_joins_102 (by decide) ?_
          exact K133 _ _ _ _ _ _ _ _ _ hF hP hD hS _ (lv_sub hl [1, 2, 3, 4, 5, 6, 0] rfl)
      have K43 : ∀ (S : S_Model) (x2 : Int32) (x3 : Int32) (t0 : Int32) (H : Heap) (locs : List Loc), F_X5_joins_43 v1 (F_X5_joins_11 v1 n11) S x2 x3 t0 = some Y → va_P (dC, dI) vwCl ((W_Model cI a S)) H → va_D A ((W_Model cI a S)) → va_S A s.heap H locs → ∀ ls : Array Slot, lv_has ls 9 [(0, .ref (a 0)), (1, .int v1), (2, .int x2), (3, .int x3)] → W p l e (headSpec wsX5_joins ({ frames := 2, cells := 0, slots := 0, locals := 48 } : Room)).room s m ([.ref (a 0), .int v1] : List Value).toArray below meth c H locs 0 0 (MQ below (va_Qv (fun u : S_Model => Y = u) (fun u : S_Model => jB (dC, dI) [(cI, .int)] A ((W_Model cI a u))) A) ([.ref (a 0), .int v1] : List Value).toArray s 0 0 A) (F0 m 43 ls [.int t0]) := by
        intro S x2 x3 t0 H locs hF hP hD hS ls hl
        unfold F_X5_joins_43 at hF
        refine lv_istore (lv' := [(4, .int t0), (0, .ref (a 0)), (1, .int v1), (2, .int x2), (3, .int x3)]) hx hb dX5_joins_43 hl (by decide) rfl (fun ls hl => ?_)
        refine lv_aload_n hx hb dX5_joins_45 rfl (lv_at hl 1 rfl) ?_
        refine wg_now (v := .ref (a 1)) hx hb hts hinX5 hown hK hP rfl (hts (Cond.fieldLink RX5 7 "LearnedShapesModel" "now" "[I") (List.mem_of_getElem? (i := 1) rfl)) dX5_joins_46 ?_
        refine lv_iconst (v := (1 : Int32)) hx hb dX5_joins_49 (by decide) ?_
        refine lv_iload_n hx hb dX5_joins_50 rfl (lv_at hl 2 rfl) ?_
        refine lv_iadd hx hb dX5_joins_51 ?_
        obtain ⟨g42, hF⟩ := og_some hF
        refine wl_now (f := (g_Model_now S)) hx hb hK hP rfl (inb_in g42) dX5_joins_52 ?_
        refine lv_aload_n hx hb dX5_joins_53 rfl (lv_at hl 1 rfl) ?_
        refine lv_iload_n hx hb dX5_joins_54 rfl (lv_at hl 3 rfl) ?_
        refine lv_iload_n hx hb dX5_joins_55 rfl (lv_at hl 4 rfl) ?_
        refine lv_bipush (v := (6 : Int32)) hx hb dX5_joins_56 (by decide) ?_
        obtain ⟨r43, h44, hF⟩ := ob1_some hF
        have hPc : va_P (dC, dI) vwCl ((W_Model cI a S)) H := hP
        have hDc : va_D A ((W_Model cI a S)) := hD
        have hFc := jFreeW (ws := (W_Model cI a S)) hD hS hA
        refine va_calli (va_runV (As := [.int x2, .int x3, .int (6 : Int32)]) (rest := [.int ((g_Model_now S) ((1 : Int32) + v1).toNatClampNeg)]) ⟨hx, hb, hml, hown, hts⟩ (c_X5_of l dC dI cI a H.size _ _ _ _ _ h44) (cwV 3 hts gX5_joins_X5_of rfl rfl rfl (by decide +kernel) ⟨Nat.le_of_ble_eq_true rfl, Nat.le_of_ble_eq_true rfl⟩) (jPreV hK hPc hDc hN (ci := 5) rfl rfl) rfl rfl hl.1 rfl (lv_room (Nat.le_of_ble_eq_true rfl)) dX5_joins_58 ⟨Nat.le_of_ble_eq_true rfl, Nat.le_of_ble_eq_true rfl⟩) hS (fun q _ h => hFc q h) hFc (fun r' u' t H locs ht hvm hw hB hz1 hk1 hS => ?_)
        subst hw
        obtain ⟨hP1, -, hD1⟩ := hB
        rw [ht] at hP1
        have hP : va_P (dC, dI) vwCl ((W_Model cI a S)) H := hP1
        have hD : va_D A ((W_Model cI a S)) := hD1.weaken (fun _ _ _ h => hFc _ h)
        refine lv_iadd hx hb dX5_joins_61 ?_
        refine lv_istore (lv' := [(5, .int (((g_Model_now S) ((1 : Int32) + v1).toNatClampNeg) + r43)), (4, .int t0), (0, .ref (a 0)), (1, .int v1), (2, .int x2), (3, .int x3)]) hx hb dX5_joins_62 hl (by decide) rfl (fun ls hl => ?_)
        refine lv_iload_n hx hb dX5_joins_64 rfl (lv_at hl 5 rfl) ?_
        refine lv_if_le (tgt := 93) hx hb dX5_joins_65 (by decide) (fun c45 => ?_) (fun c45 => ?_)
        · have hF := F_pos c45 hF
          refine lv_iconst (v := (0 : Int32)) hx hb dX5_joins_93 (by decide) ?_
          exact K94 _ _ _ _ _ _ _ _ hF hP hD hS _ (lv_sub hl [2, 3, 4, 5, 1, 0] rfl)
        · have hF := F_neg c45 hF
          refine lv_iload hx hb dX5_joins_68 (lv_at hl 1 rfl) ?_
          refine lv_iconst (v := (-1 : Int32)) hx hb dX5_joins_70 (by decide) ?_
          refine lv_icmp_eq (tgt := 89) hx hb dX5_joins_71 (by decide) (fun c46 => ?_) (fun c46 => ?_)
          · have hF := F_pos c46 hF
            refine lv_iconst (v := (1 : Int32)) hx hb dX5_joins_89 (by decide) ?_
            refine lv_goto (tgt := 94) hx hb dX5_joins_90 (by decide) ?_
            exact K94 _ _ _ _ _ _ _ _ hF hP hD hS _ (lv_sub hl [2, 3, 4, 5, 1, 0] rfl)
          · have hF := F_neg c46 hF
            refine lv_aload_n hx hb dX5_joins_74 rfl (lv_at hl 2 rfl) ?_
            refine wg_tree (v := .ref (a 11)) hx hb hts hinX5 hown hK hP rfl (hts (Cond.fieldLink RX5 40 "LearnedShapesModel" "tree" "[I") (List.mem_of_getElem? (i := 3) rfl)) dX5_joins_75 ?_
            refine lv_bipush (v := (7 : Int32)) hx hb dX5_joins_78 (by decide) ?_
            refine lv_iload hx hb dX5_joins_80 (lv_at hl 1 rfl) ?_
            refine lv_imul hx hb dX5_joins_82 ?_
            obtain ⟨g47, hF⟩ := og_some hF
            refine wl_tree (f := (g_Model_tree S)) hx hb hK hP rfl (inb_in g47) dX5_joins_83 ?_
            refine lv_bipush (v := (7 : Int32)) hx hb dX5_joins_84 (by decide) ?_
            refine lv_icmp_ne (tgt := 93) hx hb dX5_joins_86 (by decide) (fun c48 => ?_) (fun c48 => ?_)
            · have hF := F_neg c48 hF
              refine lv_iconst (v := (0 : Int32)) hx hb dX5_joins_93 (by decide) ?_
              exact K94 _ _ _ _ _ _ _ _ hF hP hD hS _ (lv_sub hl [2, 3, 4, 5, 1, 0] rfl)
            · have hF := F_pos c48 hF
              refine lv_iconst (v := (1 : Int32)) hx hb dX5_joins_89 (by decide) ?_
              refine lv_goto (tgt := 94) hx hb dX5_joins_90 (by decide) ?_
              exact K94 _ _ _ _ _ _ _ _ hF hP hD hS _ (lv_sub hl [2, 3, 4, 5, 1, 0] rfl)
      refine lv_iload_n hx hb dX5_joins_11 rfl (lv_at hl 3 rfl) ?_
      refine lv_aload_n hx hb dX5_joins_12 rfl (lv_at hl 0 rfl) ?_
      refine wg_now (v := .ref (a 1)) hx hb hts hinX5 hown hK hP rfl (hts (Cond.fieldLink RX5 7 "LearnedShapesModel" "now" "[I") (List.mem_of_getElem? (i := 1) rfl)) dX5_joins_13 ?_
      refine lv_iconst (v := (3 : Int32)) hx hb dX5_joins_16 (by decide) ?_
      refine lv_iload_n hx hb dX5_joins_17 rfl (lv_at hl 2 rfl) ?_
      refine lv_iadd hx hb dX5_joins_18 ?_
      obtain ⟨g49, hF⟩ := og_some hF
      refine wl_now (f := (g_Model_now S)) hx hb hK hP rfl (inb_in g49) dX5_joins_19 ?_
      refine lv_icmp_ge (tgt := 279) hx hb dX5_joins_20 (by decide) (fun c50 => ?_) (fun c50 => ?_)
      · have hF := F_pos c50 hF
        have e50 := Option.some.inj hF
        subst e50
        exact W.vret hx hb hr (fun t ht hW => ⟨⟨S, rfl, rfl, by rw [ht]; exact hP, va_K.moved hW.alike hK, hD⟩, hS.F ht⟩) hS.2.2 dX5_joins_279
      · have hF := F_neg c50 hF
        refine lv_iload_n hx hb dX5_joins_23 rfl (lv_at hl 3 rfl) ?_
        refine lv_if_ne (tgt := 31) hx hb dX5_joins_24 (by decide) (fun c51 => ?_) (fun c51 => ?_)
        · have hF := F_neg c51 hF
          refine lv_aload_n hx hb dX5_joins_31 rfl (lv_at hl 0 rfl) ?_
          refine wg_place (v := .ref (a 12)) hx hb hts hinX5 hown hK hP rfl (hts (Cond.fieldLink RX5 43 "LearnedShapesModel" "place" "[I") (List.mem_of_getElem? (i := 2) rfl)) dX5_joins_32 ?_
          refine lv_aload_n hx hb dX5_joins_35 rfl (lv_at hl 0 rfl) ?_
          refine lv_iload_n hx hb dX5_joins_36 rfl (lv_at hl 2 rfl) ?_
          refine lv_iload_n hx hb dX5_joins_37 rfl (lv_at hl 3 rfl) ?_
          refine lv_iconst (v := (1 : Int32)) hx hb dX5_joins_38 (by decide) ?_
          obtain ⟨r52, h53, hF⟩ := ob1_some hF
          have hPc : va_P (dC, dI) vwCl ((W_Model cI a S)) H := hP
          have hDc : va_D A ((W_Model cI a S)) := hD
          have hFc := jFreeW (ws := (W_Model cI a S)) hD hS hA
          refine va_calli (va_runV (As := [.int x2, .int x3, .int (1 : Int32)]) (rest := [.ref (a 12)]) ⟨hx, hb, hml, hown, hts⟩ (c_X5_of l dC dI cI a H.size _ _ _ _ _ h53) (cwV 3 hts gX5_joins_X5_of rfl rfl rfl (by decide +kernel) ⟨Nat.le_of_ble_eq_true rfl, Nat.le_of_ble_eq_true rfl⟩) (jPreV hK hPc hDc hN (ci := 5) rfl rfl) rfl rfl hl.1 rfl (lv_room (Nat.le_of_ble_eq_true rfl)) dX5_joins_39 ⟨Nat.le_of_ble_eq_true rfl, Nat.le_of_ble_eq_true rfl⟩) hS (fun q _ h => hFc q h) hFc (fun r' u' t H locs ht hvm hw hB hz1 hk1 hS => ?_)
          subst hw
          obtain ⟨hP1, -, hD1⟩ := hB
          rw [ht] at hP1
          have hP : va_P (dC, dI) vwCl ((W_Model cI a S)) H := hP1
          have hD : va_D A ((W_Model cI a S)) := hD1.weaken (fun _ _ _ h => hFc _ h)
          obtain ⟨g54, hF⟩ := og_some hF
          refine wl_place (f := (g_Model_place S)) hx hb hK hP rfl (inb_in g54) dX5_joins_42 ?_
          exact K43 _ _ _ _ _ _ hF hP hD hS _ (lv_sub hl [0, 1, 2, 3] rfl)
        · have hF := F_pos c51 hF
          refine lv_iconst (v := (-1 : Int32)) hx hb dX5_joins_27 (by decide) ?_
          refine lv_goto (tgt := 43) hx hb dX5_joins_28 (by decide) ?_
          exact K43 _ _ _ _ _ _ hF hP hD hS _ (lv_sub hl [0, 1, 2, 3] rfl)
  have KE : ∀ (H : Heap) (locs : List Loc), va_P (dC, dI) vwCl ((W_Model cI a S)) H → va_D A ((W_Model cI a S)) → va_S A s.heap H locs → W p l e (headSpec wsX5_joins ({ frames := 2, cells := 0, slots := 0, locals := 48 } : Room)).room s m ([.ref (a 0), .int v1] : List Value).toArray below meth c H locs 0 0 (MQ below (va_Qv (fun u : S_Model => Y = u) (fun u : S_Model => jB (dC, dI) [(cI, .int)] A ((W_Model cI a u))) A) ([.ref (a 0), .int v1] : List Value).toArray s 0 0 A) (F0 m 0 ls []) := by
    intro H locs hP hD hS
    unfold F_X5_joins at hF
    refine lv_aload_n hx hb dX5_joins_0 rfl (lv_at hl 0 rfl) ?_
    refine lv_iload_n hx hb dX5_joins_1 rfl (lv_at hl 1 rfl) ?_
    obtain ⟨u55, h56, hF⟩ := ob1_some hF
    have hPc : va_P (dC, dI) vwCl ((W_Model cI a S)) H := hP
    have hDc : va_D A ((W_Model cI a S)) := hD
    have hFc := jFreeW (ws := (W_Model cI a S)) hD hS hA
    refine va_callv (va_runV (As := [.int v1]) (rest := []) ⟨hx, hb, hml, hown, hts⟩ (c_X5_lays l dC dI cI a H.size _ _ _ h56) (cwV 1 hts gX5_joins_X5_lays rfl rfl rfl (by decide +kernel) ⟨Nat.le_of_ble_eq_true rfl, Nat.le_of_ble_eq_true rfl⟩) (jPreV hK hPc hDc hN (ci := 5) rfl rfl) rfl rfl hl.1 rfl (lv_room (Nat.le_of_ble_eq_true rfl)) dX5_joins_2 ⟨Nat.le_of_ble_eq_true rfl, Nat.le_of_ble_eq_true rfl⟩) hS (fun q _ h => hFc q h) hFc (fun u' t H locs ht hvm hw hB hz1 hk1 hS => ?_)
    subst hw
    obtain ⟨hP1, -, hD1⟩ := hB
    rw [ht] at hP1
    have hP : va_P (dC, dI) vwCl ((W_Model cI a u55)) H := hP1
    have hD : va_D A ((W_Model cI a u55)) := hD1.weaken (fun _ _ _ h => hFc _ h)
    refine lv_iconst (v := (1 : Int32)) hx hb dX5_joins_5 (by decide) ?_
    refine lv_iload_n hx hb dX5_joins_6 rfl (lv_at hl 1 rfl) ?_
    refine lv_isub hx hb dX5_joins_7 ?_
    refine lv_istore_n (lv' := [(2, .int ((1 : Int32) - v1)), (0, .ref (a 0)), (1, .int v1)]) hx hb dX5_joins_8 rfl hl (by decide) rfl (fun ls hl => ?_)
    refine lv_iconst (v := (0 : Int32)) hx hb dX5_joins_9 (by decide) ?_
    refine lv_istore_n (lv' := [(3, .int (0 : Int32)), (2, .int ((1 : Int32) - v1)), (0, .ref (a 0)), (1, .int v1)]) hx hb dX5_joins_10 rfl hl (by decide) rfl (fun ls hl => ?_)
    exact K11 _ _ _ _ _ _ hF hP hD hS _ (lv_sub hl [2, 3, 1, 0] rfl)
  exact KE _ _ hP hD hS
set_option maxHeartbeats 4000000 in
set_option maxRecDepth 100000 in
theorem c_X5_join (l : Launch) (dC : Nat → ClassId) (dI : Nat → Nat → Nat) (cI : ClassId) (a : Nat → Nat) (sz : Nat) (S : S_Model) (v1 : Int32) (rr : Int32) (Y : S_Model) (hF : F_X5_join S v1 = some (rr, Y)) : Met l yX5_join wsX5_join ({ frames := 4, cells := 0, slots := 0, locals := 95 } : Room) (va_Pc [.ref (a 0), .int v1] (jPre (dC, dI) [(cI, .int)] sz ((W_Model cI a S)))) (va_Qi (fun (r' : Int32) (u : S_Model) => rr = r' ∧ Y = u) (fun u : S_Model => jB (dC, dI) [(cI, .int)] (va_A ((W_Model cI a S)) sz) ((W_Model cI a u))) (va_A ((W_Model cI a S)) sz)) 0 0 (va_A ((W_Model cI a S)) sz) := by
  refine Met.ofW (cc := cX5_join) (maxL := 2) (ret := (some .int)) (by decide) rfl ?_
  intro p e s m args below meth c s₁ B hml hv
  obtain ⟨rfl, hsz, hP, hK, hD0, hN⟩ := hv
  have hx := B.exec
  have hb := B.bytes
  have hr := B.returns
  have hts := atoms_spec (ws := wsX5_join) B.pre
  have hown : s.vm.findClass RX5 = some m.cls := findClass_of_methodNamed B.named
  have hlocks := B.notSynchronized
  have hinX5 : ∀ w ∈ u_ws RX5 TX5 26, w ∈ wsX5_join := by decide +kernel
  subst hsz
  have hD := hD0.self (sz := s.heap.size)
  generalize hAe : (va_A ((W_Model cI a S)) s.heap.size) = A at hD ⊢
  have hA : ∀ q : Nat, s.heap.size ≤ q → A q := fun q h => by rw [← hAe]; exact Or.inr h
  have hS : va_S A s.heap s.heap [] := va_S.rf
  have hl := lv_entry ([.ref (a 0), .int v1]) (n := 2) (Nat.le_of_ble_eq_true rfl)
  rw [lg_entry_eq]
  generalize (lg_sl ([.ref (a 0), .int v1]) ++ List.replicate (2 - (lg_sl ([.ref (a 0), .int v1])).length) Slot.unset).toArray = ls at hl ⊢
  have hl : lv_has ls 2 [(0, .ref (a 0)), (1, .int v1)] := hl
  have KE : ∀ (H : Heap) (locs : List Loc), va_P (dC, dI) vwCl ((W_Model cI a S)) H → va_D A ((W_Model cI a S)) → va_S A s.heap H locs → W p l e (headSpec wsX5_join ({ frames := 4, cells := 0, slots := 0, locals := 95 } : Room)).room s m ([.ref (a 0), .int v1] : List Value).toArray below meth c H locs 0 0 (MQ below (va_Qi (fun (r' : Int32) (u : S_Model) => rr = r' ∧ Y = u) (fun u : S_Model => jB (dC, dI) [(cI, .int)] A ((W_Model cI a u))) A) ([.ref (a 0), .int v1] : List Value).toArray s 0 0 A) (F0 m 0 ls []) := by
    intro H locs hP hD hS
    unfold F_X5_join at hF
    refine lv_aload_n hx hb dX5_join_0 rfl (lv_at hl 0 rfl) ?_
    refine lv_iconst (v := (0 : Int32)) hx hb dX5_join_1 (by decide) ?_
    refine wp_thrown (v := (0 : Int32)) hx hb hts hinX5 hown hK hP hD hS (hts (Cond.fieldLink RX5 49 "LearnedShapesModel" "thrown" "I") (List.mem_of_getElem? (i := 1) rfl)) (rfl) (rfl) dX5_join_2 (fun H locs hP hD hS => ?_)
    refine lv_iload_n hx hb dX5_join_5 rfl (lv_at hl 1 rfl) ?_
    obtain ⟨r1, h2, hF⟩ := ob1_some hF
    have hPc : va_P (dC, dI) vwCl ([] : va_W) H := fun k q h => by simp at h
    have hDc : va_D A ([] : va_W) := ⟨fun i j p q h => by simp at h, fun k q h => by simp at h⟩
    have hFc := jFreeW (ws := []) hDc hS hA
    refine va_calli (va_runS (As := [.int v1]) (rest := []) ⟨hx, hb, hml, hown, hts⟩ (c_X5_isShape l dC dI cI  H.size _ _ h2) (va_cwS 1 hts gX5_join_X5_isShape rfl rfl rfl (by decide +kernel) ⟨Nat.le_of_ble_eq_true rfl, Nat.le_of_ble_eq_true rfl⟩) (jPreS hK hPc hDc hN) rfl rfl hl.1 rfl (lv_room (Nat.le_of_ble_eq_true rfl)) dX5_join_6 ⟨Nat.le_of_ble_eq_true rfl, Nat.le_of_ble_eq_true rfl⟩) hS (fun q _ h => hFc q h) hFc (fun r' u' t H locs ht hvm hw hB hz1 hk1 hS => ?_)
    subst hw
    obtain ⟨hP1, -, hD1⟩ := hB
    rw [ht] at hP1
    have hP : va_P (dC, dI) vwCl ((W_Model cI a (s_Model_thrown S (0 : Int32)))) H := jNone hP hk1
    refine lv_if_ne (tgt := 18) hx hb dX5_join_9 (by decide) (fun c3 => ?_) (fun c3 => ?_)
    · have hF := F_neg c3 hF
      refine lv_aload_n hx hb dX5_join_18 rfl (lv_at hl 0 rfl) ?_
      refine lv_iload_n hx hb dX5_join_19 rfl (lv_at hl 1 rfl) ?_
      obtain ⟨u4, h5, hF⟩ := ob1_some hF
      have hPc : va_P (dC, dI) vwCl ((W_Model cI a (s_Model_thrown S (0 : Int32)))) H := hP
      have hDc : va_D A ((W_Model cI a (s_Model_thrown S (0 : Int32)))) := hD
      have hFc := jFreeW (ws := (W_Model cI a (s_Model_thrown S (0 : Int32)))) hD hS hA
      refine va_callv (va_runV (As := [.int v1]) (rest := []) ⟨hx, hb, hml, hown, hts⟩ (c_X5_joins l dC dI cI a H.size _ _ _ h5) (cwV 1 hts gX5_join_X5_joins rfl rfl rfl (by decide +kernel) ⟨Nat.le_of_ble_eq_true rfl, Nat.le_of_ble_eq_true rfl⟩) (jPreV hK hPc hDc hN (ci := 5) rfl rfl) rfl rfl hl.1 rfl (lv_room (Nat.le_of_ble_eq_true rfl)) dX5_join_20 ⟨Nat.le_of_ble_eq_true rfl, Nat.le_of_ble_eq_true rfl⟩) hS (fun q _ h => hFc q h) hFc (fun u' t H locs ht hvm hw hB hz1 hk1 hS => ?_)
      subst hw
      obtain ⟨hP1, -, hD1⟩ := hB
      rw [ht] at hP1
      have hP : va_P (dC, dI) vwCl ((W_Model cI a u4)) H := hP1
      have hD : va_D A ((W_Model cI a u4)) := hD1.weaken (fun _ _ _ h => hFc _ h)
      refine lv_aload_n hx hb dX5_join_23 rfl (lv_at hl 0 rfl) ?_
      obtain ⟨r6, h7, hF⟩ := ob1_some hF
      have hPc : va_P (dC, dI) vwCl ((W_Model cI a u4)) H := hP
      have hDc : va_D A ((W_Model cI a u4)) := hD
      have hFc := jFreeW (ws := (W_Model cI a u4)) hD hS hA
      refine va_calli (va_runV (As := []) (rest := []) ⟨hx, hb, hml, hown, hts⟩ (c_X5_nodes l dC dI cI a H.size _ _ h7) (cwV 0 hts gX5_join_X5_nodes rfl rfl rfl (by decide +kernel) ⟨Nat.le_of_ble_eq_true rfl, Nat.le_of_ble_eq_true rfl⟩) (jPreV hK hPc hDc hN (ci := 5) rfl rfl) rfl rfl hl.1 rfl (lv_room (Nat.le_of_ble_eq_true rfl)) dX5_join_24 ⟨Nat.le_of_ble_eq_true rfl, Nat.le_of_ble_eq_true rfl⟩) hS (fun q _ h => hFc q h) hFc (fun r' u' t H locs ht hvm hw hB hz1 hk1 hS => ?_)
      subst hw
      obtain ⟨hP1, -, hD1⟩ := hB
      rw [ht] at hP1
      have hP : va_P (dC, dI) vwCl ((W_Model cI a u4)) H := hP1
      have hD : va_D A ((W_Model cI a u4)) := hD1.weaken (fun _ _ _ h => hFc _ h)
      refine lv_bipush (v := (30 : Int32)) hx hb dX5_join_27 (by decide) ?_
      refine lv_icmp_le (tgt := 38) hx hb dX5_join_29 (by decide) (fun c8 => ?_) (fun c8 => ?_)
      · have hF := F_pos c8 hF
        refine lv_aload_n hx hb dX5_join_38 rfl (lv_at hl 0 rfl) ?_
        obtain ⟨u9, h10, hF⟩ := ob1_some hF
        have hPc : va_P (dC, dI) vwCl ((W_Model cI a u4)) H := hP
        have hDc : va_D A ((W_Model cI a u4)) := hD
        have hFc := jFreeW (ws := (W_Model cI a u4)) hD hS hA
        refine va_callv (va_runV (As := []) (rest := []) ⟨hx, hb, hml, hown, hts⟩ (c_X5_saves l dC dI cI a H.size _ _ h10) (cwV 0 hts gX5_join_X5_saves rfl rfl rfl (by decide +kernel) ⟨Nat.le_of_ble_eq_true rfl, Nat.le_of_ble_eq_true rfl⟩) (jPreV hK hPc hDc hN (ci := 5) rfl rfl) rfl rfl hl.1 rfl (lv_room (Nat.le_of_ble_eq_true rfl)) dX5_join_39 ⟨Nat.le_of_ble_eq_true rfl, Nat.le_of_ble_eq_true rfl⟩) hS (fun q _ h => hFc q h) hFc (fun u' t H locs ht hvm hw hB hz1 hk1 hS => ?_)
        subst hw
        obtain ⟨hP1, -, hD1⟩ := hB
        rw [ht] at hP1
        have hP : va_P (dC, dI) vwCl ((W_Model cI a u9)) H := hP1
        have hD : va_D A ((W_Model cI a u9)) := hD1.weaken (fun _ _ _ h => hFc _ h)
        refine lv_aload_n hx hb dX5_join_42 rfl (lv_at hl 0 rfl) ?_
        refine lv_iload_n hx hb dX5_join_43 rfl (lv_at hl 1 rfl) ?_
        obtain ⟨u11, h12, hF⟩ := ob1_some hF
        have hPc : va_P (dC, dI) vwCl ((W_Model cI a u9)) H := hP
        have hDc : va_D A ((W_Model cI a u9)) := hD
        have hFc := jFreeW (ws := (W_Model cI a u9)) hD hS hA
        refine va_callv (va_runV (As := [.int v1]) (rest := []) ⟨hx, hb, hml, hown, hts⟩ (c_X5_becomes l dC dI cI a H.size _ _ _ h12) (cwV 1 hts gX5_join_X5_becomes rfl rfl rfl (by decide +kernel) ⟨Nat.le_of_ble_eq_true rfl, Nat.le_of_ble_eq_true rfl⟩) (jPreV hK hPc hDc hN (ci := 5) rfl rfl) rfl rfl hl.1 rfl (lv_room (Nat.le_of_ble_eq_true rfl)) dX5_join_44 ⟨Nat.le_of_ble_eq_true rfl, Nat.le_of_ble_eq_true rfl⟩) hS (fun q _ h => hFc q h) hFc (fun u' t H locs ht hvm hw hB hz1 hk1 hS => ?_)
        subst hw
        obtain ⟨hP1, -, hD1⟩ := hB
        rw [ht] at hP1
        have hP : va_P (dC, dI) vwCl ((W_Model cI a u11)) H := hP1
        have hD : va_D A ((W_Model cI a u11)) := hD1.weaken (fun _ _ _ h => hFc _ h)
        refine lv_aload_n hx hb dX5_join_47 rfl (lv_at hl 0 rfl) ?_
        refine wg_now (v := .ref (a 1)) hx hb hts hinX5 hown hK hP rfl (hts (Cond.fieldLink RX5 7 "LearnedShapesModel" "now" "[I") (List.mem_of_getElem? (i := 2) rfl)) dX5_join_48 ?_
        refine lv_iconst (v := (1 : Int32)) hx hb dX5_join_51 (by decide) ?_
        refine lv_iload_n hx hb dX5_join_52 rfl (lv_at hl 1 rfl) ?_
        refine lv_iadd hx hb dX5_join_53 ?_
        refine lv_dup2_11 hx hb dX5_join_54 rfl rfl ?_
        obtain ⟨g13, hF⟩ := og_some hF
        refine wl_now (f := (g_Model_now u11)) hx hb hK hP rfl (inb_in g13) dX5_join_55 ?_
        refine lv_aload_n hx hb dX5_join_56 rfl (lv_at hl 0 rfl) ?_
        refine wg_now (v := .ref (a 1)) hx hb hts hinX5 hown hK hP rfl (hts (Cond.fieldLink RX5 7 "LearnedShapesModel" "now" "[I") (List.mem_of_getElem? (i := 2) rfl)) dX5_join_57 ?_
        refine lv_iconst (v := (2 : Int32)) hx hb dX5_join_60 (by decide) ?_
        refine lv_iload_n hx hb dX5_join_61 rfl (lv_at hl 1 rfl) ?_
        refine lv_isub hx hb dX5_join_62 ?_
        obtain ⟨g14, hF⟩ := og_some hF
        refine wl_now (f := (g_Model_now u11)) hx hb hK hP rfl (inb_in g14) dX5_join_63 ?_
        refine lv_iadd hx hb dX5_join_64 ?_
        obtain ⟨g15, hF⟩ := og_some hF
        refine ws_now (f := (g_Model_now u11)) hx hb hK hP hD hS rfl (inb_in g15) dX5_join_65 (fun H locs hP hD hS => ?_)
        refine lv_aload_n hx hb dX5_join_66 rfl (lv_at hl 0 rfl) ?_
        refine wg_now (v := .ref (a 1)) hx hb hts hinX5 hown hK hP rfl (hts (Cond.fieldLink RX5 7 "LearnedShapesModel" "now" "[I") (List.mem_of_getElem? (i := 2) rfl)) dX5_join_67 ?_
        refine lv_iconst (v := (3 : Int32)) hx hb dX5_join_70 (by decide) ?_
        refine lv_iload_n hx hb dX5_join_71 rfl (lv_at hl 1 rfl) ?_
        refine lv_iadd hx hb dX5_join_72 ?_
        obtain ⟨g16, hF⟩ := og_some hF
        refine wl_now (f := (upd (g_Model_now u11) ((1 : Int32) + v1).toNatClampNeg (((g_Model_now u11) ((1 : Int32) + v1).toNatClampNeg) + ((g_Model_now u11) ((2 : Int32) - v1).toNatClampNeg)))) hx hb hK hP rfl (inb_in g16) dX5_join_73 ?_
        have e50 := Option.some.inj hF
        obtain ⟨e60, e51⟩ := Prod.mk.inj e50
        subst e60
        subst e51
        exact W.iret (v := ((upd (g_Model_now u11) ((1 : Int32) + v1).toNatClampNeg (((g_Model_now u11) ((1 : Int32) + v1).toNatClampNeg) + ((g_Model_now u11) ((2 : Int32) - v1).toNatClampNeg))) ((3 : Int32) + v1).toNatClampNeg)) hx hb hr (fun t ht hW => ⟨⟨((upd (g_Model_now u11) ((1 : Int32) + v1).toNatClampNeg (((g_Model_now u11) ((1 : Int32) + v1).toNatClampNeg) + ((g_Model_now u11) ((2 : Int32) - v1).toNatClampNeg))) ((3 : Int32) + v1).toNatClampNeg), (s_Model_now u11 (upd (g_Model_now u11) ((1 : Int32) + v1).toNatClampNeg (((g_Model_now u11) ((1 : Int32) + v1).toNatClampNeg) + ((g_Model_now u11) ((2 : Int32) - v1).toNatClampNeg)))), rfl, ⟨rfl, rfl⟩, by rw [ht]; exact hP, va_K.moved hW.alike hK, hD⟩, hS.F ht⟩) hS.2.2 dX5_join_74
      · have hF := F_neg c8 hF
        refine lv_aload_n hx hb dX5_join_32 rfl (lv_at hl 0 rfl) ?_
        refine lv_iconst (v := (2 : Int32)) hx hb dX5_join_33 (by decide) ?_
        obtain ⟨r17, u18, h19, hF⟩ := ob2_some hF
        have hPc : va_P (dC, dI) vwCl ((W_Model cI a u4)) H := hP
        have hDc : va_D A ((W_Model cI a u4)) := hD
        have hFc := jFreeW (ws := (W_Model cI a u4)) hD hS hA
        refine va_calli (va_runV (As := [.int (2 : Int32)]) (rest := []) ⟨hx, hb, hml, hown, hts⟩ (c_X5_fails l dC dI cI a H.size _ _ _ _ h19) (cwV 1 hts gX5_join_X5_fails rfl rfl rfl (by decide +kernel) ⟨Nat.le_of_ble_eq_true rfl, Nat.le_of_ble_eq_true rfl⟩) (jPreV hK hPc hDc hN (ci := 5) rfl rfl) rfl rfl hl.1 rfl (lv_room (Nat.le_of_ble_eq_true rfl)) dX5_join_34 ⟨Nat.le_of_ble_eq_true rfl, Nat.le_of_ble_eq_true rfl⟩) hS (fun q _ h => hFc q h) hFc (fun r' u' t H locs ht hvm hw hB hz1 hk1 hS => ?_)
        obtain ⟨e1, e2⟩ := hw
        subst e1
        subst e2
        obtain ⟨hP1, -, hD1⟩ := hB
        rw [ht] at hP1
        have hP : va_P (dC, dI) vwCl ((W_Model cI a u18)) H := hP1
        have hD : va_D A ((W_Model cI a u18)) := hD1.weaken (fun _ _ _ h => hFc _ h)
        have e50 := Option.some.inj hF
        obtain ⟨e60, e51⟩ := Prod.mk.inj e50
        subst e60
        subst e51
        exact W.iret (v := r17) hx hb hr (fun t ht hW => ⟨⟨r17, u18, rfl, ⟨rfl, rfl⟩, by rw [ht]; exact hP, va_K.moved hW.alike hK, hD⟩, hS.F ht⟩) hS.2.2 dX5_join_37
    · have hF := F_pos c3 hF
      refine lv_aload_n hx hb dX5_join_12 rfl (lv_at hl 0 rfl) ?_
      refine lv_iconst (v := (1 : Int32)) hx hb dX5_join_13 (by decide) ?_
      obtain ⟨r20, u21, h22, hF⟩ := ob2_some hF
      have hPc : va_P (dC, dI) vwCl ((W_Model cI a (s_Model_thrown S (0 : Int32)))) H := hP
      have hDc : va_D A ((W_Model cI a (s_Model_thrown S (0 : Int32)))) := hD
      have hFc := jFreeW (ws := (W_Model cI a (s_Model_thrown S (0 : Int32)))) hD hS hA
      refine va_calli (va_runV (As := [.int (1 : Int32)]) (rest := []) ⟨hx, hb, hml, hown, hts⟩ (c_X5_fails l dC dI cI a H.size _ _ _ _ h22) (cwV 1 hts gX5_join_X5_fails rfl rfl rfl (by decide +kernel) ⟨Nat.le_of_ble_eq_true rfl, Nat.le_of_ble_eq_true rfl⟩) (jPreV hK hPc hDc hN (ci := 5) rfl rfl) rfl rfl hl.1 rfl (lv_room (Nat.le_of_ble_eq_true rfl)) dX5_join_14 ⟨Nat.le_of_ble_eq_true rfl, Nat.le_of_ble_eq_true rfl⟩) hS (fun q _ h => hFc q h) hFc (fun r' u' t H locs ht hvm hw hB hz1 hk1 hS => ?_)
      obtain ⟨e1, e2⟩ := hw
      subst e1
      subst e2
      obtain ⟨hP1, -, hD1⟩ := hB
      rw [ht] at hP1
      have hP : va_P (dC, dI) vwCl ((W_Model cI a u21)) H := hP1
      have hD : va_D A ((W_Model cI a u21)) := hD1.weaken (fun _ _ _ h => hFc _ h)
      have e50 := Option.some.inj hF
      obtain ⟨e60, e51⟩ := Prod.mk.inj e50
      subst e60
      subst e51
      exact W.iret (v := r20) hx hb hr (fun t ht hW => ⟨⟨r20, u21, rfl, ⟨rfl, rfl⟩, by rw [ht]; exact hP, va_K.moved hW.alike hK, hD⟩, hS.F ht⟩) hS.2.2 dX5_join_17
  exact KE _ _ hP hD hS
set_option maxHeartbeats 4000000 in
set_option maxRecDepth 100000 in
theorem c_X5_forget (l : Launch) (dC : Nat → ClassId) (dI : Nat → Nat → Nat) (cI : ClassId) (a : Nat → Nat) (sz : Nat) (S : S_Model) (v1 : Int32) (rr : Int32) (Y : S_Model) (hF : F_X5_forget S v1 = some (rr, Y)) : Met l yX5_forget wsX5_forget ({ frames := 2, cells := 0, slots := 0, locals := 42 } : Room) (va_Pc [.ref (a 0), .int v1] (jPre (dC, dI) [(cI, .int)] sz ((W_Model cI a S)))) (va_Qi (fun (r' : Int32) (u : S_Model) => rr = r' ∧ Y = u) (fun u : S_Model => jB (dC, dI) [(cI, .int)] (va_A ((W_Model cI a S)) sz) ((W_Model cI a u))) (va_A ((W_Model cI a S)) sz)) 0 0 (va_A ((W_Model cI a S)) sz) := by
  refine Met.ofW (cc := cX5_forget) (maxL := 3) (ret := (some .int)) (by decide) rfl ?_
  intro p e s m args below meth c s₁ B hml hv
  obtain ⟨rfl, hsz, hP, hK, hD0, hN⟩ := hv
  have hx := B.exec
  have hb := B.bytes
  have hr := B.returns
  have hts := atoms_spec (ws := wsX5_forget) B.pre
  have hown : s.vm.findClass RX5 = some m.cls := findClass_of_methodNamed B.named
  have hlocks := B.notSynchronized
  have hinX5 : ∀ w ∈ u_ws RX5 TX5 26, w ∈ wsX5_forget := by decide +kernel
  subst hsz
  have hD := hD0.self (sz := s.heap.size)
  generalize hAe : (va_A ((W_Model cI a S)) s.heap.size) = A at hD ⊢
  have hA : ∀ q : Nat, s.heap.size ≤ q → A q := fun q h => by rw [← hAe]; exact Or.inr h
  have hS : va_S A s.heap s.heap [] := va_S.rf
  have hl := lv_entry ([.ref (a 0), .int v1]) (n := 3) (Nat.le_of_ble_eq_true rfl)
  rw [lg_entry_eq]
  generalize (lg_sl ([.ref (a 0), .int v1]) ++ List.replicate (3 - (lg_sl ([.ref (a 0), .int v1])).length) Slot.unset).toArray = ls at hl ⊢
  have hl : lv_has ls 3 [(0, .ref (a 0)), (1, .int v1)] := hl
  have KE : ∀ (H : Heap) (locs : List Loc), va_P (dC, dI) vwCl ((W_Model cI a S)) H → va_D A ((W_Model cI a S)) → va_S A s.heap H locs → W p l e (headSpec wsX5_forget ({ frames := 2, cells := 0, slots := 0, locals := 42 } : Room)).room s m ([.ref (a 0), .int v1] : List Value).toArray below meth c H locs 0 0 (MQ below (va_Qi (fun (r' : Int32) (u : S_Model) => rr = r' ∧ Y = u) (fun u : S_Model => jB (dC, dI) [(cI, .int)] A ((W_Model cI a u))) A) ([.ref (a 0), .int v1] : List Value).toArray s 0 0 A) (F0 m 0 ls []) := by
    intro H locs hP hD hS
    unfold F_X5_forget at hF
    refine lv_aload_n hx hb dX5_forget_0 rfl (lv_at hl 0 rfl) ?_
    refine lv_iconst (v := (0 : Int32)) hx hb dX5_forget_1 (by decide) ?_
    refine wp_thrown (v := (0 : Int32)) hx hb hts hinX5 hown hK hP hD hS (hts (Cond.fieldLink RX5 49 "LearnedShapesModel" "thrown" "I") (List.mem_of_getElem? (i := 1) rfl)) (rfl) (rfl) dX5_forget_2 (fun H locs hP hD hS => ?_)
    refine lv_iload_n hx hb dX5_forget_5 rfl (lv_at hl 1 rfl) ?_
    obtain ⟨r1, h2, hF⟩ := ob1_some hF
    have hPc : va_P (dC, dI) vwCl ([] : va_W) H := fun k q h => by simp at h
    have hDc : va_D A ([] : va_W) := ⟨fun i j p q h => by simp at h, fun k q h => by simp at h⟩
    have hFc := jFreeW (ws := []) hDc hS hA
    refine va_calli (va_runS (As := [.int v1]) (rest := []) ⟨hx, hb, hml, hown, hts⟩ (c_X5_isShape l dC dI cI  H.size _ _ h2) (va_cwS 1 hts gX5_forget_X5_isShape rfl rfl rfl (by decide +kernel) ⟨Nat.le_of_ble_eq_true rfl, Nat.le_of_ble_eq_true rfl⟩) (jPreS hK hPc hDc hN) rfl rfl hl.1 rfl (lv_room (Nat.le_of_ble_eq_true rfl)) dX5_forget_6 ⟨Nat.le_of_ble_eq_true rfl, Nat.le_of_ble_eq_true rfl⟩) hS (fun q _ h => hFc q h) hFc (fun r' u' t H locs ht hvm hw hB hz1 hk1 hS => ?_)
    subst hw
    obtain ⟨hP1, -, hD1⟩ := hB
    rw [ht] at hP1
    have hP : va_P (dC, dI) vwCl ((W_Model cI a (s_Model_thrown S (0 : Int32)))) H := jNone hP hk1
    refine lv_if_ne (tgt := 18) hx hb dX5_forget_9 (by decide) (fun c3 => ?_) (fun c3 => ?_)
    · have hF := F_neg c3 hF
      refine lv_aload_n hx hb dX5_forget_18 rfl (lv_at hl 0 rfl) ?_
      obtain ⟨u4, h5, hF⟩ := ob1_some hF
      have hPc : va_P (dC, dI) vwCl ((W_Model cI a (s_Model_thrown S (0 : Int32)))) H := hP
      have hDc : va_D A ((W_Model cI a (s_Model_thrown S (0 : Int32)))) := hD
      have hFc := jFreeW (ws := (W_Model cI a (s_Model_thrown S (0 : Int32)))) hD hS hA
      refine va_callv (va_runV (As := []) (rest := []) ⟨hx, hb, hml, hown, hts⟩ (c_X5_saves l dC dI cI a H.size _ _ h5) (cwV 0 hts gX5_forget_X5_saves rfl rfl rfl (by decide +kernel) ⟨Nat.le_of_ble_eq_true rfl, Nat.le_of_ble_eq_true rfl⟩) (jPreV hK hPc hDc hN (ci := 5) rfl rfl) rfl rfl hl.1 rfl (lv_room (Nat.le_of_ble_eq_true rfl)) dX5_forget_19 ⟨Nat.le_of_ble_eq_true rfl, Nat.le_of_ble_eq_true rfl⟩) hS (fun q _ h => hFc q h) hFc (fun u' t H locs ht hvm hw hB hz1 hk1 hS => ?_)
      subst hw
      obtain ⟨hP1, -, hD1⟩ := hB
      rw [ht] at hP1
      have hP : va_P (dC, dI) vwCl ((W_Model cI a u4)) H := hP1
      have hD : va_D A ((W_Model cI a u4)) := hD1.weaken (fun _ _ _ h => hFc _ h)
      refine lv_aload_n hx hb dX5_forget_22 rfl (lv_at hl 0 rfl) ?_
      refine wg_now (v := .ref (a 1)) hx hb hts hinX5 hown hK hP rfl (hts (Cond.fieldLink RX5 7 "LearnedShapesModel" "now" "[I") (List.mem_of_getElem? (i := 2) rfl)) dX5_forget_23 ?_
      refine lv_iconst (v := (3 : Int32)) hx hb dX5_forget_26 (by decide) ?_
      refine lv_iload_n hx hb dX5_forget_27 rfl (lv_at hl 1 rfl) ?_
      refine lv_iadd hx hb dX5_forget_28 ?_
      obtain ⟨g6, hF⟩ := og_some hF
      refine wl_now (f := (g_Model_now u4)) hx hb hK hP rfl (inb_in g6) dX5_forget_29 ?_
      refine lv_istore_n (lv' := [(2, .int ((g_Model_now u4) ((3 : Int32) + v1).toNatClampNeg)), (0, .ref (a 0)), (1, .int v1)]) hx hb dX5_forget_30 rfl hl (by decide) rfl (fun ls hl => ?_)
      refine lv_aload_n hx hb dX5_forget_31 rfl (lv_at hl 1 rfl) ?_
      refine wg_now (v := .ref (a 1)) hx hb hts hinX5 hown hK hP rfl (hts (Cond.fieldLink RX5 7 "LearnedShapesModel" "now" "[I") (List.mem_of_getElem? (i := 2) rfl)) dX5_forget_32 ?_
      refine lv_iconst (v := (3 : Int32)) hx hb dX5_forget_35 (by decide) ?_
      refine lv_iload_n hx hb dX5_forget_36 rfl (lv_at hl 2 rfl) ?_
      refine lv_iadd hx hb dX5_forget_37 ?_
      refine lv_iconst (v := (0 : Int32)) hx hb dX5_forget_38 (by decide) ?_
      obtain ⟨g7, hF⟩ := og_some hF
      refine ws_now (f := (g_Model_now u4)) hx hb hK hP hD hS rfl (inb_in g7) dX5_forget_39 (fun H locs hP hD hS => ?_)
      refine lv_aload_n hx hb dX5_forget_40 rfl (lv_at hl 1 rfl) ?_
      refine wg_now (v := .ref (a 1)) hx hb hts hinX5 hown hK hP rfl (hts (Cond.fieldLink RX5 7 "LearnedShapesModel" "now" "[I") (List.mem_of_getElem? (i := 2) rfl)) dX5_forget_41 ?_
      refine lv_iconst (v := (1 : Int32)) hx hb dX5_forget_44 (by decide) ?_
      refine lv_iload_n hx hb dX5_forget_45 rfl (lv_at hl 2 rfl) ?_
      refine lv_iadd hx hb dX5_forget_46 ?_
      refine lv_iconst (v := (0 : Int32)) hx hb dX5_forget_47 (by decide) ?_
      obtain ⟨g8, hF⟩ := og_some hF
      refine ws_now (f := (upd (g_Model_now u4) ((3 : Int32) + v1).toNatClampNeg (0 : Int32))) hx hb hK hP hD hS rfl (inb_in g8) dX5_forget_48 (fun H locs hP hD hS => ?_)
      have hP : va_P (dC, dI) vwCl ((W_Model cI a (s_Model_now u4 (upd (upd (g_Model_now u4) ((3 : Int32) + v1).toNatClampNeg (0 : Int32)) ((1 : Int32) + v1).toNatClampNeg (0 : Int32))))) H := hP
      have hD : va_D A ((W_Model cI a (s_Model_now u4 (upd (upd (g_Model_now u4) ((3 : Int32) + v1).toNatClampNeg (0 : Int32)) ((1 : Int32) + v1).toNatClampNeg (0 : Int32))))) := hD
      refine lv_iload_n hx hb dX5_forget_49 rfl (lv_at hl 0 rfl) ?_
      have e50 := Option.some.inj hF
      obtain ⟨e60, e51⟩ := Prod.mk.inj e50
      subst e60
      subst e51
      exact W.iret (v := ((g_Model_now u4) ((3 : Int32) + v1).toNatClampNeg)) hx hb hr (fun t ht hW => ⟨⟨((g_Model_now u4) ((3 : Int32) + v1).toNatClampNeg), (s_Model_now u4 (upd (upd (g_Model_now u4) ((3 : Int32) + v1).toNatClampNeg (0 : Int32)) ((1 : Int32) + v1).toNatClampNeg (0 : Int32))), rfl, ⟨rfl, rfl⟩, by rw [ht]; exact hP, va_K.moved hW.alike hK, hD⟩, hS.F ht⟩) hS.2.2 dX5_forget_50
    · have hF := F_pos c3 hF
      refine lv_aload_n hx hb dX5_forget_12 rfl (lv_at hl 0 rfl) ?_
      refine lv_iconst (v := (1 : Int32)) hx hb dX5_forget_13 (by decide) ?_
      obtain ⟨r9, u10, h11, hF⟩ := ob2_some hF
      have hPc : va_P (dC, dI) vwCl ((W_Model cI a (s_Model_thrown S (0 : Int32)))) H := hP
      have hDc : va_D A ((W_Model cI a (s_Model_thrown S (0 : Int32)))) := hD
      have hFc := jFreeW (ws := (W_Model cI a (s_Model_thrown S (0 : Int32)))) hD hS hA
      refine va_calli (va_runV (As := [.int (1 : Int32)]) (rest := []) ⟨hx, hb, hml, hown, hts⟩ (c_X5_fails l dC dI cI a H.size _ _ _ _ h11) (cwV 1 hts gX5_forget_X5_fails rfl rfl rfl (by decide +kernel) ⟨Nat.le_of_ble_eq_true rfl, Nat.le_of_ble_eq_true rfl⟩) (jPreV hK hPc hDc hN (ci := 5) rfl rfl) rfl rfl hl.1 rfl (lv_room (Nat.le_of_ble_eq_true rfl)) dX5_forget_14 ⟨Nat.le_of_ble_eq_true rfl, Nat.le_of_ble_eq_true rfl⟩) hS (fun q _ h => hFc q h) hFc (fun r' u' t H locs ht hvm hw hB hz1 hk1 hS => ?_)
      obtain ⟨e1, e2⟩ := hw
      subst e1
      subst e2
      obtain ⟨hP1, -, hD1⟩ := hB
      rw [ht] at hP1
      have hP : va_P (dC, dI) vwCl ((W_Model cI a u10)) H := hP1
      have hD : va_D A ((W_Model cI a u10)) := hD1.weaken (fun _ _ _ h => hFc _ h)
      have e50 := Option.some.inj hF
      obtain ⟨e60, e51⟩ := Prod.mk.inj e50
      subst e60
      subst e51
      exact W.iret (v := r9) hx hb hr (fun t ht hW => ⟨⟨r9, u10, rfl, ⟨rfl, rfl⟩, by rw [ht]; exact hP, va_K.moved hW.alike hK, hD⟩, hS.F ht⟩) hS.2.2 dX5_forget_17
  exact KE _ _ hP hD hS
set_option maxHeartbeats 4000000 in
set_option maxRecDepth 100000 in
theorem c_X5_exchanges (l : Launch) (dC : Nat → ClassId) (dI : Nat → Nat → Nat) (cI : ClassId) (a : Nat → Nat) (sz : Nat) (S : S_Model) (v1 : Int32) (v2 : Int32) (Y : S_Model) (hF : F_X5_exchanges S v1 v2 = some Y) : Met l yX5_exchanges wsX5_exchanges ({ frames := 0, cells := 0, slots := 0, locals := 0 } : Room) (va_Pc [.ref (a 0), .int v1, .int v2] (jPre (dC, dI) [(cI, .int)] sz ((W_Model cI a S)))) (va_Qv (fun u : S_Model => Y = u) (fun u : S_Model => jB (dC, dI) [(cI, .int)] (va_A ((W_Model cI a S)) sz) ((W_Model cI a u))) (va_A ((W_Model cI a S)) sz)) 0 0 (va_A ((W_Model cI a S)) sz) := by
  refine Met.ofW (cc := cX5_exchanges) (maxL := 4) (ret := none) (by decide) rfl ?_
  intro p e s m args below meth c s₁ B hml hv
  obtain ⟨rfl, hsz, hP, hK, hD0, hN⟩ := hv
  have hx := B.exec
  have hb := B.bytes
  have hr := B.returns
  have hts := atoms_spec (ws := wsX5_exchanges) B.pre
  have hown : s.vm.findClass RX5 = some m.cls := findClass_of_methodNamed B.named
  have hlocks := B.notSynchronized
  have hinX5 : ∀ w ∈ u_ws RX5 TX5 26, w ∈ wsX5_exchanges := by decide +kernel
  subst hsz
  have hD := hD0.self (sz := s.heap.size)
  generalize hAe : (va_A ((W_Model cI a S)) s.heap.size) = A at hD ⊢
  have hA : ∀ q : Nat, s.heap.size ≤ q → A q := fun q h => by rw [← hAe]; exact Or.inr h
  have hS : va_S A s.heap s.heap [] := va_S.rf
  have hl := lv_entry ([.ref (a 0), .int v1, .int v2]) (n := 4) (Nat.le_of_ble_eq_true rfl)
  rw [lg_entry_eq]
  generalize (lg_sl ([.ref (a 0), .int v1, .int v2]) ++ List.replicate (4 - (lg_sl ([.ref (a 0), .int v1, .int v2])).length) Slot.unset).toArray = ls at hl ⊢
  have hl : lv_has ls 4 [(0, .ref (a 0)), (1, .int v1), (2, .int v2)] := hl
  have KE : ∀ (H : Heap) (locs : List Loc), va_P (dC, dI) vwCl ((W_Model cI a S)) H → va_D A ((W_Model cI a S)) → va_S A s.heap H locs → W p l e (headSpec wsX5_exchanges ({ frames := 0, cells := 0, slots := 0, locals := 0 } : Room)).room s m ([.ref (a 0), .int v1, .int v2] : List Value).toArray below meth c H locs 0 0 (MQ below (va_Qv (fun u : S_Model => Y = u) (fun u : S_Model => jB (dC, dI) [(cI, .int)] A ((W_Model cI a u))) A) ([.ref (a 0), .int v1, .int v2] : List Value).toArray s 0 0 A) (F0 m 0 ls []) := by
    intro H locs hP hD hS
    unfold F_X5_exchanges at hF
    refine lv_aload_n hx hb dX5_exchanges_0 rfl (lv_at hl 0 rfl) ?_
    refine wg_now (v := .ref (a 1)) hx hb hts hinX5 hown hK hP rfl (hts (Cond.fieldLink RX5 7 "LearnedShapesModel" "now" "[I") (List.mem_of_getElem? (i := 1) rfl)) dX5_exchanges_1 ?_
    refine lv_iload_n hx hb dX5_exchanges_4 rfl (lv_at hl 1 rfl) ?_
    obtain ⟨g1, hF⟩ := og_some hF
    refine wl_now (f := (g_Model_now S)) hx hb hK hP rfl (inb_in g1) dX5_exchanges_5 ?_
    refine lv_istore_n (lv' := [(3, .int ((g_Model_now S) v1.toNatClampNeg)), (0, .ref (a 0)), (1, .int v1), (2, .int v2)]) hx hb dX5_exchanges_6 rfl hl (by decide) rfl (fun ls hl => ?_)
    refine lv_aload_n hx hb dX5_exchanges_7 rfl (lv_at hl 1 rfl) ?_
    refine wg_now (v := .ref (a 1)) hx hb hts hinX5 hown hK hP rfl (hts (Cond.fieldLink RX5 7 "LearnedShapesModel" "now" "[I") (List.mem_of_getElem? (i := 1) rfl)) dX5_exchanges_8 ?_
    refine lv_iload_n hx hb dX5_exchanges_11 rfl (lv_at hl 2 rfl) ?_
    refine lv_aload_n hx hb dX5_exchanges_12 rfl (lv_at hl 1 rfl) ?_
    refine wg_now (v := .ref (a 1)) hx hb hts hinX5 hown hK hP rfl (hts (Cond.fieldLink RX5 7 "LearnedShapesModel" "now" "[I") (List.mem_of_getElem? (i := 1) rfl)) dX5_exchanges_13 ?_
    refine lv_iload_n hx hb dX5_exchanges_16 rfl (lv_at hl 3 rfl) ?_
    obtain ⟨g2, hF⟩ := og_some hF
    refine wl_now (f := (g_Model_now S)) hx hb hK hP rfl (inb_in g2) dX5_exchanges_17 ?_
    obtain ⟨g3, hF⟩ := og_some hF
    refine ws_now (f := (g_Model_now S)) hx hb hK hP hD hS rfl (inb_in g3) dX5_exchanges_18 (fun H locs hP hD hS => ?_)
    refine lv_aload_n hx hb dX5_exchanges_19 rfl (lv_at hl 1 rfl) ?_
    refine wg_now (v := .ref (a 1)) hx hb hts hinX5 hown hK hP rfl (hts (Cond.fieldLink RX5 7 "LearnedShapesModel" "now" "[I") (List.mem_of_getElem? (i := 1) rfl)) dX5_exchanges_20 ?_
    refine lv_iload_n hx hb dX5_exchanges_23 rfl (lv_at hl 3 rfl) ?_
    refine lv_iload_n hx hb dX5_exchanges_24 rfl (lv_at hl 0 rfl) ?_
    obtain ⟨g4, hF⟩ := og_some hF
    refine ws_now (f := (upd (g_Model_now S) v1.toNatClampNeg ((g_Model_now S) v2.toNatClampNeg))) hx hb hK hP hD hS rfl (inb_in g4) dX5_exchanges_25 (fun H locs hP hD hS => ?_)
    have hP : va_P (dC, dI) vwCl ((W_Model cI a (s_Model_now S (upd (upd (g_Model_now S) v1.toNatClampNeg ((g_Model_now S) v2.toNatClampNeg)) v2.toNatClampNeg ((g_Model_now S) v1.toNatClampNeg))))) H := hP
    have hD : va_D A ((W_Model cI a (s_Model_now S (upd (upd (g_Model_now S) v1.toNatClampNeg ((g_Model_now S) v2.toNatClampNeg)) v2.toNatClampNeg ((g_Model_now S) v1.toNatClampNeg))))) := hD
    have e50 := Option.some.inj hF
    subst e50
    exact W.vret hx hb hr (fun t ht hW => ⟨⟨(s_Model_now S (upd (upd (g_Model_now S) v1.toNatClampNeg ((g_Model_now S) v2.toNatClampNeg)) v2.toNatClampNeg ((g_Model_now S) v1.toNatClampNeg))), rfl, rfl, by rw [ht]; exact hP, va_K.moved hW.alike hK, hD⟩, hS.F ht⟩) hS.2.2 dX5_exchanges_26
  exact KE _ _ hP hD hS
set_option maxHeartbeats 4000000 in
set_option maxRecDepth 100000 in
theorem c_X5_swap (l : Launch) (dC : Nat → ClassId) (dI : Nat → Nat → Nat) (cI : ClassId) (a : Nat → Nat) (sz : Nat) (S : S_Model)  (rr : Int32) (Y : S_Model) (hF : F_X5_swap S  = some (rr, Y)) : Met l yX5_swap wsX5_swap ({ frames := 1, cells := 0, slots := 0, locals := 23 } : Room) (va_Pc [.ref (a 0)] (jPre (dC, dI) [(cI, .int)] sz ((W_Model cI a S)))) (va_Qi (fun (r' : Int32) (u : S_Model) => rr = r' ∧ Y = u) (fun u : S_Model => jB (dC, dI) [(cI, .int)] (va_A ((W_Model cI a S)) sz) ((W_Model cI a u))) (va_A ((W_Model cI a S)) sz)) 0 0 (va_A ((W_Model cI a S)) sz) := by
  refine Met.ofW (cc := cX5_swap) (maxL := 2) (ret := (some .int)) (by decide) rfl ?_
  intro p e s m args below meth c s₁ B hml hv
  obtain ⟨rfl, hsz, hP, hK, hD0, hN⟩ := hv
  have hx := B.exec
  have hb := B.bytes
  have hr := B.returns
  have hts := atoms_spec (ws := wsX5_swap) B.pre
  have hown : s.vm.findClass RX5 = some m.cls := findClass_of_methodNamed B.named
  have hlocks := B.notSynchronized
  have hinX5 : ∀ w ∈ u_ws RX5 TX5 26, w ∈ wsX5_swap := by decide +kernel
  subst hsz
  have hD := hD0.self (sz := s.heap.size)
  generalize hAe : (va_A ((W_Model cI a S)) s.heap.size) = A at hD ⊢
  have hA : ∀ q : Nat, s.heap.size ≤ q → A q := fun q h => by rw [← hAe]; exact Or.inr h
  have hS : va_S A s.heap s.heap [] := va_S.rf
  have hl := lv_entry ([.ref (a 0)]) (n := 2) (Nat.le_of_ble_eq_true rfl)
  rw [lg_entry_eq]
  generalize (lg_sl ([.ref (a 0)]) ++ List.replicate (2 - (lg_sl ([.ref (a 0)])).length) Slot.unset).toArray = ls at hl ⊢
  have hl : lv_has ls 2 [(0, .ref (a 0))] := hl
  have K23 : ∀ (n23 : Nat) (S : S_Model) (x1 : Int32) (H : Heap) (locs : List Loc), F_X5_swap_23 n23 S x1 = some (rr, Y) → va_P (dC, dI) vwCl ((W_Model cI a S)) H → va_D A ((W_Model cI a S)) → va_S A s.heap H locs → ∀ ls : Array Slot, lv_has ls 2 [(0, .ref (a 0)), (1, .int x1)] → W p l e (headSpec wsX5_swap ({ frames := 1, cells := 0, slots := 0, locals := 23 } : Room)).room s m ([.ref (a 0)] : List Value).toArray below meth c H locs 0 0 (MQ below (va_Qi (fun (r' : Int32) (u : S_Model) => rr = r' ∧ Y = u) (fun u : S_Model => jB (dC, dI) [(cI, .int)] A ((W_Model cI a u))) A) ([.ref (a 0)] : List Value).toArray s 0 0 A) (F0 m 23 ls []) := by
    intro n23
    induction n23 with
    | zero => intro S x1 H locs hF; exact nomatch hF
    | succ n23 ih23 =>
      intro S x1 H locs hF hP hD hS ls hl
      rw [F_X5_swap_23_s] at hF
      refine lv_iload_n hx hb dX5_swap_23 rfl (lv_at hl 1 rfl) ?_
      refine lv_sipush (v := (210 : Int32)) hx hb dX5_swap_24 (by decide) ?_
      refine lv_icmp_ge (tgt := 48) hx hb dX5_swap_27 (by decide) (fun c1 => ?_) (fun c1 => ?_)
      · have hF := F_pos c1 hF
        refine lv_aload_n hx hb dX5_swap_48 rfl (lv_at hl 0 rfl) ?_
        refine wg_now (v := .ref (a 1)) hx hb hts hinX5 hown hK hP rfl (hts (Cond.fieldLink RX5 7 "LearnedShapesModel" "now" "[I") (List.mem_of_getElem? (i := 2) rfl)) dX5_swap_49 ?_
        refine lv_iconst (v := (3 : Int32)) hx hb dX5_swap_52 (by decide) ?_
        obtain ⟨g2, hF⟩ := og_some hF
        refine wl_now (f := (g_Model_now S)) hx hb hK hP rfl (inb_in g2) dX5_swap_53 ?_
        have e50 := Option.some.inj hF
        obtain ⟨e60, e51⟩ := Prod.mk.inj e50
        subst e60
        subst e51
        exact W.iret (v := ((g_Model_now S) (3 : Int32).toNatClampNeg)) hx hb hr (fun t ht hW => ⟨⟨((g_Model_now S) (3 : Int32).toNatClampNeg), S, rfl, ⟨rfl, rfl⟩, by rw [ht]; exact hP, va_K.moved hW.alike hK, hD⟩, hS.F ht⟩) hS.2.2 dX5_swap_54
      · have hF := F_neg c1 hF
        refine lv_aload_n hx hb dX5_swap_30 rfl (lv_at hl 0 rfl) ?_
        refine lv_iconst (v := (5 : Int32)) hx hb dX5_swap_31 (by decide) ?_
        refine lv_iload_n hx hb dX5_swap_32 rfl (lv_at hl 1 rfl) ?_
        refine lv_iadd hx hb dX5_swap_33 ?_
        refine lv_sipush (v := (215 : Int32)) hx hb dX5_swap_34 (by decide) ?_
        refine lv_iload_n hx hb dX5_swap_37 rfl (lv_at hl 1 rfl) ?_
        refine lv_iadd hx hb dX5_swap_38 ?_
        obtain ⟨u3, h4, hF⟩ := ob1_some hF
        have hPc : va_P (dC, dI) vwCl ((W_Model cI a S)) H := hP
        have hDc : va_D A ((W_Model cI a S)) := hD
        have hFc := jFreeW (ws := (W_Model cI a S)) hD hS hA
        refine va_callv (va_runV (As := [.int ((5 : Int32) + x1), .int ((215 : Int32) + x1)]) (rest := []) ⟨hx, hb, hml, hown, hts⟩ (c_X5_exchanges l dC dI cI a H.size _ _ _ _ h4) (cwV 2 hts gX5_swap_X5_exchanges rfl rfl rfl (by decide +kernel) ⟨Nat.le_of_ble_eq_true rfl, Nat.le_of_ble_eq_true rfl⟩) (jPreV hK hPc hDc hN (ci := 5) rfl rfl) rfl rfl hl.1 rfl (lv_room (Nat.le_of_ble_eq_true rfl)) dX5_swap_39 ⟨Nat.le_of_ble_eq_true rfl, Nat.le_of_ble_eq_true rfl⟩) hS (fun q _ h => hFc q h) hFc (fun u' t H locs ht hvm hw hB hz1 hk1 hS => ?_)
        subst hw
        obtain ⟨hP1, -, hD1⟩ := hB
        rw [ht] at hP1
        have hP : va_P (dC, dI) vwCl ((W_Model cI a u3)) H := hP1
        have hD : va_D A ((W_Model cI a u3)) := hD1.weaken (fun _ _ _ h => hFc _ h)
        refine lv_iinc (v := (x1 + (1 : Int32))) (lv' := [(1, .int (x1 + (1 : Int32))), (0, .ref (a 0))]) hx hb dX5_swap_42 hl (k := 1) rfl rfl (by decide) rfl (fun ls hl => ?_)
        refine lv_goto (tgt := 23) hx hb dX5_swap_45 (by decide) ?_
        exact ih23 _ _ _ _ hF hP hD hS _ (lv_sub hl [1, 0] rfl)
  have KE : ∀ (H : Heap) (locs : List Loc), va_P (dC, dI) vwCl ((W_Model cI a S)) H → va_D A ((W_Model cI a S)) → va_S A s.heap H locs → W p l e (headSpec wsX5_swap ({ frames := 1, cells := 0, slots := 0, locals := 23 } : Room)).room s m ([.ref (a 0)] : List Value).toArray below meth c H locs 0 0 (MQ below (va_Qi (fun (r' : Int32) (u : S_Model) => rr = r' ∧ Y = u) (fun u : S_Model => jB (dC, dI) [(cI, .int)] A ((W_Model cI a u))) A) ([.ref (a 0)] : List Value).toArray s 0 0 A) (F0 m 0 ls []) := by
    intro H locs hP hD hS
    unfold F_X5_swap at hF
    refine lv_aload_n hx hb dX5_swap_0 rfl (lv_at hl 0 rfl) ?_
    refine lv_iconst (v := (0 : Int32)) hx hb dX5_swap_1 (by decide) ?_
    refine wp_thrown (v := (0 : Int32)) hx hb hts hinX5 hown hK hP hD hS (hts (Cond.fieldLink RX5 49 "LearnedShapesModel" "thrown" "I") (List.mem_of_getElem? (i := 1) rfl)) (rfl) (rfl) dX5_swap_2 (fun H locs hP hD hS => ?_)
    refine lv_aload_n hx hb dX5_swap_5 rfl (lv_at hl 0 rfl) ?_
    obtain ⟨u5, h6, hF⟩ := ob1_some hF
    have hPc : va_P (dC, dI) vwCl ((W_Model cI a (s_Model_thrown S (0 : Int32)))) H := hP
    have hDc : va_D A ((W_Model cI a (s_Model_thrown S (0 : Int32)))) := hD
    have hFc := jFreeW (ws := (W_Model cI a (s_Model_thrown S (0 : Int32)))) hD hS hA
    refine va_callv (va_runV (As := []) (rest := []) ⟨hx, hb, hml, hown, hts⟩ (c_X5_saves l dC dI cI a H.size _ _ h6) (cwV 0 hts gX5_swap_X5_saves rfl rfl rfl (by decide +kernel) ⟨Nat.le_of_ble_eq_true rfl, Nat.le_of_ble_eq_true rfl⟩) (jPreV hK hPc hDc hN (ci := 5) rfl rfl) rfl rfl hl.1 rfl (lv_room (Nat.le_of_ble_eq_true rfl)) dX5_swap_6 ⟨Nat.le_of_ble_eq_true rfl, Nat.le_of_ble_eq_true rfl⟩) hS (fun q _ h => hFc q h) hFc (fun u' t H locs ht hvm hw hB hz1 hk1 hS => ?_)
    subst hw
    obtain ⟨hP1, -, hD1⟩ := hB
    rw [ht] at hP1
    have hP : va_P (dC, dI) vwCl ((W_Model cI a u5)) H := hP1
    have hD : va_D A ((W_Model cI a u5)) := hD1.weaken (fun _ _ _ h => hFc _ h)
    refine lv_aload_n hx hb dX5_swap_9 rfl (lv_at hl 0 rfl) ?_
    refine lv_iconst (v := (1 : Int32)) hx hb dX5_swap_10 (by decide) ?_
    refine lv_iconst (v := (2 : Int32)) hx hb dX5_swap_11 (by decide) ?_
    obtain ⟨u7, h8, hF⟩ := ob1_some hF
    have hPc : va_P (dC, dI) vwCl ((W_Model cI a u5)) H := hP
    have hDc : va_D A ((W_Model cI a u5)) := hD
    have hFc := jFreeW (ws := (W_Model cI a u5)) hD hS hA
    refine va_callv (va_runV (As := [.int (1 : Int32), .int (2 : Int32)]) (rest := []) ⟨hx, hb, hml, hown, hts⟩ (c_X5_exchanges l dC dI cI a H.size _ _ _ _ h8) (cwV 2 hts gX5_swap_X5_exchanges rfl rfl rfl (by decide +kernel) ⟨Nat.le_of_ble_eq_true rfl, Nat.le_of_ble_eq_true rfl⟩) (jPreV hK hPc hDc hN (ci := 5) rfl rfl) rfl rfl hl.1 rfl (lv_room (Nat.le_of_ble_eq_true rfl)) dX5_swap_12 ⟨Nat.le_of_ble_eq_true rfl, Nat.le_of_ble_eq_true rfl⟩) hS (fun q _ h => hFc q h) hFc (fun u' t H locs ht hvm hw hB hz1 hk1 hS => ?_)
    subst hw
    obtain ⟨hP1, -, hD1⟩ := hB
    rw [ht] at hP1
    have hP : va_P (dC, dI) vwCl ((W_Model cI a u7)) H := hP1
    have hD : va_D A ((W_Model cI a u7)) := hD1.weaken (fun _ _ _ h => hFc _ h)
    refine lv_aload_n hx hb dX5_swap_15 rfl (lv_at hl 0 rfl) ?_
    refine lv_iconst (v := (3 : Int32)) hx hb dX5_swap_16 (by decide) ?_
    refine lv_iconst (v := (4 : Int32)) hx hb dX5_swap_17 (by decide) ?_
    obtain ⟨u9, h10, hF⟩ := ob1_some hF
    have hPc : va_P (dC, dI) vwCl ((W_Model cI a u7)) H := hP
    have hDc : va_D A ((W_Model cI a u7)) := hD
    have hFc := jFreeW (ws := (W_Model cI a u7)) hD hS hA
    refine va_callv (va_runV (As := [.int (3 : Int32), .int (4 : Int32)]) (rest := []) ⟨hx, hb, hml, hown, hts⟩ (c_X5_exchanges l dC dI cI a H.size _ _ _ _ h10) (cwV 2 hts gX5_swap_X5_exchanges rfl rfl rfl (by decide +kernel) ⟨Nat.le_of_ble_eq_true rfl, Nat.le_of_ble_eq_true rfl⟩) (jPreV hK hPc hDc hN (ci := 5) rfl rfl) rfl rfl hl.1 rfl (lv_room (Nat.le_of_ble_eq_true rfl)) dX5_swap_18 ⟨Nat.le_of_ble_eq_true rfl, Nat.le_of_ble_eq_true rfl⟩) hS (fun q _ h => hFc q h) hFc (fun u' t H locs ht hvm hw hB hz1 hk1 hS => ?_)
    subst hw
    obtain ⟨hP1, -, hD1⟩ := hB
    rw [ht] at hP1
    have hP : va_P (dC, dI) vwCl ((W_Model cI a u9)) H := hP1
    have hD : va_D A ((W_Model cI a u9)) := hD1.weaken (fun _ _ _ h => hFc _ h)
    refine lv_iconst (v := (0 : Int32)) hx hb dX5_swap_21 (by decide) ?_
    refine lv_istore_n (lv' := [(1, .int (0 : Int32)), (0, .ref (a 0))]) hx hb dX5_swap_22 rfl hl (by decide) rfl (fun ls hl => ?_)
    exact K23 _ _ _ _ _ hF hP hD hS _ (lv_sub hl [1, 0] rfl)
  exact KE _ _ hP hD hS
set_option maxHeartbeats 4000000 in
set_option maxRecDepth 100000 in
theorem c_X5_set (l : Launch) (dC : Nat → ClassId) (dI : Nat → Nat → Nat) (cI : ClassId) (a : Nat → Nat) (sz : Nat) (S : S_Model) (v1 : Int32) (rr : Int32) (Y : S_Model) (hF : F_X5_set S v1 = some (rr, Y)) : Met l yX5_set wsX5_set ({ frames := 1, cells := 0, slots := 0, locals := 22 } : Room) (va_Pc [.ref (a 0), .int v1] (jPre (dC, dI) [(cI, .int)] sz ((W_Model cI a S)))) (va_Qi (fun (r' : Int32) (u : S_Model) => rr = r' ∧ Y = u) (fun u : S_Model => jB (dC, dI) [(cI, .int)] (va_A ((W_Model cI a S)) sz) ((W_Model cI a u))) (va_A ((W_Model cI a S)) sz)) 0 0 (va_A ((W_Model cI a S)) sz) := by
  refine Met.ofW (cc := cX5_set) (maxL := 3) (ret := (some .int)) (by decide) rfl ?_
  intro p e s m args below meth c s₁ B hml hv
  obtain ⟨rfl, hsz, hP, hK, hD0, hN⟩ := hv
  have hx := B.exec
  have hb := B.bytes
  have hr := B.returns
  have hts := atoms_spec (ws := wsX5_set) B.pre
  have hown : s.vm.findClass RX5 = some m.cls := findClass_of_methodNamed B.named
  have hlocks := B.notSynchronized
  have hinX5 : ∀ w ∈ u_ws RX5 TX5 26, w ∈ wsX5_set := by decide +kernel
  subst hsz
  have hD := hD0.self (sz := s.heap.size)
  generalize hAe : (va_A ((W_Model cI a S)) s.heap.size) = A at hD ⊢
  have hA : ∀ q : Nat, s.heap.size ≤ q → A q := fun q h => by rw [← hAe]; exact Or.inr h
  have hS : va_S A s.heap s.heap [] := va_S.rf
  have hl := lv_entry ([.ref (a 0), .int v1]) (n := 3) (Nat.le_of_ble_eq_true rfl)
  rw [lg_entry_eq]
  generalize (lg_sl ([.ref (a 0), .int v1]) ++ List.replicate (3 - (lg_sl ([.ref (a 0), .int v1])).length) Slot.unset).toArray = ls at hl ⊢
  have hl : lv_has ls 3 [(0, .ref (a 0)), (1, .int v1)] := hl
  have KE : ∀ (H : Heap) (locs : List Loc), va_P (dC, dI) vwCl ((W_Model cI a S)) H → va_D A ((W_Model cI a S)) → va_S A s.heap H locs → W p l e (headSpec wsX5_set ({ frames := 1, cells := 0, slots := 0, locals := 22 } : Room)).room s m ([.ref (a 0), .int v1] : List Value).toArray below meth c H locs 0 0 (MQ below (va_Qi (fun (r' : Int32) (u : S_Model) => rr = r' ∧ Y = u) (fun u : S_Model => jB (dC, dI) [(cI, .int)] A ((W_Model cI a u))) A) ([.ref (a 0), .int v1] : List Value).toArray s 0 0 A) (F0 m 0 ls []) := by
    intro H locs hP hD hS
    unfold F_X5_set at hF
    refine lv_aload_n hx hb dX5_set_0 rfl (lv_at hl 0 rfl) ?_
    refine lv_iconst (v := (0 : Int32)) hx hb dX5_set_1 (by decide) ?_
    refine wp_thrown (v := (0 : Int32)) hx hb hts hinX5 hown hK hP hD hS (hts (Cond.fieldLink RX5 49 "LearnedShapesModel" "thrown" "I") (List.mem_of_getElem? (i := 1) rfl)) (rfl) (rfl) dX5_set_2 (fun H locs hP hD hS => ?_)
    refine lv_iload_n hx hb dX5_set_5 rfl (lv_at hl 1 rfl) ?_
    refine lv_iconst (v := (0 : Int32)) hx hb dX5_set_6 (by decide) ?_
    refine lv_iconst (v := (1 : Int32)) hx hb dX5_set_7 (by decide) ?_
    obtain ⟨r1, h2, hF⟩ := ob1_some hF
    have hPc : va_P (dC, dI) vwCl ([] : va_W) H := fun k q h => by simp at h
    have hDc : va_D A ([] : va_W) := ⟨fun i j p q h => by simp at h, fun k q h => by simp at h⟩
    have hFc := jFreeW (ws := []) hDc hS hA
    refine va_calli (va_runS (As := [.int v1, .int (0 : Int32), .int (1 : Int32)]) (rest := []) ⟨hx, hb, hml, hown, hts⟩ (c_X5_in l dC dI cI  H.size _ _ _ _ h2) (va_cwS 3 hts gX5_set_X5_in rfl rfl rfl (by decide +kernel) ⟨Nat.le_of_ble_eq_true rfl, Nat.le_of_ble_eq_true rfl⟩) (jPreS hK hPc hDc hN) rfl rfl hl.1 rfl (lv_room (Nat.le_of_ble_eq_true rfl)) dX5_set_8 ⟨Nat.le_of_ble_eq_true rfl, Nat.le_of_ble_eq_true rfl⟩) hS (fun q _ h => hFc q h) hFc (fun r' u' t H locs ht hvm hw hB hz1 hk1 hS => ?_)
    subst hw
    obtain ⟨hP1, -, hD1⟩ := hB
    rw [ht] at hP1
    have hP : va_P (dC, dI) vwCl ((W_Model cI a (s_Model_thrown S (0 : Int32)))) H := jNone hP hk1
    refine lv_if_ne (tgt := 20) hx hb dX5_set_11 (by decide) (fun c3 => ?_) (fun c3 => ?_)
    · have hF := F_neg c3 hF
      refine lv_aload_n hx hb dX5_set_20 rfl (lv_at hl 0 rfl) ?_
      obtain ⟨u4, h5, hF⟩ := ob1_some hF
      have hPc : va_P (dC, dI) vwCl ((W_Model cI a (s_Model_thrown S (0 : Int32)))) H := hP
      have hDc : va_D A ((W_Model cI a (s_Model_thrown S (0 : Int32)))) := hD
      have hFc := jFreeW (ws := (W_Model cI a (s_Model_thrown S (0 : Int32)))) hD hS hA
      refine va_callv (va_runV (As := []) (rest := []) ⟨hx, hb, hml, hown, hts⟩ (c_X5_saves l dC dI cI a H.size _ _ h5) (cwV 0 hts gX5_set_X5_saves rfl rfl rfl (by decide +kernel) ⟨Nat.le_of_ble_eq_true rfl, Nat.le_of_ble_eq_true rfl⟩) (jPreV hK hPc hDc hN (ci := 5) rfl rfl) rfl rfl hl.1 rfl (lv_room (Nat.le_of_ble_eq_true rfl)) dX5_set_21 ⟨Nat.le_of_ble_eq_true rfl, Nat.le_of_ble_eq_true rfl⟩) hS (fun q _ h => hFc q h) hFc (fun u' t H locs ht hvm hw hB hz1 hk1 hS => ?_)
      subst hw
      obtain ⟨hP1, -, hD1⟩ := hB
      rw [ht] at hP1
      have hP : va_P (dC, dI) vwCl ((W_Model cI a u4)) H := hP1
      have hD : va_D A ((W_Model cI a u4)) := hD1.weaken (fun _ _ _ h => hFc _ h)
      refine lv_aload_n hx hb dX5_set_24 rfl (lv_at hl 0 rfl) ?_
      refine wg_now (v := .ref (a 1)) hx hb hts hinX5 hown hK hP rfl (hts (Cond.fieldLink RX5 7 "LearnedShapesModel" "now" "[I") (List.mem_of_getElem? (i := 2) rfl)) dX5_set_25 ?_
      refine lv_iconst (v := (0 : Int32)) hx hb dX5_set_28 (by decide) ?_
      obtain ⟨g6, hF⟩ := og_some hF
      refine wl_now (f := (g_Model_now u4)) hx hb hK hP rfl (inb_in g6) dX5_set_29 ?_
      refine lv_istore_n (lv' := [(2, .int ((g_Model_now u4) (0 : Int32).toNatClampNeg)), (0, .ref (a 0)), (1, .int v1)]) hx hb dX5_set_30 rfl hl (by decide) rfl (fun ls hl => ?_)
      refine lv_aload_n hx hb dX5_set_31 rfl (lv_at hl 1 rfl) ?_
      refine wg_now (v := .ref (a 1)) hx hb hts hinX5 hown hK hP rfl (hts (Cond.fieldLink RX5 7 "LearnedShapesModel" "now" "[I") (List.mem_of_getElem? (i := 2) rfl)) dX5_set_32 ?_
      refine lv_iconst (v := (0 : Int32)) hx hb dX5_set_35 (by decide) ?_
      refine lv_iload_n hx hb dX5_set_36 rfl (lv_at hl 2 rfl) ?_
      obtain ⟨g7, hF⟩ := og_some hF
      refine ws_now (f := (g_Model_now u4)) hx hb hK hP hD hS rfl (inb_in g7) dX5_set_37 (fun H locs hP hD hS => ?_)
      refine lv_iload_n hx hb dX5_set_38 rfl (lv_at hl 0 rfl) ?_
      have e50 := Option.some.inj hF
      obtain ⟨e60, e51⟩ := Prod.mk.inj e50
      subst e60
      subst e51
      exact W.iret (v := ((g_Model_now u4) (0 : Int32).toNatClampNeg)) hx hb hr (fun t ht hW => ⟨⟨((g_Model_now u4) (0 : Int32).toNatClampNeg), (s_Model_now u4 (upd (g_Model_now u4) (0 : Int32).toNatClampNeg v1)), rfl, ⟨rfl, rfl⟩, by rw [ht]; exact hP, va_K.moved hW.alike hK, hD⟩, hS.F ht⟩) hS.2.2 dX5_set_39
    · have hF := F_pos c3 hF
      refine lv_aload_n hx hb dX5_set_14 rfl (lv_at hl 0 rfl) ?_
      refine lv_iconst (v := (1 : Int32)) hx hb dX5_set_15 (by decide) ?_
      obtain ⟨r8, u9, h10, hF⟩ := ob2_some hF
      have hPc : va_P (dC, dI) vwCl ((W_Model cI a (s_Model_thrown S (0 : Int32)))) H := hP
      have hDc : va_D A ((W_Model cI a (s_Model_thrown S (0 : Int32)))) := hD
      have hFc := jFreeW (ws := (W_Model cI a (s_Model_thrown S (0 : Int32)))) hD hS hA
      refine va_calli (va_runV (As := [.int (1 : Int32)]) (rest := []) ⟨hx, hb, hml, hown, hts⟩ (c_X5_fails l dC dI cI a H.size _ _ _ _ h10) (cwV 1 hts gX5_set_X5_fails rfl rfl rfl (by decide +kernel) ⟨Nat.le_of_ble_eq_true rfl, Nat.le_of_ble_eq_true rfl⟩) (jPreV hK hPc hDc hN (ci := 5) rfl rfl) rfl rfl hl.1 rfl (lv_room (Nat.le_of_ble_eq_true rfl)) dX5_set_16 ⟨Nat.le_of_ble_eq_true rfl, Nat.le_of_ble_eq_true rfl⟩) hS (fun q _ h => hFc q h) hFc (fun r' u' t H locs ht hvm hw hB hz1 hk1 hS => ?_)
      obtain ⟨e1, e2⟩ := hw
      subst e1
      subst e2
      obtain ⟨hP1, -, hD1⟩ := hB
      rw [ht] at hP1
      have hP : va_P (dC, dI) vwCl ((W_Model cI a u9)) H := hP1
      have hD : va_D A ((W_Model cI a u9)) := hD1.weaken (fun _ _ _ h => hFc _ h)
      have e50 := Option.some.inj hF
      obtain ⟨e60, e51⟩ := Prod.mk.inj e50
      subst e60
      subst e51
      exact W.iret (v := r8) hx hb hr (fun t ht hW => ⟨⟨r8, u9, rfl, ⟨rfl, rfl⟩, by rw [ht]; exact hP, va_K.moved hW.alike hK, hD⟩, hS.F ht⟩) hS.2.2 dX5_set_19
  exact KE _ _ hP hD hS
set_option maxHeartbeats 4000000 in
set_option maxRecDepth 100000 in
theorem c_X5_depth (l : Launch) (dC : Nat → ClassId) (dI : Nat → Nat → Nat) (cI : ClassId) (a : Nat → Nat) (sz : Nat) (S : S_Model) (v1 : Int32) (v2 : Int32) (rr : Int32) (hF : F_X5_depth S v1 v2 = some rr) : Met l yX5_depth wsX5_depth ({ frames := 1, cells := 0, slots := 0, locals := 23 } : Room) (va_Pc [.ref (a 0), .int v1, .int v2] (jPre (dC, dI) [(cI, .int)] sz ((W_Model cI a S)))) (va_Qi (fun (r' : Int32) (_ : Unit) => rr = r') (fun _ : Unit => jB (dC, dI) [(cI, .int)] (va_A ((W_Model cI a S)) sz) ((W_Model cI a S))) (va_A ((W_Model cI a S)) sz)) 0 0 (va_A ((W_Model cI a S)) sz) := by
  refine Met.ofW (cc := cX5_depth) (maxL := 5) (ret := (some .int)) (by decide) rfl ?_
  intro p e s m args below meth c s₁ B hml hv
  obtain ⟨rfl, hsz, hP, hK, hD0, hN⟩ := hv
  have hx := B.exec
  have hb := B.bytes
  have hr := B.returns
  have hts := atoms_spec (ws := wsX5_depth) B.pre
  have hown : s.vm.findClass RX5 = some m.cls := findClass_of_methodNamed B.named
  have hlocks := B.notSynchronized
  subst hsz
  have hD := hD0.self (sz := s.heap.size)
  generalize hAe : (va_A ((W_Model cI a S)) s.heap.size) = A at hD ⊢
  have hA : ∀ q : Nat, s.heap.size ≤ q → A q := fun q h => by rw [← hAe]; exact Or.inr h
  have hS : va_S A s.heap s.heap [] := va_S.rf
  have hl := lv_entry ([.ref (a 0), .int v1, .int v2]) (n := 5) (Nat.le_of_ble_eq_true rfl)
  rw [lg_entry_eq]
  generalize (lg_sl ([.ref (a 0), .int v1, .int v2]) ++ List.replicate (5 - (lg_sl ([.ref (a 0), .int v1, .int v2])).length) Slot.unset).toArray = ls at hl ⊢
  have hl : lv_has ls 5 [(0, .ref (a 0)), (1, .int v1), (2, .int v2)] := hl
  have K11 : ∀ (n11 : Nat) (x3 : Int32) (x4 : Int32) (H : Heap) (locs : List Loc), F_X5_depth_11 v1 S n11 x3 x4 = some rr → va_P (dC, dI) vwCl ((W_Model cI a S)) H → va_D A ((W_Model cI a S)) → va_S A s.heap H locs → ∀ ls : Array Slot, lv_has ls 5 [(0, .ref (a 0)), (1, .int v1), (3, .int x3), (4, .int x4)] → W p l e (headSpec wsX5_depth ({ frames := 1, cells := 0, slots := 0, locals := 23 } : Room)).room s m ([.ref (a 0), .int v1, .int v2] : List Value).toArray below meth c H locs 0 0 (MQ below (va_Qi (fun (r' : Int32) (_ : Unit) => rr = r') (fun _ : Unit => jB (dC, dI) [(cI, .int)] A ((W_Model cI a S))) A) ([.ref (a 0), .int v1, .int v2] : List Value).toArray s 0 0 A) (F0 m 11 ls []) := by
    intro n11
    induction n11 with
    | zero => intro x3 x4 H locs hF; exact nomatch hF
    | succ n11 ih11 =>
      intro x3 x4 H locs hF hP hD hS ls hl
      rw [F_X5_depth_11_s] at hF
      refine lv_iload hx hb dX5_depth_11 (lv_at hl 3 rfl) ?_
      refine lv_iconst (v := (-1 : Int32)) hx hb dX5_depth_13 (by decide) ?_
      refine lv_icmp_eq (tgt := 33) hx hb dX5_depth_14 (by decide) (fun c1 => ?_) (fun c1 => ?_)
      · have hF := F_pos c1 hF
        refine lv_iload_n hx hb dX5_depth_33 rfl (lv_at hl 2 rfl) ?_
        have e50 := Option.some.inj hF
        subst e50
        exact W.iret (v := x3) hx hb hr (fun t ht hW => ⟨⟨x3, (), rfl, rfl, by rw [ht]; exact hP, va_K.moved hW.alike hK, hD⟩, hS.F ht⟩) hS.2.2 dX5_depth_34
      · have hF := F_neg c1 hF
        refine lv_iinc (v := (x3 + (1 : Int32))) (lv' := [(3, .int (x3 + (1 : Int32))), (0, .ref (a 0)), (1, .int v1), (4, .int x4)]) hx hb dX5_depth_17 hl (k := 2) rfl rfl (by decide) rfl (fun ls hl => ?_)
        refine lv_aload_n hx hb dX5_depth_20 rfl (lv_at hl 1 rfl) ?_
        refine lv_iload_n hx hb dX5_depth_21 rfl (lv_at hl 2 rfl) ?_
        refine lv_iload hx hb dX5_depth_22 (lv_at hl 3 rfl) ?_
        refine lv_iconst (v := (1 : Int32)) hx hb dX5_depth_24 (by decide) ?_
        obtain ⟨r2, h3, hF⟩ := ob1_some hF
        have hPc : va_P (dC, dI) vwCl ((W_Model cI a S)) H := hP
        have hDc : va_D A ((W_Model cI a S)) := hD
        have hFc := jFreeW (ws := (W_Model cI a S)) hD hS hA
        refine va_calli (va_runV (As := [.int v1, .int x4, .int (1 : Int32)]) (rest := []) ⟨hx, hb, hml, hown, hts⟩ (c_X5_of l dC dI cI a H.size _ _ _ _ _ h3) (cwV 3 hts gX5_depth_X5_of rfl rfl rfl (by decide +kernel) ⟨Nat.le_of_ble_eq_true rfl, Nat.le_of_ble_eq_true rfl⟩) (jPreV hK hPc hDc hN (ci := 5) rfl rfl) rfl rfl hl.1 rfl (lv_room (Nat.le_of_ble_eq_true rfl)) dX5_depth_25 ⟨Nat.le_of_ble_eq_true rfl, Nat.le_of_ble_eq_true rfl⟩) hS (fun q _ h => hFc q h) hFc (fun r' u' t H locs ht hvm hw hB hz1 hk1 hS => ?_)
        subst hw
        obtain ⟨hP1, -, hD1⟩ := hB
        rw [ht] at hP1
        have hP : va_P (dC, dI) vwCl ((W_Model cI a S)) H := hP1
        have hD : va_D A ((W_Model cI a S)) := hD1.weaken (fun _ _ _ h => hFc _ h)
        refine lv_istore (lv' := [(4, .int r2), (3, .int (x3 + (1 : Int32))), (0, .ref (a 0)), (1, .int v1)]) hx hb dX5_depth_28 hl (by decide) rfl (fun ls hl => ?_)
        refine lv_goto (tgt := 11) hx hb dX5_depth_30 (by decide) ?_
        exact ih11 _ _ _ _ hF hP hD hS _ (lv_sub hl [2, 3, 1, 0] rfl)
  have KE : ∀ (H : Heap) (locs : List Loc), va_P (dC, dI) vwCl ((W_Model cI a S)) H → va_D A ((W_Model cI a S)) → va_S A s.heap H locs → W p l e (headSpec wsX5_depth ({ frames := 1, cells := 0, slots := 0, locals := 23 } : Room)).room s m ([.ref (a 0), .int v1, .int v2] : List Value).toArray below meth c H locs 0 0 (MQ below (va_Qi (fun (r' : Int32) (_ : Unit) => rr = r') (fun _ : Unit => jB (dC, dI) [(cI, .int)] A ((W_Model cI a S))) A) ([.ref (a 0), .int v1, .int v2] : List Value).toArray s 0 0 A) (F0 m 0 ls []) := by
    intro H locs hP hD hS
    unfold F_X5_depth at hF
    refine lv_iconst (v := (0 : Int32)) hx hb dX5_depth_0 (by decide) ?_
    refine lv_istore_n (lv' := [(3, .int (0 : Int32)), (0, .ref (a 0)), (1, .int v1), (2, .int v2)]) hx hb dX5_depth_1 rfl hl (by decide) rfl (fun ls hl => ?_)
    refine lv_aload_n hx hb dX5_depth_2 rfl (lv_at hl 1 rfl) ?_
    refine lv_iload_n hx hb dX5_depth_3 rfl (lv_at hl 2 rfl) ?_
    refine lv_iload_n hx hb dX5_depth_4 rfl (lv_at hl 3 rfl) ?_
    refine lv_iconst (v := (1 : Int32)) hx hb dX5_depth_5 (by decide) ?_
    obtain ⟨r4, h5, hF⟩ := ob1_some hF
    have hPc : va_P (dC, dI) vwCl ((W_Model cI a S)) H := hP
    have hDc : va_D A ((W_Model cI a S)) := hD
    have hFc := jFreeW (ws := (W_Model cI a S)) hD hS hA
    refine va_calli (va_runV (As := [.int v1, .int v2, .int (1 : Int32)]) (rest := []) ⟨hx, hb, hml, hown, hts⟩ (c_X5_of l dC dI cI a H.size _ _ _ _ _ h5) (cwV 3 hts gX5_depth_X5_of rfl rfl rfl (by decide +kernel) ⟨Nat.le_of_ble_eq_true rfl, Nat.le_of_ble_eq_true rfl⟩) (jPreV hK hPc hDc hN (ci := 5) rfl rfl) rfl rfl hl.1 rfl (lv_room (Nat.le_of_ble_eq_true rfl)) dX5_depth_6 ⟨Nat.le_of_ble_eq_true rfl, Nat.le_of_ble_eq_true rfl⟩) hS (fun q _ h => hFc q h) hFc (fun r' u' t H locs ht hvm hw hB hz1 hk1 hS => ?_)
    subst hw
    obtain ⟨hP1, -, hD1⟩ := hB
    rw [ht] at hP1
    have hP : va_P (dC, dI) vwCl ((W_Model cI a S)) H := hP1
    have hD : va_D A ((W_Model cI a S)) := hD1.weaken (fun _ _ _ h => hFc _ h)
    refine lv_istore (lv' := [(4, .int r4), (3, .int (0 : Int32)), (0, .ref (a 0)), (1, .int v1), (2, .int v2)]) hx hb dX5_depth_9 hl (by decide) rfl (fun ls hl => ?_)
    exact K11 _ _ _ _ _ hF hP hD hS _ (lv_sub hl [2, 3, 1, 0] rfl)
  exact KE _ _ hP hD hS
set_option maxHeartbeats 4000000 in
set_option maxRecDepth 100000 in
theorem c_X5_canMiss (l : Launch) (dC : Nat → ClassId) (dI : Nat → Nat → Nat) (cI : ClassId) (a : Nat → Nat) (sz : Nat) (S : S_Model) (v1 : Int32) (v2 : Int32) (rr : Bool) (hF : F_X5_canMiss S v1 v2 = some rr) : Met l yX5_canMiss wsX5_canMiss ({ frames := 1, cells := 0, slots := 0, locals := 23 } : Room) (va_Pc [.ref (a 0), .int v1, .int v2] (jPre (dC, dI) [(cI, .int)] sz ((W_Model cI a S)))) (va_Qi (fun (r' : Int32) (_ : Unit) => b2i rr = r') (fun _ : Unit => jB (dC, dI) [(cI, .int)] (va_A ((W_Model cI a S)) sz) ((W_Model cI a S))) (va_A ((W_Model cI a S)) sz)) 0 0 (va_A ((W_Model cI a S)) sz) := by
  refine Met.ofW (cc := cX5_canMiss) (maxL := 3) (ret := (some .boolean)) (by decide) rfl ?_
  intro p e s m args below meth c s₁ B hml hv
  obtain ⟨rfl, hsz, hP, hK, hD0, hN⟩ := hv
  have hx := B.exec
  have hb := B.bytes
  have hr := B.returns
  have hts := atoms_spec (ws := wsX5_canMiss) B.pre
  have hown : s.vm.findClass RX5 = some m.cls := findClass_of_methodNamed B.named
  have hlocks := B.notSynchronized
  subst hsz
  have hD := hD0.self (sz := s.heap.size)
  generalize hAe : (va_A ((W_Model cI a S)) s.heap.size) = A at hD ⊢
  have hA : ∀ q : Nat, s.heap.size ≤ q → A q := fun q h => by rw [← hAe]; exact Or.inr h
  have hS : va_S A s.heap s.heap [] := va_S.rf
  have hl := lv_entry ([.ref (a 0), .int v1, .int v2]) (n := 3) (Nat.le_of_ble_eq_true rfl)
  rw [lg_entry_eq]
  generalize (lg_sl ([.ref (a 0), .int v1, .int v2]) ++ List.replicate (3 - (lg_sl ([.ref (a 0), .int v1, .int v2])).length) Slot.unset).toArray = ls at hl ⊢
  have hl : lv_has ls 3 [(0, .ref (a 0)), (1, .int v1), (2, .int v2)] := hl
  have KE : ∀ (H : Heap) (locs : List Loc), va_P (dC, dI) vwCl ((W_Model cI a S)) H → va_D A ((W_Model cI a S)) → va_S A s.heap H locs → W p l e (headSpec wsX5_canMiss ({ frames := 1, cells := 0, slots := 0, locals := 23 } : Room)).room s m ([.ref (a 0), .int v1, .int v2] : List Value).toArray below meth c H locs 0 0 (MQ below (va_Qi (fun (r' : Int32) (_ : Unit) => b2i rr = r') (fun _ : Unit => jB (dC, dI) [(cI, .int)] A ((W_Model cI a S))) A) ([.ref (a 0), .int v1, .int v2] : List Value).toArray s 0 0 A) (F0 m 0 ls []) := by
    intro H locs hP hD hS
    unfold F_X5_canMiss at hF
    refine lv_aload_n hx hb dX5_canMiss_0 rfl (lv_at hl 0 rfl) ?_
    refine lv_iload_n hx hb dX5_canMiss_1 rfl (lv_at hl 1 rfl) ?_
    refine lv_iload_n hx hb dX5_canMiss_2 rfl (lv_at hl 2 rfl) ?_
    refine lv_iconst (v := (2 : Int32)) hx hb dX5_canMiss_3 (by decide) ?_
    obtain ⟨r1, h2, hF⟩ := ob1_some hF
    have hPc : va_P (dC, dI) vwCl ((W_Model cI a S)) H := hP
    have hDc : va_D A ((W_Model cI a S)) := hD
    have hFc := jFreeW (ws := (W_Model cI a S)) hD hS hA
    refine va_calli (va_runV (As := [.int v1, .int v2, .int (2 : Int32)]) (rest := []) ⟨hx, hb, hml, hown, hts⟩ (c_X5_of l dC dI cI a H.size _ _ _ _ _ h2) (cwV 3 hts gX5_canMiss_X5_of rfl rfl rfl (by decide +kernel) ⟨Nat.le_of_ble_eq_true rfl, Nat.le_of_ble_eq_true rfl⟩) (jPreV hK hPc hDc hN (ci := 5) rfl rfl) rfl rfl hl.1 rfl (lv_room (Nat.le_of_ble_eq_true rfl)) dX5_canMiss_4 ⟨Nat.le_of_ble_eq_true rfl, Nat.le_of_ble_eq_true rfl⟩) hS (fun q _ h => hFc q h) hFc (fun r' u' t H locs ht hvm hw hB hz1 hk1 hS => ?_)
    subst hw
    obtain ⟨hP1, -, hD1⟩ := hB
    rw [ht] at hP1
    have hP : va_P (dC, dI) vwCl ((W_Model cI a S)) H := hP1
    have hD : va_D A ((W_Model cI a S)) := hD1.weaken (fun _ _ _ h => hFc _ h)
    refine lv_iconst (v := (0 : Int32)) hx hb dX5_canMiss_7 (by decide) ?_
    refine lv_bipush (v := (7 : Int32)) hx hb dX5_canMiss_8 (by decide) ?_
    obtain ⟨r3, h4, hF⟩ := ob1_some hF
    have hPc : va_P (dC, dI) vwCl ([] : va_W) H := fun k q h => by simp at h
    have hDc : va_D A ([] : va_W) := ⟨fun i j p q h => by simp at h, fun k q h => by simp at h⟩
    have hFc := jFreeW (ws := []) hDc hS hA
    refine va_calli (va_runS (As := [.int r1, .int (0 : Int32), .int (7 : Int32)]) (rest := []) ⟨hx, hb, hml, hown, hts⟩ (c_X5_in l dC dI cI  H.size _ _ _ _ h4) (va_cwS 3 hts gX5_canMiss_X5_in rfl rfl rfl (by decide +kernel) ⟨Nat.le_of_ble_eq_true rfl, Nat.le_of_ble_eq_true rfl⟩) (jPreS hK hPc hDc hN) rfl rfl hl.1 rfl (lv_room (Nat.le_of_ble_eq_true rfl)) dX5_canMiss_10 ⟨Nat.le_of_ble_eq_true rfl, Nat.le_of_ble_eq_true rfl⟩) hS (fun q _ h => hFc q h) hFc (fun r' u' t H locs ht hvm hw hB hz1 hk1 hS => ?_)
    subst hw
    obtain ⟨hP1, -, hD1⟩ := hB
    rw [ht] at hP1
    have hP : va_P (dC, dI) vwCl ((W_Model cI a S)) H := jNone hP hk1
    refine lv_if_eq (tgt := 43) hx hb dX5_canMiss_13 (by decide) (fun c5 => ?_) (fun c5 => ?_)
    · have hF := F_pos c5 hF
      refine lv_iconst (v := (0 : Int32)) hx hb dX5_canMiss_43 (by decide) ?_
      have e50 := Option.some.inj hF
      subst e50
      exact W.zret (v := (0 : Int32)) hx hb hr (rfl) (fun t ht hW => ⟨⟨(0 : Int32), (), rfl, rfl, by rw [ht]; exact hP, va_K.moved hW.alike hK, hD⟩, hS.F ht⟩) hS.2.2 dX5_canMiss_44
    · have hF := F_neg c5 hF
      refine lv_aload_n hx hb dX5_canMiss_16 rfl (lv_at hl 0 rfl) ?_
      refine lv_iload_n hx hb dX5_canMiss_17 rfl (lv_at hl 1 rfl) ?_
      refine lv_iload_n hx hb dX5_canMiss_18 rfl (lv_at hl 2 rfl) ?_
      refine lv_iconst (v := (3 : Int32)) hx hb dX5_canMiss_19 (by decide) ?_
      obtain ⟨r6, h7, hF⟩ := ob1_some hF
      have hPc : va_P (dC, dI) vwCl ((W_Model cI a S)) H := hP
      have hDc : va_D A ((W_Model cI a S)) := hD
      have hFc := jFreeW (ws := (W_Model cI a S)) hD hS hA
      refine va_calli (va_runV (As := [.int v1, .int v2, .int (3 : Int32)]) (rest := []) ⟨hx, hb, hml, hown, hts⟩ (c_X5_of l dC dI cI a H.size _ _ _ _ _ h7) (cwV 3 hts gX5_canMiss_X5_of rfl rfl rfl (by decide +kernel) ⟨Nat.le_of_ble_eq_true rfl, Nat.le_of_ble_eq_true rfl⟩) (jPreV hK hPc hDc hN (ci := 5) rfl rfl) rfl rfl hl.1 rfl (lv_room (Nat.le_of_ble_eq_true rfl)) dX5_canMiss_20 ⟨Nat.le_of_ble_eq_true rfl, Nat.le_of_ble_eq_true rfl⟩) hS (fun q _ h => hFc q h) hFc (fun r' u' t H locs ht hvm hw hB hz1 hk1 hS => ?_)
      subst hw
      obtain ⟨hP1, -, hD1⟩ := hB
      rw [ht] at hP1
      have hP : va_P (dC, dI) vwCl ((W_Model cI a S)) H := hP1
      have hD : va_D A ((W_Model cI a S)) := hD1.weaken (fun _ _ _ h => hFc _ h)
      refine lv_aload_n hx hb dX5_canMiss_23 rfl (lv_at hl 0 rfl) ?_
      refine lv_iload_n hx hb dX5_canMiss_24 rfl (lv_at hl 1 rfl) ?_
      refine lv_aload_n hx hb dX5_canMiss_25 rfl (lv_at hl 0 rfl) ?_
      refine lv_iload_n hx hb dX5_canMiss_26 rfl (lv_at hl 1 rfl) ?_
      refine lv_iload_n hx hb dX5_canMiss_27 rfl (lv_at hl 2 rfl) ?_
      refine lv_iconst (v := (1 : Int32)) hx hb dX5_canMiss_28 (by decide) ?_
      obtain ⟨r8, h9, hF⟩ := ob1_some hF
      have hPc : va_P (dC, dI) vwCl ((W_Model cI a S)) H := hP
      have hDc : va_D A ((W_Model cI a S)) := hD
      have hFc := jFreeW (ws := (W_Model cI a S)) hD hS hA
      refine va_calli (va_runV (As := [.int v1, .int v2, .int (1 : Int32)]) (rest := [.int v1, .ref (a 0), .int r6]) ⟨hx, hb, hml, hown, hts⟩ (c_X5_of l dC dI cI a H.size _ _ _ _ _ h9) (cwV 3 hts gX5_canMiss_X5_of rfl rfl rfl (by decide +kernel) ⟨Nat.le_of_ble_eq_true rfl, Nat.le_of_ble_eq_true rfl⟩) (jPreV hK hPc hDc hN (ci := 5) rfl rfl) rfl rfl hl.1 rfl (lv_room (Nat.le_of_ble_eq_true rfl)) dX5_canMiss_29 ⟨Nat.le_of_ble_eq_true rfl, Nat.le_of_ble_eq_true rfl⟩) hS (fun q _ h => hFc q h) hFc (fun r' u' t H locs ht hvm hw hB hz1 hk1 hS => ?_)
      subst hw
      obtain ⟨hP1, -, hD1⟩ := hB
      rw [ht] at hP1
      have hP : va_P (dC, dI) vwCl ((W_Model cI a S)) H := hP1
      have hD : va_D A ((W_Model cI a S)) := hD1.weaken (fun _ _ _ h => hFc _ h)
      refine lv_iconst (v := (5 : Int32)) hx hb dX5_canMiss_32 (by decide) ?_
      obtain ⟨r10, h11, hF⟩ := ob1_some hF
      have hPc : va_P (dC, dI) vwCl ((W_Model cI a S)) H := hP
      have hDc : va_D A ((W_Model cI a S)) := hD
      have hFc := jFreeW (ws := (W_Model cI a S)) hD hS hA
      refine va_calli (va_runV (As := [.int v1, .int r8, .int (5 : Int32)]) (rest := [.int r6]) ⟨hx, hb, hml, hown, hts⟩ (c_X5_of l dC dI cI a H.size _ _ _ _ _ h11) (cwV 3 hts gX5_canMiss_X5_of rfl rfl rfl (by decide +kernel) ⟨Nat.le_of_ble_eq_true rfl, Nat.le_of_ble_eq_true rfl⟩) (jPreV hK hPc hDc hN (ci := 5) rfl rfl) rfl rfl hl.1 rfl (lv_room (Nat.le_of_ble_eq_true rfl)) dX5_canMiss_33 ⟨Nat.le_of_ble_eq_true rfl, Nat.le_of_ble_eq_true rfl⟩) hS (fun q _ h => hFc q h) hFc (fun r' u' t H locs ht hvm hw hB hz1 hk1 hS => ?_)
      subst hw
      obtain ⟨hP1, -, hD1⟩ := hB
      rw [ht] at hP1
      have hP : va_P (dC, dI) vwCl ((W_Model cI a S)) H := hP1
      have hD : va_D A ((W_Model cI a S)) := hD1.weaken (fun _ _ _ h => hFc _ h)
      refine lv_icmp_ge (tgt := 43) hx hb dX5_canMiss_36 (by decide) (fun c12 => ?_) (fun c12 => ?_)
      · have hF := F_pos c12 hF
        refine lv_iconst (v := (0 : Int32)) hx hb dX5_canMiss_43 (by decide) ?_
        have e50 := Option.some.inj hF
        subst e50
        exact W.zret (v := (0 : Int32)) hx hb hr (rfl) (fun t ht hW => ⟨⟨(0 : Int32), (), rfl, rfl, by rw [ht]; exact hP, va_K.moved hW.alike hK, hD⟩, hS.F ht⟩) hS.2.2 dX5_canMiss_44
      · have hF := F_neg c12 hF
        refine lv_iconst (v := (1 : Int32)) hx hb dX5_canMiss_39 (by decide) ?_
        refine lv_goto (tgt := 44) hx hb dX5_canMiss_40 (by decide) ?_
        have e50 := Option.some.inj hF
        subst e50
        exact W.zret (v := (1 : Int32)) hx hb hr (rfl) (fun t ht hW => ⟨⟨(1 : Int32), (), rfl, rfl, by rw [ht]; exact hP, va_K.moved hW.alike hK, hD⟩, hS.F ht⟩) hS.2.2 dX5_canMiss_44
  exact KE _ _ hP hD hS
set_option maxHeartbeats 4000000 in
set_option maxRecDepth 100000 in
theorem c_X5_childOf (l : Launch) (dC : Nat → ClassId) (dI : Nat → Nat → Nat) (cI : ClassId) (a : Nat → Nat) (sz : Nat) (S : S_Model) (v1 : Int32) (v2 : Int32) (v3 : Int32) (rr : Int32) (hF : F_X5_childOf S v1 v2 v3 = some rr) : Met l yX5_childOf wsX5_childOf ({ frames := 1, cells := 0, slots := 0, locals := 23 } : Room) (va_Pc [.ref (a 0), .int v1, .int v2, .int v3] (jPre (dC, dI) [(cI, .int)] sz ((W_Model cI a S)))) (va_Qi (fun (r' : Int32) (_ : Unit) => rr = r') (fun _ : Unit => jB (dC, dI) [(cI, .int)] (va_A ((W_Model cI a S)) sz) ((W_Model cI a S))) (va_A ((W_Model cI a S)) sz)) 0 0 (va_A ((W_Model cI a S)) sz) := by
  refine Met.ofW (cc := cX5_childOf) (maxL := 5) (ret := (some .int)) (by decide) rfl ?_
  intro p e s m args below meth c s₁ B hml hv
  obtain ⟨rfl, hsz, hP, hK, hD0, hN⟩ := hv
  have hx := B.exec
  have hb := B.bytes
  have hr := B.returns
  have hts := atoms_spec (ws := wsX5_childOf) B.pre
  have hown : s.vm.findClass RX5 = some m.cls := findClass_of_methodNamed B.named
  have hlocks := B.notSynchronized
  have hinX5 : ∀ w ∈ u_ws RX5 TX5 26, w ∈ wsX5_childOf := by decide +kernel
  subst hsz
  have hD := hD0.self (sz := s.heap.size)
  generalize hAe : (va_A ((W_Model cI a S)) s.heap.size) = A at hD ⊢
  have hA : ∀ q : Nat, s.heap.size ≤ q → A q := fun q h => by rw [← hAe]; exact Or.inr h
  have hS : va_S A s.heap s.heap [] := va_S.rf
  have hl := lv_entry ([.ref (a 0), .int v1, .int v2, .int v3]) (n := 5) (Nat.le_of_ble_eq_true rfl)
  rw [lg_entry_eq]
  generalize (lg_sl ([.ref (a 0), .int v1, .int v2, .int v3]) ++ List.replicate (5 - (lg_sl ([.ref (a 0), .int v1, .int v2, .int v3])).length) Slot.unset).toArray = ls at hl ⊢
  have hl : lv_has ls 5 [(0, .ref (a 0)), (1, .int v1), (2, .int v2), (3, .int v3)] := hl
  have K5 : ∀ (n5 : Nat) (x4 : Int32) (H : Heap) (locs : List Loc), F_X5_childOf_5 v1 v2 v3 S n5 x4 = some rr → va_P (dC, dI) vwCl ((W_Model cI a S)) H → va_D A ((W_Model cI a S)) → va_S A s.heap H locs → ∀ ls : Array Slot, lv_has ls 5 [(0, .ref (a 0)), (1, .int v1), (2, .int v2), (3, .int v3), (4, .int x4)] → W p l e (headSpec wsX5_childOf ({ frames := 1, cells := 0, slots := 0, locals := 23 } : Room)).room s m ([.ref (a 0), .int v1, .int v2, .int v3] : List Value).toArray below meth c H locs 0 0 (MQ below (va_Qi (fun (r' : Int32) (_ : Unit) => rr = r') (fun _ : Unit => jB (dC, dI) [(cI, .int)] A ((W_Model cI a S))) A) ([.ref (a 0), .int v1, .int v2, .int v3] : List Value).toArray s 0 0 A) (F0 m 5 ls []) := by
    intro n5
    induction n5 with
    | zero => intro x4 H locs hF; exact nomatch hF
    | succ n5 ih5 =>
      intro x4 H locs hF hP hD hS ls hl
      rw [F_X5_childOf_5_s] at hF
      refine lv_iload hx hb dX5_childOf_5 (lv_at hl 4 rfl) ?_
      refine lv_aload_n hx hb dX5_childOf_7 rfl (lv_at hl 0 rfl) ?_
      refine wg_now (v := .ref (a 1)) hx hb hts hinX5 hown hK hP rfl (hts (Cond.fieldLink RX5 7 "LearnedShapesModel" "now" "[I") (List.mem_of_getElem? (i := 1) rfl)) dX5_childOf_8 ?_
      refine lv_iconst (v := (3 : Int32)) hx hb dX5_childOf_11 (by decide) ?_
      refine lv_iload_n hx hb dX5_childOf_12 rfl (lv_at hl 1 rfl) ?_
      refine lv_iadd hx hb dX5_childOf_13 ?_
      obtain ⟨g1, hF⟩ := og_some hF
      refine wl_now (f := (g_Model_now S)) hx hb hK hP rfl (inb_in g1) dX5_childOf_14 ?_
      refine lv_icmp_ge (tgt := 51) hx hb dX5_childOf_15 (by decide) (fun c2 => ?_) (fun c2 => ?_)
      · have hF := F_pos c2 hF
        refine lv_iconst (v := (-1 : Int32)) hx hb dX5_childOf_51 (by decide) ?_
        have e50 := Option.some.inj hF
        subst e50
        exact W.iret (v := (-1 : Int32)) hx hb hr (fun t ht hW => ⟨⟨(-1 : Int32), (), rfl, rfl, by rw [ht]; exact hP, va_K.moved hW.alike hK, hD⟩, hS.F ht⟩) hS.2.2 dX5_childOf_52
      · have hF := F_neg c2 hF
        refine lv_aload_n hx hb dX5_childOf_18 rfl (lv_at hl 0 rfl) ?_
        refine lv_iload_n hx hb dX5_childOf_19 rfl (lv_at hl 1 rfl) ?_
        refine lv_iload hx hb dX5_childOf_20 (lv_at hl 4 rfl) ?_
        refine lv_iconst (v := (1 : Int32)) hx hb dX5_childOf_22 (by decide) ?_
        obtain ⟨r3, h4, hF⟩ := ob1_some hF
        have hPc : va_P (dC, dI) vwCl ((W_Model cI a S)) H := hP
        have hDc : va_D A ((W_Model cI a S)) := hD
        have hFc := jFreeW (ws := (W_Model cI a S)) hD hS hA
        refine va_calli (va_runV (As := [.int v1, .int x4, .int (1 : Int32)]) (rest := []) ⟨hx, hb, hml, hown, hts⟩ (c_X5_of l dC dI cI a H.size _ _ _ _ _ h4) (cwV 3 hts gX5_childOf_X5_of rfl rfl rfl (by decide +kernel) ⟨Nat.le_of_ble_eq_true rfl, Nat.le_of_ble_eq_true rfl⟩) (jPreV hK hPc hDc hN (ci := 5) rfl rfl) rfl rfl hl.1 rfl (lv_room (Nat.le_of_ble_eq_true rfl)) dX5_childOf_23 ⟨Nat.le_of_ble_eq_true rfl, Nat.le_of_ble_eq_true rfl⟩) hS (fun q _ h => hFc q h) hFc (fun r' u' t H locs ht hvm hw hB hz1 hk1 hS => ?_)
        subst hw
        obtain ⟨hP1, -, hD1⟩ := hB
        rw [ht] at hP1
        have hP : va_P (dC, dI) vwCl ((W_Model cI a S)) H := hP1
        have hD : va_D A ((W_Model cI a S)) := hD1.weaken (fun _ _ _ h => hFc _ h)
        refine lv_iload_n hx hb dX5_childOf_26 rfl (lv_at hl 2 rfl) ?_
        refine lv_icmp_ne (tgt := 45) hx hb dX5_childOf_27 (by decide) (fun c5 => ?_) (fun c5 => ?_)
        · have hF := F_neg c5 hF
          refine lv_iinc (v := (x4 + (1 : Int32))) (lv' := [(4, .int (x4 + (1 : Int32))), (0, .ref (a 0)), (1, .int v1), (2, .int v2), (3, .int v3)]) hx hb dX5_childOf_45 hl (k := 4) rfl rfl (by decide) rfl (fun ls hl => ?_)
          refine lv_goto (tgt := 5) hx hb dX5_childOf_48 (by decide) ?_
          exact ih5 _ _ _ hF hP hD hS _ (lv_sub hl [1, 2, 3, 4, 0] rfl)
        · have hF := F_pos c5 hF
          refine lv_aload_n hx hb dX5_childOf_30 rfl (lv_at hl 0 rfl) ?_
          refine lv_iload_n hx hb dX5_childOf_31 rfl (lv_at hl 1 rfl) ?_
          refine lv_iload hx hb dX5_childOf_32 (lv_at hl 4 rfl) ?_
          refine lv_iconst (v := (2 : Int32)) hx hb dX5_childOf_34 (by decide) ?_
          obtain ⟨r6, h7, hF⟩ := ob1_some hF
          have hPc : va_P (dC, dI) vwCl ((W_Model cI a S)) H := hP
          have hDc : va_D A ((W_Model cI a S)) := hD
          have hFc := jFreeW (ws := (W_Model cI a S)) hD hS hA
          refine va_calli (va_runV (As := [.int v1, .int x4, .int (2 : Int32)]) (rest := []) ⟨hx, hb, hml, hown, hts⟩ (c_X5_of l dC dI cI a H.size _ _ _ _ _ h7) (cwV 3 hts gX5_childOf_X5_of rfl rfl rfl (by decide +kernel) ⟨Nat.le_of_ble_eq_true rfl, Nat.le_of_ble_eq_true rfl⟩) (jPreV hK hPc hDc hN (ci := 5) rfl rfl) rfl rfl hl.1 rfl (lv_room (Nat.le_of_ble_eq_true rfl)) dX5_childOf_35 ⟨Nat.le_of_ble_eq_true rfl, Nat.le_of_ble_eq_true rfl⟩) hS (fun q _ h => hFc q h) hFc (fun r' u' t H locs ht hvm hw hB hz1 hk1 hS => ?_)
          subst hw
          obtain ⟨hP1, -, hD1⟩ := hB
          rw [ht] at hP1
          have hP : va_P (dC, dI) vwCl ((W_Model cI a S)) H := hP1
          have hD : va_D A ((W_Model cI a S)) := hD1.weaken (fun _ _ _ h => hFc _ h)
          refine lv_iload_n hx hb dX5_childOf_38 rfl (lv_at hl 3 rfl) ?_
          refine lv_icmp_ne (tgt := 45) hx hb dX5_childOf_39 (by decide) (fun c8 => ?_) (fun c8 => ?_)
          · have hF := F_neg c8 hF
            refine lv_iinc (v := (x4 + (1 : Int32))) (lv' := [(4, .int (x4 + (1 : Int32))), (0, .ref (a 0)), (1, .int v1), (2, .int v2), (3, .int v3)]) hx hb dX5_childOf_45 hl (k := 4) rfl rfl (by decide) rfl (fun ls hl => ?_)
            refine lv_goto (tgt := 5) hx hb dX5_childOf_48 (by decide) ?_
            exact ih5 _ _ _ hF hP hD hS _ (lv_sub hl [1, 2, 3, 4, 0] rfl)
          · have hF := F_pos c8 hF
            refine lv_iload hx hb dX5_childOf_42 (lv_at hl 4 rfl) ?_
            have e50 := Option.some.inj hF
            subst e50
            exact W.iret (v := x4) hx hb hr (fun t ht hW => ⟨⟨x4, (), rfl, rfl, by rw [ht]; exact hP, va_K.moved hW.alike hK, hD⟩, hS.F ht⟩) hS.2.2 dX5_childOf_44
  have KE : ∀ (H : Heap) (locs : List Loc), va_P (dC, dI) vwCl ((W_Model cI a S)) H → va_D A ((W_Model cI a S)) → va_S A s.heap H locs → W p l e (headSpec wsX5_childOf ({ frames := 1, cells := 0, slots := 0, locals := 23 } : Room)).room s m ([.ref (a 0), .int v1, .int v2, .int v3] : List Value).toArray below meth c H locs 0 0 (MQ below (va_Qi (fun (r' : Int32) (_ : Unit) => rr = r') (fun _ : Unit => jB (dC, dI) [(cI, .int)] A ((W_Model cI a S))) A) ([.ref (a 0), .int v1, .int v2, .int v3] : List Value).toArray s 0 0 A) (F0 m 0 ls []) := by
    intro H locs hP hD hS
    unfold F_X5_childOf at hF
    refine lv_iload_n hx hb dX5_childOf_0 rfl (lv_at hl 2 rfl) ?_
    refine lv_iconst (v := (1 : Int32)) hx hb dX5_childOf_1 (by decide) ?_
    refine lv_iadd hx hb dX5_childOf_2 ?_
    refine lv_istore (lv' := [(4, .int (v2 + (1 : Int32))), (0, .ref (a 0)), (1, .int v1), (2, .int v2), (3, .int v3)]) hx hb dX5_childOf_3 hl (by decide) rfl (fun ls hl => ?_)
    exact K5 _ _ _ _ hF hP hD hS _ (lv_sub hl [1, 2, 3, 4, 0] rfl)
  exact KE _ _ hP hD hS
set_option maxHeartbeats 4000000 in
set_option maxRecDepth 100000 in
theorem c_X5_children (l : Launch) (dC : Nat → ClassId) (dI : Nat → Nat → Nat) (cI : ClassId) (a : Nat → Nat) (sz : Nat) (S : S_Model) (v1 : Int32) (v2 : Int32) (rr : Int32) (hF : F_X5_children S v1 v2 = some rr) : Met l yX5_children wsX5_children ({ frames := 1, cells := 0, slots := 0, locals := 23 } : Room) (va_Pc [.ref (a 0), .int v1, .int v2] (jPre (dC, dI) [(cI, .int)] sz ((W_Model cI a S)))) (va_Qi (fun (r' : Int32) (_ : Unit) => rr = r') (fun _ : Unit => jB (dC, dI) [(cI, .int)] (va_A ((W_Model cI a S)) sz) ((W_Model cI a S))) (va_A ((W_Model cI a S)) sz)) 0 0 (va_A ((W_Model cI a S)) sz) := by
  refine Met.ofW (cc := cX5_children) (maxL := 5) (ret := (some .int)) (by decide) rfl ?_
  intro p e s m args below meth c s₁ B hml hv
  obtain ⟨rfl, hsz, hP, hK, hD0, hN⟩ := hv
  have hx := B.exec
  have hb := B.bytes
  have hr := B.returns
  have hts := atoms_spec (ws := wsX5_children) B.pre
  have hown : s.vm.findClass RX5 = some m.cls := findClass_of_methodNamed B.named
  have hlocks := B.notSynchronized
  have hinX5 : ∀ w ∈ u_ws RX5 TX5 26, w ∈ wsX5_children := by decide +kernel
  subst hsz
  have hD := hD0.self (sz := s.heap.size)
  generalize hAe : (va_A ((W_Model cI a S)) s.heap.size) = A at hD ⊢
  have hA : ∀ q : Nat, s.heap.size ≤ q → A q := fun q h => by rw [← hAe]; exact Or.inr h
  have hS : va_S A s.heap s.heap [] := va_S.rf
  have hl := lv_entry ([.ref (a 0), .int v1, .int v2]) (n := 5) (Nat.le_of_ble_eq_true rfl)
  rw [lg_entry_eq]
  generalize (lg_sl ([.ref (a 0), .int v1, .int v2]) ++ List.replicate (5 - (lg_sl ([.ref (a 0), .int v1, .int v2])).length) Slot.unset).toArray = ls at hl ⊢
  have hl : lv_has ls 5 [(0, .ref (a 0)), (1, .int v1), (2, .int v2)] := hl
  have K7 : ∀ (n7 : Nat) (x3 : Int32) (x4 : Int32) (H : Heap) (locs : List Loc), F_X5_children_7 v1 v2 S n7 x3 x4 = some rr → va_P (dC, dI) vwCl ((W_Model cI a S)) H → va_D A ((W_Model cI a S)) → va_S A s.heap H locs → ∀ ls : Array Slot, lv_has ls 5 [(0, .ref (a 0)), (1, .int v1), (2, .int v2), (3, .int x3), (4, .int x4)] → W p l e (headSpec wsX5_children ({ frames := 1, cells := 0, slots := 0, locals := 23 } : Room)).room s m ([.ref (a 0), .int v1, .int v2] : List Value).toArray below meth c H locs 0 0 (MQ below (va_Qi (fun (r' : Int32) (_ : Unit) => rr = r') (fun _ : Unit => jB (dC, dI) [(cI, .int)] A ((W_Model cI a S))) A) ([.ref (a 0), .int v1, .int v2] : List Value).toArray s 0 0 A) (F0 m 7 ls []) := by
    intro n7
    induction n7 with
    | zero => intro x3 x4 H locs hF; exact nomatch hF
    | succ n7 ih7 =>
      intro x3 x4 H locs hF hP hD hS ls hl
      rw [F_X5_children_7_s] at hF
      refine lv_iload hx hb dX5_children_7 (lv_at hl 4 rfl) ?_
      refine lv_aload_n hx hb dX5_children_9 rfl (lv_at hl 0 rfl) ?_
      refine wg_now (v := .ref (a 1)) hx hb hts hinX5 hown hK hP rfl (hts (Cond.fieldLink RX5 7 "LearnedShapesModel" "now" "[I") (List.mem_of_getElem? (i := 1) rfl)) dX5_children_10 ?_
      refine lv_iconst (v := (3 : Int32)) hx hb dX5_children_13 (by decide) ?_
      refine lv_iload_n hx hb dX5_children_14 rfl (lv_at hl 1 rfl) ?_
      refine lv_iadd hx hb dX5_children_15 ?_
      obtain ⟨g1, hF⟩ := og_some hF
      refine wl_now (f := (g_Model_now S)) hx hb hK hP rfl (inb_in g1) dX5_children_16 ?_
      refine lv_icmp_ge (tgt := 46) hx hb dX5_children_17 (by decide) (fun c2 => ?_) (fun c2 => ?_)
      · have hF := F_pos c2 hF
        refine lv_iload_n hx hb dX5_children_46 rfl (lv_at hl 3 rfl) ?_
        have e50 := Option.some.inj hF
        subst e50
        exact W.iret (v := x3) hx hb hr (fun t ht hW => ⟨⟨x3, (), rfl, rfl, by rw [ht]; exact hP, va_K.moved hW.alike hK, hD⟩, hS.F ht⟩) hS.2.2 dX5_children_47
      · have hF := F_neg c2 hF
        refine lv_iload_n hx hb dX5_children_20 rfl (lv_at hl 3 rfl) ?_
        refine lv_aload_n hx hb dX5_children_21 rfl (lv_at hl 0 rfl) ?_
        refine lv_iload_n hx hb dX5_children_22 rfl (lv_at hl 1 rfl) ?_
        refine lv_iload hx hb dX5_children_23 (lv_at hl 4 rfl) ?_
        refine lv_iconst (v := (1 : Int32)) hx hb dX5_children_25 (by decide) ?_
        obtain ⟨r3, h4, hF⟩ := ob1_some hF
        have hPc : va_P (dC, dI) vwCl ((W_Model cI a S)) H := hP
        have hDc : va_D A ((W_Model cI a S)) := hD
        have hFc := jFreeW (ws := (W_Model cI a S)) hD hS hA
        refine va_calli (va_runV (As := [.int v1, .int x4, .int (1 : Int32)]) (rest := [.int x3]) ⟨hx, hb, hml, hown, hts⟩ (c_X5_of l dC dI cI a H.size _ _ _ _ _ h4) (cwV 3 hts gX5_children_X5_of rfl rfl rfl (by decide +kernel) ⟨Nat.le_of_ble_eq_true rfl, Nat.le_of_ble_eq_true rfl⟩) (jPreV hK hPc hDc hN (ci := 5) rfl rfl) rfl rfl hl.1 rfl (lv_room (Nat.le_of_ble_eq_true rfl)) dX5_children_26 ⟨Nat.le_of_ble_eq_true rfl, Nat.le_of_ble_eq_true rfl⟩) hS (fun q _ h => hFc q h) hFc (fun r' u' t H locs ht hvm hw hB hz1 hk1 hS => ?_)
        subst hw
        obtain ⟨hP1, -, hD1⟩ := hB
        rw [ht] at hP1
        have hP : va_P (dC, dI) vwCl ((W_Model cI a S)) H := hP1
        have hD : va_D A ((W_Model cI a S)) := hD1.weaken (fun _ _ _ h => hFc _ h)
        refine lv_iload_n hx hb dX5_children_29 rfl (lv_at hl 2 rfl) ?_
        refine lv_icmp_ne (tgt := 37) hx hb dX5_children_30 (by decide) (fun c5 => ?_) (fun c5 => ?_)
        · have hF := F_neg c5 hF
          refine lv_iconst (v := (0 : Int32)) hx hb dX5_children_37 (by decide) ?_
          refine lv_iadd hx hb dX5_children_38 ?_
          refine lv_istore_n (lv' := [(3, .int (x3 + (0 : Int32))), (0, .ref (a 0)), (1, .int v1), (2, .int v2), (4, .int x4)]) hx hb dX5_children_39 rfl hl (by decide) rfl (fun ls hl => ?_)
          refine lv_iinc (v := (x4 + (1 : Int32))) (lv' := [(4, .int (x4 + (1 : Int32))), (3, .int (x3 + (0 : Int32))), (0, .ref (a 0)), (1, .int v1), (2, .int v2)]) hx hb dX5_children_40 hl (k := 4) rfl rfl (by decide) rfl (fun ls hl => ?_)
          refine lv_goto (tgt := 7) hx hb dX5_children_43 (by decide) ?_
          exact ih7 _ _ _ _ hF hP hD hS _ (lv_sub hl [2, 3, 4, 1, 0] rfl)
        · have hF := F_pos c5 hF
          refine lv_iconst (v := (1 : Int32)) hx hb dX5_children_33 (by decide) ?_
          refine lv_goto (tgt := 38) hx hb dX5_children_34 (by decide) ?_
          refine lv_iadd hx hb dX5_children_38 ?_
          refine lv_istore_n (lv' := [(3, .int (x3 + (1 : Int32))), (0, .ref (a 0)), (1, .int v1), (2, .int v2), (4, .int x4)]) hx hb dX5_children_39 rfl hl (by decide) rfl (fun ls hl => ?_)
          refine lv_iinc (v := (x4 + (1 : Int32))) (lv' := [(4, .int (x4 + (1 : Int32))), (3, .int (x3 + (1 : Int32))), (0, .ref (a 0)), (1, .int v1), (2, .int v2)]) hx hb dX5_children_40 hl (k := 4) rfl rfl (by decide) rfl (fun ls hl => ?_)
          refine lv_goto (tgt := 7) hx hb dX5_children_43 (by decide) ?_
          exact ih7 _ _ _ _ hF hP hD hS _ (lv_sub hl [2, 3, 4, 1, 0] rfl)
  have KE : ∀ (H : Heap) (locs : List Loc), va_P (dC, dI) vwCl ((W_Model cI a S)) H → va_D A ((W_Model cI a S)) → va_S A s.heap H locs → W p l e (headSpec wsX5_children ({ frames := 1, cells := 0, slots := 0, locals := 23 } : Room)).room s m ([.ref (a 0), .int v1, .int v2] : List Value).toArray below meth c H locs 0 0 (MQ below (va_Qi (fun (r' : Int32) (_ : Unit) => rr = r') (fun _ : Unit => jB (dC, dI) [(cI, .int)] A ((W_Model cI a S))) A) ([.ref (a 0), .int v1, .int v2] : List Value).toArray s 0 0 A) (F0 m 0 ls []) := by
    intro H locs hP hD hS
    unfold F_X5_children at hF
    refine lv_iconst (v := (0 : Int32)) hx hb dX5_children_0 (by decide) ?_
    refine lv_istore_n (lv' := [(3, .int (0 : Int32)), (0, .ref (a 0)), (1, .int v1), (2, .int v2)]) hx hb dX5_children_1 rfl hl (by decide) rfl (fun ls hl => ?_)
    refine lv_iload_n hx hb dX5_children_2 rfl (lv_at hl 3 rfl) ?_
    refine lv_iconst (v := (1 : Int32)) hx hb dX5_children_3 (by decide) ?_
    refine lv_iadd hx hb dX5_children_4 ?_
    refine lv_istore (lv' := [(4, .int (v2 + (1 : Int32))), (3, .int (0 : Int32)), (0, .ref (a 0)), (1, .int v1), (2, .int v2)]) hx hb dX5_children_5 hl (by decide) rfl (fun ls hl => ?_)
    exact K7 _ _ _ _ _ hF hP hD hS _ (lv_sub hl [2, 3, 4, 1, 0] rfl)
  exact KE _ _ hP hD hS
