set_option maxHeartbeats 4000000 in
set_option maxRecDepth 100000 in
theorem c_X3_has (l : Launch) (dC : Nat → ClassId) (dI : Nat → Nat → Nat) (cI : ClassId) (a : Nat → Nat) (sz : Nat) (S : S_Tree) (v1 : Int32) (rr : Bool) (hF : F_X3_has S v1 = some rr) : Met l yX3_has wsX3_has ({ frames := 0, cells := 0, slots := 0, locals := 0 } : Room) (va_Pc [.ref (a 0), .int v1] (jPre (dC, dI) [(cI, .int)] sz ((W_Tree cI a S)))) (va_Qi (fun (r' : Int32) (_ : Unit) => b2i rr = r') (fun _ : Unit => jB (dC, dI) [(cI, .int)] (va_A ((W_Tree cI a S)) sz) ((W_Tree cI a S))) (va_A ((W_Tree cI a S)) sz)) 0 0 (va_A ((W_Tree cI a S)) sz) := by
  refine Met.ofW (cc := cX3_has) (maxL := 2) (ret := (some .boolean)) (by decide) rfl ?_
  intro p e s m args below meth c s₁ B hml hv
  obtain ⟨rfl, hsz, hP, hK, hD0, hN⟩ := hv
  have hx := B.exec
  have hb := B.bytes
  have hr := B.returns
  have hts := atoms_spec (ws := wsX3_has) B.pre
  have hown : s.vm.findClass RX3 = some m.cls := findClass_of_methodNamed B.named
  have hlocks := B.notSynchronized
  have hinX3 : ∀ w ∈ u_ws RX3 TX3 3, w ∈ wsX3_has := by decide +kernel
  subst hsz
  have hD := hD0.self (sz := s.heap.size)
  generalize hAe : (va_A ((W_Tree cI a S)) s.heap.size) = A at hD ⊢
  have hA : ∀ q : Nat, s.heap.size ≤ q → A q := fun q h => by rw [← hAe]; exact Or.inr h
  have hS : va_S A s.heap s.heap [] := va_S.rf
  have hl := lv_entry ([.ref (a 0), .int v1]) (n := 2) (Nat.le_of_ble_eq_true rfl)
  rw [lg_entry_eq]
  generalize (lg_sl ([.ref (a 0), .int v1]) ++ List.replicate (2 - (lg_sl ([.ref (a 0), .int v1])).length) Slot.unset).toArray = ls at hl ⊢
  have hl : lv_has ls 2 [(0, .ref (a 0)), (1, .int v1)] := hl
  have KE : ∀ (H : Heap) (locs : List Loc), va_P (dC, dI) vwCl ((W_Tree cI a S)) H → va_D A ((W_Tree cI a S)) → va_S A s.heap H locs → W p l e (headSpec wsX3_has ({ frames := 0, cells := 0, slots := 0, locals := 0 } : Room)).room s m ([.ref (a 0), .int v1] : List Value).toArray below meth c H locs 0 0 (MQ below (va_Qi (fun (r' : Int32) (_ : Unit) => b2i rr = r') (fun _ : Unit => jB (dC, dI) [(cI, .int)] A ((W_Tree cI a S))) A) ([.ref (a 0), .int v1] : List Value).toArray s 0 0 A) (F0 m 0 ls []) := by
    intro H locs hP hD hS
    unfold F_X3_has at hF
    refine lv_iload_n hx hb dX3_has_0 rfl (lv_at hl 1 rfl) ?_
    refine lv_if_lt (tgt := 16) hx hb dX3_has_1 (by decide) (fun c1 => ?_) (fun c1 => ?_)
    · have hF := F_pos c1 hF
      refine lv_iconst (v := (0 : Int32)) hx hb dX3_has_16 (by decide) ?_
      have e50 := Option.some.inj hF
      subst e50
      exact W.zret (v := (0 : Int32)) hx hb hr (rfl) (fun t ht hW => ⟨⟨(0 : Int32), (), rfl, rfl, by rw [ht]; exact hP, va_K.moved hW.alike hK, hD⟩, hS.F ht⟩) hS.2.2 dX3_has_17
    · have hF := F_neg c1 hF
      refine lv_iload_n hx hb dX3_has_4 rfl (lv_at hl 1 rfl) ?_
      refine lv_aload_n hx hb dX3_has_5 rfl (lv_at hl 0 rfl) ?_
      refine va_get (D := (dC, dI)) (ci := 3) (v := .int (g_Tree_size S)) (C := RX3) (T := TX3) (N := 3) hx hb hts hinX3 hown hK hP 0 rfl rfl 1 (by decide) (hts (Cond.fieldLink RX3 15 "LearnedShapes$Tree" "size" "I") (List.mem_of_getElem? (i := 1) rfl)) (fun _ h9 => h9) rfl dX3_has_6 ?_
      refine lv_icmp_ge (tgt := 16) hx hb dX3_has_9 (by decide) (fun c2 => ?_) (fun c2 => ?_)
      · have hF := F_pos c2 hF
        refine lv_iconst (v := (0 : Int32)) hx hb dX3_has_16 (by decide) ?_
        have e50 := Option.some.inj hF
        subst e50
        exact W.zret (v := (0 : Int32)) hx hb hr (rfl) (fun t ht hW => ⟨⟨(0 : Int32), (), rfl, rfl, by rw [ht]; exact hP, va_K.moved hW.alike hK, hD⟩, hS.F ht⟩) hS.2.2 dX3_has_17
      · have hF := F_neg c2 hF
        refine lv_iconst (v := (1 : Int32)) hx hb dX3_has_12 (by decide) ?_
        refine lv_goto (tgt := 17) hx hb dX3_has_13 (by decide) ?_
        have e50 := Option.some.inj hF
        subst e50
        exact W.zret (v := (1 : Int32)) hx hb hr (rfl) (fun t ht hW => ⟨⟨(1 : Int32), (), rfl, rfl, by rw [ht]; exact hP, va_K.moved hW.alike hK, hD⟩, hS.F ht⟩) hS.2.2 dX3_has_17
  exact KE _ _ hP hD hS
set_option maxHeartbeats 4000000 in
set_option maxRecDepth 100000 in
theorem c_X3_get (l : Launch) (dC : Nat → ClassId) (dI : Nat → Nat → Nat) (cI : ClassId) (a : Nat → Nat) (sz : Nat) (S : S_Tree) (v1 : Int32) (v2 : Int32) (rr : Int32) (hF : F_X3_get S v1 v2 = some rr) : Met l yX3_get wsX3_get ({ frames := 0, cells := 0, slots := 0, locals := 0 } : Room) (va_Pc [.ref (a 0), .int v1, .int v2] (jPre (dC, dI) [(cI, .int)] sz ((W_Tree cI a S)))) (va_Qi (fun (r' : Int32) (_ : Unit) => rr = r') (fun _ : Unit => jB (dC, dI) [(cI, .int)] (va_A ((W_Tree cI a S)) sz) ((W_Tree cI a S))) (va_A ((W_Tree cI a S)) sz)) 0 0 (va_A ((W_Tree cI a S)) sz) := by
  refine Met.ofW (cc := cX3_get) (maxL := 5) (ret := (some .int)) (by decide) rfl ?_
  intro p e s m args below meth c s₁ B hml hv
  obtain ⟨rfl, hsz, hP, hK, hD0, hN⟩ := hv
  have hx := B.exec
  have hb := B.bytes
  have hr := B.returns
  have hts := atoms_spec (ws := wsX3_get) B.pre
  have hown : s.vm.findClass RX3 = some m.cls := findClass_of_methodNamed B.named
  have hlocks := B.notSynchronized
  have hinX3 : ∀ w ∈ u_ws RX3 TX3 3, w ∈ wsX3_get := by decide +kernel
  subst hsz
  have hD := hD0.self (sz := s.heap.size)
  generalize hAe : (va_A ((W_Tree cI a S)) s.heap.size) = A at hD ⊢
  have hA : ∀ q : Nat, s.heap.size ≤ q → A q := fun q h => by rw [← hAe]; exact Or.inr h
  have hS : va_S A s.heap s.heap [] := va_S.rf
  have hl := lv_entry ([.ref (a 0), .int v1, .int v2]) (n := 5) (Nat.le_of_ble_eq_true rfl)
  rw [lg_entry_eq]
  generalize (lg_sl ([.ref (a 0), .int v1, .int v2]) ++ List.replicate (5 - (lg_sl ([.ref (a 0), .int v1, .int v2])).length) Slot.unset).toArray = ls at hl ⊢
  have hl : lv_has ls 5 [(0, .ref (a 0)), (1, .int v1), (2, .int v2)] := hl
  have KE : ∀ (H : Heap) (locs : List Loc), va_P (dC, dI) vwCl ((W_Tree cI a S)) H → va_D A ((W_Tree cI a S)) → va_S A s.heap H locs → W p l e (headSpec wsX3_get ({ frames := 0, cells := 0, slots := 0, locals := 0 } : Room)).room s m ([.ref (a 0), .int v1, .int v2] : List Value).toArray below meth c H locs 0 0 (MQ below (va_Qi (fun (r' : Int32) (_ : Unit) => rr = r') (fun _ : Unit => jB (dC, dI) [(cI, .int)] A ((W_Tree cI a S))) A) ([.ref (a 0), .int v1, .int v2] : List Value).toArray s 0 0 A) (F0 m 0 ls []) := by
    intro H locs hP hD hS
    unfold F_X3_get at hF
    refine lv_iload_n hx hb dX3_get_0 rfl (lv_at hl 1 rfl) ?_
    refine lv_bipush (v := (9 : Int32)) hx hb dX3_get_1 (by decide) ?_
    refine lv_imul hx hb dX3_get_3 ?_
    refine lv_iload_n hx hb dX3_get_4 rfl (lv_at hl 2 rfl) ?_
    refine lv_iadd hx hb dX3_get_5 ?_
    refine lv_istore_n (lv' := [(3, .int ((v1 * (9 : Int32)) + v2)), (0, .ref (a 0)), (1, .int v1), (2, .int v2)]) hx hb dX3_get_6 rfl hl (by decide) rfl (fun ls hl => ?_)
    refine lv_iload_n hx hb dX3_get_7 rfl (lv_at hl 2 rfl) ?_
    refine lv_if_lt (tgt := 36) hx hb dX3_get_8 (by decide) (fun c1 => ?_) (fun c1 => ?_)
    · have hF := F_pos c1 hF
      refine lv_iconst (v := (0 : Int32)) hx hb dX3_get_36 (by decide) ?_
      refine lv_istore (lv' := [(4, .int (0 : Int32)), (3, .int ((v1 * (9 : Int32)) + v2)), (0, .ref (a 0)), (1, .int v1), (2, .int v2)]) hx hb dX3_get_37 hl (by decide) rfl (fun ls hl => ?_)
      refine lv_iload hx hb dX3_get_39 (lv_at hl 0 rfl) ?_
      refine lv_if_eq (tgt := 53) hx hb dX3_get_41 (by decide) (fun _ => ?_) (fun c => absurd c (by decide))
      refine lv_iconst (v := (0 : Int32)) hx hb dX3_get_53 (by decide) ?_
      have e50 := Option.some.inj hF
      subst e50
      exact W.iret (v := (0 : Int32)) hx hb hr (fun t ht hW => ⟨⟨(0 : Int32), (), rfl, rfl, by rw [ht]; exact hP, va_K.moved hW.alike hK, hD⟩, hS.F ht⟩) hS.2.2 dX3_get_54
    · have hF := F_neg c1 hF
      refine lv_iload_n hx hb dX3_get_11 rfl (lv_at hl 2 rfl) ?_
      refine lv_aload_n hx hb dX3_get_12 rfl (lv_at hl 1 rfl) ?_
      refine va_get (D := (dC, dI)) (ci := 3) (v := .int (g_Tree_size S)) (C := RX3) (T := TX3) (N := 3) hx hb hts hinX3 hown hK hP 0 rfl rfl 1 (by decide) (hts (Cond.fieldLink RX3 15 "LearnedShapes$Tree" "size" "I") (List.mem_of_getElem? (i := 1) rfl)) (fun _ h9 => h9) rfl dX3_get_13 ?_
      refine lv_icmp_ge (tgt := 36) hx hb dX3_get_16 (by decide) (fun c2 => ?_) (fun c2 => ?_)
      · have hF := F_pos c2 hF
        refine lv_iconst (v := (0 : Int32)) hx hb dX3_get_36 (by decide) ?_
        refine lv_istore (lv' := [(4, .int (0 : Int32)), (3, .int ((v1 * (9 : Int32)) + v2)), (0, .ref (a 0)), (1, .int v1), (2, .int v2)]) hx hb dX3_get_37 hl (by decide) rfl (fun ls hl => ?_)
        refine lv_iload hx hb dX3_get_39 (lv_at hl 0 rfl) ?_
        refine lv_if_eq (tgt := 53) hx hb dX3_get_41 (by decide) (fun _ => ?_) (fun c => absurd c (by decide))
        refine lv_iconst (v := (0 : Int32)) hx hb dX3_get_53 (by decide) ?_
        have e50 := Option.some.inj hF
        subst e50
        exact W.iret (v := (0 : Int32)) hx hb hr (fun t ht hW => ⟨⟨(0 : Int32), (), rfl, rfl, by rw [ht]; exact hP, va_K.moved hW.alike hK, hD⟩, hS.F ht⟩) hS.2.2 dX3_get_54
      · have hF := F_neg c2 hF
        refine lv_iload_n hx hb dX3_get_19 rfl (lv_at hl 0 rfl) ?_
        refine lv_if_lt (tgt := 36) hx hb dX3_get_20 (by decide) (fun c3 => ?_) (fun c3 => ?_)
        · have hF := F_pos c3 hF
          refine lv_iconst (v := (0 : Int32)) hx hb dX3_get_36 (by decide) ?_
          refine lv_istore (lv' := [(4, .int (0 : Int32)), (3, .int ((v1 * (9 : Int32)) + v2)), (0, .ref (a 0)), (1, .int v1), (2, .int v2)]) hx hb dX3_get_37 hl (by decide) rfl (fun ls hl => ?_)
          refine lv_iload hx hb dX3_get_39 (lv_at hl 0 rfl) ?_
          refine lv_if_eq (tgt := 53) hx hb dX3_get_41 (by decide) (fun _ => ?_) (fun c => absurd c (by decide))
          refine lv_iconst (v := (0 : Int32)) hx hb dX3_get_53 (by decide) ?_
          have e50 := Option.some.inj hF
          subst e50
          exact W.iret (v := (0 : Int32)) hx hb hr (fun t ht hW => ⟨⟨(0 : Int32), (), rfl, rfl, by rw [ht]; exact hP, va_K.moved hW.alike hK, hD⟩, hS.F ht⟩) hS.2.2 dX3_get_54
        · have hF := F_neg c3 hF
          refine lv_iload_n hx hb dX3_get_23 rfl (lv_at hl 0 rfl) ?_
          refine lv_aload_n hx hb dX3_get_24 rfl (lv_at hl 1 rfl) ?_
          refine va_get (D := (dC, dI)) (ci := 3) (v := .ref (a 1)) (C := RX3) (T := TX3) (N := 3) hx hb hts hinX3 hown hK hP 0 rfl rfl 0 (by decide) (hts (Cond.fieldLink RX3 11 "LearnedShapes$Tree" "cells" "[I") (List.mem_of_getElem? (i := 2) rfl)) (fun _ h9 => h9) rfl dX3_get_25 ?_
          refine va_alen (v := (576 : Int32)) hx hb hK hP 1 0 rfl rfl rfl dX3_get_28 ?_
          refine lv_icmp_ge (tgt := 36) hx hb dX3_get_29 (by decide) (fun c4 => ?_) (fun c4 => ?_)
          · have hF := F_pos c4 hF
            refine lv_iconst (v := (0 : Int32)) hx hb dX3_get_36 (by decide) ?_
            refine lv_istore (lv' := [(4, .int (0 : Int32)), (3, .int ((v1 * (9 : Int32)) + v2)), (0, .ref (a 0)), (1, .int v1), (2, .int v2)]) hx hb dX3_get_37 hl (by decide) rfl (fun ls hl => ?_)
            refine lv_iload hx hb dX3_get_39 (lv_at hl 0 rfl) ?_
            refine lv_if_eq (tgt := 53) hx hb dX3_get_41 (by decide) (fun _ => ?_) (fun c => absurd c (by decide))
            refine lv_iconst (v := (0 : Int32)) hx hb dX3_get_53 (by decide) ?_
            have e50 := Option.some.inj hF
            subst e50
            exact W.iret (v := (0 : Int32)) hx hb hr (fun t ht hW => ⟨⟨(0 : Int32), (), rfl, rfl, by rw [ht]; exact hP, va_K.moved hW.alike hK, hD⟩, hS.F ht⟩) hS.2.2 dX3_get_54
          · have hF := F_neg c4 hF
            refine lv_iconst (v := (1 : Int32)) hx hb dX3_get_32 (by decide) ?_
            refine lv_goto (tgt := 37) hx hb dX3_get_33 (by decide) ?_
            refine lv_istore (lv' := [(4, .int (1 : Int32)), (3, .int ((v1 * (9 : Int32)) + v2)), (0, .ref (a 0)), (1, .int v1), (2, .int v2)]) hx hb dX3_get_37 hl (by decide) rfl (fun ls hl => ?_)
            refine lv_iload hx hb dX3_get_39 (lv_at hl 0 rfl) ?_
            refine lv_if_eq (tgt := 53) hx hb dX3_get_41 (by decide) (fun c => absurd c (by decide)) (fun _ => ?_)
            refine lv_aload_n hx hb dX3_get_44 rfl (lv_at hl 2 rfl) ?_
            refine va_get (D := (dC, dI)) (ci := 3) (v := .ref (a 1)) (C := RX3) (T := TX3) (N := 3) hx hb hts hinX3 hown hK hP 0 rfl rfl 0 (by decide) (hts (Cond.fieldLink RX3 11 "LearnedShapes$Tree" "cells" "[I") (List.mem_of_getElem? (i := 2) rfl)) (fun _ h9 => h9) rfl dX3_get_45 ?_
            refine lv_iload_n hx hb dX3_get_48 rfl (lv_at hl 1 rfl) ?_
            obtain ⟨g5, hF⟩ := og_some hF
            refine va_iald (f := (g_Tree_cells S)) hx hb hK hP 1 0 rfl rfl (inb_in g5) dX3_get_49 ?_
            refine lv_goto (tgt := 54) hx hb dX3_get_50 (by decide) ?_
            have e50 := Option.some.inj hF
            subst e50
            exact W.iret (v := ((g_Tree_cells S) ((v1 * (9 : Int32)) + v2).toNatClampNeg)) hx hb hr (fun t ht hW => ⟨⟨((g_Tree_cells S) ((v1 * (9 : Int32)) + v2).toNatClampNeg), (), rfl, rfl, by rw [ht]; exact hP, va_K.moved hW.alike hK, hD⟩, hS.F ht⟩) hS.2.2 dX3_get_54
  exact KE _ _ hP hD hS
set_option maxHeartbeats 4000000 in
set_option maxRecDepth 100000 in
theorem c_X3_put (l : Launch) (dC : Nat → ClassId) (dI : Nat → Nat → Nat) (cI : ClassId) (a : Nat → Nat) (sz : Nat) (S : S_Tree) (v1 : Int32) (v2 : Int32) (v3 : Int32) (Y : S_Tree) (hF : F_X3_put S v1 v2 v3 = some Y) : Met l yX3_put wsX3_put ({ frames := 0, cells := 0, slots := 0, locals := 0 } : Room) (va_Pc [.ref (a 0), .int v1, .int v2, .int v3] (jPre (dC, dI) [(cI, .int)] sz ((W_Tree cI a S)))) (va_Qv (fun u : S_Tree => Y = u) (fun u : S_Tree => jB (dC, dI) [(cI, .int)] (va_A ((W_Tree cI a S)) sz) ((W_Tree cI a u))) (va_A ((W_Tree cI a S)) sz)) 0 0 (va_A ((W_Tree cI a S)) sz) := by
  refine Met.ofW (cc := cX3_put) (maxL := 5) (ret := none) (by decide) rfl ?_
  intro p e s m args below meth c s₁ B hml hv
  obtain ⟨rfl, hsz, hP, hK, hD0, hN⟩ := hv
  have hx := B.exec
  have hb := B.bytes
  have hr := B.returns
  have hts := atoms_spec (ws := wsX3_put) B.pre
  have hown : s.vm.findClass RX3 = some m.cls := findClass_of_methodNamed B.named
  have hlocks := B.notSynchronized
  have hinX3 : ∀ w ∈ u_ws RX3 TX3 3, w ∈ wsX3_put := by decide +kernel
  subst hsz
  have hD := hD0.self (sz := s.heap.size)
  generalize hAe : (va_A ((W_Tree cI a S)) s.heap.size) = A at hD ⊢
  have hA : ∀ q : Nat, s.heap.size ≤ q → A q := fun q h => by rw [← hAe]; exact Or.inr h
  have hS : va_S A s.heap s.heap [] := va_S.rf
  have hl := lv_entry ([.ref (a 0), .int v1, .int v2, .int v3]) (n := 5) (Nat.le_of_ble_eq_true rfl)
  rw [lg_entry_eq]
  generalize (lg_sl ([.ref (a 0), .int v1, .int v2, .int v3]) ++ List.replicate (5 - (lg_sl ([.ref (a 0), .int v1, .int v2, .int v3])).length) Slot.unset).toArray = ls at hl ⊢
  have hl : lv_has ls 5 [(0, .ref (a 0)), (1, .int v1), (2, .int v2), (3, .int v3)] := hl
  have KE : ∀ (H : Heap) (locs : List Loc), va_P (dC, dI) vwCl ((W_Tree cI a S)) H → va_D A ((W_Tree cI a S)) → va_S A s.heap H locs → W p l e (headSpec wsX3_put ({ frames := 0, cells := 0, slots := 0, locals := 0 } : Room)).room s m ([.ref (a 0), .int v1, .int v2, .int v3] : List Value).toArray below meth c H locs 0 0 (MQ below (va_Qv (fun u : S_Tree => Y = u) (fun u : S_Tree => jB (dC, dI) [(cI, .int)] A ((W_Tree cI a u))) A) ([.ref (a 0), .int v1, .int v2, .int v3] : List Value).toArray s 0 0 A) (F0 m 0 ls []) := by
    intro H locs hP hD hS
    unfold F_X3_put at hF
    refine lv_iload_n hx hb dX3_put_0 rfl (lv_at hl 1 rfl) ?_
    refine lv_bipush (v := (9 : Int32)) hx hb dX3_put_1 (by decide) ?_
    refine lv_imul hx hb dX3_put_3 ?_
    refine lv_iload_n hx hb dX3_put_4 rfl (lv_at hl 2 rfl) ?_
    refine lv_iadd hx hb dX3_put_5 ?_
    refine lv_istore (lv' := [(4, .int ((v1 * (9 : Int32)) + v2)), (0, .ref (a 0)), (1, .int v1), (2, .int v2), (3, .int v3)]) hx hb dX3_put_6 hl (by decide) rfl (fun ls hl => ?_)
    refine lv_iload_n hx hb dX3_put_8 rfl (lv_at hl 2 rfl) ?_
    refine lv_if_lt (tgt := 43) hx hb dX3_put_9 (by decide) (fun c1 => ?_) (fun c1 => ?_)
    · have hF := F_pos c1 hF
      have e50 := Option.some.inj hF
      subst e50
      exact W.vret hx hb hr (fun t ht hW => ⟨⟨S, rfl, rfl, by rw [ht]; exact hP, va_K.moved hW.alike hK, hD⟩, hS.F ht⟩) hS.2.2 dX3_put_43
    · have hF := F_neg c1 hF
      refine lv_iload_n hx hb dX3_put_12 rfl (lv_at hl 2 rfl) ?_
      refine lv_aload_n hx hb dX3_put_13 rfl (lv_at hl 1 rfl) ?_
      refine va_get (D := (dC, dI)) (ci := 3) (v := .int (g_Tree_size S)) (C := RX3) (T := TX3) (N := 3) hx hb hts hinX3 hown hK hP 0 rfl rfl 1 (by decide) (hts (Cond.fieldLink RX3 15 "LearnedShapes$Tree" "size" "I") (List.mem_of_getElem? (i := 1) rfl)) (fun _ h9 => h9) rfl dX3_put_14 ?_
      refine lv_icmp_ge (tgt := 43) hx hb dX3_put_17 (by decide) (fun c2 => ?_) (fun c2 => ?_)
      · have hF := F_pos c2 hF
        have e50 := Option.some.inj hF
        subst e50
        exact W.vret hx hb hr (fun t ht hW => ⟨⟨S, rfl, rfl, by rw [ht]; exact hP, va_K.moved hW.alike hK, hD⟩, hS.F ht⟩) hS.2.2 dX3_put_43
      · have hF := F_neg c2 hF
        refine lv_iload hx hb dX3_put_20 (lv_at hl 0 rfl) ?_
        refine lv_if_lt (tgt := 43) hx hb dX3_put_22 (by decide) (fun c3 => ?_) (fun c3 => ?_)
        · have hF := F_pos c3 hF
          have e50 := Option.some.inj hF
          subst e50
          exact W.vret hx hb hr (fun t ht hW => ⟨⟨S, rfl, rfl, by rw [ht]; exact hP, va_K.moved hW.alike hK, hD⟩, hS.F ht⟩) hS.2.2 dX3_put_43
        · have hF := F_neg c3 hF
          refine lv_iload hx hb dX3_put_25 (lv_at hl 0 rfl) ?_
          refine lv_aload_n hx hb dX3_put_27 rfl (lv_at hl 1 rfl) ?_
          refine va_get (D := (dC, dI)) (ci := 3) (v := .ref (a 1)) (C := RX3) (T := TX3) (N := 3) hx hb hts hinX3 hown hK hP 0 rfl rfl 0 (by decide) (hts (Cond.fieldLink RX3 11 "LearnedShapes$Tree" "cells" "[I") (List.mem_of_getElem? (i := 2) rfl)) (fun _ h9 => h9) rfl dX3_put_28 ?_
          refine va_alen (v := (576 : Int32)) hx hb hK hP 1 0 rfl rfl rfl dX3_put_31 ?_
          refine lv_icmp_ge (tgt := 43) hx hb dX3_put_32 (by decide) (fun c4 => ?_) (fun c4 => ?_)
          · have hF := F_pos c4 hF
            have e50 := Option.some.inj hF
            subst e50
            exact W.vret hx hb hr (fun t ht hW => ⟨⟨S, rfl, rfl, by rw [ht]; exact hP, va_K.moved hW.alike hK, hD⟩, hS.F ht⟩) hS.2.2 dX3_put_43
          · have hF := F_neg c4 hF
            refine lv_aload_n hx hb dX3_put_35 rfl (lv_at hl 1 rfl) ?_
            refine va_get (D := (dC, dI)) (ci := 3) (v := .ref (a 1)) (C := RX3) (T := TX3) (N := 3) hx hb hts hinX3 hown hK hP 0 rfl rfl 0 (by decide) (hts (Cond.fieldLink RX3 11 "LearnedShapes$Tree" "cells" "[I") (List.mem_of_getElem? (i := 2) rfl)) (fun _ h9 => h9) rfl dX3_put_36 ?_
            refine lv_iload hx hb dX3_put_39 (lv_at hl 0 rfl) ?_
            refine lv_iload_n hx hb dX3_put_41 rfl (lv_at hl 4 rfl) ?_
            obtain ⟨g5, hF⟩ := og_some hF
            refine va_iast (f := (g_Tree_cells S)) hx hb hK hP hD hS 1 0 rfl rfl (inb_in g5) dX3_put_42 (fun H locs hP hD hS => ?_)
            have hP : va_P (dC, dI) vwCl ((W_Tree cI a (s_Tree_cells S (upd (g_Tree_cells S) ((v1 * (9 : Int32)) + v2).toNatClampNeg v3)))) H := hP
            have hD : va_D A ((W_Tree cI a (s_Tree_cells S (upd (g_Tree_cells S) ((v1 * (9 : Int32)) + v2).toNatClampNeg v3)))) := hD
            have e50 := Option.some.inj hF
            subst e50
            exact W.vret hx hb hr (fun t ht hW => ⟨⟨(s_Tree_cells S (upd (g_Tree_cells S) ((v1 * (9 : Int32)) + v2).toNatClampNeg v3)), rfl, rfl, by rw [ht]; exact hP, va_K.moved hW.alike hK, hD⟩, hS.F ht⟩) hS.2.2 dX3_put_43
  exact KE _ _ hP hD hS
set_option maxHeartbeats 4000000 in
set_option maxRecDepth 100000 in
theorem c_X3_clear (l : Launch) (dC : Nat → ClassId) (dI : Nat → Nat → Nat) (cI : ClassId) (a : Nat → Nat) (sz : Nat) (S : S_Tree)  (Y : S_Tree) (hF : F_X3_clear S  = some Y) : Met l yX3_clear wsX3_clear ({ frames := 0, cells := 0, slots := 0, locals := 0 } : Room) (va_Pc [.ref (a 0)] (jPre (dC, dI) [(cI, .int)] sz ((W_Tree cI a S)))) (va_Qv (fun u : S_Tree => Y = u) (fun u : S_Tree => jB (dC, dI) [(cI, .int)] (va_A ((W_Tree cI a S)) sz) ((W_Tree cI a u))) (va_A ((W_Tree cI a S)) sz)) 0 0 (va_A ((W_Tree cI a S)) sz) := by
  refine Met.ofW (cc := cX3_clear) (maxL := 1) (ret := none) (by decide) rfl ?_
  intro p e s m args below meth c s₁ B hml hv
  obtain ⟨rfl, hsz, hP, hK, hD0, hN⟩ := hv
  have hx := B.exec
  have hb := B.bytes
  have hr := B.returns
  have hts := atoms_spec (ws := wsX3_clear) B.pre
  have hown : s.vm.findClass RX3 = some m.cls := findClass_of_methodNamed B.named
  have hlocks := B.notSynchronized
  have hinX3 : ∀ w ∈ u_ws RX3 TX3 3, w ∈ wsX3_clear := by decide +kernel
  subst hsz
  have hD := hD0.self (sz := s.heap.size)
  generalize hAe : (va_A ((W_Tree cI a S)) s.heap.size) = A at hD ⊢
  have hA : ∀ q : Nat, s.heap.size ≤ q → A q := fun q h => by rw [← hAe]; exact Or.inr h
  have hS : va_S A s.heap s.heap [] := va_S.rf
  have hl := lv_entry ([.ref (a 0)]) (n := 1) (Nat.le_of_ble_eq_true rfl)
  rw [lg_entry_eq]
  generalize (lg_sl ([.ref (a 0)]) ++ List.replicate (1 - (lg_sl ([.ref (a 0)])).length) Slot.unset).toArray = ls at hl ⊢
  have hl : lv_has ls 1 [(0, .ref (a 0))] := hl
  have KE : ∀ (H : Heap) (locs : List Loc), va_P (dC, dI) vwCl ((W_Tree cI a S)) H → va_D A ((W_Tree cI a S)) → va_S A s.heap H locs → W p l e (headSpec wsX3_clear ({ frames := 0, cells := 0, slots := 0, locals := 0 } : Room)).room s m ([.ref (a 0)] : List Value).toArray below meth c H locs 0 0 (MQ below (va_Qv (fun u : S_Tree => Y = u) (fun u : S_Tree => jB (dC, dI) [(cI, .int)] A ((W_Tree cI a u))) A) ([.ref (a 0)] : List Value).toArray s 0 0 A) (F0 m 0 ls []) := by
    intro H locs hP hD hS
    unfold F_X3_clear at hF
    refine lv_aload_n hx hb dX3_clear_0 rfl (lv_at hl 0 rfl) ?_
    refine lv_iconst (v := (0 : Int32)) hx hb dX3_clear_1 (by decide) ?_
    refine va_put (D := (dC, dI)) (ci := 3) (v := .int (0 : Int32)) (ty := .int) (C := RX3) (T := TX3) (N := 3) hx hb hts hinX3 tyX3 tyX3_ok nmX3 hown hK hP hD hS 0 rfl rfl 1 (by decide) (hts (Cond.fieldLink RX3 15 "LearnedShapes$Tree" "size" "I") (List.mem_of_getElem? (i := 1) rfl)) (fun _ h9 => h9) rfl (by decide +kernel) (rfl) rfl (Nat.le_of_ble_eq_true rfl) dX3_clear_2 (fun H locs hP hD hS => ?_)
    have hP : va_P (dC, dI) vwCl ((W_Tree cI a (s_Tree_size S (0 : Int32)))) H := hP
    have hD : va_D A ((W_Tree cI a (s_Tree_size S (0 : Int32)))) := hD
    refine lv_aload_n hx hb dX3_clear_5 rfl (lv_at hl 0 rfl) ?_
    refine lv_iconst (v := (0 : Int32)) hx hb dX3_clear_6 (by decide) ?_
    refine va_put (D := (dC, dI)) (ci := 3) (v := .int (0 : Int32)) (ty := .int) (C := RX3) (T := TX3) (N := 3) hx hb hts hinX3 tyX3 tyX3_ok nmX3 hown hK hP hD hS 0 rfl rfl 2 (by decide) (hts (Cond.fieldLink RX3 19 "LearnedShapes$Tree" "documents" "I") (List.mem_of_getElem? (i := 2) rfl)) (fun _ h9 => h9) rfl (by decide +kernel) (rfl) rfl (Nat.le_of_ble_eq_true rfl) dX3_clear_7 (fun H locs hP hD hS => ?_)
    have hP : va_P (dC, dI) vwCl ((W_Tree cI a (s_Tree_documents (s_Tree_size S (0 : Int32)) (0 : Int32)))) H := hP
    have hD : va_D A ((W_Tree cI a (s_Tree_documents (s_Tree_size S (0 : Int32)) (0 : Int32)))) := hD
    have e50 := Option.some.inj hF
    subst e50
    exact W.vret hx hb hr (fun t ht hW => ⟨⟨(s_Tree_documents (s_Tree_size S (0 : Int32)) (0 : Int32)), rfl, rfl, by rw [ht]; exact hP, va_K.moved hW.alike hK, hD⟩, hS.F ht⟩) hS.2.2 dX3_clear_10
  exact KE _ _ hP hD hS
set_option maxHeartbeats 4000000 in
set_option maxRecDepth 100000 in
theorem c_X3_behind (l : Launch) (dC : Nat → ClassId) (dI : Nat → Nat → Nat) (cI : ClassId) (a : Nat → Nat) (sz : Nat) (S : S_Tree) (v1 : Int32) (rr : Int32) (hF : F_X3_behind S v1 = some rr) : Met l yX3_behind wsX3_behind ({ frames := 1, cells := 0, slots := 0, locals := 24 } : Room) (va_Pc [.ref (a 0), .int v1] (jPre (dC, dI) [(cI, .int)] sz ((W_Tree cI a S)))) (va_Qi (fun (r' : Int32) (_ : Unit) => rr = r') (fun _ : Unit => jB (dC, dI) [(cI, .int)] (va_A ((W_Tree cI a S)) sz) ((W_Tree cI a S))) (va_A ((W_Tree cI a S)) sz)) 0 0 (va_A ((W_Tree cI a S)) sz) := by
  refine Met.ofW (cc := cX3_behind) (maxL := 4) (ret := (some .int)) (by decide) rfl ?_
  intro p e s m args below meth c s₁ B hml hv
  obtain ⟨rfl, hsz, hP, hK, hD0, hN⟩ := hv
  have hx := B.exec
  have hb := B.bytes
  have hr := B.returns
  have hts := atoms_spec (ws := wsX3_behind) B.pre
  have hown : s.vm.findClass RX3 = some m.cls := findClass_of_methodNamed B.named
  have hlocks := B.notSynchronized
  have hinX3 : ∀ w ∈ u_ws RX3 TX3 3, w ∈ wsX3_behind := by decide +kernel
  subst hsz
  have hD := hD0.self (sz := s.heap.size)
  generalize hAe : (va_A ((W_Tree cI a S)) s.heap.size) = A at hD ⊢
  have hA : ∀ q : Nat, s.heap.size ≤ q → A q := fun q h => by rw [← hAe]; exact Or.inr h
  have hS : va_S A s.heap s.heap [] := va_S.rf
  have hl := lv_entry ([.ref (a 0), .int v1]) (n := 4) (Nat.le_of_ble_eq_true rfl)
  rw [lg_entry_eq]
  generalize (lg_sl ([.ref (a 0), .int v1]) ++ List.replicate (4 - (lg_sl ([.ref (a 0), .int v1])).length) Slot.unset).toArray = ls at hl ⊢
  have hl : lv_has ls 4 [(0, .ref (a 0)), (1, .int v1)] := hl
  have K11 : ∀ (n11 : Nat) (x2 : Int32) (x3 : Int32) (H : Heap) (locs : List Loc), F_X3_behind_11 S n11 x2 x3 = some rr → va_P (dC, dI) vwCl ((W_Tree cI a S)) H → va_D A ((W_Tree cI a S)) → va_S A s.heap H locs → ∀ ls : Array Slot, lv_has ls 4 [(0, .ref (a 0)), (2, .int x2), (3, .int x3)] → W p l e (headSpec wsX3_behind ({ frames := 1, cells := 0, slots := 0, locals := 24 } : Room)).room s m ([.ref (a 0), .int v1] : List Value).toArray below meth c H locs 0 0 (MQ below (va_Qi (fun (r' : Int32) (_ : Unit) => rr = r') (fun _ : Unit => jB (dC, dI) [(cI, .int)] A ((W_Tree cI a S))) A) ([.ref (a 0), .int v1] : List Value).toArray s 0 0 A) (F0 m 11 ls []) := by
    intro n11
    induction n11 with
    | zero => intro x2 x3 H locs hF; exact nomatch hF
    | succ n11 ih11 =>
      intro x2 x3 H locs hF hP hD hS ls hl
      rw [F_X3_behind_11_s] at hF
      refine lv_iload_n hx hb dX3_behind_11 rfl (lv_at hl 2 rfl) ?_
      refine lv_aload_n hx hb dX3_behind_12 rfl (lv_at hl 0 rfl) ?_
      refine va_get (D := (dC, dI)) (ci := 3) (v := .int (g_Tree_size S)) (C := RX3) (T := TX3) (N := 3) hx hb hts hinX3 hown hK hP 0 rfl rfl 1 (by decide) (hts (Cond.fieldLink RX3 15 "LearnedShapes$Tree" "size" "I") (List.mem_of_getElem? (i := 1) rfl)) (fun _ h9 => h9) rfl dX3_behind_13 ?_
      refine lv_icmp_ge (tgt := 35) hx hb dX3_behind_16 (by decide) (fun c1 => ?_) (fun c1 => ?_)
      · have hF := F_pos c1 hF
        refine lv_iload_n hx hb dX3_behind_35 rfl (lv_at hl 2 rfl) ?_
        have e50 := Option.some.inj hF
        subst e50
        exact W.iret (v := x3) hx hb hr (fun t ht hW => ⟨⟨x3, (), rfl, rfl, by rw [ht]; exact hP, va_K.moved hW.alike hK, hD⟩, hS.F ht⟩) hS.2.2 dX3_behind_36
      · have hF := F_neg c1 hF
        refine lv_aload_n hx hb dX3_behind_19 rfl (lv_at hl 0 rfl) ?_
        refine lv_iload_n hx hb dX3_behind_20 rfl (lv_at hl 2 rfl) ?_
        refine lv_iconst (v := (2 : Int32)) hx hb dX3_behind_21 (by decide) ?_
        obtain ⟨r2, h3, hF⟩ := ob1_some hF
        have hPc : va_P (dC, dI) vwCl ((W_Tree cI a S)) H := hP
        have hDc : va_D A ((W_Tree cI a S)) := hD
        have hFc := jFreeW (ws := (W_Tree cI a S)) hD hS hA
        refine va_calli (va_runV (As := [.int x3, .int (2 : Int32)]) (rest := []) ⟨hx, hb, hml, hown, hts⟩ (c_X3_get l dC dI cI a H.size _ _ _ _ h3) (cwV 2 hts gX3_behind_X3_get rfl rfl rfl (by decide +kernel) ⟨Nat.le_of_ble_eq_true rfl, Nat.le_of_ble_eq_true rfl⟩) (jPreV hK hPc hDc hN (ci := 3) rfl rfl) rfl rfl hl.1 rfl (lv_room (Nat.le_of_ble_eq_true rfl)) dX3_behind_22 ⟨Nat.le_of_ble_eq_true rfl, Nat.le_of_ble_eq_true rfl⟩) hS (fun q _ h => hFc q h) hFc (fun r' u' t H locs ht hvm hw hB hz1 hk1 hS => ?_)
        subst hw
        obtain ⟨hP1, -, hD1⟩ := hB
        rw [ht] at hP1
        have hP : va_P (dC, dI) vwCl ((W_Tree cI a S)) H := hP1
        have hD : va_D A ((W_Tree cI a S)) := hD1.weaken (fun _ _ _ h => hFc _ h)
        refine lv_iload_n hx hb dX3_behind_25 rfl (lv_at hl 1 rfl) ?_
        refine lv_icmp_le (tgt := 35) hx hb dX3_behind_26 (by decide) (fun c4 => ?_) (fun c4 => ?_)
        · have hF := F_pos c4 hF
          refine lv_iload_n hx hb dX3_behind_35 rfl (lv_at hl 2 rfl) ?_
          have e50 := Option.some.inj hF
          subst e50
          exact W.iret (v := x3) hx hb hr (fun t ht hW => ⟨⟨x3, (), rfl, rfl, by rw [ht]; exact hP, va_K.moved hW.alike hK, hD⟩, hS.F ht⟩) hS.2.2 dX3_behind_36
        · have hF := F_neg c4 hF
          refine lv_iinc (v := (x3 + (1 : Int32))) (lv' := [(3, .int (x3 + (1 : Int32))), (0, .ref (a 0)), (2, .int x2)]) hx hb dX3_behind_29 hl (k := 2) rfl rfl (by decide) rfl (fun ls hl => ?_)
          refine lv_goto (tgt := 11) hx hb dX3_behind_32 (by decide) ?_
          exact ih11 _ _ _ _ hF hP hD hS _ (lv_sub hl [1, 2, 0] rfl)
  have KE : ∀ (H : Heap) (locs : List Loc), va_P (dC, dI) vwCl ((W_Tree cI a S)) H → va_D A ((W_Tree cI a S)) → va_S A s.heap H locs → W p l e (headSpec wsX3_behind ({ frames := 1, cells := 0, slots := 0, locals := 24 } : Room)).room s m ([.ref (a 0), .int v1] : List Value).toArray below meth c H locs 0 0 (MQ below (va_Qi (fun (r' : Int32) (_ : Unit) => rr = r') (fun _ : Unit => jB (dC, dI) [(cI, .int)] A ((W_Tree cI a S))) A) ([.ref (a 0), .int v1] : List Value).toArray s 0 0 A) (F0 m 0 ls []) := by
    intro H locs hP hD hS
    unfold F_X3_behind at hF
    refine lv_aload_n hx hb dX3_behind_0 rfl (lv_at hl 0 rfl) ?_
    refine lv_iload_n hx hb dX3_behind_1 rfl (lv_at hl 1 rfl) ?_
    refine lv_iconst (v := (2 : Int32)) hx hb dX3_behind_2 (by decide) ?_
    obtain ⟨r5, h6, hF⟩ := ob1_some hF
    have hPc : va_P (dC, dI) vwCl ((W_Tree cI a S)) H := hP
    have hDc : va_D A ((W_Tree cI a S)) := hD
    have hFc := jFreeW (ws := (W_Tree cI a S)) hD hS hA
    refine va_calli (va_runV (As := [.int v1, .int (2 : Int32)]) (rest := []) ⟨hx, hb, hml, hown, hts⟩ (c_X3_get l dC dI cI a H.size _ _ _ _ h6) (cwV 2 hts gX3_behind_X3_get rfl rfl rfl (by decide +kernel) ⟨Nat.le_of_ble_eq_true rfl, Nat.le_of_ble_eq_true rfl⟩) (jPreV hK hPc hDc hN (ci := 3) rfl rfl) rfl rfl hl.1 rfl (lv_room (Nat.le_of_ble_eq_true rfl)) dX3_behind_3 ⟨Nat.le_of_ble_eq_true rfl, Nat.le_of_ble_eq_true rfl⟩) hS (fun q _ h => hFc q h) hFc (fun r' u' t H locs ht hvm hw hB hz1 hk1 hS => ?_)
    subst hw
    obtain ⟨hP1, -, hD1⟩ := hB
    rw [ht] at hP1
    have hP : va_P (dC, dI) vwCl ((W_Tree cI a S)) H := hP1
    have hD : va_D A ((W_Tree cI a S)) := hD1.weaken (fun _ _ _ h => hFc _ h)
    refine lv_istore_n (lv' := [(2, .int r5), (0, .ref (a 0)), (1, .int v1)]) hx hb dX3_behind_6 rfl hl (by decide) rfl (fun ls hl => ?_)
    refine lv_iload_n hx hb dX3_behind_7 rfl (lv_at hl 2 rfl) ?_
    refine lv_iconst (v := (1 : Int32)) hx hb dX3_behind_8 (by decide) ?_
    refine lv_iadd hx hb dX3_behind_9 ?_
    refine lv_istore_n (lv' := [(3, .int (v1 + (1 : Int32))), (2, .int r5), (0, .ref (a 0)), (1, .int v1)]) hx hb dX3_behind_10 rfl hl (by decide) rfl (fun ls hl => ?_)
    exact K11 _ _ _ _ _ hF hP hD hS _ (lv_sub hl [2, 1, 0] rfl)
  exact KE _ _ hP hD hS
set_option maxHeartbeats 4000000 in
set_option maxRecDepth 100000 in
theorem c_X3_above (l : Launch) (dC : Nat → ClassId) (dI : Nat → Nat → Nat) (cI : ClassId) (a : Nat → Nat) (sz : Nat) (S : S_Tree) (v1 : Int32) (rr : Int32) (hF : F_X3_above S v1 = some rr) : Met l yX3_above wsX3_above ({ frames := 1, cells := 0, slots := 0, locals := 24 } : Room) (va_Pc [.ref (a 0), .int v1] (jPre (dC, dI) [(cI, .int)] sz ((W_Tree cI a S)))) (va_Qi (fun (r' : Int32) (_ : Unit) => rr = r') (fun _ : Unit => jB (dC, dI) [(cI, .int)] (va_A ((W_Tree cI a S)) sz) ((W_Tree cI a S))) (va_A ((W_Tree cI a S)) sz)) 0 0 (va_A ((W_Tree cI a S)) sz) := by
  refine Met.ofW (cc := cX3_above) (maxL := 4) (ret := (some .int)) (by decide) rfl ?_
  intro p e s m args below meth c s₁ B hml hv
  obtain ⟨rfl, hsz, hP, hK, hD0, hN⟩ := hv
  have hx := B.exec
  have hb := B.bytes
  have hr := B.returns
  have hts := atoms_spec (ws := wsX3_above) B.pre
  have hown : s.vm.findClass RX3 = some m.cls := findClass_of_methodNamed B.named
  have hlocks := B.notSynchronized
  subst hsz
  have hD := hD0.self (sz := s.heap.size)
  generalize hAe : (va_A ((W_Tree cI a S)) s.heap.size) = A at hD ⊢
  have hA : ∀ q : Nat, s.heap.size ≤ q → A q := fun q h => by rw [← hAe]; exact Or.inr h
  have hS : va_S A s.heap s.heap [] := va_S.rf
  have hl := lv_entry ([.ref (a 0), .int v1]) (n := 4) (Nat.le_of_ble_eq_true rfl)
  rw [lg_entry_eq]
  generalize (lg_sl ([.ref (a 0), .int v1]) ++ List.replicate (4 - (lg_sl ([.ref (a 0), .int v1])).length) Slot.unset).toArray = ls at hl ⊢
  have hl : lv_has ls 4 [(0, .ref (a 0)), (1, .int v1)] := hl
  have K13 : ∀ (n13 : Nat) (x2 : Int32) (x3 : Int32) (H : Heap) (locs : List Loc), F_X3_above_13 S n13 x2 x3 = some rr → va_P (dC, dI) vwCl ((W_Tree cI a S)) H → va_D A ((W_Tree cI a S)) → va_S A s.heap H locs → ∀ ls : Array Slot, lv_has ls 4 [(0, .ref (a 0)), (2, .int x2), (3, .int x3)] → W p l e (headSpec wsX3_above ({ frames := 1, cells := 0, slots := 0, locals := 24 } : Room)).room s m ([.ref (a 0), .int v1] : List Value).toArray below meth c H locs 0 0 (MQ below (va_Qi (fun (r' : Int32) (_ : Unit) => rr = r') (fun _ : Unit => jB (dC, dI) [(cI, .int)] A ((W_Tree cI a S))) A) ([.ref (a 0), .int v1] : List Value).toArray s 0 0 A) (F0 m 13 ls []) := by
    intro n13
    induction n13 with
    | zero => intro x2 x3 H locs hF; exact nomatch hF
    | succ n13 ih13 =>
      intro x2 x3 H locs hF hP hD hS ls hl
      rw [F_X3_above_13_s] at hF
      refine lv_iload_n hx hb dX3_above_13 rfl (lv_at hl 2 rfl) ?_
      refine lv_if_lt (tgt := 33) hx hb dX3_above_14 (by decide) (fun c1 => ?_) (fun c1 => ?_)
      · have hF := F_pos c1 hF
        refine lv_iload_n hx hb dX3_above_33 rfl (lv_at hl 2 rfl) ?_
        refine lv_if_ge (tgt := 41) hx hb dX3_above_34 (by decide) (fun c2 => ?_) (fun c2 => ?_)
        · have hF := F_pos c2 hF
          refine lv_iload_n hx hb dX3_above_41 rfl (lv_at hl 2 rfl) ?_
          have e50 := Option.some.inj hF
          subst e50
          exact W.iret (v := x3) hx hb hr (fun t ht hW => ⟨⟨x3, (), rfl, rfl, by rw [ht]; exact hP, va_K.moved hW.alike hK, hD⟩, hS.F ht⟩) hS.2.2 dX3_above_42
        · have hF := F_neg c2 hF
          refine lv_iconst (v := (-1 : Int32)) hx hb dX3_above_37 (by decide) ?_
          refine lv_goto (tgt := 42) hx hb dX3_above_38 (by decide) ?_
          have e50 := Option.some.inj hF
          subst e50
          exact W.iret (v := (-1 : Int32)) hx hb hr (fun t ht hW => ⟨⟨(-1 : Int32), (), rfl, rfl, by rw [ht]; exact hP, va_K.moved hW.alike hK, hD⟩, hS.F ht⟩) hS.2.2 dX3_above_42
      · have hF := F_neg c1 hF
        refine lv_aload_n hx hb dX3_above_17 rfl (lv_at hl 0 rfl) ?_
        refine lv_iload_n hx hb dX3_above_18 rfl (lv_at hl 2 rfl) ?_
        refine lv_iconst (v := (2 : Int32)) hx hb dX3_above_19 (by decide) ?_
        obtain ⟨r3, h4, hF⟩ := ob1_some hF
        have hPc : va_P (dC, dI) vwCl ((W_Tree cI a S)) H := hP
        have hDc : va_D A ((W_Tree cI a S)) := hD
        have hFc := jFreeW (ws := (W_Tree cI a S)) hD hS hA
        refine va_calli (va_runV (As := [.int x3, .int (2 : Int32)]) (rest := []) ⟨hx, hb, hml, hown, hts⟩ (c_X3_get l dC dI cI a H.size _ _ _ _ h4) (cwV 2 hts gX3_above_X3_get rfl rfl rfl (by decide +kernel) ⟨Nat.le_of_ble_eq_true rfl, Nat.le_of_ble_eq_true rfl⟩) (jPreV hK hPc hDc hN (ci := 3) rfl rfl) rfl rfl hl.1 rfl (lv_room (Nat.le_of_ble_eq_true rfl)) dX3_above_20 ⟨Nat.le_of_ble_eq_true rfl, Nat.le_of_ble_eq_true rfl⟩) hS (fun q _ h => hFc q h) hFc (fun r' u' t H locs ht hvm hw hB hz1 hk1 hS => ?_)
        subst hw
        obtain ⟨hP1, -, hD1⟩ := hB
        rw [ht] at hP1
        have hP : va_P (dC, dI) vwCl ((W_Tree cI a S)) H := hP1
        have hD : va_D A ((W_Tree cI a S)) := hD1.weaken (fun _ _ _ h => hFc _ h)
        refine lv_iload_n hx hb dX3_above_23 rfl (lv_at hl 1 rfl) ?_
        refine lv_icmp_le (tgt := 33) hx hb dX3_above_24 (by decide) (fun c5 => ?_) (fun c5 => ?_)
        · have hF := F_pos c5 hF
          refine lv_iload_n hx hb dX3_above_33 rfl (lv_at hl 2 rfl) ?_
          refine lv_if_ge (tgt := 41) hx hb dX3_above_34 (by decide) (fun c6 => ?_) (fun c6 => ?_)
          · have hF := F_pos c6 hF
            refine lv_iload_n hx hb dX3_above_41 rfl (lv_at hl 2 rfl) ?_
            have e50 := Option.some.inj hF
            subst e50
            exact W.iret (v := x3) hx hb hr (fun t ht hW => ⟨⟨x3, (), rfl, rfl, by rw [ht]; exact hP, va_K.moved hW.alike hK, hD⟩, hS.F ht⟩) hS.2.2 dX3_above_42
          · have hF := F_neg c6 hF
            refine lv_iconst (v := (-1 : Int32)) hx hb dX3_above_37 (by decide) ?_
            refine lv_goto (tgt := 42) hx hb dX3_above_38 (by decide) ?_
            have e50 := Option.some.inj hF
            subst e50
            exact W.iret (v := (-1 : Int32)) hx hb hr (fun t ht hW => ⟨⟨(-1 : Int32), (), rfl, rfl, by rw [ht]; exact hP, va_K.moved hW.alike hK, hD⟩, hS.F ht⟩) hS.2.2 dX3_above_42
        · have hF := F_neg c5 hF
          refine lv_iinc (v := (x3 + (-1 : Int32))) (lv' := [(3, .int (x3 + (-1 : Int32))), (0, .ref (a 0)), (2, .int x2)]) hx hb dX3_above_27 hl (k := 2) rfl rfl (by decide) rfl (fun ls hl => ?_)
          refine lv_goto (tgt := 13) hx hb dX3_above_30 (by decide) ?_
          exact ih13 _ _ _ _ hF hP hD hS _ (lv_sub hl [1, 2, 0] rfl)
  have KE : ∀ (H : Heap) (locs : List Loc), va_P (dC, dI) vwCl ((W_Tree cI a S)) H → va_D A ((W_Tree cI a S)) → va_S A s.heap H locs → W p l e (headSpec wsX3_above ({ frames := 1, cells := 0, slots := 0, locals := 24 } : Room)).room s m ([.ref (a 0), .int v1] : List Value).toArray below meth c H locs 0 0 (MQ below (va_Qi (fun (r' : Int32) (_ : Unit) => rr = r') (fun _ : Unit => jB (dC, dI) [(cI, .int)] A ((W_Tree cI a S))) A) ([.ref (a 0), .int v1] : List Value).toArray s 0 0 A) (F0 m 0 ls []) := by
    intro H locs hP hD hS
    unfold F_X3_above at hF
    refine lv_aload_n hx hb dX3_above_0 rfl (lv_at hl 0 rfl) ?_
    refine lv_iload_n hx hb dX3_above_1 rfl (lv_at hl 1 rfl) ?_
    refine lv_iconst (v := (2 : Int32)) hx hb dX3_above_2 (by decide) ?_
    obtain ⟨r7, h8, hF⟩ := ob1_some hF
    have hPc : va_P (dC, dI) vwCl ((W_Tree cI a S)) H := hP
    have hDc : va_D A ((W_Tree cI a S)) := hD
    have hFc := jFreeW (ws := (W_Tree cI a S)) hD hS hA
    refine va_calli (va_runV (As := [.int v1, .int (2 : Int32)]) (rest := []) ⟨hx, hb, hml, hown, hts⟩ (c_X3_get l dC dI cI a H.size _ _ _ _ h8) (cwV 2 hts gX3_above_X3_get rfl rfl rfl (by decide +kernel) ⟨Nat.le_of_ble_eq_true rfl, Nat.le_of_ble_eq_true rfl⟩) (jPreV hK hPc hDc hN (ci := 3) rfl rfl) rfl rfl hl.1 rfl (lv_room (Nat.le_of_ble_eq_true rfl)) dX3_above_3 ⟨Nat.le_of_ble_eq_true rfl, Nat.le_of_ble_eq_true rfl⟩) hS (fun q _ h => hFc q h) hFc (fun r' u' t H locs ht hvm hw hB hz1 hk1 hS => ?_)
    subst hw
    obtain ⟨hP1, -, hD1⟩ := hB
    rw [ht] at hP1
    have hP : va_P (dC, dI) vwCl ((W_Tree cI a S)) H := hP1
    have hD : va_D A ((W_Tree cI a S)) := hD1.weaken (fun _ _ _ h => hFc _ h)
    refine lv_iconst (v := (1 : Int32)) hx hb dX3_above_6 (by decide) ?_
    refine lv_isub hx hb dX3_above_7 ?_
    refine lv_istore_n (lv' := [(2, .int (r7 - (1 : Int32))), (0, .ref (a 0)), (1, .int v1)]) hx hb dX3_above_8 rfl hl (by decide) rfl (fun ls hl => ?_)
    refine lv_iload_n hx hb dX3_above_9 rfl (lv_at hl 2 rfl) ?_
    refine lv_iconst (v := (1 : Int32)) hx hb dX3_above_10 (by decide) ?_
    refine lv_isub hx hb dX3_above_11 ?_
    refine lv_istore_n (lv' := [(3, .int (v1 - (1 : Int32))), (2, .int (r7 - (1 : Int32))), (0, .ref (a 0)), (1, .int v1)]) hx hb dX3_above_12 rfl hl (by decide) rfl (fun ls hl => ?_)
    exact K13 _ _ _ _ _ hF hP hD hS _ (lv_sub hl [2, 1, 0] rfl)
  exact KE _ _ hP hD hS
set_option maxHeartbeats 4000000 in
set_option maxRecDepth 100000 in
theorem c_X3_countBelow (l : Launch) (dC : Nat → ClassId) (dI : Nat → Nat → Nat) (cI : ClassId) (a : Nat → Nat) (sz : Nat) (S : S_Tree) (v1 : Int32) (rr : Int32) (hF : F_X3_countBelow S v1 = some rr) : Met l yX3_countBelow wsX3_countBelow ({ frames := 2, cells := 0, slots := 0, locals := 47 } : Room) (va_Pc [.ref (a 0), .int v1] (jPre (dC, dI) [(cI, .int)] sz ((W_Tree cI a S)))) (va_Qi (fun (r' : Int32) (_ : Unit) => rr = r') (fun _ : Unit => jB (dC, dI) [(cI, .int)] (va_A ((W_Tree cI a S)) sz) ((W_Tree cI a S))) (va_A ((W_Tree cI a S)) sz)) 0 0 (va_A ((W_Tree cI a S)) sz) := by
  refine Met.ofW (cc := cX3_countBelow) (maxL := 6) (ret := (some .int)) (by decide) rfl ?_
  intro p e s m args below meth c s₁ B hml hv
  obtain ⟨rfl, hsz, hP, hK, hD0, hN⟩ := hv
  have hx := B.exec
  have hb := B.bytes
  have hr := B.returns
  have hts := atoms_spec (ws := wsX3_countBelow) B.pre
  have hown : s.vm.findClass RX3 = some m.cls := findClass_of_methodNamed B.named
  have hlocks := B.notSynchronized
  subst hsz
  have hD := hD0.self (sz := s.heap.size)
  generalize hAe : (va_A ((W_Tree cI a S)) s.heap.size) = A at hD ⊢
  have hA : ∀ q : Nat, s.heap.size ≤ q → A q := fun q h => by rw [← hAe]; exact Or.inr h
  have hS : va_S A s.heap s.heap [] := va_S.rf
  have hl := lv_entry ([.ref (a 0), .int v1]) (n := 6) (Nat.le_of_ble_eq_true rfl)
  rw [lg_entry_eq]
  generalize (lg_sl ([.ref (a 0), .int v1]) ++ List.replicate (6 - (lg_sl ([.ref (a 0), .int v1])).length) Slot.unset).toArray = ls at hl ⊢
  have hl : lv_has ls 6 [(0, .ref (a 0)), (1, .int v1)] := hl
  have K23 : ∀ (n23 : Nat) (x2 : Int32) (x3 : Int32) (x4 : Int32) (x5 : Int32) (H : Heap) (locs : List Loc), F_X3_countBelow_23 S n23 x2 x3 x4 x5 = some rr → va_P (dC, dI) vwCl ((W_Tree cI a S)) H → va_D A ((W_Tree cI a S)) → va_S A s.heap H locs → ∀ ls : Array Slot, lv_has ls 6 [(0, .ref (a 0)), (2, .int x2), (3, .int x3), (4, .int x4), (5, .int x5)] → W p l e (headSpec wsX3_countBelow ({ frames := 2, cells := 0, slots := 0, locals := 47 } : Room)).room s m ([.ref (a 0), .int v1] : List Value).toArray below meth c H locs 0 0 (MQ below (va_Qi (fun (r' : Int32) (_ : Unit) => rr = r') (fun _ : Unit => jB (dC, dI) [(cI, .int)] A ((W_Tree cI a S))) A) ([.ref (a 0), .int v1] : List Value).toArray s 0 0 A) (F0 m 23 ls []) := by
    intro n23
    induction n23 with
    | zero => intro x2 x3 x4 x5 H locs hF; exact nomatch hF
    | succ n23 ih23 =>
      intro x2 x3 x4 x5 H locs hF hP hD hS ls hl
      rw [F_X3_countBelow_23_s] at hF
      refine lv_iload hx hb dX3_countBelow_23 (lv_at hl 4 rfl) ?_
      refine lv_iload_n hx hb dX3_countBelow_25 rfl (lv_at hl 2 rfl) ?_
      refine lv_icmp_ge (tgt := 56) hx hb dX3_countBelow_26 (by decide) (fun c1 => ?_) (fun c1 => ?_)
      · have hF := F_pos c1 hF
        refine lv_iload hx hb dX3_countBelow_56 (lv_at hl 3 rfl) ?_
        have e50 := Option.some.inj hF
        subst e50
        exact W.iret (v := x4) hx hb hr (fun t ht hW => ⟨⟨x4, (), rfl, rfl, by rw [ht]; exact hP, va_K.moved hW.alike hK, hD⟩, hS.F ht⟩) hS.2.2 dX3_countBelow_58
      · have hF := F_neg c1 hF
        refine lv_iload hx hb dX3_countBelow_29 (lv_at hl 3 rfl) ?_
        refine lv_aload_n hx hb dX3_countBelow_31 rfl (lv_at hl 0 rfl) ?_
        refine lv_iload hx hb dX3_countBelow_32 (lv_at hl 4 rfl) ?_
        refine lv_iconst (v := (2 : Int32)) hx hb dX3_countBelow_34 (by decide) ?_
        obtain ⟨r2, h3, hF⟩ := ob1_some hF
        have hPc : va_P (dC, dI) vwCl ((W_Tree cI a S)) H := hP
        have hDc : va_D A ((W_Tree cI a S)) := hD
        have hFc := jFreeW (ws := (W_Tree cI a S)) hD hS hA
        refine va_calli (va_runV (As := [.int x5, .int (2 : Int32)]) (rest := [.int x4]) ⟨hx, hb, hml, hown, hts⟩ (c_X3_get l dC dI cI a H.size _ _ _ _ h3) (cwV 2 hts gX3_countBelow_X3_get rfl rfl rfl (by decide +kernel) ⟨Nat.le_of_ble_eq_true rfl, Nat.le_of_ble_eq_true rfl⟩) (jPreV hK hPc hDc hN (ci := 3) rfl rfl) rfl rfl hl.1 rfl (lv_room (Nat.le_of_ble_eq_true rfl)) dX3_countBelow_35 ⟨Nat.le_of_ble_eq_true rfl, Nat.le_of_ble_eq_true rfl⟩) hS (fun q _ h => hFc q h) hFc (fun r' u' t H locs ht hvm hw hB hz1 hk1 hS => ?_)
        subst hw
        obtain ⟨hP1, -, hD1⟩ := hB
        rw [ht] at hP1
        have hP : va_P (dC, dI) vwCl ((W_Tree cI a S)) H := hP1
        have hD : va_D A ((W_Tree cI a S)) := hD1.weaken (fun _ _ _ h => hFc _ h)
        refine lv_iload_n hx hb dX3_countBelow_38 rfl (lv_at hl 1 rfl) ?_
        refine lv_icmp_ne (tgt := 46) hx hb dX3_countBelow_39 (by decide) (fun c4 => ?_) (fun c4 => ?_)
        · have hF := F_neg c4 hF
          refine lv_iconst (v := (0 : Int32)) hx hb dX3_countBelow_46 (by decide) ?_
          refine lv_iadd hx hb dX3_countBelow_47 ?_
          refine lv_istore (lv' := [(4, .int (x4 + (0 : Int32))), (0, .ref (a 0)), (2, .int x2), (3, .int x3), (5, .int x5)]) hx hb dX3_countBelow_48 hl (by decide) rfl (fun ls hl => ?_)
          refine lv_iinc (v := (x5 + (1 : Int32))) (lv' := [(5, .int (x5 + (1 : Int32))), (4, .int (x4 + (0 : Int32))), (0, .ref (a 0)), (2, .int x2), (3, .int x3)]) hx hb dX3_countBelow_50 hl (k := 4) rfl rfl (by decide) rfl (fun ls hl => ?_)
          refine lv_goto (tgt := 23) hx hb dX3_countBelow_53 (by decide) ?_
          exact ih23 _ _ _ _ _ _ hF hP hD hS _ (lv_sub hl [2, 3, 4, 1, 0] rfl)
        · have hF := F_pos c4 hF
          refine lv_iconst (v := (1 : Int32)) hx hb dX3_countBelow_42 (by decide) ?_
          refine lv_goto (tgt := 47) hx hb dX3_countBelow_43 (by decide) ?_
          refine lv_iadd hx hb dX3_countBelow_47 ?_
          refine lv_istore (lv' := [(4, .int (x4 + (1 : Int32))), (0, .ref (a 0)), (2, .int x2), (3, .int x3), (5, .int x5)]) hx hb dX3_countBelow_48 hl (by decide) rfl (fun ls hl => ?_)
          refine lv_iinc (v := (x5 + (1 : Int32))) (lv' := [(5, .int (x5 + (1 : Int32))), (4, .int (x4 + (1 : Int32))), (0, .ref (a 0)), (2, .int x2), (3, .int x3)]) hx hb dX3_countBelow_50 hl (k := 4) rfl rfl (by decide) rfl (fun ls hl => ?_)
          refine lv_goto (tgt := 23) hx hb dX3_countBelow_53 (by decide) ?_
          exact ih23 _ _ _ _ _ _ hF hP hD hS _ (lv_sub hl [2, 3, 4, 1, 0] rfl)
  have KE : ∀ (H : Heap) (locs : List Loc), va_P (dC, dI) vwCl ((W_Tree cI a S)) H → va_D A ((W_Tree cI a S)) → va_S A s.heap H locs → W p l e (headSpec wsX3_countBelow ({ frames := 2, cells := 0, slots := 0, locals := 47 } : Room)).room s m ([.ref (a 0), .int v1] : List Value).toArray below meth c H locs 0 0 (MQ below (va_Qi (fun (r' : Int32) (_ : Unit) => rr = r') (fun _ : Unit => jB (dC, dI) [(cI, .int)] A ((W_Tree cI a S))) A) ([.ref (a 0), .int v1] : List Value).toArray s 0 0 A) (F0 m 0 ls []) := by
    intro H locs hP hD hS
    unfold F_X3_countBelow at hF
    refine lv_aload_n hx hb dX3_countBelow_0 rfl (lv_at hl 0 rfl) ?_
    refine lv_iload_n hx hb dX3_countBelow_1 rfl (lv_at hl 1 rfl) ?_
    refine lv_iconst (v := (2 : Int32)) hx hb dX3_countBelow_2 (by decide) ?_
    obtain ⟨r5, h6, hF⟩ := ob1_some hF
    have hPc : va_P (dC, dI) vwCl ((W_Tree cI a S)) H := hP
    have hDc : va_D A ((W_Tree cI a S)) := hD
    have hFc := jFreeW (ws := (W_Tree cI a S)) hD hS hA
    refine va_calli (va_runV (As := [.int v1, .int (2 : Int32)]) (rest := []) ⟨hx, hb, hml, hown, hts⟩ (c_X3_get l dC dI cI a H.size _ _ _ _ h6) (cwV 2 hts gX3_countBelow_X3_get rfl rfl rfl (by decide +kernel) ⟨Nat.le_of_ble_eq_true rfl, Nat.le_of_ble_eq_true rfl⟩) (jPreV hK hPc hDc hN (ci := 3) rfl rfl) rfl rfl hl.1 rfl (lv_room (Nat.le_of_ble_eq_true rfl)) dX3_countBelow_3 ⟨Nat.le_of_ble_eq_true rfl, Nat.le_of_ble_eq_true rfl⟩) hS (fun q _ h => hFc q h) hFc (fun r' u' t H locs ht hvm hw hB hz1 hk1 hS => ?_)
    subst hw
    obtain ⟨hP1, -, hD1⟩ := hB
    rw [ht] at hP1
    have hP : va_P (dC, dI) vwCl ((W_Tree cI a S)) H := hP1
    have hD : va_D A ((W_Tree cI a S)) := hD1.weaken (fun _ _ _ h => hFc _ h)
    refine lv_iconst (v := (1 : Int32)) hx hb dX3_countBelow_6 (by decide) ?_
    refine lv_iadd hx hb dX3_countBelow_7 ?_
    refine lv_istore_n (lv' := [(2, .int (r5 + (1 : Int32))), (0, .ref (a 0)), (1, .int v1)]) hx hb dX3_countBelow_8 rfl hl (by decide) rfl (fun ls hl => ?_)
    refine lv_aload_n hx hb dX3_countBelow_9 rfl (lv_at hl 1 rfl) ?_
    refine lv_iload_n hx hb dX3_countBelow_10 rfl (lv_at hl 2 rfl) ?_
    obtain ⟨r7, h8, hF⟩ := ob1_some hF
    have hPc : va_P (dC, dI) vwCl ((W_Tree cI a S)) H := hP
    have hDc : va_D A ((W_Tree cI a S)) := hD
    have hFc := jFreeW (ws := (W_Tree cI a S)) hD hS hA
    refine va_calli (va_runV (As := [.int v1]) (rest := []) ⟨hx, hb, hml, hown, hts⟩ (c_X3_behind l dC dI cI a H.size _ _ _ h8) (cwV 1 hts gX3_countBelow_X3_behind rfl rfl rfl (by decide +kernel) ⟨Nat.le_of_ble_eq_true rfl, Nat.le_of_ble_eq_true rfl⟩) (jPreV hK hPc hDc hN (ci := 3) rfl rfl) rfl rfl hl.1 rfl (lv_room (Nat.le_of_ble_eq_true rfl)) dX3_countBelow_11 ⟨Nat.le_of_ble_eq_true rfl, Nat.le_of_ble_eq_true rfl⟩) hS (fun q _ h => hFc q h) hFc (fun r' u' t H locs ht hvm hw hB hz1 hk1 hS => ?_)
    subst hw
    obtain ⟨hP1, -, hD1⟩ := hB
    rw [ht] at hP1
    have hP : va_P (dC, dI) vwCl ((W_Tree cI a S)) H := hP1
    have hD : va_D A ((W_Tree cI a S)) := hD1.weaken (fun _ _ _ h => hFc _ h)
    refine lv_istore_n (lv' := [(3, .int r7), (2, .int (r5 + (1 : Int32))), (0, .ref (a 0)), (1, .int v1)]) hx hb dX3_countBelow_14 rfl hl (by decide) rfl (fun ls hl => ?_)
    refine lv_iconst (v := (0 : Int32)) hx hb dX3_countBelow_15 (by decide) ?_
    refine lv_istore (lv' := [(4, .int (0 : Int32)), (3, .int r7), (2, .int (r5 + (1 : Int32))), (0, .ref (a 0)), (1, .int v1)]) hx hb dX3_countBelow_16 hl (by decide) rfl (fun ls hl => ?_)
    refine lv_iload_n hx hb dX3_countBelow_18 rfl (lv_at hl 4 rfl) ?_
    refine lv_iconst (v := (1 : Int32)) hx hb dX3_countBelow_19 (by decide) ?_
    refine lv_iadd hx hb dX3_countBelow_20 ?_
    refine lv_istore (lv' := [(5, .int (v1 + (1 : Int32))), (4, .int (0 : Int32)), (3, .int r7), (2, .int (r5 + (1 : Int32))), (0, .ref (a 0)), (1, .int v1)]) hx hb dX3_countBelow_21 hl (by decide) rfl (fun ls hl => ?_)
    exact K23 _ _ _ _ _ _ _ hF hP hD hS _ (lv_sub hl [4, 3, 2, 1, 0] rfl)
  exact KE _ _ hP hD hS
set_option maxHeartbeats 4000000 in
set_option maxRecDepth 100000 in
theorem c_X3_findBelow (l : Launch) (dC : Nat → ClassId) (dI : Nat → Nat → Nat) (cI : ClassId) (a : Nat → Nat) (sz : Nat) (S : S_Tree) (v1 : Int32) (v2 : Int32) (rr : Int32) (hF : F_X3_findBelow S v1 v2 = some rr) : Met l yX3_findBelow wsX3_findBelow ({ frames := 1, cells := 0, slots := 0, locals := 24 } : Room) (va_Pc [.ref (a 0), .int v1, .int v2] (jPre (dC, dI) [(cI, .int)] sz ((W_Tree cI a S)))) (va_Qi (fun (r' : Int32) (_ : Unit) => rr = r') (fun _ : Unit => jB (dC, dI) [(cI, .int)] (va_A ((W_Tree cI a S)) sz) ((W_Tree cI a S))) (va_A ((W_Tree cI a S)) sz)) 0 0 (va_A ((W_Tree cI a S)) sz) := by
  refine Met.ofW (cc := cX3_findBelow) (maxL := 5) (ret := (some .int)) (by decide) rfl ?_
  intro p e s m args below meth c s₁ B hml hv
  obtain ⟨rfl, hsz, hP, hK, hD0, hN⟩ := hv
  have hx := B.exec
  have hb := B.bytes
  have hr := B.returns
  have hts := atoms_spec (ws := wsX3_findBelow) B.pre
  have hown : s.vm.findClass RX3 = some m.cls := findClass_of_methodNamed B.named
  have hlocks := B.notSynchronized
  have hinX3 : ∀ w ∈ u_ws RX3 TX3 3, w ∈ wsX3_findBelow := by decide +kernel
  subst hsz
  have hD := hD0.self (sz := s.heap.size)
  generalize hAe : (va_A ((W_Tree cI a S)) s.heap.size) = A at hD ⊢
  have hA : ∀ q : Nat, s.heap.size ≤ q → A q := fun q h => by rw [← hAe]; exact Or.inr h
  have hS : va_S A s.heap s.heap [] := va_S.rf
  have hl := lv_entry ([.ref (a 0), .int v1, .int v2]) (n := 5) (Nat.le_of_ble_eq_true rfl)
  rw [lg_entry_eq]
  generalize (lg_sl ([.ref (a 0), .int v1, .int v2]) ++ List.replicate (5 - (lg_sl ([.ref (a 0), .int v1, .int v2])).length) Slot.unset).toArray = ls at hl ⊢
  have hl : lv_has ls 5 [(0, .ref (a 0)), (1, .int v1), (2, .int v2)] := hl
  have K24 : ∀ (n24 : Nat) (x3 : Int32) (x4 : Int32) (H : Heap) (locs : List Loc), F_X3_findBelow_24 v2 S n24 x3 x4 = some rr → va_P (dC, dI) vwCl ((W_Tree cI a S)) H → va_D A ((W_Tree cI a S)) → va_S A s.heap H locs → ∀ ls : Array Slot, lv_has ls 5 [(0, .ref (a 0)), (2, .int v2), (3, .int x3), (4, .int x4)] → W p l e (headSpec wsX3_findBelow ({ frames := 1, cells := 0, slots := 0, locals := 24 } : Room)).room s m ([.ref (a 0), .int v1, .int v2] : List Value).toArray below meth c H locs 0 0 (MQ below (va_Qi (fun (r' : Int32) (_ : Unit) => rr = r') (fun _ : Unit => jB (dC, dI) [(cI, .int)] A ((W_Tree cI a S))) A) ([.ref (a 0), .int v1, .int v2] : List Value).toArray s 0 0 A) (F0 m 24 ls []) := by
    intro n24
    induction n24 with
    | zero => intro x3 x4 H locs hF; exact nomatch hF
    | succ n24 ih24 =>
      intro x3 x4 H locs hF hP hD hS ls hl
      rw [F_X3_findBelow_24_s] at hF
      refine lv_iload hx hb dX3_findBelow_24 (lv_at hl 3 rfl) ?_
      refine lv_aload_n hx hb dX3_findBelow_26 rfl (lv_at hl 0 rfl) ?_
      refine va_get (D := (dC, dI)) (ci := 3) (v := .int (g_Tree_size S)) (C := RX3) (T := TX3) (N := 3) hx hb hts hinX3 hown hK hP 0 rfl rfl 1 (by decide) (hts (Cond.fieldLink RX3 15 "LearnedShapes$Tree" "size" "I") (List.mem_of_getElem? (i := 1) rfl)) (fun _ h9 => h9) rfl dX3_findBelow_27 ?_
      refine lv_icmp_ge (tgt := 75) hx hb dX3_findBelow_30 (by decide) (fun c1 => ?_) (fun c1 => ?_)
      · have hF := F_pos c1 hF
        refine lv_iconst (v := (-1 : Int32)) hx hb dX3_findBelow_75 (by decide) ?_
        have e50 := Option.some.inj hF
        subst e50
        exact W.iret (v := (-1 : Int32)) hx hb hr (fun t ht hW => ⟨⟨(-1 : Int32), (), rfl, rfl, by rw [ht]; exact hP, va_K.moved hW.alike hK, hD⟩, hS.F ht⟩) hS.2.2 dX3_findBelow_76
      · have hF := F_neg c1 hF
        refine lv_aload_n hx hb dX3_findBelow_33 rfl (lv_at hl 0 rfl) ?_
        refine lv_iload hx hb dX3_findBelow_34 (lv_at hl 3 rfl) ?_
        refine lv_iconst (v := (2 : Int32)) hx hb dX3_findBelow_36 (by decide) ?_
        obtain ⟨r2, h3, hF⟩ := ob1_some hF
        have hPc : va_P (dC, dI) vwCl ((W_Tree cI a S)) H := hP
        have hDc : va_D A ((W_Tree cI a S)) := hD
        have hFc := jFreeW (ws := (W_Tree cI a S)) hD hS hA
        refine va_calli (va_runV (As := [.int x4, .int (2 : Int32)]) (rest := []) ⟨hx, hb, hml, hown, hts⟩ (c_X3_get l dC dI cI a H.size _ _ _ _ h3) (cwV 2 hts gX3_findBelow_X3_get rfl rfl rfl (by decide +kernel) ⟨Nat.le_of_ble_eq_true rfl, Nat.le_of_ble_eq_true rfl⟩) (jPreV hK hPc hDc hN (ci := 3) rfl rfl) rfl rfl hl.1 rfl (lv_room (Nat.le_of_ble_eq_true rfl)) dX3_findBelow_37 ⟨Nat.le_of_ble_eq_true rfl, Nat.le_of_ble_eq_true rfl⟩) hS (fun q _ h => hFc q h) hFc (fun r' u' t H locs ht hvm hw hB hz1 hk1 hS => ?_)
        subst hw
        obtain ⟨hP1, -, hD1⟩ := hB
        rw [ht] at hP1
        have hP : va_P (dC, dI) vwCl ((W_Tree cI a S)) H := hP1
        have hD : va_D A ((W_Tree cI a S)) := hD1.weaken (fun _ _ _ h => hFc _ h)
        refine lv_iload_n hx hb dX3_findBelow_40 rfl (lv_at hl 2 rfl) ?_
        refine lv_icmp_lt (tgt := 75) hx hb dX3_findBelow_41 (by decide) (fun c4 => ?_) (fun c4 => ?_)
        · have hF := F_pos c4 hF
          refine lv_iconst (v := (-1 : Int32)) hx hb dX3_findBelow_75 (by decide) ?_
          have e50 := Option.some.inj hF
          subst e50
          exact W.iret (v := (-1 : Int32)) hx hb hr (fun t ht hW => ⟨⟨(-1 : Int32), (), rfl, rfl, by rw [ht]; exact hP, va_K.moved hW.alike hK, hD⟩, hS.F ht⟩) hS.2.2 dX3_findBelow_76
        · have hF := F_neg c4 hF
          refine lv_aload_n hx hb dX3_findBelow_44 rfl (lv_at hl 0 rfl) ?_
          refine lv_iload hx hb dX3_findBelow_45 (lv_at hl 3 rfl) ?_
          refine lv_iconst (v := (2 : Int32)) hx hb dX3_findBelow_47 (by decide) ?_
          obtain ⟨r5, h6, hF⟩ := ob1_some hF
          have hPc : va_P (dC, dI) vwCl ((W_Tree cI a S)) H := hP
          have hDc : va_D A ((W_Tree cI a S)) := hD
          have hFc := jFreeW (ws := (W_Tree cI a S)) hD hS hA
          refine va_calli (va_runV (As := [.int x4, .int (2 : Int32)]) (rest := []) ⟨hx, hb, hml, hown, hts⟩ (c_X3_get l dC dI cI a H.size _ _ _ _ h6) (cwV 2 hts gX3_findBelow_X3_get rfl rfl rfl (by decide +kernel) ⟨Nat.le_of_ble_eq_true rfl, Nat.le_of_ble_eq_true rfl⟩) (jPreV hK hPc hDc hN (ci := 3) rfl rfl) rfl rfl hl.1 rfl (lv_room (Nat.le_of_ble_eq_true rfl)) dX3_findBelow_48 ⟨Nat.le_of_ble_eq_true rfl, Nat.le_of_ble_eq_true rfl⟩) hS (fun q _ h => hFc q h) hFc (fun r' u' t H locs ht hvm hw hB hz1 hk1 hS => ?_)
          subst hw
          obtain ⟨hP1, -, hD1⟩ := hB
          rw [ht] at hP1
          have hP : va_P (dC, dI) vwCl ((W_Tree cI a S)) H := hP1
          have hD : va_D A ((W_Tree cI a S)) := hD1.weaken (fun _ _ _ h => hFc _ h)
          refine lv_iload_n hx hb dX3_findBelow_51 rfl (lv_at hl 2 rfl) ?_
          refine lv_icmp_ne (tgt := 69) hx hb dX3_findBelow_52 (by decide) (fun c7 => ?_) (fun c7 => ?_)
          · have hF := F_neg c7 hF
            refine lv_iinc (v := (x4 + (1 : Int32))) (lv' := [(4, .int (x4 + (1 : Int32))), (0, .ref (a 0)), (2, .int v2), (3, .int x3)]) hx hb dX3_findBelow_69 hl (k := 3) rfl rfl (by decide) rfl (fun ls hl => ?_)
            refine lv_goto (tgt := 24) hx hb dX3_findBelow_72 (by decide) ?_
            exact ih24 _ _ _ _ hF hP hD hS _ (lv_sub hl [1, 2, 3, 0] rfl)
          · have hF := F_pos c7 hF
            refine lv_aload_n hx hb dX3_findBelow_55 rfl (lv_at hl 0 rfl) ?_
            refine lv_iload hx hb dX3_findBelow_56 (lv_at hl 3 rfl) ?_
            refine lv_iconst (v := (1 : Int32)) hx hb dX3_findBelow_58 (by decide) ?_
            obtain ⟨r8, h9, hF⟩ := ob1_some hF
            have hPc : va_P (dC, dI) vwCl ((W_Tree cI a S)) H := hP
            have hDc : va_D A ((W_Tree cI a S)) := hD
            have hFc := jFreeW (ws := (W_Tree cI a S)) hD hS hA
            refine va_calli (va_runV (As := [.int x4, .int (1 : Int32)]) (rest := []) ⟨hx, hb, hml, hown, hts⟩ (c_X3_get l dC dI cI a H.size _ _ _ _ h9) (cwV 2 hts gX3_findBelow_X3_get rfl rfl rfl (by decide +kernel) ⟨Nat.le_of_ble_eq_true rfl, Nat.le_of_ble_eq_true rfl⟩) (jPreV hK hPc hDc hN (ci := 3) rfl rfl) rfl rfl hl.1 rfl (lv_room (Nat.le_of_ble_eq_true rfl)) dX3_findBelow_59 ⟨Nat.le_of_ble_eq_true rfl, Nat.le_of_ble_eq_true rfl⟩) hS (fun q _ h => hFc q h) hFc (fun r' u' t H locs ht hvm hw hB hz1 hk1 hS => ?_)
            subst hw
            obtain ⟨hP1, -, hD1⟩ := hB
            rw [ht] at hP1
            have hP : va_P (dC, dI) vwCl ((W_Tree cI a S)) H := hP1
            have hD : va_D A ((W_Tree cI a S)) := hD1.weaken (fun _ _ _ h => hFc _ h)
            refine lv_iload_n hx hb dX3_findBelow_62 rfl (lv_at hl 1 rfl) ?_
            refine lv_icmp_ne (tgt := 69) hx hb dX3_findBelow_63 (by decide) (fun c10 => ?_) (fun c10 => ?_)
            · have hF := F_neg c10 hF
              refine lv_iinc (v := (x4 + (1 : Int32))) (lv' := [(4, .int (x4 + (1 : Int32))), (0, .ref (a 0)), (2, .int v2), (3, .int x3)]) hx hb dX3_findBelow_69 hl (k := 3) rfl rfl (by decide) rfl (fun ls hl => ?_)
              refine lv_goto (tgt := 24) hx hb dX3_findBelow_72 (by decide) ?_
              exact ih24 _ _ _ _ hF hP hD hS _ (lv_sub hl [1, 2, 3, 0] rfl)
            · have hF := F_pos c10 hF
              refine lv_iload hx hb dX3_findBelow_66 (lv_at hl 3 rfl) ?_
              have e50 := Option.some.inj hF
              subst e50
              exact W.iret (v := x4) hx hb hr (fun t ht hW => ⟨⟨x4, (), rfl, rfl, by rw [ht]; exact hP, va_K.moved hW.alike hK, hD⟩, hS.F ht⟩) hS.2.2 dX3_findBelow_68
  have KE : ∀ (H : Heap) (locs : List Loc), va_P (dC, dI) vwCl ((W_Tree cI a S)) H → va_D A ((W_Tree cI a S)) → va_S A s.heap H locs → W p l e (headSpec wsX3_findBelow ({ frames := 1, cells := 0, slots := 0, locals := 24 } : Room)).room s m ([.ref (a 0), .int v1, .int v2] : List Value).toArray below meth c H locs 0 0 (MQ below (va_Qi (fun (r' : Int32) (_ : Unit) => rr = r') (fun _ : Unit => jB (dC, dI) [(cI, .int)] A ((W_Tree cI a S))) A) ([.ref (a 0), .int v1, .int v2] : List Value).toArray s 0 0 A) (F0 m 0 ls []) := by
    intro H locs hP hD hS
    unfold F_X3_findBelow at hF
    refine lv_aload_n hx hb dX3_findBelow_0 rfl (lv_at hl 0 rfl) ?_
    refine lv_iload_n hx hb dX3_findBelow_1 rfl (lv_at hl 1 rfl) ?_
    obtain ⟨r11, h12, hF⟩ := ob1_some hF
    have hPc : va_P (dC, dI) vwCl ((W_Tree cI a S)) H := hP
    have hDc : va_D A ((W_Tree cI a S)) := hD
    have hFc := jFreeW (ws := (W_Tree cI a S)) hD hS hA
    refine va_calli (va_runV (As := [.int v1]) (rest := []) ⟨hx, hb, hml, hown, hts⟩ (c_X3_has l dC dI cI a H.size _ _ _ h12) (cwV 1 hts gX3_findBelow_X3_has rfl rfl rfl (by decide +kernel) ⟨Nat.le_of_ble_eq_true rfl, Nat.le_of_ble_eq_true rfl⟩) (jPreV hK hPc hDc hN (ci := 3) rfl rfl) rfl rfl hl.1 rfl (lv_room (Nat.le_of_ble_eq_true rfl)) dX3_findBelow_2 ⟨Nat.le_of_ble_eq_true rfl, Nat.le_of_ble_eq_true rfl⟩) hS (fun q _ h => hFc q h) hFc (fun r' u' t H locs ht hvm hw hB hz1 hk1 hS => ?_)
    subst hw
    obtain ⟨hP1, -, hD1⟩ := hB
    rw [ht] at hP1
    have hP : va_P (dC, dI) vwCl ((W_Tree cI a S)) H := hP1
    have hD : va_D A ((W_Tree cI a S)) := hD1.weaken (fun _ _ _ h => hFc _ h)
    refine lv_if_ne (tgt := 10) hx hb dX3_findBelow_5 (by decide) (fun c13 => ?_) (fun c13 => ?_)
    · have hF := F_neg c13 hF
      refine lv_aload_n hx hb dX3_findBelow_10 rfl (lv_at hl 0 rfl) ?_
      refine lv_iload_n hx hb dX3_findBelow_11 rfl (lv_at hl 1 rfl) ?_
      refine lv_iconst (v := (2 : Int32)) hx hb dX3_findBelow_12 (by decide) ?_
      obtain ⟨r14, h15, hF⟩ := ob1_some hF
      have hPc : va_P (dC, dI) vwCl ((W_Tree cI a S)) H := hP
      have hDc : va_D A ((W_Tree cI a S)) := hD
      have hFc := jFreeW (ws := (W_Tree cI a S)) hD hS hA
      refine va_calli (va_runV (As := [.int v1, .int (2 : Int32)]) (rest := []) ⟨hx, hb, hml, hown, hts⟩ (c_X3_get l dC dI cI a H.size _ _ _ _ h15) (cwV 2 hts gX3_findBelow_X3_get rfl rfl rfl (by decide +kernel) ⟨Nat.le_of_ble_eq_true rfl, Nat.le_of_ble_eq_true rfl⟩) (jPreV hK hPc hDc hN (ci := 3) rfl rfl) rfl rfl hl.1 rfl (lv_room (Nat.le_of_ble_eq_true rfl)) dX3_findBelow_13 ⟨Nat.le_of_ble_eq_true rfl, Nat.le_of_ble_eq_true rfl⟩) hS (fun q _ h => hFc q h) hFc (fun r' u' t H locs ht hvm hw hB hz1 hk1 hS => ?_)
      subst hw
      obtain ⟨hP1, -, hD1⟩ := hB
      rw [ht] at hP1
      have hP : va_P (dC, dI) vwCl ((W_Tree cI a S)) H := hP1
      have hD : va_D A ((W_Tree cI a S)) := hD1.weaken (fun _ _ _ h => hFc _ h)
      refine lv_iconst (v := (1 : Int32)) hx hb dX3_findBelow_16 (by decide) ?_
      refine lv_iadd hx hb dX3_findBelow_17 ?_
      refine lv_istore_n (lv' := [(3, .int (r14 + (1 : Int32))), (0, .ref (a 0)), (1, .int v1), (2, .int v2)]) hx hb dX3_findBelow_18 rfl hl (by decide) rfl (fun ls hl => ?_)
      refine lv_iload_n hx hb dX3_findBelow_19 rfl (lv_at hl 2 rfl) ?_
      refine lv_iconst (v := (1 : Int32)) hx hb dX3_findBelow_20 (by decide) ?_
      refine lv_iadd hx hb dX3_findBelow_21 ?_
      refine lv_istore (lv' := [(4, .int (v1 + (1 : Int32))), (3, .int (r14 + (1 : Int32))), (0, .ref (a 0)), (1, .int v1), (2, .int v2)]) hx hb dX3_findBelow_22 hl (by decide) rfl (fun ls hl => ?_)
      exact K24 _ _ _ _ _ hF hP hD hS _ (lv_sub hl [2, 4, 1, 0] rfl)
    · have hF := F_pos c13 hF
      refine lv_iconst (v := (-1 : Int32)) hx hb dX3_findBelow_8 (by decide) ?_
      have e50 := Option.some.inj hF
      subst e50
      exact W.iret (v := (-1 : Int32)) hx hb hr (fun t ht hW => ⟨⟨(-1 : Int32), (), rfl, rfl, by rw [ht]; exact hP, va_K.moved hW.alike hK, hD⟩, hS.F ht⟩) hS.2.2 dX3_findBelow_9
  exact KE _ _ hP hD hS
set_option maxHeartbeats 4000000 in
set_option maxRecDepth 100000 in
theorem c_X3_moveCells (l : Launch) (dC : Nat → ClassId) (dI : Nat → Nat → Nat) (cI : ClassId) (a b : Nat → Nat) (sz : Nat) (S : (Nat → Int32)) (S1 : (Nat → Int32)) (v2 : Int32) (v4 : Int32) (v5 : Int32) (Y1 : (Nat → Int32)) (hF : F_X3_moveCells S S1 v2 v4 v5 = some Y1) : Met l yX3_moveCells wsX3_moveCells ({ frames := 1, cells := 0, slots := 0, locals := 60 } : Room) (va_Pc [.ref (a 0), .int v2, .ref (b 0), .int v4, .int v5] (jPre (dC, dI) [(cI, .int)] sz ((W_Arr576 cI a S) ++ (W_Arr576 cI b S1)))) (va_Qv (fun u : (Nat → Int32) => Y1 = u) (fun u : (Nat → Int32) => jB (dC, dI) [(cI, .int)] (va_A ((W_Arr576 cI a S) ++ (W_Arr576 cI b S1)) sz) ((W_Arr576 cI a S) ++ (W_Arr576 cI b u))) (va_A ((W_Arr576 cI a S) ++ (W_Arr576 cI b S1)) sz)) 0 0 (va_A ((W_Arr576 cI a S) ++ (W_Arr576 cI b S1)) sz) := by
  refine Met.ofW (cc := cX3_moveCells) (maxL := 8) (ret := none) (by decide) rfl ?_
  intro p e s m args below meth c s₁ B hml hv
  obtain ⟨rfl, hsz, hP, hK, hD0, hN⟩ := hv
  have hx := B.exec
  have hb := B.bytes
  have hr := B.returns
  have hts := atoms_spec (ws := wsX3_moveCells) B.pre
  have hown : s.vm.findClass RX3 = some m.cls := findClass_of_methodNamed B.named
  have hlocks := B.notSynchronized
  subst hsz
  have hD := hD0.self (sz := s.heap.size)
  generalize hAe : (va_A ((W_Arr576 cI a S) ++ (W_Arr576 cI b S1)) s.heap.size) = A at hD ⊢
  have hA : ∀ q : Nat, s.heap.size ≤ q → A q := fun q h => by rw [← hAe]; exact Or.inr h
  have hS : va_S A s.heap s.heap [] := va_S.rf
  have hl := lv_entry ([.ref (a 0), .int v2, .ref (b 0), .int v4, .int v5]) (n := 8) (Nat.le_of_ble_eq_true rfl)
  rw [lg_entry_eq]
  generalize (lg_sl ([.ref (a 0), .int v2, .ref (b 0), .int v4, .int v5]) ++ List.replicate (8 - (lg_sl ([.ref (a 0), .int v2, .ref (b 0), .int v4, .int v5])).length) Slot.unset).toArray = ls at hl ⊢
  have hl : lv_has ls 8 [(0, .ref (a 0)), (1, .int v2), (2, .ref (b 0)), (3, .int v4), (4, .int v5)] := hl
  have KE : ∀ (H : Heap) (locs : List Loc), va_P (dC, dI) vwCl ((W_Arr576 cI a S) ++ (W_Arr576 cI b S1)) H → va_D A ((W_Arr576 cI a S) ++ (W_Arr576 cI b S1)) → va_S A s.heap H locs → W p l e (headSpec wsX3_moveCells ({ frames := 1, cells := 0, slots := 0, locals := 60 } : Room)).room s m ([.ref (a 0), .int v2, .ref (b 0), .int v4, .int v5] : List Value).toArray below meth c H locs 0 0 (MQ below (va_Qv (fun u : (Nat → Int32) => Y1 = u) (fun u : (Nat → Int32) => jB (dC, dI) [(cI, .int)] A ((W_Arr576 cI a S) ++ (W_Arr576 cI b u))) A) ([.ref (a 0), .int v2, .ref (b 0), .int v4, .int v5] : List Value).toArray s 0 0 A) (F0 m 0 ls []) := by
    intro H locs hP hD hS
    unfold F_X3_moveCells at hF
    refine lv_iload_n hx hb dX3_moveCells_0 rfl (lv_at hl 1 rfl) ?_
    refine lv_bipush (v := (9 : Int32)) hx hb dX3_moveCells_1 (by decide) ?_
    refine lv_imul hx hb dX3_moveCells_3 ?_
    refine lv_istore (lv' := [(5, .int (v2 * (9 : Int32))), (0, .ref (a 0)), (1, .int v2), (2, .ref (b 0)), (3, .int v4), (4, .int v5)]) hx hb dX3_moveCells_4 hl (by decide) rfl (fun ls hl => ?_)
    refine lv_iload_n hx hb dX3_moveCells_6 rfl (lv_at hl 4 rfl) ?_
    refine lv_bipush (v := (9 : Int32)) hx hb dX3_moveCells_7 (by decide) ?_
    refine lv_imul hx hb dX3_moveCells_9 ?_
    refine lv_istore (lv' := [(6, .int (v4 * (9 : Int32))), (5, .int (v2 * (9 : Int32))), (0, .ref (a 0)), (1, .int v2), (2, .ref (b 0)), (3, .int v4), (4, .int v5)]) hx hb dX3_moveCells_10 hl (by decide) rfl (fun ls hl => ?_)
    refine lv_iload hx hb dX3_moveCells_12 (lv_at hl 6 rfl) ?_
    refine lv_bipush (v := (9 : Int32)) hx hb dX3_moveCells_14 (by decide) ?_
    refine lv_imul hx hb dX3_moveCells_16 ?_
    refine lv_istore (lv' := [(7, .int (v5 * (9 : Int32))), (6, .int (v4 * (9 : Int32))), (5, .int (v2 * (9 : Int32))), (0, .ref (a 0)), (1, .int v2), (2, .ref (b 0)), (3, .int v4), (4, .int v5)]) hx hb dX3_moveCells_17 hl (by decide) rfl (fun ls hl => ?_)
    refine lv_iload hx hb dX3_moveCells_19 (lv_at hl 2 rfl) ?_
    refine lv_if_lt (tgt := 65) hx hb dX3_moveCells_21 (by decide) (fun c1 => ?_) (fun c1 => ?_)
    · have hF := F_pos c1 hF
      have e50 := Option.some.inj hF
      subst e50
      exact W.vret hx hb hr (fun t ht hW => ⟨⟨S1, rfl, rfl, by rw [ht]; exact hP, va_K.moved hW.alike hK, hD⟩, hS.F ht⟩) hS.2.2 dX3_moveCells_65
    · have hF := F_neg c1 hF
      refine lv_iload hx hb dX3_moveCells_24 (lv_at hl 1 rfl) ?_
      refine lv_if_lt (tgt := 65) hx hb dX3_moveCells_26 (by decide) (fun c2 => ?_) (fun c2 => ?_)
      · have hF := F_pos c2 hF
        have e50 := Option.some.inj hF
        subst e50
        exact W.vret hx hb hr (fun t ht hW => ⟨⟨S1, rfl, rfl, by rw [ht]; exact hP, va_K.moved hW.alike hK, hD⟩, hS.F ht⟩) hS.2.2 dX3_moveCells_65
      · have hF := F_neg c2 hF
        refine lv_iload hx hb dX3_moveCells_29 (lv_at hl 0 rfl) ?_
        refine lv_if_le (tgt := 65) hx hb dX3_moveCells_31 (by decide) (fun c3 => ?_) (fun c3 => ?_)
        · have hF := F_pos c3 hF
          have e50 := Option.some.inj hF
          subst e50
          exact W.vret hx hb hr (fun t ht hW => ⟨⟨S1, rfl, rfl, by rw [ht]; exact hP, va_K.moved hW.alike hK, hD⟩, hS.F ht⟩) hS.2.2 dX3_moveCells_65
        · have hF := F_neg c3 hF
          refine lv_iload hx hb dX3_moveCells_34 (lv_at hl 0 rfl) ?_
          refine lv_aload_n hx hb dX3_moveCells_36 rfl (lv_at hl 3 rfl) ?_
          refine va_alen (v := (576 : Int32)) hx hb hK hP 0 0 rfl rfl rfl dX3_moveCells_37 ?_
          refine lv_iload hx hb dX3_moveCells_38 (lv_at hl 2 rfl) ?_
          refine lv_isub hx hb dX3_moveCells_40 ?_
          refine lv_icmp_gt (tgt := 65) hx hb dX3_moveCells_41 (by decide) (fun c4 => ?_) (fun c4 => ?_)
          · have hF := F_pos c4 hF
            have e50 := Option.some.inj hF
            subst e50
            exact W.vret hx hb hr (fun t ht hW => ⟨⟨S1, rfl, rfl, by rw [ht]; exact hP, va_K.moved hW.alike hK, hD⟩, hS.F ht⟩) hS.2.2 dX3_moveCells_65
          · have hF := F_neg c4 hF
            refine lv_iload hx hb dX3_moveCells_44 (lv_at hl 0 rfl) ?_
            refine lv_aload_n hx hb dX3_moveCells_46 rfl (lv_at hl 5 rfl) ?_
            refine va_alen (v := (576 : Int32)) hx hb hK hP 1 0 rfl rfl rfl dX3_moveCells_47 ?_
            refine lv_iload hx hb dX3_moveCells_48 (lv_at hl 1 rfl) ?_
            refine lv_isub hx hb dX3_moveCells_50 ?_
            refine lv_icmp_gt (tgt := 65) hx hb dX3_moveCells_51 (by decide) (fun c5 => ?_) (fun c5 => ?_)
            · have hF := F_pos c5 hF
              have e50 := Option.some.inj hF
              subst e50
              exact W.vret hx hb hr (fun t ht hW => ⟨⟨S1, rfl, rfl, by rw [ht]; exact hP, va_K.moved hW.alike hK, hD⟩, hS.F ht⟩) hS.2.2 dX3_moveCells_65
            · have hF := F_neg c5 hF
              refine lv_aload_n hx hb dX3_moveCells_54 rfl (lv_at hl 3 rfl) ?_
              refine lv_iload hx hb dX3_moveCells_55 (lv_at hl 2 rfl) ?_
              refine lv_aload_n hx hb dX3_moveCells_57 rfl (lv_at hl 5 rfl) ?_
              refine lv_iload hx hb dX3_moveCells_58 (lv_at hl 1 rfl) ?_
              refine lv_iload hx hb dX3_moveCells_60 (lv_at hl 0 rfl) ?_
              obtain ⟨g6, hF⟩ := og_some hF
              obtain ⟨g61, g62, g63, g64, g65⟩ := cpok_of g6
              refine va_copyi (f := S) (g := S1) hx hb (hml.trans hl.1.symm) hown (hts (Cond.methodLink RX3 26 arraycopyName) (List.mem_of_getElem? (i := 1) rfl)) (hts (Cond.native arraycopyName) (List.mem_of_getElem? (i := 2) rfl)) (hts (Cond.static arraycopyName) (List.mem_of_getElem? (i := 3) rfl)) (hts (Cond.initialized "java/lang/System") (List.mem_of_getElem? (i := 4) rfl)) hK hP hD hS 0 1 0 0 rfl rfl rfl rfl rfl g61 g62 g63 g64 g65 (fun _ _ => rfl) (Nat.le_of_ble_eq_true rfl) (Nat.le_of_ble_eq_true rfl) dX3_moveCells_62 (fun H locs hP hD hS => ?_)
              have hP : va_P (dC, dI) vwCl ((W_Arr576 cI a S) ++ (W_Arr576 cI b (va_cpy S S1 (v2 * (9 : Int32)).toNatClampNeg (v4 * (9 : Int32)).toNatClampNeg (v5 * (9 : Int32)).toNatClampNeg))) H := hP
              have hD : va_D A ((W_Arr576 cI a S) ++ (W_Arr576 cI b (va_cpy S S1 (v2 * (9 : Int32)).toNatClampNeg (v4 * (9 : Int32)).toNatClampNeg (v5 * (9 : Int32)).toNatClampNeg))) := hD
              have e50 := Option.some.inj hF
              subst e50
              exact W.vret hx hb hr (fun t ht hW => ⟨⟨(va_cpy S S1 (v2 * (9 : Int32)).toNatClampNeg (v4 * (9 : Int32)).toNatClampNeg (v5 * (9 : Int32)).toNatClampNeg), rfl, rfl, by rw [ht]; exact hP, va_K.moved hW.alike hK, hD⟩, hS.F ht⟩) hS.2.2 dX3_moveCells_65
  exact KE _ _ hP hD hS
set_option maxHeartbeats 4000000 in
set_option maxRecDepth 100000 in
theorem c_X3_moveCells_same (l : Launch) (dC : Nat → ClassId) (dI : Nat → Nat → Nat) (cI : ClassId) (a : Nat → Nat) (sz : Nat) (S : (Nat → Int32)) (v2 : Int32) (v4 : Int32) (v5 : Int32) (Y1 : (Nat → Int32)) (hF : F_X3_moveCells S S v2 v4 v5 = some Y1) : Met l yX3_moveCells wsX3_moveCells ({ frames := 1, cells := 0, slots := 0, locals := 60 } : Room) (va_Pc [.ref (a 0), .int v2, .ref (a 0), .int v4, .int v5] (jPre (dC, dI) [(cI, .int)] sz ((W_Arr576 cI a S)))) (va_Qv (fun u : (Nat → Int32) => Y1 = u) (fun u : (Nat → Int32) => jB (dC, dI) [(cI, .int)] (va_A ((W_Arr576 cI a S)) sz) ((W_Arr576 cI a u))) (va_A ((W_Arr576 cI a S)) sz)) 0 0 (va_A ((W_Arr576 cI a S)) sz) := by
  refine Met.ofW (cc := cX3_moveCells) (maxL := 8) (ret := none) (by decide) rfl ?_
  intro p e s m args below meth c s₁ B hml hv
  obtain ⟨rfl, hsz, hP, hK, hD0, hN⟩ := hv
  have hx := B.exec
  have hb := B.bytes
  have hr := B.returns
  have hts := atoms_spec (ws := wsX3_moveCells) B.pre
  have hown : s.vm.findClass RX3 = some m.cls := findClass_of_methodNamed B.named
  have hlocks := B.notSynchronized
  subst hsz
  have hD := hD0.self (sz := s.heap.size)
  generalize hAe : (va_A ((W_Arr576 cI a S)) s.heap.size) = A at hD ⊢
  have hA : ∀ q : Nat, s.heap.size ≤ q → A q := fun q h => by rw [← hAe]; exact Or.inr h
  have hS : va_S A s.heap s.heap [] := va_S.rf
  have hl := lv_entry ([.ref (a 0), .int v2, .ref (a 0), .int v4, .int v5]) (n := 8) (Nat.le_of_ble_eq_true rfl)
  rw [lg_entry_eq]
  generalize (lg_sl ([.ref (a 0), .int v2, .ref (a 0), .int v4, .int v5]) ++ List.replicate (8 - (lg_sl ([.ref (a 0), .int v2, .ref (a 0), .int v4, .int v5])).length) Slot.unset).toArray = ls at hl ⊢
  have hl : lv_has ls 8 [(0, .ref (a 0)), (1, .int v2), (2, .ref (a 0)), (3, .int v4), (4, .int v5)] := hl
  have KE : ∀ (H : Heap) (locs : List Loc), va_P (dC, dI) vwCl ((W_Arr576 cI a S)) H → va_D A ((W_Arr576 cI a S)) → va_S A s.heap H locs → W p l e (headSpec wsX3_moveCells ({ frames := 1, cells := 0, slots := 0, locals := 60 } : Room)).room s m ([.ref (a 0), .int v2, .ref (a 0), .int v4, .int v5] : List Value).toArray below meth c H locs 0 0 (MQ below (va_Qv (fun u : (Nat → Int32) => Y1 = u) (fun u : (Nat → Int32) => jB (dC, dI) [(cI, .int)] A ((W_Arr576 cI a u))) A) ([.ref (a 0), .int v2, .ref (a 0), .int v4, .int v5] : List Value).toArray s 0 0 A) (F0 m 0 ls []) := by
    intro H locs hP hD hS
    unfold F_X3_moveCells at hF
    refine lv_iload_n hx hb dX3_moveCells_0 rfl (lv_at hl 1 rfl) ?_
    refine lv_bipush (v := (9 : Int32)) hx hb dX3_moveCells_1 (by decide) ?_
    refine lv_imul hx hb dX3_moveCells_3 ?_
    refine lv_istore (lv' := [(5, .int (v2 * (9 : Int32))), (0, .ref (a 0)), (1, .int v2), (2, .ref (a 0)), (3, .int v4), (4, .int v5)]) hx hb dX3_moveCells_4 hl (by decide) rfl (fun ls hl => ?_)
    refine lv_iload_n hx hb dX3_moveCells_6 rfl (lv_at hl 4 rfl) ?_
    refine lv_bipush (v := (9 : Int32)) hx hb dX3_moveCells_7 (by decide) ?_
    refine lv_imul hx hb dX3_moveCells_9 ?_
    refine lv_istore (lv' := [(6, .int (v4 * (9 : Int32))), (5, .int (v2 * (9 : Int32))), (0, .ref (a 0)), (1, .int v2), (2, .ref (a 0)), (3, .int v4), (4, .int v5)]) hx hb dX3_moveCells_10 hl (by decide) rfl (fun ls hl => ?_)
    refine lv_iload hx hb dX3_moveCells_12 (lv_at hl 6 rfl) ?_
    refine lv_bipush (v := (9 : Int32)) hx hb dX3_moveCells_14 (by decide) ?_
    refine lv_imul hx hb dX3_moveCells_16 ?_
    refine lv_istore (lv' := [(7, .int (v5 * (9 : Int32))), (6, .int (v4 * (9 : Int32))), (5, .int (v2 * (9 : Int32))), (0, .ref (a 0)), (1, .int v2), (2, .ref (a 0)), (3, .int v4), (4, .int v5)]) hx hb dX3_moveCells_17 hl (by decide) rfl (fun ls hl => ?_)
    refine lv_iload hx hb dX3_moveCells_19 (lv_at hl 2 rfl) ?_
    refine lv_if_lt (tgt := 65) hx hb dX3_moveCells_21 (by decide) (fun c1 => ?_) (fun c1 => ?_)
    · have hF := F_pos c1 hF
      have e50 := Option.some.inj hF
      subst e50
      exact W.vret hx hb hr (fun t ht hW => ⟨⟨S, rfl, rfl, by rw [ht]; exact hP, va_K.moved hW.alike hK, hD⟩, hS.F ht⟩) hS.2.2 dX3_moveCells_65
    · have hF := F_neg c1 hF
      refine lv_iload hx hb dX3_moveCells_24 (lv_at hl 1 rfl) ?_
      refine lv_if_lt (tgt := 65) hx hb dX3_moveCells_26 (by decide) (fun c2 => ?_) (fun c2 => ?_)
      · have hF := F_pos c2 hF
        have e50 := Option.some.inj hF
        subst e50
        exact W.vret hx hb hr (fun t ht hW => ⟨⟨S, rfl, rfl, by rw [ht]; exact hP, va_K.moved hW.alike hK, hD⟩, hS.F ht⟩) hS.2.2 dX3_moveCells_65
      · have hF := F_neg c2 hF
        refine lv_iload hx hb dX3_moveCells_29 (lv_at hl 0 rfl) ?_
        refine lv_if_le (tgt := 65) hx hb dX3_moveCells_31 (by decide) (fun c3 => ?_) (fun c3 => ?_)
        · have hF := F_pos c3 hF
          have e50 := Option.some.inj hF
          subst e50
          exact W.vret hx hb hr (fun t ht hW => ⟨⟨S, rfl, rfl, by rw [ht]; exact hP, va_K.moved hW.alike hK, hD⟩, hS.F ht⟩) hS.2.2 dX3_moveCells_65
        · have hF := F_neg c3 hF
          refine lv_iload hx hb dX3_moveCells_34 (lv_at hl 0 rfl) ?_
          refine lv_aload_n hx hb dX3_moveCells_36 rfl (lv_at hl 3 rfl) ?_
          refine va_alen (v := (576 : Int32)) hx hb hK hP 0 0 rfl rfl rfl dX3_moveCells_37 ?_
          refine lv_iload hx hb dX3_moveCells_38 (lv_at hl 2 rfl) ?_
          refine lv_isub hx hb dX3_moveCells_40 ?_
          refine lv_icmp_gt (tgt := 65) hx hb dX3_moveCells_41 (by decide) (fun c4 => ?_) (fun c4 => ?_)
          · have hF := F_pos c4 hF
            have e50 := Option.some.inj hF
            subst e50
            exact W.vret hx hb hr (fun t ht hW => ⟨⟨S, rfl, rfl, by rw [ht]; exact hP, va_K.moved hW.alike hK, hD⟩, hS.F ht⟩) hS.2.2 dX3_moveCells_65
          · have hF := F_neg c4 hF
            refine lv_iload hx hb dX3_moveCells_44 (lv_at hl 0 rfl) ?_
            refine lv_aload_n hx hb dX3_moveCells_46 rfl (lv_at hl 5 rfl) ?_
            refine va_alen (v := (576 : Int32)) hx hb hK hP 0 0 rfl rfl rfl dX3_moveCells_47 ?_
            refine lv_iload hx hb dX3_moveCells_48 (lv_at hl 1 rfl) ?_
            refine lv_isub hx hb dX3_moveCells_50 ?_
            refine lv_icmp_gt (tgt := 65) hx hb dX3_moveCells_51 (by decide) (fun c5 => ?_) (fun c5 => ?_)
            · have hF := F_pos c5 hF
              have e50 := Option.some.inj hF
              subst e50
              exact W.vret hx hb hr (fun t ht hW => ⟨⟨S, rfl, rfl, by rw [ht]; exact hP, va_K.moved hW.alike hK, hD⟩, hS.F ht⟩) hS.2.2 dX3_moveCells_65
            · have hF := F_neg c5 hF
              refine lv_aload_n hx hb dX3_moveCells_54 rfl (lv_at hl 3 rfl) ?_
              refine lv_iload hx hb dX3_moveCells_55 (lv_at hl 2 rfl) ?_
              refine lv_aload_n hx hb dX3_moveCells_57 rfl (lv_at hl 5 rfl) ?_
              refine lv_iload hx hb dX3_moveCells_58 (lv_at hl 1 rfl) ?_
              refine lv_iload hx hb dX3_moveCells_60 (lv_at hl 0 rfl) ?_
              obtain ⟨g6, hF⟩ := og_some hF
              obtain ⟨g61, g62, g63, g64, g65⟩ := cpok_of g6
              refine va_copyi (f := S) (g := S) hx hb (hml.trans hl.1.symm) hown (hts (Cond.methodLink RX3 26 arraycopyName) (List.mem_of_getElem? (i := 1) rfl)) (hts (Cond.native arraycopyName) (List.mem_of_getElem? (i := 2) rfl)) (hts (Cond.static arraycopyName) (List.mem_of_getElem? (i := 3) rfl)) (hts (Cond.initialized "java/lang/System") (List.mem_of_getElem? (i := 4) rfl)) hK hP hD hS 0 0 0 0 rfl rfl rfl rfl rfl g61 g62 g63 g64 g65 (fun _ _ => rfl) (Nat.le_of_ble_eq_true rfl) (Nat.le_of_ble_eq_true rfl) dX3_moveCells_62 (fun H locs hP hD hS => ?_)
              have hP : va_P (dC, dI) vwCl ((W_Arr576 cI a (va_cpy S S (v2 * (9 : Int32)).toNatClampNeg (v4 * (9 : Int32)).toNatClampNeg (v5 * (9 : Int32)).toNatClampNeg))) H := hP
              have hD : va_D A ((W_Arr576 cI a (va_cpy S S (v2 * (9 : Int32)).toNatClampNeg (v4 * (9 : Int32)).toNatClampNeg (v5 * (9 : Int32)).toNatClampNeg))) := hD
              have e50 := Option.some.inj hF
              subst e50
              exact W.vret hx hb hr (fun t ht hW => ⟨⟨(va_cpy S S (v2 * (9 : Int32)).toNatClampNeg (v4 * (9 : Int32)).toNatClampNeg (v5 * (9 : Int32)).toNatClampNeg), rfl, rfl, by rw [ht]; exact hP, va_K.moved hW.alike hK, hD⟩, hS.F ht⟩) hS.2.2 dX3_moveCells_65
  exact KE _ _ hP hD hS
set_option maxHeartbeats 4000000 in
set_option maxRecDepth 100000 in
theorem c_X3_startRow (l : Launch) (dC : Nat → ClassId) (dI : Nat → Nat → Nat) (cI : ClassId) (a : Nat → Nat) (sz : Nat) (S : S_Tree) (v1 : Int32) (v2 : Int32) (v3 : Int32) (Y : S_Tree) (hF : F_X3_startRow S v1 v2 v3 = some Y) : Met l yX3_startRow wsX3_startRow ({ frames := 1, cells := 0, slots := 0, locals := 24 } : Room) (va_Pc [.ref (a 0), .int v1, .int v2, .int v3] (jPre (dC, dI) [(cI, .int)] sz ((W_Tree cI a S)))) (va_Qv (fun u : S_Tree => Y = u) (fun u : S_Tree => jB (dC, dI) [(cI, .int)] (va_A ((W_Tree cI a S)) sz) ((W_Tree cI a u))) (va_A ((W_Tree cI a S)) sz)) 0 0 (va_A ((W_Tree cI a S)) sz) := by
  refine Met.ofW (cc := cX3_startRow) (maxL := 5) (ret := none) (by decide) rfl ?_
  intro p e s m args below meth c s₁ B hml hv
  obtain ⟨rfl, hsz, hP, hK, hD0, hN⟩ := hv
  have hx := B.exec
  have hb := B.bytes
  have hr := B.returns
  have hts := atoms_spec (ws := wsX3_startRow) B.pre
  have hown : s.vm.findClass RX3 = some m.cls := findClass_of_methodNamed B.named
  have hlocks := B.notSynchronized
  subst hsz
  have hD := hD0.self (sz := s.heap.size)
  generalize hAe : (va_A ((W_Tree cI a S)) s.heap.size) = A at hD ⊢
  have hA : ∀ q : Nat, s.heap.size ≤ q → A q := fun q h => by rw [← hAe]; exact Or.inr h
  have hS : va_S A s.heap s.heap [] := va_S.rf
  have hl := lv_entry ([.ref (a 0), .int v1, .int v2, .int v3]) (n := 5) (Nat.le_of_ble_eq_true rfl)
  rw [lg_entry_eq]
  generalize (lg_sl ([.ref (a 0), .int v1, .int v2, .int v3]) ++ List.replicate (5 - (lg_sl ([.ref (a 0), .int v1, .int v2, .int v3])).length) Slot.unset).toArray = ls at hl ⊢
  have hl : lv_has ls 5 [(0, .ref (a 0)), (1, .int v1), (2, .int v2), (3, .int v3)] := hl
  have K3 : ∀ (n3 : Nat) (S : S_Tree) (x4 : Int32) (H : Heap) (locs : List Loc), F_X3_startRow_3 v1 v2 v3 n3 S x4 = some Y → va_P (dC, dI) vwCl ((W_Tree cI a S)) H → va_D A ((W_Tree cI a S)) → va_S A s.heap H locs → ∀ ls : Array Slot, lv_has ls 5 [(0, .ref (a 0)), (1, .int v1), (2, .int v2), (3, .int v3), (4, .int x4)] → W p l e (headSpec wsX3_startRow ({ frames := 1, cells := 0, slots := 0, locals := 24 } : Room)).room s m ([.ref (a 0), .int v1, .int v2, .int v3] : List Value).toArray below meth c H locs 0 0 (MQ below (va_Qv (fun u : S_Tree => Y = u) (fun u : S_Tree => jB (dC, dI) [(cI, .int)] A ((W_Tree cI a u))) A) ([.ref (a 0), .int v1, .int v2, .int v3] : List Value).toArray s 0 0 A) (F0 m 3 ls []) := by
    intro n3
    induction n3 with
    | zero => intro S x4 H locs hF; exact nomatch hF
    | succ n3 ih3 =>
      intro S x4 H locs hF hP hD hS ls hl
      rw [F_X3_startRow_3_s] at hF
      refine lv_iload hx hb dX3_startRow_3 (lv_at hl 4 rfl) ?_
      refine lv_bipush (v := (9 : Int32)) hx hb dX3_startRow_5 (by decide) ?_
      refine lv_icmp_ge (tgt := 24) hx hb dX3_startRow_7 (by decide) (fun c1 => ?_) (fun c1 => ?_)
      · have hF := F_pos c1 hF
        refine lv_aload_n hx hb dX3_startRow_24 rfl (lv_at hl 0 rfl) ?_
        refine lv_iload_n hx hb dX3_startRow_25 rfl (lv_at hl 1 rfl) ?_
        refine lv_iconst (v := (1 : Int32)) hx hb dX3_startRow_26 (by decide) ?_
        refine lv_iload_n hx hb dX3_startRow_27 rfl (lv_at hl 2 rfl) ?_
        obtain ⟨u2, h3, hF⟩ := ob1_some hF
        have hPc : va_P (dC, dI) vwCl ((W_Tree cI a S)) H := hP
        have hDc : va_D A ((W_Tree cI a S)) := hD
        have hFc := jFreeW (ws := (W_Tree cI a S)) hD hS hA
        refine va_callv (va_runV (As := [.int v1, .int (1 : Int32), .int v2]) (rest := []) ⟨hx, hb, hml, hown, hts⟩ (c_X3_put l dC dI cI a H.size _ _ _ _ _ h3) (cwV 3 hts gX3_startRow_X3_put rfl rfl rfl (by decide +kernel) ⟨Nat.le_of_ble_eq_true rfl, Nat.le_of_ble_eq_true rfl⟩) (jPreV hK hPc hDc hN (ci := 3) rfl rfl) rfl rfl hl.1 rfl (lv_room (Nat.le_of_ble_eq_true rfl)) dX3_startRow_28 ⟨Nat.le_of_ble_eq_true rfl, Nat.le_of_ble_eq_true rfl⟩) hS (fun q _ h => hFc q h) hFc (fun u' t H locs ht hvm hw hB hz1 hk1 hS => ?_)
        subst hw
        obtain ⟨hP1, -, hD1⟩ := hB
        rw [ht] at hP1
        have hP : va_P (dC, dI) vwCl ((W_Tree cI a u2)) H := hP1
        have hD : va_D A ((W_Tree cI a u2)) := hD1.weaken (fun _ _ _ h => hFc _ h)
        refine lv_aload_n hx hb dX3_startRow_31 rfl (lv_at hl 0 rfl) ?_
        refine lv_iload_n hx hb dX3_startRow_32 rfl (lv_at hl 1 rfl) ?_
        refine lv_iconst (v := (2 : Int32)) hx hb dX3_startRow_33 (by decide) ?_
        refine lv_iload_n hx hb dX3_startRow_34 rfl (lv_at hl 3 rfl) ?_
        obtain ⟨u4, h5, hF⟩ := ob1_some hF
        have hPc : va_P (dC, dI) vwCl ((W_Tree cI a u2)) H := hP
        have hDc : va_D A ((W_Tree cI a u2)) := hD
        have hFc := jFreeW (ws := (W_Tree cI a u2)) hD hS hA
        refine va_callv (va_runV (As := [.int v1, .int (2 : Int32), .int v3]) (rest := []) ⟨hx, hb, hml, hown, hts⟩ (c_X3_put l dC dI cI a H.size _ _ _ _ _ h5) (cwV 3 hts gX3_startRow_X3_put rfl rfl rfl (by decide +kernel) ⟨Nat.le_of_ble_eq_true rfl, Nat.le_of_ble_eq_true rfl⟩) (jPreV hK hPc hDc hN (ci := 3) rfl rfl) rfl rfl hl.1 rfl (lv_room (Nat.le_of_ble_eq_true rfl)) dX3_startRow_35 ⟨Nat.le_of_ble_eq_true rfl, Nat.le_of_ble_eq_true rfl⟩) hS (fun q _ h => hFc q h) hFc (fun u' t H locs ht hvm hw hB hz1 hk1 hS => ?_)
        subst hw
        obtain ⟨hP1, -, hD1⟩ := hB
        rw [ht] at hP1
        have hP : va_P (dC, dI) vwCl ((W_Tree cI a u4)) H := hP1
        have hD : va_D A ((W_Tree cI a u4)) := hD1.weaken (fun _ _ _ h => hFc _ h)
        refine lv_aload_n hx hb dX3_startRow_38 rfl (lv_at hl 0 rfl) ?_
        refine lv_iload_n hx hb dX3_startRow_39 rfl (lv_at hl 1 rfl) ?_
        refine lv_bipush (v := (7 : Int32)) hx hb dX3_startRow_40 (by decide) ?_
        refine lv_iconst (v := (-1 : Int32)) hx hb dX3_startRow_42 (by decide) ?_
        obtain ⟨u6, h7, hF⟩ := ob1_some hF
        have hPc : va_P (dC, dI) vwCl ((W_Tree cI a u4)) H := hP
        have hDc : va_D A ((W_Tree cI a u4)) := hD
        have hFc := jFreeW (ws := (W_Tree cI a u4)) hD hS hA
        refine va_callv (va_runV (As := [.int v1, .int (7 : Int32), .int (-1 : Int32)]) (rest := []) ⟨hx, hb, hml, hown, hts⟩ (c_X3_put l dC dI cI a H.size _ _ _ _ _ h7) (cwV 3 hts gX3_startRow_X3_put rfl rfl rfl (by decide +kernel) ⟨Nat.le_of_ble_eq_true rfl, Nat.le_of_ble_eq_true rfl⟩) (jPreV hK hPc hDc hN (ci := 3) rfl rfl) rfl rfl hl.1 rfl (lv_room (Nat.le_of_ble_eq_true rfl)) dX3_startRow_43 ⟨Nat.le_of_ble_eq_true rfl, Nat.le_of_ble_eq_true rfl⟩) hS (fun q _ h => hFc q h) hFc (fun u' t H locs ht hvm hw hB hz1 hk1 hS => ?_)
        subst hw
        obtain ⟨hP1, -, hD1⟩ := hB
        rw [ht] at hP1
        have hP : va_P (dC, dI) vwCl ((W_Tree cI a u6)) H := hP1
        have hD : va_D A ((W_Tree cI a u6)) := hD1.weaken (fun _ _ _ h => hFc _ h)
        have e50 := Option.some.inj hF
        subst e50
        exact W.vret hx hb hr (fun t ht hW => ⟨⟨u6, rfl, rfl, by rw [ht]; exact hP, va_K.moved hW.alike hK, hD⟩, hS.F ht⟩) hS.2.2 dX3_startRow_46
      · have hF := F_neg c1 hF
        refine lv_aload_n hx hb dX3_startRow_10 rfl (lv_at hl 0 rfl) ?_
        refine lv_iload_n hx hb dX3_startRow_11 rfl (lv_at hl 1 rfl) ?_
        refine lv_iload hx hb dX3_startRow_12 (lv_at hl 4 rfl) ?_
        refine lv_iconst (v := (0 : Int32)) hx hb dX3_startRow_14 (by decide) ?_
        obtain ⟨u8, h9, hF⟩ := ob1_some hF
        have hPc : va_P (dC, dI) vwCl ((W_Tree cI a S)) H := hP
        have hDc : va_D A ((W_Tree cI a S)) := hD
        have hFc := jFreeW (ws := (W_Tree cI a S)) hD hS hA
        refine va_callv (va_runV (As := [.int v1, .int x4, .int (0 : Int32)]) (rest := []) ⟨hx, hb, hml, hown, hts⟩ (c_X3_put l dC dI cI a H.size _ _ _ _ _ h9) (cwV 3 hts gX3_startRow_X3_put rfl rfl rfl (by decide +kernel) ⟨Nat.le_of_ble_eq_true rfl, Nat.le_of_ble_eq_true rfl⟩) (jPreV hK hPc hDc hN (ci := 3) rfl rfl) rfl rfl hl.1 rfl (lv_room (Nat.le_of_ble_eq_true rfl)) dX3_startRow_15 ⟨Nat.le_of_ble_eq_true rfl, Nat.le_of_ble_eq_true rfl⟩) hS (fun q _ h => hFc q h) hFc (fun u' t H locs ht hvm hw hB hz1 hk1 hS => ?_)
        subst hw
        obtain ⟨hP1, -, hD1⟩ := hB
        rw [ht] at hP1
        have hP : va_P (dC, dI) vwCl ((W_Tree cI a u8)) H := hP1
        have hD : va_D A ((W_Tree cI a u8)) := hD1.weaken (fun _ _ _ h => hFc _ h)
        refine lv_iinc (v := (x4 + (1 : Int32))) (lv' := [(4, .int (x4 + (1 : Int32))), (0, .ref (a 0)), (1, .int v1), (2, .int v2), (3, .int v3)]) hx hb dX3_startRow_18 hl (k := 4) rfl rfl (by decide) rfl (fun ls hl => ?_)
        refine lv_goto (tgt := 3) hx hb dX3_startRow_21 (by decide) ?_
        exact ih3 _ _ _ _ hF hP hD hS _ (lv_sub hl [1, 2, 3, 4, 0] rfl)
  have KE : ∀ (H : Heap) (locs : List Loc), va_P (dC, dI) vwCl ((W_Tree cI a S)) H → va_D A ((W_Tree cI a S)) → va_S A s.heap H locs → W p l e (headSpec wsX3_startRow ({ frames := 1, cells := 0, slots := 0, locals := 24 } : Room)).room s m ([.ref (a 0), .int v1, .int v2, .int v3] : List Value).toArray below meth c H locs 0 0 (MQ below (va_Qv (fun u : S_Tree => Y = u) (fun u : S_Tree => jB (dC, dI) [(cI, .int)] A ((W_Tree cI a u))) A) ([.ref (a 0), .int v1, .int v2, .int v3] : List Value).toArray s 0 0 A) (F0 m 0 ls []) := by
    intro H locs hP hD hS
    unfold F_X3_startRow at hF
    refine lv_iconst (v := (0 : Int32)) hx hb dX3_startRow_0 (by decide) ?_
    refine lv_istore (lv' := [(4, .int (0 : Int32)), (0, .ref (a 0)), (1, .int v1), (2, .int v2), (3, .int v3)]) hx hb dX3_startRow_1 hl (by decide) rfl (fun ls hl => ?_)
    exact K3 _ _ _ _ _ hF hP hD hS _ (lv_sub hl [1, 2, 3, 4, 0] rfl)
  exact KE _ _ hP hD hS
set_option maxHeartbeats 4000000 in
set_option maxRecDepth 100000 in
theorem c_X3_insertBelow (l : Launch) (dC : Nat → ClassId) (dI : Nat → Nat → Nat) (cI : ClassId) (a : Nat → Nat) (sz : Nat) (S : S_Tree) (v1 : Int32) (v2 : Int32) (rr : Int32) (Y : S_Tree) (hF : F_X3_insertBelow S v1 v2 = some (rr, Y)) : Met l yX3_insertBelow wsX3_insertBelow ({ frames := 2, cells := 0, slots := 0, locals := 87 } : Room) (va_Pc [.ref (a 0), .int v1, .int v2] (jPre (dC, dI) [(cI, .int)] sz ((W_Tree cI a S)))) (va_Qi (fun (r' : Int32) (u : S_Tree) => rr = r' ∧ Y = u) (fun u : S_Tree => jB (dC, dI) [(cI, .int)] (va_A ((W_Tree cI a S)) sz) ((W_Tree cI a u))) (va_A ((W_Tree cI a S)) sz)) 0 0 (va_A ((W_Tree cI a S)) sz) := by
  refine Met.ofW (cc := cX3_insertBelow) (maxL := 5) (ret := (some .int)) (by decide) rfl ?_
  intro p e s m args below meth c s₁ B hml hv
  obtain ⟨rfl, hsz, hP, hK, hD0, hN⟩ := hv
  have hx := B.exec
  have hb := B.bytes
  have hr := B.returns
  have hts := atoms_spec (ws := wsX3_insertBelow) B.pre
  have hown : s.vm.findClass RX3 = some m.cls := findClass_of_methodNamed B.named
  have hlocks := B.notSynchronized
  have hinX3 : ∀ w ∈ u_ws RX3 TX3 3, w ∈ wsX3_insertBelow := by decide +kernel
  subst hsz
  have hD := hD0.self (sz := s.heap.size)
  generalize hAe : (va_A ((W_Tree cI a S)) s.heap.size) = A at hD ⊢
  have hA : ∀ q : Nat, s.heap.size ≤ q → A q := fun q h => by rw [← hAe]; exact Or.inr h
  have hS : va_S A s.heap s.heap [] := va_S.rf
  have hl := lv_entry ([.ref (a 0), .int v1, .int v2]) (n := 5) (Nat.le_of_ble_eq_true rfl)
  rw [lg_entry_eq]
  generalize (lg_sl ([.ref (a 0), .int v1, .int v2]) ++ List.replicate (5 - (lg_sl ([.ref (a 0), .int v1, .int v2])).length) Slot.unset).toArray = ls at hl ⊢
  have hl : lv_has ls 5 [(0, .ref (a 0)), (1, .int v1), (2, .int v2)] := hl
  have K86 : ∀ (S : S_Tree) (x3 : Int32) (x4 : Int32) (H : Heap) (locs : List Loc), F_X3_insertBelow_86 v2 S x3 x4 = some (rr, Y) → va_P (dC, dI) vwCl ((W_Tree cI a S)) H → va_D A ((W_Tree cI a S)) → va_S A s.heap H locs → ∀ ls : Array Slot, lv_has ls 5 [(0, .ref (a 0)), (2, .int v2), (3, .int x3), (4, .int x4)] → W p l e (headSpec wsX3_insertBelow ({ frames := 2, cells := 0, slots := 0, locals := 87 } : Room)).room s m ([.ref (a 0), .int v1, .int v2] : List Value).toArray below meth c H locs 0 0 (MQ below (va_Qi (fun (r' : Int32) (u : S_Tree) => rr = r' ∧ Y = u) (fun u : S_Tree => jB (dC, dI) [(cI, .int)] A ((W_Tree cI a u))) A) ([.ref (a 0), .int v1, .int v2] : List Value).toArray s 0 0 A) (F0 m 86 ls []) := by
    intro S x3 x4 H locs hF hP hD hS ls hl
    unfold F_X3_insertBelow_86 at hF
    refine lv_aload_n hx hb dX3_insertBelow_86 rfl (lv_at hl 0 rfl) ?_
    refine va_get (D := (dC, dI)) (ci := 3) (v := .int (g_Tree_size S)) (C := RX3) (T := TX3) (N := 3) hx hb hts hinX3 hown hK hP 0 rfl rfl 1 (by decide) (hts (Cond.fieldLink RX3 15 "LearnedShapes$Tree" "size" "I") (List.mem_of_getElem? (i := 1) rfl)) (fun _ h9 => h9) rfl dX3_insertBelow_87 ?_
    refine lv_bipush (v := (64 : Int32)) hx hb dX3_insertBelow_90 (by decide) ?_
    refine lv_icmp_lt (tgt := 97) hx hb dX3_insertBelow_92 (by decide) (fun c1 => ?_) (fun c1 => ?_)
    · have hF := F_pos c1 hF
      refine lv_aload_n hx hb dX3_insertBelow_97 rfl (lv_at hl 0 rfl) ?_
      refine va_get (D := (dC, dI)) (ci := 3) (v := .ref (a 1)) (C := RX3) (T := TX3) (N := 3) hx hb hts hinX3 hown hK hP 0 rfl rfl 0 (by decide) (hts (Cond.fieldLink RX3 11 "LearnedShapes$Tree" "cells" "[I") (List.mem_of_getElem? (i := 2) rfl)) (fun _ h9 => h9) rfl dX3_insertBelow_98 ?_
      refine lv_iload hx hb dX3_insertBelow_101 (lv_at hl 3 rfl) ?_
      refine lv_aload_n hx hb dX3_insertBelow_103 rfl (lv_at hl 0 rfl) ?_
      refine va_get (D := (dC, dI)) (ci := 3) (v := .ref (a 1)) (C := RX3) (T := TX3) (N := 3) hx hb hts hinX3 hown hK hP 0 rfl rfl 0 (by decide) (hts (Cond.fieldLink RX3 11 "LearnedShapes$Tree" "cells" "[I") (List.mem_of_getElem? (i := 2) rfl)) (fun _ h9 => h9) rfl dX3_insertBelow_104 ?_
      refine lv_iload hx hb dX3_insertBelow_107 (lv_at hl 3 rfl) ?_
      refine lv_iconst (v := (1 : Int32)) hx hb dX3_insertBelow_109 (by decide) ?_
      refine lv_iadd hx hb dX3_insertBelow_110 ?_
      refine lv_aload_n hx hb dX3_insertBelow_111 rfl (lv_at hl 0 rfl) ?_
      refine va_get (D := (dC, dI)) (ci := 3) (v := .int (g_Tree_size S)) (C := RX3) (T := TX3) (N := 3) hx hb hts hinX3 hown hK hP 0 rfl rfl 1 (by decide) (hts (Cond.fieldLink RX3 15 "LearnedShapes$Tree" "size" "I") (List.mem_of_getElem? (i := 1) rfl)) (fun _ h9 => h9) rfl dX3_insertBelow_112 ?_
      refine lv_iload hx hb dX3_insertBelow_115 (lv_at hl 3 rfl) ?_
      refine lv_isub hx hb dX3_insertBelow_117 ?_
      obtain ⟨u2, h3, hF⟩ := ob1_some hF
      have hPc := hP.sub (ws' := (W_Arr576 cI (sh a 1) (g_Tree_cells S))) [1] rfl
      have hDc := hD.sub (ws' := (W_Arr576 cI (sh a 1) (g_Tree_cells S))) [1] (by decide) rfl
      have hFc := va_free (wc := (W_Arr576 cI (sh a 1) (g_Tree_cells S))) hD hS hA [1] rfl
      refine va_callv (va_runS (As := [.ref (a 1), .int x4, .ref (a 1), .int (x4 + (1 : Int32)), .int ((g_Tree_size S) - x4)]) (rest := []) ⟨hx, hb, hml, hown, hts⟩ (c_X3_moveCells_same l dC dI cI (sh a 1) H.size _ _ _ _ _ h3) (va_cwS 5 hts gX3_insertBelow_X3_moveCells rfl rfl rfl (by decide +kernel) ⟨Nat.le_of_ble_eq_true rfl, Nat.le_of_ble_eq_true rfl⟩) (jPreS hK hPc hDc hN) rfl rfl hl.1 rfl (lv_room (Nat.le_of_ble_eq_true rfl)) dX3_insertBelow_118 ⟨Nat.le_of_ble_eq_true rfl, Nat.le_of_ble_eq_true rfl⟩) hS (fun q _ h => hFc q h) hFc (fun u' t H locs ht hvm hw hB hz1 hk1 hS => ?_)
      subst hw
      obtain ⟨hP1, -, hD1⟩ := hB
      rw [ht] at hP1
      obtain ⟨hP, hD⟩ := jJoin (wc := (W_Arr576 cI (sh a 1) (g_Tree_cells S))) (w1 := (W_Arr576 cI (sh a 1) u2)) (ws' := (W_Tree cI a (s_Tree_cells S u2))) hP hD [1] [0] [0, 1] rfl rfl (by decide) (by decide) hk1 hFc hP1 hD1 (by decide) rfl
      refine lv_aload_n hx hb dX3_insertBelow_121 rfl (lv_at hl 0 rfl) ?_
      refine lv_dup hx hb dX3_insertBelow_122 rfl ?_
      refine va_get (D := (dC, dI)) (ci := 3) (v := .int (g_Tree_size S)) (C := RX3) (T := TX3) (N := 3) hx hb hts hinX3 hown hK hP 0 rfl rfl 1 (by decide) (hts (Cond.fieldLink RX3 15 "LearnedShapes$Tree" "size" "I") (List.mem_of_getElem? (i := 1) rfl)) (fun _ h9 => h9) rfl dX3_insertBelow_123 ?_
      refine lv_iconst (v := (1 : Int32)) hx hb dX3_insertBelow_126 (by decide) ?_
      refine lv_iadd hx hb dX3_insertBelow_127 ?_
      refine va_put (D := (dC, dI)) (ci := 3) (v := .int ((g_Tree_size S) + (1 : Int32))) (ty := .int) (C := RX3) (T := TX3) (N := 3) hx hb hts hinX3 tyX3 tyX3_ok nmX3 hown hK hP hD hS 0 rfl rfl 1 (by decide) (hts (Cond.fieldLink RX3 15 "LearnedShapes$Tree" "size" "I") (List.mem_of_getElem? (i := 1) rfl)) (fun _ h9 => h9) rfl (by decide +kernel) (rfl) rfl (Nat.le_of_ble_eq_true rfl) dX3_insertBelow_128 (fun H locs hP hD hS => ?_)
      have hP : va_P (dC, dI) vwCl ((W_Tree cI a (s_Tree_size (s_Tree_cells S u2) ((g_Tree_size S) + (1 : Int32))))) H := hP
      have hD : va_D A ((W_Tree cI a (s_Tree_size (s_Tree_cells S u2) ((g_Tree_size S) + (1 : Int32))))) := hD
      refine lv_aload_n hx hb dX3_insertBelow_131 rfl (lv_at hl 0 rfl) ?_
      refine lv_iload hx hb dX3_insertBelow_132 (lv_at hl 3 rfl) ?_
      refine lv_iload_n hx hb dX3_insertBelow_134 rfl (lv_at hl 1 rfl) ?_
      refine lv_iload_n hx hb dX3_insertBelow_135 rfl (lv_at hl 2 rfl) ?_
      obtain ⟨u4, h5, hF⟩ := ob1_some hF
      have hPc : va_P (dC, dI) vwCl ((W_Tree cI a (s_Tree_size (s_Tree_cells S u2) ((g_Tree_size S) + (1 : Int32))))) H := hP
      have hDc : va_D A ((W_Tree cI a (s_Tree_size (s_Tree_cells S u2) ((g_Tree_size S) + (1 : Int32))))) := hD
      have hFc := jFreeW (ws := (W_Tree cI a (s_Tree_size (s_Tree_cells S u2) ((g_Tree_size S) + (1 : Int32))))) hD hS hA
      refine va_callv (va_runV (As := [.int x4, .int v2, .int x3]) (rest := []) ⟨hx, hb, hml, hown, hts⟩ (c_X3_startRow l dC dI cI a H.size _ _ _ _ _ h5) (cwV 3 hts gX3_insertBelow_X3_startRow rfl rfl rfl (by decide +kernel) ⟨Nat.le_of_ble_eq_true rfl, Nat.le_of_ble_eq_true rfl⟩) (jPreV hK hPc hDc hN (ci := 3) rfl rfl) rfl rfl hl.1 rfl (lv_room (Nat.le_of_ble_eq_true rfl)) dX3_insertBelow_136 ⟨Nat.le_of_ble_eq_true rfl, Nat.le_of_ble_eq_true rfl⟩) hS (fun q _ h => hFc q h) hFc (fun u' t H locs ht hvm hw hB hz1 hk1 hS => ?_)
      subst hw
      obtain ⟨hP1, -, hD1⟩ := hB
      rw [ht] at hP1
      have hP : va_P (dC, dI) vwCl ((W_Tree cI a u4)) H := hP1
      have hD : va_D A ((W_Tree cI a u4)) := hD1.weaken (fun _ _ _ h => hFc _ h)
      refine lv_iload hx hb dX3_insertBelow_139 (lv_at hl 3 rfl) ?_
      have e50 := Option.some.inj hF
      obtain ⟨e60, e51⟩ := Prod.mk.inj e50
      subst e60
      subst e51
      exact W.iret (v := x4) hx hb hr (fun t ht hW => ⟨⟨x4, u4, rfl, ⟨rfl, rfl⟩, by rw [ht]; exact hP, va_K.moved hW.alike hK, hD⟩, hS.F ht⟩) hS.2.2 dX3_insertBelow_141
    · have hF := F_neg c1 hF
      refine lv_iconst (v := (-1 : Int32)) hx hb dX3_insertBelow_95 (by decide) ?_
      have e50 := Option.some.inj hF
      obtain ⟨e60, e51⟩ := Prod.mk.inj e50
      subst e60
      subst e51
      exact W.iret (v := (-1 : Int32)) hx hb hr (fun t ht hW => ⟨⟨(-1 : Int32), S, rfl, ⟨rfl, rfl⟩, by rw [ht]; exact hP, va_K.moved hW.alike hK, hD⟩, hS.F ht⟩) hS.2.2 dX3_insertBelow_96
  have K38 : ∀ (n38 : Nat) (S : S_Tree) (x3 : Int32) (x4 : Int32) (H : Heap) (locs : List Loc), F_X3_insertBelow_38 v2 n38 S x3 x4 = some (rr, Y) → va_P (dC, dI) vwCl ((W_Tree cI a S)) H → va_D A ((W_Tree cI a S)) → va_S A s.heap H locs → ∀ ls : Array Slot, lv_has ls 5 [(0, .ref (a 0)), (2, .int v2), (3, .int x3), (4, .int x4)] → W p l e (headSpec wsX3_insertBelow ({ frames := 2, cells := 0, slots := 0, locals := 87 } : Room)).room s m ([.ref (a 0), .int v1, .int v2] : List Value).toArray below meth c H locs 0 0 (MQ below (va_Qi (fun (r' : Int32) (u : S_Tree) => rr = r' ∧ Y = u) (fun u : S_Tree => jB (dC, dI) [(cI, .int)] A ((W_Tree cI a u))) A) ([.ref (a 0), .int v1, .int v2] : List Value).toArray s 0 0 A) (F0 m 38 ls []) := by
    intro n38
    induction n38 with
    | zero => intro S x3 x4 H locs hF; exact nomatch hF
    | succ n38 ih38 =>
      intro S x3 x4 H locs hF hP hD hS ls hl
      rw [F_X3_insertBelow_38_s] at hF
      refine lv_iload hx hb dX3_insertBelow_38 (lv_at hl 3 rfl) ?_
      refine lv_aload_n hx hb dX3_insertBelow_40 rfl (lv_at hl 0 rfl) ?_
      refine va_get (D := (dC, dI)) (ci := 3) (v := .int (g_Tree_size S)) (C := RX3) (T := TX3) (N := 3) hx hb hts hinX3 hown hK hP 0 rfl rfl 1 (by decide) (hts (Cond.fieldLink RX3 15 "LearnedShapes$Tree" "size" "I") (List.mem_of_getElem? (i := 1) rfl)) (fun _ h9 => h9) rfl dX3_insertBelow_41 ?_
      refine lv_icmp_ge (tgt := 86) hx hb dX3_insertBelow_44 (by decide) (fun c6 => ?_) (fun c6 => ?_)
      · have hF := F_pos c6 hF
        exact K86 _ _ _ _ _ hF hP hD hS _ (lv_sub hl [0, 1, 2, 3] rfl)
      · have hF := F_neg c6 hF
        refine lv_aload_n hx hb dX3_insertBelow_47 rfl (lv_at hl 0 rfl) ?_
        refine lv_iload hx hb dX3_insertBelow_48 (lv_at hl 3 rfl) ?_
        refine lv_iconst (v := (2 : Int32)) hx hb dX3_insertBelow_50 (by decide) ?_
        obtain ⟨r7, h8, hF⟩ := ob1_some hF
        have hPc : va_P (dC, dI) vwCl ((W_Tree cI a S)) H := hP
        have hDc : va_D A ((W_Tree cI a S)) := hD
        have hFc := jFreeW (ws := (W_Tree cI a S)) hD hS hA
        refine va_calli (va_runV (As := [.int x4, .int (2 : Int32)]) (rest := []) ⟨hx, hb, hml, hown, hts⟩ (c_X3_get l dC dI cI a H.size _ _ _ _ h8) (cwV 2 hts gX3_insertBelow_X3_get rfl rfl rfl (by decide +kernel) ⟨Nat.le_of_ble_eq_true rfl, Nat.le_of_ble_eq_true rfl⟩) (jPreV hK hPc hDc hN (ci := 3) rfl rfl) rfl rfl hl.1 rfl (lv_room (Nat.le_of_ble_eq_true rfl)) dX3_insertBelow_51 ⟨Nat.le_of_ble_eq_true rfl, Nat.le_of_ble_eq_true rfl⟩) hS (fun q _ h => hFc q h) hFc (fun r' u' t H locs ht hvm hw hB hz1 hk1 hS => ?_)
        subst hw
        obtain ⟨hP1, -, hD1⟩ := hB
        rw [ht] at hP1
        have hP : va_P (dC, dI) vwCl ((W_Tree cI a S)) H := hP1
        have hD : va_D A ((W_Tree cI a S)) := hD1.weaken (fun _ _ _ h => hFc _ h)
        refine lv_iload_n hx hb dX3_insertBelow_54 rfl (lv_at hl 2 rfl) ?_
        refine lv_icmp_lt (tgt := 86) hx hb dX3_insertBelow_55 (by decide) (fun c9 => ?_) (fun c9 => ?_)
        · have hF := F_pos c9 hF
          exact K86 _ _ _ _ _ hF hP hD hS _ (lv_sub hl [0, 1, 2, 3] rfl)
        · have hF := F_neg c9 hF
          refine lv_aload_n hx hb dX3_insertBelow_58 rfl (lv_at hl 0 rfl) ?_
          refine lv_iload hx hb dX3_insertBelow_59 (lv_at hl 3 rfl) ?_
          refine lv_iconst (v := (2 : Int32)) hx hb dX3_insertBelow_61 (by decide) ?_
          obtain ⟨r10, h11, hF⟩ := ob1_some hF
          have hPc : va_P (dC, dI) vwCl ((W_Tree cI a S)) H := hP
          have hDc : va_D A ((W_Tree cI a S)) := hD
          have hFc := jFreeW (ws := (W_Tree cI a S)) hD hS hA
          refine va_calli (va_runV (As := [.int x4, .int (2 : Int32)]) (rest := []) ⟨hx, hb, hml, hown, hts⟩ (c_X3_get l dC dI cI a H.size _ _ _ _ h11) (cwV 2 hts gX3_insertBelow_X3_get rfl rfl rfl (by decide +kernel) ⟨Nat.le_of_ble_eq_true rfl, Nat.le_of_ble_eq_true rfl⟩) (jPreV hK hPc hDc hN (ci := 3) rfl rfl) rfl rfl hl.1 rfl (lv_room (Nat.le_of_ble_eq_true rfl)) dX3_insertBelow_62 ⟨Nat.le_of_ble_eq_true rfl, Nat.le_of_ble_eq_true rfl⟩) hS (fun q _ h => hFc q h) hFc (fun r' u' t H locs ht hvm hw hB hz1 hk1 hS => ?_)
          subst hw
          obtain ⟨hP1, -, hD1⟩ := hB
          rw [ht] at hP1
          have hP : va_P (dC, dI) vwCl ((W_Tree cI a S)) H := hP1
          have hD : va_D A ((W_Tree cI a S)) := hD1.weaken (fun _ _ _ h => hFc _ h)
          refine lv_iload_n hx hb dX3_insertBelow_65 rfl (lv_at hl 2 rfl) ?_
          refine lv_icmp_gt (tgt := 80) hx hb dX3_insertBelow_66 (by decide) (fun c12 => ?_) (fun c12 => ?_)
          · have hF := F_pos c12 hF
            refine lv_iinc (v := (x4 + (1 : Int32))) (lv' := [(4, .int (x4 + (1 : Int32))), (0, .ref (a 0)), (2, .int v2), (3, .int x3)]) hx hb dX3_insertBelow_80 hl (k := 3) rfl rfl (by decide) rfl (fun ls hl => ?_)
            refine lv_goto (tgt := 38) hx hb dX3_insertBelow_83 (by decide) ?_
            exact ih38 _ _ _ _ _ hF hP hD hS _ (lv_sub hl [1, 2, 3, 0] rfl)
          · have hF := F_neg c12 hF
            refine lv_aload_n hx hb dX3_insertBelow_69 rfl (lv_at hl 0 rfl) ?_
            refine lv_iload hx hb dX3_insertBelow_70 (lv_at hl 3 rfl) ?_
            refine lv_iconst (v := (1 : Int32)) hx hb dX3_insertBelow_72 (by decide) ?_
            obtain ⟨r13, h14, hF⟩ := ob1_some hF
            have hPc : va_P (dC, dI) vwCl ((W_Tree cI a S)) H := hP
            have hDc : va_D A ((W_Tree cI a S)) := hD
            have hFc := jFreeW (ws := (W_Tree cI a S)) hD hS hA
            refine va_calli (va_runV (As := [.int x4, .int (1 : Int32)]) (rest := []) ⟨hx, hb, hml, hown, hts⟩ (c_X3_get l dC dI cI a H.size _ _ _ _ h14) (cwV 2 hts gX3_insertBelow_X3_get rfl rfl rfl (by decide +kernel) ⟨Nat.le_of_ble_eq_true rfl, Nat.le_of_ble_eq_true rfl⟩) (jPreV hK hPc hDc hN (ci := 3) rfl rfl) rfl rfl hl.1 rfl (lv_room (Nat.le_of_ble_eq_true rfl)) dX3_insertBelow_73 ⟨Nat.le_of_ble_eq_true rfl, Nat.le_of_ble_eq_true rfl⟩) hS (fun q _ h => hFc q h) hFc (fun r' u' t H locs ht hvm hw hB hz1 hk1 hS => ?_)
            subst hw
            obtain ⟨hP1, -, hD1⟩ := hB
            rw [ht] at hP1
            have hP : va_P (dC, dI) vwCl ((W_Tree cI a S)) H := hP1
            have hD : va_D A ((W_Tree cI a S)) := hD1.weaken (fun _ _ _ h => hFc _ h)
            refine lv_iload_n hx hb dX3_insertBelow_76 rfl (lv_at hl 1 rfl) ?_
            refine lv_icmp_ge (tgt := 86) hx hb dX3_insertBelow_77 (by decide) (fun c15 => ?_) (fun c15 => ?_)
            · have hF := F_pos c15 hF
              exact K86 _ _ _ _ _ hF hP hD hS _ (lv_sub hl [0, 1, 2, 3] rfl)
            · have hF := F_neg c15 hF
              refine lv_iinc (v := (x4 + (1 : Int32))) (lv' := [(4, .int (x4 + (1 : Int32))), (0, .ref (a 0)), (2, .int v2), (3, .int x3)]) hx hb dX3_insertBelow_80 hl (k := 3) rfl rfl (by decide) rfl (fun ls hl => ?_)
              refine lv_goto (tgt := 38) hx hb dX3_insertBelow_83 (by decide) ?_
              exact ih38 _ _ _ _ _ hF hP hD hS _ (lv_sub hl [1, 2, 3, 0] rfl)
  have KE : ∀ (H : Heap) (locs : List Loc), va_P (dC, dI) vwCl ((W_Tree cI a S)) H → va_D A ((W_Tree cI a S)) → va_S A s.heap H locs → W p l e (headSpec wsX3_insertBelow ({ frames := 2, cells := 0, slots := 0, locals := 87 } : Room)).room s m ([.ref (a 0), .int v1, .int v2] : List Value).toArray below meth c H locs 0 0 (MQ below (va_Qi (fun (r' : Int32) (u : S_Tree) => rr = r' ∧ Y = u) (fun u : S_Tree => jB (dC, dI) [(cI, .int)] A ((W_Tree cI a u))) A) ([.ref (a 0), .int v1, .int v2] : List Value).toArray s 0 0 A) (F0 m 0 ls []) := by
    intro H locs hP hD hS
    unfold F_X3_insertBelow at hF
    refine lv_aload_n hx hb dX3_insertBelow_0 rfl (lv_at hl 0 rfl) ?_
    refine lv_iload_n hx hb dX3_insertBelow_1 rfl (lv_at hl 1 rfl) ?_
    obtain ⟨r16, h17, hF⟩ := ob1_some hF
    have hPc : va_P (dC, dI) vwCl ((W_Tree cI a S)) H := hP
    have hDc : va_D A ((W_Tree cI a S)) := hD
    have hFc := jFreeW (ws := (W_Tree cI a S)) hD hS hA
    refine va_calli (va_runV (As := [.int v1]) (rest := []) ⟨hx, hb, hml, hown, hts⟩ (c_X3_has l dC dI cI a H.size _ _ _ h17) (cwV 1 hts gX3_insertBelow_X3_has rfl rfl rfl (by decide +kernel) ⟨Nat.le_of_ble_eq_true rfl, Nat.le_of_ble_eq_true rfl⟩) (jPreV hK hPc hDc hN (ci := 3) rfl rfl) rfl rfl hl.1 rfl (lv_room (Nat.le_of_ble_eq_true rfl)) dX3_insertBelow_2 ⟨Nat.le_of_ble_eq_true rfl, Nat.le_of_ble_eq_true rfl⟩) hS (fun q _ h => hFc q h) hFc (fun r' u' t H locs ht hvm hw hB hz1 hk1 hS => ?_)
    subst hw
    obtain ⟨hP1, -, hD1⟩ := hB
    rw [ht] at hP1
    have hP : va_P (dC, dI) vwCl ((W_Tree cI a S)) H := hP1
    have hD : va_D A ((W_Tree cI a S)) := hD1.weaken (fun _ _ _ h => hFc _ h)
    refine lv_if_eq (tgt := 19) hx hb dX3_insertBelow_5 (by decide) (fun c18 => ?_) (fun c18 => ?_)
    · have hF := F_pos c18 hF
      refine lv_iconst (v := (0 : Int32)) hx hb dX3_insertBelow_19 (by decide) ?_
      refine lv_istore_n (lv' := [(3, .int (0 : Int32)), (0, .ref (a 0)), (1, .int v1), (2, .int v2)]) hx hb dX3_insertBelow_20 rfl hl (by decide) rfl (fun ls hl => ?_)
      refine lv_aload_n hx hb dX3_insertBelow_21 rfl (lv_at hl 1 rfl) ?_
      refine lv_iload_n hx hb dX3_insertBelow_22 rfl (lv_at hl 2 rfl) ?_
      obtain ⟨r19, h20, hF⟩ := ob1_some hF
      have hPc : va_P (dC, dI) vwCl ((W_Tree cI a S)) H := hP
      have hDc : va_D A ((W_Tree cI a S)) := hD
      have hFc := jFreeW (ws := (W_Tree cI a S)) hD hS hA
      refine va_calli (va_runV (As := [.int v1]) (rest := []) ⟨hx, hb, hml, hown, hts⟩ (c_X3_has l dC dI cI a H.size _ _ _ h20) (cwV 1 hts gX3_insertBelow_X3_has rfl rfl rfl (by decide +kernel) ⟨Nat.le_of_ble_eq_true rfl, Nat.le_of_ble_eq_true rfl⟩) (jPreV hK hPc hDc hN (ci := 3) rfl rfl) rfl rfl hl.1 rfl (lv_room (Nat.le_of_ble_eq_true rfl)) dX3_insertBelow_23 ⟨Nat.le_of_ble_eq_true rfl, Nat.le_of_ble_eq_true rfl⟩) hS (fun q _ h => hFc q h) hFc (fun r' u' t H locs ht hvm hw hB hz1 hk1 hS => ?_)
      subst hw
      obtain ⟨hP1, -, hD1⟩ := hB
      rw [ht] at hP1
      have hP : va_P (dC, dI) vwCl ((W_Tree cI a S)) H := hP1
      have hD : va_D A ((W_Tree cI a S)) := hD1.weaken (fun _ _ _ h => hFc _ h)
      refine lv_if_eq (tgt := 35) hx hb dX3_insertBelow_26 (by decide) (fun c21 => ?_) (fun c21 => ?_)
      · have hF := F_pos c21 hF
        refine lv_iconst (v := (0 : Int32)) hx hb dX3_insertBelow_35 (by decide) ?_
        refine lv_istore (lv' := [(4, .int (0 : Int32)), (3, .int (0 : Int32)), (0, .ref (a 0)), (1, .int v1), (2, .int v2)]) hx hb dX3_insertBelow_36 hl (by decide) rfl (fun ls hl => ?_)
        exact K38 _ _ _ _ _ _ hF hP hD hS _ (lv_sub hl [2, 4, 1, 0] rfl)
      · have hF := F_neg c21 hF
        refine lv_iload_n hx hb dX3_insertBelow_29 rfl (lv_at hl 2 rfl) ?_
        refine lv_iconst (v := (1 : Int32)) hx hb dX3_insertBelow_30 (by decide) ?_
        refine lv_iadd hx hb dX3_insertBelow_31 ?_
        refine lv_goto (tgt := 36) hx hb dX3_insertBelow_32 (by decide) ?_
        refine lv_istore (lv' := [(4, .int (v1 + (1 : Int32))), (3, .int (0 : Int32)), (0, .ref (a 0)), (1, .int v1), (2, .int v2)]) hx hb dX3_insertBelow_36 hl (by decide) rfl (fun ls hl => ?_)
        exact K38 _ _ _ _ _ _ hF hP hD hS _ (lv_sub hl [2, 4, 1, 0] rfl)
    · have hF := F_neg c18 hF
      refine lv_aload_n hx hb dX3_insertBelow_8 rfl (lv_at hl 0 rfl) ?_
      refine lv_iload_n hx hb dX3_insertBelow_9 rfl (lv_at hl 1 rfl) ?_
      refine lv_iconst (v := (2 : Int32)) hx hb dX3_insertBelow_10 (by decide) ?_
      obtain ⟨r22, h23, hF⟩ := ob1_some hF
      have hPc : va_P (dC, dI) vwCl ((W_Tree cI a S)) H := hP
      have hDc : va_D A ((W_Tree cI a S)) := hD
      have hFc := jFreeW (ws := (W_Tree cI a S)) hD hS hA
      refine va_calli (va_runV (As := [.int v1, .int (2 : Int32)]) (rest := []) ⟨hx, hb, hml, hown, hts⟩ (c_X3_get l dC dI cI a H.size _ _ _ _ h23) (cwV 2 hts gX3_insertBelow_X3_get rfl rfl rfl (by decide +kernel) ⟨Nat.le_of_ble_eq_true rfl, Nat.le_of_ble_eq_true rfl⟩) (jPreV hK hPc hDc hN (ci := 3) rfl rfl) rfl rfl hl.1 rfl (lv_room (Nat.le_of_ble_eq_true rfl)) dX3_insertBelow_11 ⟨Nat.le_of_ble_eq_true rfl, Nat.le_of_ble_eq_true rfl⟩) hS (fun q _ h => hFc q h) hFc (fun r' u' t H locs ht hvm hw hB hz1 hk1 hS => ?_)
      subst hw
      obtain ⟨hP1, -, hD1⟩ := hB
      rw [ht] at hP1
      have hP : va_P (dC, dI) vwCl ((W_Tree cI a S)) H := hP1
      have hD : va_D A ((W_Tree cI a S)) := hD1.weaken (fun _ _ _ h => hFc _ h)
      refine lv_iconst (v := (1 : Int32)) hx hb dX3_insertBelow_14 (by decide) ?_
      refine lv_iadd hx hb dX3_insertBelow_15 ?_
      refine lv_goto (tgt := 20) hx hb dX3_insertBelow_16 (by decide) ?_
      refine lv_istore_n (lv' := [(3, .int (r22 + (1 : Int32))), (0, .ref (a 0)), (1, .int v1), (2, .int v2)]) hx hb dX3_insertBelow_20 rfl hl (by decide) rfl (fun ls hl => ?_)
      refine lv_aload_n hx hb dX3_insertBelow_21 rfl (lv_at hl 1 rfl) ?_
      refine lv_iload_n hx hb dX3_insertBelow_22 rfl (lv_at hl 2 rfl) ?_
      obtain ⟨r24, h25, hF⟩ := ob1_some hF
      have hPc : va_P (dC, dI) vwCl ((W_Tree cI a S)) H := hP
      have hDc : va_D A ((W_Tree cI a S)) := hD
      have hFc := jFreeW (ws := (W_Tree cI a S)) hD hS hA
      refine va_calli (va_runV (As := [.int v1]) (rest := []) ⟨hx, hb, hml, hown, hts⟩ (c_X3_has l dC dI cI a H.size _ _ _ h25) (cwV 1 hts gX3_insertBelow_X3_has rfl rfl rfl (by decide +kernel) ⟨Nat.le_of_ble_eq_true rfl, Nat.le_of_ble_eq_true rfl⟩) (jPreV hK hPc hDc hN (ci := 3) rfl rfl) rfl rfl hl.1 rfl (lv_room (Nat.le_of_ble_eq_true rfl)) dX3_insertBelow_23 ⟨Nat.le_of_ble_eq_true rfl, Nat.le_of_ble_eq_true rfl⟩) hS (fun q _ h => hFc q h) hFc (fun r' u' t H locs ht hvm hw hB hz1 hk1 hS => ?_)
      subst hw
      obtain ⟨hP1, -, hD1⟩ := hB
      rw [ht] at hP1
      have hP : va_P (dC, dI) vwCl ((W_Tree cI a S)) H := hP1
      have hD : va_D A ((W_Tree cI a S)) := hD1.weaken (fun _ _ _ h => hFc _ h)
      refine lv_if_eq (tgt := 35) hx hb dX3_insertBelow_26 (by decide) (fun c26 => ?_) (fun c26 => ?_)
      · have hF := F_pos c26 hF
        refine lv_iconst (v := (0 : Int32)) hx hb dX3_insertBelow_35 (by decide) ?_
        refine lv_istore (lv' := [(4, .int (0 : Int32)), (3, .int (r22 + (1 : Int32))), (0, .ref (a 0)), (1, .int v1), (2, .int v2)]) hx hb dX3_insertBelow_36 hl (by decide) rfl (fun ls hl => ?_)
        exact K38 _ _ _ _ _ _ hF hP hD hS _ (lv_sub hl [2, 4, 1, 0] rfl)
      · have hF := F_neg c26 hF
        refine lv_iload_n hx hb dX3_insertBelow_29 rfl (lv_at hl 2 rfl) ?_
        refine lv_iconst (v := (1 : Int32)) hx hb dX3_insertBelow_30 (by decide) ?_
        refine lv_iadd hx hb dX3_insertBelow_31 ?_
        refine lv_goto (tgt := 36) hx hb dX3_insertBelow_32 (by decide) ?_
        refine lv_istore (lv' := [(4, .int (v1 + (1 : Int32))), (3, .int (r22 + (1 : Int32))), (0, .ref (a 0)), (1, .int v1), (2, .int v2)]) hx hb dX3_insertBelow_36 hl (by decide) rfl (fun ls hl => ?_)
        exact K38 _ _ _ _ _ _ hF hP hD hS _ (lv_sub hl [2, 4, 1, 0] rfl)
  exact KE _ _ hP hD hS
set_option maxHeartbeats 4000000 in
set_option maxRecDepth 100000 in
theorem c_X3_addRow (l : Launch) (dC : Nat → ClassId) (dI : Nat → Nat → Nat) (cI : ClassId) (a : Nat → Nat) (sz : Nat) (S : S_Tree) (v1 : Int32) (v2 : Int32) (rr : Int32) (Y : S_Tree) (hF : F_X3_addRow S v1 v2 = some (rr, Y)) : Met l yX3_addRow wsX3_addRow ({ frames := 2, cells := 0, slots := 0, locals := 48 } : Room) (va_Pc [.ref (a 0), .int v1, .int v2] (jPre (dC, dI) [(cI, .int)] sz ((W_Tree cI a S)))) (va_Qi (fun (r' : Int32) (u : S_Tree) => rr = r' ∧ Y = u) (fun u : S_Tree => jB (dC, dI) [(cI, .int)] (va_A ((W_Tree cI a S)) sz) ((W_Tree cI a u))) (va_A ((W_Tree cI a S)) sz)) 0 0 (va_A ((W_Tree cI a S)) sz) := by
  refine Met.ofW (cc := cX3_addRow) (maxL := 3) (ret := (some .int)) (by decide) rfl ?_
  intro p e s m args below meth c s₁ B hml hv
  obtain ⟨rfl, hsz, hP, hK, hD0, hN⟩ := hv
  have hx := B.exec
  have hb := B.bytes
  have hr := B.returns
  have hts := atoms_spec (ws := wsX3_addRow) B.pre
  have hown : s.vm.findClass RX3 = some m.cls := findClass_of_methodNamed B.named
  have hlocks := B.notSynchronized
  have hinX3 : ∀ w ∈ u_ws RX3 TX3 3, w ∈ wsX3_addRow := by decide +kernel
  subst hsz
  have hD := hD0.self (sz := s.heap.size)
  generalize hAe : (va_A ((W_Tree cI a S)) s.heap.size) = A at hD ⊢
  have hA : ∀ q : Nat, s.heap.size ≤ q → A q := fun q h => by rw [← hAe]; exact Or.inr h
  have hS : va_S A s.heap s.heap [] := va_S.rf
  have hl := lv_entry ([.ref (a 0), .int v1, .int v2]) (n := 3) (Nat.le_of_ble_eq_true rfl)
  rw [lg_entry_eq]
  generalize (lg_sl ([.ref (a 0), .int v1, .int v2]) ++ List.replicate (3 - (lg_sl ([.ref (a 0), .int v1, .int v2])).length) Slot.unset).toArray = ls at hl ⊢
  have hl : lv_has ls 3 [(0, .ref (a 0)), (1, .int v1), (2, .int v2)] := hl
  have KE : ∀ (H : Heap) (locs : List Loc), va_P (dC, dI) vwCl ((W_Tree cI a S)) H → va_D A ((W_Tree cI a S)) → va_S A s.heap H locs → W p l e (headSpec wsX3_addRow ({ frames := 2, cells := 0, slots := 0, locals := 48 } : Room)).room s m ([.ref (a 0), .int v1, .int v2] : List Value).toArray below meth c H locs 0 0 (MQ below (va_Qi (fun (r' : Int32) (u : S_Tree) => rr = r' ∧ Y = u) (fun u : S_Tree => jB (dC, dI) [(cI, .int)] A ((W_Tree cI a u))) A) ([.ref (a 0), .int v1, .int v2] : List Value).toArray s 0 0 A) (F0 m 0 ls []) := by
    intro H locs hP hD hS
    unfold F_X3_addRow at hF
    refine lv_aload_n hx hb dX3_addRow_0 rfl (lv_at hl 0 rfl) ?_
    refine va_get (D := (dC, dI)) (ci := 3) (v := .int (g_Tree_size S)) (C := RX3) (T := TX3) (N := 3) hx hb hts hinX3 hown hK hP 0 rfl rfl 1 (by decide) (hts (Cond.fieldLink RX3 15 "LearnedShapes$Tree" "size" "I") (List.mem_of_getElem? (i := 1) rfl)) (fun _ h9 => h9) rfl dX3_addRow_1 ?_
    refine lv_bipush (v := (64 : Int32)) hx hb dX3_addRow_4 (by decide) ?_
    refine lv_icmp_lt (tgt := 11) hx hb dX3_addRow_6 (by decide) (fun c1 => ?_) (fun c1 => ?_)
    · have hF := F_pos c1 hF
      refine lv_aload_n hx hb dX3_addRow_11 rfl (lv_at hl 0 rfl) ?_
      refine lv_dup hx hb dX3_addRow_12 rfl ?_
      refine va_get (D := (dC, dI)) (ci := 3) (v := .int (g_Tree_size S)) (C := RX3) (T := TX3) (N := 3) hx hb hts hinX3 hown hK hP 0 rfl rfl 1 (by decide) (hts (Cond.fieldLink RX3 15 "LearnedShapes$Tree" "size" "I") (List.mem_of_getElem? (i := 1) rfl)) (fun _ h9 => h9) rfl dX3_addRow_13 ?_
      refine lv_iconst (v := (1 : Int32)) hx hb dX3_addRow_16 (by decide) ?_
      refine lv_iadd hx hb dX3_addRow_17 ?_
      refine va_put (D := (dC, dI)) (ci := 3) (v := .int ((g_Tree_size S) + (1 : Int32))) (ty := .int) (C := RX3) (T := TX3) (N := 3) hx hb hts hinX3 tyX3 tyX3_ok nmX3 hown hK hP hD hS 0 rfl rfl 1 (by decide) (hts (Cond.fieldLink RX3 15 "LearnedShapes$Tree" "size" "I") (List.mem_of_getElem? (i := 1) rfl)) (fun _ h9 => h9) rfl (by decide +kernel) (rfl) rfl (Nat.le_of_ble_eq_true rfl) dX3_addRow_18 (fun H locs hP hD hS => ?_)
      have hP : va_P (dC, dI) vwCl ((W_Tree cI a (s_Tree_size S ((g_Tree_size S) + (1 : Int32))))) H := hP
      have hD : va_D A ((W_Tree cI a (s_Tree_size S ((g_Tree_size S) + (1 : Int32))))) := hD
      refine lv_aload_n hx hb dX3_addRow_21 rfl (lv_at hl 0 rfl) ?_
      refine lv_aload_n hx hb dX3_addRow_22 rfl (lv_at hl 0 rfl) ?_
      refine va_get (D := (dC, dI)) (ci := 3) (v := .int ((g_Tree_size S) + (1 : Int32))) (C := RX3) (T := TX3) (N := 3) hx hb hts hinX3 hown hK hP 0 rfl rfl 1 (by decide) (hts (Cond.fieldLink RX3 15 "LearnedShapes$Tree" "size" "I") (List.mem_of_getElem? (i := 1) rfl)) (fun _ h9 => h9) rfl dX3_addRow_23 ?_
      refine lv_iconst (v := (1 : Int32)) hx hb dX3_addRow_26 (by decide) ?_
      refine lv_isub hx hb dX3_addRow_27 ?_
      refine lv_iload_n hx hb dX3_addRow_28 rfl (lv_at hl 1 rfl) ?_
      refine lv_iload_n hx hb dX3_addRow_29 rfl (lv_at hl 2 rfl) ?_
      obtain ⟨u2, h3, hF⟩ := ob1_some hF
      have hPc : va_P (dC, dI) vwCl ((W_Tree cI a (s_Tree_size S ((g_Tree_size S) + (1 : Int32))))) H := hP
      have hDc : va_D A ((W_Tree cI a (s_Tree_size S ((g_Tree_size S) + (1 : Int32))))) := hD
      have hFc := jFreeW (ws := (W_Tree cI a (s_Tree_size S ((g_Tree_size S) + (1 : Int32))))) hD hS hA
      refine va_callv (va_runV (As := [.int (((g_Tree_size S) + (1 : Int32)) - (1 : Int32)), .int v1, .int v2]) (rest := []) ⟨hx, hb, hml, hown, hts⟩ (c_X3_startRow l dC dI cI a H.size _ _ _ _ _ h3) (cwV 3 hts gX3_addRow_X3_startRow rfl rfl rfl (by decide +kernel) ⟨Nat.le_of_ble_eq_true rfl, Nat.le_of_ble_eq_true rfl⟩) (jPreV hK hPc hDc hN (ci := 3) rfl rfl) rfl rfl hl.1 rfl (lv_room (Nat.le_of_ble_eq_true rfl)) dX3_addRow_30 ⟨Nat.le_of_ble_eq_true rfl, Nat.le_of_ble_eq_true rfl⟩) hS (fun q _ h => hFc q h) hFc (fun u' t H locs ht hvm hw hB hz1 hk1 hS => ?_)
      subst hw
      obtain ⟨hP1, -, hD1⟩ := hB
      rw [ht] at hP1
      have hP : va_P (dC, dI) vwCl ((W_Tree cI a u2)) H := hP1
      have hD : va_D A ((W_Tree cI a u2)) := hD1.weaken (fun _ _ _ h => hFc _ h)
      refine lv_aload_n hx hb dX3_addRow_33 rfl (lv_at hl 0 rfl) ?_
      refine va_get (D := (dC, dI)) (ci := 3) (v := .int (g_Tree_size u2)) (C := RX3) (T := TX3) (N := 3) hx hb hts hinX3 hown hK hP 0 rfl rfl 1 (by decide) (hts (Cond.fieldLink RX3 15 "LearnedShapes$Tree" "size" "I") (List.mem_of_getElem? (i := 1) rfl)) (fun _ h9 => h9) rfl dX3_addRow_34 ?_
      refine lv_iconst (v := (1 : Int32)) hx hb dX3_addRow_37 (by decide) ?_
      refine lv_isub hx hb dX3_addRow_38 ?_
      have e50 := Option.some.inj hF
      obtain ⟨e60, e51⟩ := Prod.mk.inj e50
      subst e60
      subst e51
      exact W.iret (v := ((g_Tree_size u2) - (1 : Int32))) hx hb hr (fun t ht hW => ⟨⟨((g_Tree_size u2) - (1 : Int32)), u2, rfl, ⟨rfl, rfl⟩, by rw [ht]; exact hP, va_K.moved hW.alike hK, hD⟩, hS.F ht⟩) hS.2.2 dX3_addRow_39
    · have hF := F_neg c1 hF
      refine lv_iconst (v := (-1 : Int32)) hx hb dX3_addRow_9 (by decide) ?_
      have e50 := Option.some.inj hF
      obtain ⟨e60, e51⟩ := Prod.mk.inj e50
      subst e60
      subst e51
      exact W.iret (v := (-1 : Int32)) hx hb hr (fun t ht hW => ⟨⟨(-1 : Int32), S, rfl, ⟨rfl, rfl⟩, by rw [ht]; exact hP, va_K.moved hW.alike hK, hD⟩, hS.F ht⟩) hS.2.2 dX3_addRow_10
  exact KE _ _ hP hD hS
set_option maxHeartbeats 4000000 in
set_option maxRecDepth 100000 in
theorem c_X3_dropBelow (l : Launch) (dC : Nat → ClassId) (dI : Nat → Nat → Nat) (cI : ClassId) (a : Nat → Nat) (sz : Nat) (S : S_Tree) (v1 : Int32) (Y : S_Tree) (hF : F_X3_dropBelow S v1 = some Y) : Met l yX3_dropBelow wsX3_dropBelow ({ frames := 2, cells := 0, slots := 0, locals := 87 } : Room) (va_Pc [.ref (a 0), .int v1] (jPre (dC, dI) [(cI, .int)] sz ((W_Tree cI a S)))) (va_Qv (fun u : S_Tree => Y = u) (fun u : S_Tree => jB (dC, dI) [(cI, .int)] (va_A ((W_Tree cI a S)) sz) ((W_Tree cI a u))) (va_A ((W_Tree cI a S)) sz)) 0 0 (va_A ((W_Tree cI a S)) sz) := by
  refine Met.ofW (cc := cX3_dropBelow) (maxL := 3) (ret := none) (by decide) rfl ?_
  intro p e s m args below meth c s₁ B hml hv
  obtain ⟨rfl, hsz, hP, hK, hD0, hN⟩ := hv
  have hx := B.exec
  have hb := B.bytes
  have hr := B.returns
  have hts := atoms_spec (ws := wsX3_dropBelow) B.pre
  have hown : s.vm.findClass RX3 = some m.cls := findClass_of_methodNamed B.named
  have hlocks := B.notSynchronized
  have hinX3 : ∀ w ∈ u_ws RX3 TX3 3, w ∈ wsX3_dropBelow := by decide +kernel
  subst hsz
  have hD := hD0.self (sz := s.heap.size)
  generalize hAe : (va_A ((W_Tree cI a S)) s.heap.size) = A at hD ⊢
  have hA : ∀ q : Nat, s.heap.size ≤ q → A q := fun q h => by rw [← hAe]; exact Or.inr h
  have hS : va_S A s.heap s.heap [] := va_S.rf
  have hl := lv_entry ([.ref (a 0), .int v1]) (n := 3) (Nat.le_of_ble_eq_true rfl)
  rw [lg_entry_eq]
  generalize (lg_sl ([.ref (a 0), .int v1]) ++ List.replicate (3 - (lg_sl ([.ref (a 0), .int v1])).length) Slot.unset).toArray = ls at hl ⊢
  have hl : lv_has ls 3 [(0, .ref (a 0)), (1, .int v1)] := hl
  have KE : ∀ (H : Heap) (locs : List Loc), va_P (dC, dI) vwCl ((W_Tree cI a S)) H → va_D A ((W_Tree cI a S)) → va_S A s.heap H locs → W p l e (headSpec wsX3_dropBelow ({ frames := 2, cells := 0, slots := 0, locals := 87 } : Room)).room s m ([.ref (a 0), .int v1] : List Value).toArray below meth c H locs 0 0 (MQ below (va_Qv (fun u : S_Tree => Y = u) (fun u : S_Tree => jB (dC, dI) [(cI, .int)] A ((W_Tree cI a u))) A) ([.ref (a 0), .int v1] : List Value).toArray s 0 0 A) (F0 m 0 ls []) := by
    intro H locs hP hD hS
    unfold F_X3_dropBelow at hF
    refine lv_aload_n hx hb dX3_dropBelow_0 rfl (lv_at hl 0 rfl) ?_
    refine lv_iload_n hx hb dX3_dropBelow_1 rfl (lv_at hl 1 rfl) ?_
    obtain ⟨r1, h2, hF⟩ := ob1_some hF
    have hPc : va_P (dC, dI) vwCl ((W_Tree cI a S)) H := hP
    have hDc : va_D A ((W_Tree cI a S)) := hD
    have hFc := jFreeW (ws := (W_Tree cI a S)) hD hS hA
    refine va_calli (va_runV (As := [.int v1]) (rest := []) ⟨hx, hb, hml, hown, hts⟩ (c_X3_behind l dC dI cI a H.size _ _ _ h2) (cwV 1 hts gX3_dropBelow_X3_behind rfl rfl rfl (by decide +kernel) ⟨Nat.le_of_ble_eq_true rfl, Nat.le_of_ble_eq_true rfl⟩) (jPreV hK hPc hDc hN (ci := 3) rfl rfl) rfl rfl hl.1 rfl (lv_room (Nat.le_of_ble_eq_true rfl)) dX3_dropBelow_2 ⟨Nat.le_of_ble_eq_true rfl, Nat.le_of_ble_eq_true rfl⟩) hS (fun q _ h => hFc q h) hFc (fun r' u' t H locs ht hvm hw hB hz1 hk1 hS => ?_)
    subst hw
    obtain ⟨hP1, -, hD1⟩ := hB
    rw [ht] at hP1
    have hP : va_P (dC, dI) vwCl ((W_Tree cI a S)) H := hP1
    have hD : va_D A ((W_Tree cI a S)) := hD1.weaken (fun _ _ _ h => hFc _ h)
    refine lv_istore_n (lv' := [(2, .int r1), (0, .ref (a 0)), (1, .int v1)]) hx hb dX3_dropBelow_5 rfl hl (by decide) rfl (fun ls hl => ?_)
    refine lv_aload_n hx hb dX3_dropBelow_6 rfl (lv_at hl 1 rfl) ?_
    refine va_get (D := (dC, dI)) (ci := 3) (v := .ref (a 1)) (C := RX3) (T := TX3) (N := 3) hx hb hts hinX3 hown hK hP 0 rfl rfl 0 (by decide) (hts (Cond.fieldLink RX3 11 "LearnedShapes$Tree" "cells" "[I") (List.mem_of_getElem? (i := 1) rfl)) (fun _ h9 => h9) rfl dX3_dropBelow_7 ?_
    refine lv_iload_n hx hb dX3_dropBelow_10 rfl (lv_at hl 0 rfl) ?_
    refine lv_aload_n hx hb dX3_dropBelow_11 rfl (lv_at hl 1 rfl) ?_
    refine va_get (D := (dC, dI)) (ci := 3) (v := .ref (a 1)) (C := RX3) (T := TX3) (N := 3) hx hb hts hinX3 hown hK hP 0 rfl rfl 0 (by decide) (hts (Cond.fieldLink RX3 11 "LearnedShapes$Tree" "cells" "[I") (List.mem_of_getElem? (i := 1) rfl)) (fun _ h9 => h9) rfl dX3_dropBelow_12 ?_
    refine lv_iload_n hx hb dX3_dropBelow_15 rfl (lv_at hl 2 rfl) ?_
    refine lv_iconst (v := (1 : Int32)) hx hb dX3_dropBelow_16 (by decide) ?_
    refine lv_iadd hx hb dX3_dropBelow_17 ?_
    refine lv_aload_n hx hb dX3_dropBelow_18 rfl (lv_at hl 1 rfl) ?_
    refine va_get (D := (dC, dI)) (ci := 3) (v := .int (g_Tree_size S)) (C := RX3) (T := TX3) (N := 3) hx hb hts hinX3 hown hK hP 0 rfl rfl 1 (by decide) (hts (Cond.fieldLink RX3 15 "LearnedShapes$Tree" "size" "I") (List.mem_of_getElem? (i := 2) rfl)) (fun _ h9 => h9) rfl dX3_dropBelow_19 ?_
    refine lv_iload_n hx hb dX3_dropBelow_22 rfl (lv_at hl 0 rfl) ?_
    refine lv_isub hx hb dX3_dropBelow_23 ?_
    obtain ⟨u3, h4, hF⟩ := ob1_some hF
    have hPc := hP.sub (ws' := (W_Arr576 cI (sh a 1) (g_Tree_cells S))) [1] rfl
    have hDc := hD.sub (ws' := (W_Arr576 cI (sh a 1) (g_Tree_cells S))) [1] (by decide) rfl
    have hFc := va_free (wc := (W_Arr576 cI (sh a 1) (g_Tree_cells S))) hD hS hA [1] rfl
    refine va_callv (va_runS (As := [.ref (a 1), .int r1, .ref (a 1), .int (v1 + (1 : Int32)), .int ((g_Tree_size S) - r1)]) (rest := []) ⟨hx, hb, hml, hown, hts⟩ (c_X3_moveCells_same l dC dI cI (sh a 1) H.size _ _ _ _ _ h4) (va_cwS 5 hts gX3_dropBelow_X3_moveCells rfl rfl rfl (by decide +kernel) ⟨Nat.le_of_ble_eq_true rfl, Nat.le_of_ble_eq_true rfl⟩) (jPreS hK hPc hDc hN) rfl rfl hl.1 rfl (lv_room (Nat.le_of_ble_eq_true rfl)) dX3_dropBelow_24 ⟨Nat.le_of_ble_eq_true rfl, Nat.le_of_ble_eq_true rfl⟩) hS (fun q _ h => hFc q h) hFc (fun u' t H locs ht hvm hw hB hz1 hk1 hS => ?_)
    subst hw
    obtain ⟨hP1, -, hD1⟩ := hB
    rw [ht] at hP1
    obtain ⟨hP, hD⟩ := jJoin (wc := (W_Arr576 cI (sh a 1) (g_Tree_cells S))) (w1 := (W_Arr576 cI (sh a 1) u3)) (ws' := (W_Tree cI a (s_Tree_cells S u3))) hP hD [1] [0] [0, 1] rfl rfl (by decide) (by decide) hk1 hFc hP1 hD1 (by decide) rfl
    refine lv_aload_n hx hb dX3_dropBelow_27 rfl (lv_at hl 1 rfl) ?_
    refine lv_aload_n hx hb dX3_dropBelow_28 rfl (lv_at hl 1 rfl) ?_
    refine va_get (D := (dC, dI)) (ci := 3) (v := .int (g_Tree_size S)) (C := RX3) (T := TX3) (N := 3) hx hb hts hinX3 hown hK hP 0 rfl rfl 1 (by decide) (hts (Cond.fieldLink RX3 15 "LearnedShapes$Tree" "size" "I") (List.mem_of_getElem? (i := 2) rfl)) (fun _ h9 => h9) rfl dX3_dropBelow_29 ?_
    refine lv_iload_n hx hb dX3_dropBelow_32 rfl (lv_at hl 0 rfl) ?_
    refine lv_iload_n hx hb dX3_dropBelow_33 rfl (lv_at hl 2 rfl) ?_
    refine lv_isub hx hb dX3_dropBelow_34 ?_
    refine lv_iconst (v := (1 : Int32)) hx hb dX3_dropBelow_35 (by decide) ?_
    refine lv_isub hx hb dX3_dropBelow_36 ?_
    refine lv_isub hx hb dX3_dropBelow_37 ?_
    refine va_put (D := (dC, dI)) (ci := 3) (v := .int ((g_Tree_size S) - ((r1 - v1) - (1 : Int32)))) (ty := .int) (C := RX3) (T := TX3) (N := 3) hx hb hts hinX3 tyX3 tyX3_ok nmX3 hown hK hP hD hS 0 rfl rfl 1 (by decide) (hts (Cond.fieldLink RX3 15 "LearnedShapes$Tree" "size" "I") (List.mem_of_getElem? (i := 2) rfl)) (fun _ h9 => h9) rfl (by decide +kernel) (rfl) rfl (Nat.le_of_ble_eq_true rfl) dX3_dropBelow_38 (fun H locs hP hD hS => ?_)
    have hP : va_P (dC, dI) vwCl ((W_Tree cI a (s_Tree_size (s_Tree_cells S u3) ((g_Tree_size S) - ((r1 - v1) - (1 : Int32)))))) H := hP
    have hD : va_D A ((W_Tree cI a (s_Tree_size (s_Tree_cells S u3) ((g_Tree_size S) - ((r1 - v1) - (1 : Int32)))))) := hD
    have e50 := Option.some.inj hF
    subst e50
    exact W.vret hx hb hr (fun t ht hW => ⟨⟨(s_Tree_size (s_Tree_cells S u3) ((g_Tree_size S) - ((r1 - v1) - (1 : Int32)))), rfl, rfl, by rw [ht]; exact hP, va_K.moved hW.alike hK, hD⟩, hS.F ht⟩) hS.2.2 dX3_dropBelow_41
  exact KE _ _ hP hD hS
set_option maxHeartbeats 4000000 in
set_option maxRecDepth 100000 in
theorem c_X3_markOptional (l : Launch) (dC : Nat → ClassId) (dI : Nat → Nat → Nat) (cI : ClassId) (a : Nat → Nat) (sz : Nat) (S : S_Tree)  (Y : S_Tree) (hF : F_X3_markOptional S  = some Y) : Met l yX3_markOptional wsX3_markOptional ({ frames := 2, cells := 0, slots := 0, locals := 47 } : Room) (va_Pc [.ref (a 0)] (jPre (dC, dI) [(cI, .int)] sz ((W_Tree cI a S)))) (va_Qv (fun u : S_Tree => Y = u) (fun u : S_Tree => jB (dC, dI) [(cI, .int)] (va_A ((W_Tree cI a S)) sz) ((W_Tree cI a u))) (va_A ((W_Tree cI a S)) sz)) 0 0 (va_A ((W_Tree cI a S)) sz) := by
  refine Met.ofW (cc := cX3_markOptional) (maxL := 5) (ret := none) (by decide) rfl ?_
  intro p e s m args below meth c s₁ B hml hv
  obtain ⟨rfl, hsz, hP, hK, hD0, hN⟩ := hv
  have hx := B.exec
  have hb := B.bytes
  have hr := B.returns
  have hts := atoms_spec (ws := wsX3_markOptional) B.pre
  have hown : s.vm.findClass RX3 = some m.cls := findClass_of_methodNamed B.named
  have hlocks := B.notSynchronized
  have hinX3 : ∀ w ∈ u_ws RX3 TX3 3, w ∈ wsX3_markOptional := by decide +kernel
  subst hsz
  have hD := hD0.self (sz := s.heap.size)
  generalize hAe : (va_A ((W_Tree cI a S)) s.heap.size) = A at hD ⊢
  have hA : ∀ q : Nat, s.heap.size ≤ q → A q := fun q h => by rw [← hAe]; exact Or.inr h
  have hS : va_S A s.heap s.heap [] := va_S.rf
  have hl := lv_entry ([.ref (a 0)]) (n := 5) (Nat.le_of_ble_eq_true rfl)
  rw [lg_entry_eq]
  generalize (lg_sl ([.ref (a 0)]) ++ List.replicate (5 - (lg_sl ([.ref (a 0)])).length) Slot.unset).toArray = ls at hl ⊢
  have hl : lv_has ls 5 [(0, .ref (a 0))] := hl
  have K2 : ∀ (n2 : Nat) (S : S_Tree) (x1 : Int32) (H : Heap) (locs : List Loc), F_X3_markOptional_2 n2 S x1 = some Y → va_P (dC, dI) vwCl ((W_Tree cI a S)) H → va_D A ((W_Tree cI a S)) → va_S A s.heap H locs → ∀ ls : Array Slot, lv_has ls 5 [(0, .ref (a 0)), (1, .int x1)] → W p l e (headSpec wsX3_markOptional ({ frames := 2, cells := 0, slots := 0, locals := 47 } : Room)).room s m ([.ref (a 0)] : List Value).toArray below meth c H locs 0 0 (MQ below (va_Qv (fun u : S_Tree => Y = u) (fun u : S_Tree => jB (dC, dI) [(cI, .int)] A ((W_Tree cI a u))) A) ([.ref (a 0)] : List Value).toArray s 0 0 A) (F0 m 2 ls []) := by
    intro n2
    induction n2 with
    | zero => intro S x1 H locs hF; exact nomatch hF
    | succ n2 ih2 =>
      intro S x1 H locs hF hP hD hS ls hl
      rw [F_X3_markOptional_2_s] at hF
      have K57 : ∀ (S : S_Tree) (x1 : Int32) (x3 : Bool) (t0 : Bool) (H : Heap) (locs : List Loc), F_X3_markOptional_57 (F_X3_markOptional_2 n2) S x1 x3 t0 = some Y → va_P (dC, dI) vwCl ((W_Tree cI a S)) H → va_D A ((W_Tree cI a S)) → va_S A s.heap H locs → ∀ ls : Array Slot, lv_has ls 5 [(0, .ref (a 0)), (1, .int x1), (3, .int (b2i x3))] → W p l e (headSpec wsX3_markOptional ({ frames := 2, cells := 0, slots := 0, locals := 47 } : Room)).room s m ([.ref (a 0)] : List Value).toArray below meth c H locs 0 0 (MQ below (va_Qv (fun u : S_Tree => Y = u) (fun u : S_Tree => jB (dC, dI) [(cI, .int)] A ((W_Tree cI a u))) A) ([.ref (a 0)] : List Value).toArray s 0 0 A) (F0 m 57 ls [.int (b2i t0)]) := by
        intro S x1 x3 t0 H locs hF hP hD hS ls hl
        unfold F_X3_markOptional_57 at hF
        refine lv_istore (lv' := [(4, .int (b2i t0)), (0, .ref (a 0)), (1, .int x1), (3, .int (b2i x3))]) hx hb dX3_markOptional_57 hl (by decide) rfl (fun ls hl => ?_)
        refine lv_aload_n hx hb dX3_markOptional_59 rfl (lv_at hl 1 rfl) ?_
        refine lv_iload_n hx hb dX3_markOptional_60 rfl (lv_at hl 2 rfl) ?_
        refine lv_bipush (v := (8 : Int32)) hx hb dX3_markOptional_61 (by decide) ?_
        refine lv_iload_n hx hb dX3_markOptional_63 rfl (lv_at hl 3 rfl) ?_
        refine lv_if_eq (tgt := 76) hx hb dX3_markOptional_64 (by decide) (fun c1 => ?_) (fun c1 => ?_)
        · have hF := F_pos c1 hF
          refine lv_iconst (v := (0 : Int32)) hx hb dX3_markOptional_76 (by decide) ?_
          obtain ⟨u2, h3, hF⟩ := ob1_some hF
          have hPc : va_P (dC, dI) vwCl ((W_Tree cI a S)) H := hP
          have hDc : va_D A ((W_Tree cI a S)) := hD
          have hFc := jFreeW (ws := (W_Tree cI a S)) hD hS hA
          refine va_callv (va_runV (As := [.int x1, .int (8 : Int32), .int (0 : Int32)]) (rest := []) ⟨hx, hb, hml, hown, hts⟩ (c_X3_put l dC dI cI a H.size _ _ _ _ _ h3) (cwV 3 hts gX3_markOptional_X3_put rfl rfl rfl (by decide +kernel) ⟨Nat.le_of_ble_eq_true rfl, Nat.le_of_ble_eq_true rfl⟩) (jPreV hK hPc hDc hN (ci := 3) rfl rfl) rfl rfl hl.1 rfl (lv_room (Nat.le_of_ble_eq_true rfl)) dX3_markOptional_77 ⟨Nat.le_of_ble_eq_true rfl, Nat.le_of_ble_eq_true rfl⟩) hS (fun q _ h => hFc q h) hFc (fun u' t H locs ht hvm hw hB hz1 hk1 hS => ?_)
          subst hw
          obtain ⟨hP1, -, hD1⟩ := hB
          rw [ht] at hP1
          have hP : va_P (dC, dI) vwCl ((W_Tree cI a u2)) H := hP1
          have hD : va_D A ((W_Tree cI a u2)) := hD1.weaken (fun _ _ _ h => hFc _ h)
          refine lv_iinc (v := (x1 + (1 : Int32))) (lv' := [(1, .int (x1 + (1 : Int32))), (4, .int (b2i t0)), (0, .ref (a 0)), (3, .int (b2i x3))]) hx hb dX3_markOptional_80 hl (k := 2) rfl rfl (by decide) rfl (fun ls hl => ?_)
          refine lv_goto (tgt := 2) hx hb dX3_markOptional_83 (by decide) ?_
          exact ih2 _ _ _ _ hF hP hD hS _ (lv_sub hl [2, 0] rfl)
        · have hF := F_neg c1 hF
          refine lv_iload hx hb dX3_markOptional_67 (lv_at hl 0 rfl) ?_
          refine lv_if_eq (tgt := 76) hx hb dX3_markOptional_69 (by decide) (fun c4 => ?_) (fun c4 => ?_)
          · have hF := F_pos c4 hF
            refine lv_iconst (v := (0 : Int32)) hx hb dX3_markOptional_76 (by decide) ?_
            obtain ⟨u5, h6, hF⟩ := ob1_some hF
            have hPc : va_P (dC, dI) vwCl ((W_Tree cI a S)) H := hP
            have hDc : va_D A ((W_Tree cI a S)) := hD
            have hFc := jFreeW (ws := (W_Tree cI a S)) hD hS hA
            refine va_callv (va_runV (As := [.int x1, .int (8 : Int32), .int (0 : Int32)]) (rest := []) ⟨hx, hb, hml, hown, hts⟩ (c_X3_put l dC dI cI a H.size _ _ _ _ _ h6) (cwV 3 hts gX3_markOptional_X3_put rfl rfl rfl (by decide +kernel) ⟨Nat.le_of_ble_eq_true rfl, Nat.le_of_ble_eq_true rfl⟩) (jPreV hK hPc hDc hN (ci := 3) rfl rfl) rfl rfl hl.1 rfl (lv_room (Nat.le_of_ble_eq_true rfl)) dX3_markOptional_77 ⟨Nat.le_of_ble_eq_true rfl, Nat.le_of_ble_eq_true rfl⟩) hS (fun q _ h => hFc q h) hFc (fun u' t H locs ht hvm hw hB hz1 hk1 hS => ?_)
            subst hw
            obtain ⟨hP1, -, hD1⟩ := hB
            rw [ht] at hP1
            have hP : va_P (dC, dI) vwCl ((W_Tree cI a u5)) H := hP1
            have hD : va_D A ((W_Tree cI a u5)) := hD1.weaken (fun _ _ _ h => hFc _ h)
            refine lv_iinc (v := (x1 + (1 : Int32))) (lv' := [(1, .int (x1 + (1 : Int32))), (4, .int (b2i t0)), (0, .ref (a 0)), (3, .int (b2i x3))]) hx hb dX3_markOptional_80 hl (k := 2) rfl rfl (by decide) rfl (fun ls hl => ?_)
            refine lv_goto (tgt := 2) hx hb dX3_markOptional_83 (by decide) ?_
            exact ih2 _ _ _ _ hF hP hD hS _ (lv_sub hl [2, 0] rfl)
          · have hF := F_neg c4 hF
            refine lv_iconst (v := (1 : Int32)) hx hb dX3_markOptional_72 (by decide) ?_
            refine lv_goto (tgt := 77) hx hb dX3_markOptional_73 (by decide) ?_
            obtain ⟨u7, h8, hF⟩ := ob1_some hF
            have hPc : va_P (dC, dI) vwCl ((W_Tree cI a S)) H := hP
            have hDc : va_D A ((W_Tree cI a S)) := hD
            have hFc := jFreeW (ws := (W_Tree cI a S)) hD hS hA
            refine va_callv (va_runV (As := [.int x1, .int (8 : Int32), .int (1 : Int32)]) (rest := []) ⟨hx, hb, hml, hown, hts⟩ (c_X3_put l dC dI cI a H.size _ _ _ _ _ h8) (cwV 3 hts gX3_markOptional_X3_put rfl rfl rfl (by decide +kernel) ⟨Nat.le_of_ble_eq_true rfl, Nat.le_of_ble_eq_true rfl⟩) (jPreV hK hPc hDc hN (ci := 3) rfl rfl) rfl rfl hl.1 rfl (lv_room (Nat.le_of_ble_eq_true rfl)) dX3_markOptional_77 ⟨Nat.le_of_ble_eq_true rfl, Nat.le_of_ble_eq_true rfl⟩) hS (fun q _ h => hFc q h) hFc (fun u' t H locs ht hvm hw hB hz1 hk1 hS => ?_)
            subst hw
            obtain ⟨hP1, -, hD1⟩ := hB
            rw [ht] at hP1
            have hP : va_P (dC, dI) vwCl ((W_Tree cI a u7)) H := hP1
            have hD : va_D A ((W_Tree cI a u7)) := hD1.weaken (fun _ _ _ h => hFc _ h)
            refine lv_iinc (v := (x1 + (1 : Int32))) (lv' := [(1, .int (x1 + (1 : Int32))), (4, .int (b2i t0)), (0, .ref (a 0)), (3, .int (b2i x3))]) hx hb dX3_markOptional_80 hl (k := 2) rfl rfl (by decide) rfl (fun ls hl => ?_)
            refine lv_goto (tgt := 2) hx hb dX3_markOptional_83 (by decide) ?_
            exact ih2 _ _ _ _ hF hP hD hS _ (lv_sub hl [2, 0] rfl)
      have K32 : ∀ (S : S_Tree) (x1 : Int32) (t0 : Bool) (H : Heap) (locs : List Loc), F_X3_markOptional_32 (F_X3_markOptional_2 n2) S x1 t0 = some Y → va_P (dC, dI) vwCl ((W_Tree cI a S)) H → va_D A ((W_Tree cI a S)) → va_S A s.heap H locs → ∀ ls : Array Slot, lv_has ls 5 [(0, .ref (a 0)), (1, .int x1)] → W p l e (headSpec wsX3_markOptional ({ frames := 2, cells := 0, slots := 0, locals := 47 } : Room)).room s m ([.ref (a 0)] : List Value).toArray below meth c H locs 0 0 (MQ below (va_Qv (fun u : S_Tree => Y = u) (fun u : S_Tree => jB (dC, dI) [(cI, .int)] A ((W_Tree cI a u))) A) ([.ref (a 0)] : List Value).toArray s 0 0 A) (F0 m 32 ls [.int (b2i t0)]) := by
        intro S x1 t0 H locs hF hP hD hS ls hl
        unfold F_X3_markOptional_32 at hF
        refine lv_istore_n (lv' := [(3, .int (b2i t0)), (0, .ref (a 0)), (1, .int x1)]) hx hb dX3_markOptional_32 rfl hl (by decide) rfl (fun ls hl => ?_)
        refine lv_aload_n hx hb dX3_markOptional_33 rfl (lv_at hl 1 rfl) ?_
        refine lv_iload_n hx hb dX3_markOptional_34 rfl (lv_at hl 2 rfl) ?_
        refine lv_iconst (v := (3 : Int32)) hx hb dX3_markOptional_35 (by decide) ?_
        obtain ⟨r9, h10, hF⟩ := ob1_some hF
        have hPc : va_P (dC, dI) vwCl ((W_Tree cI a S)) H := hP
        have hDc : va_D A ((W_Tree cI a S)) := hD
        have hFc := jFreeW (ws := (W_Tree cI a S)) hD hS hA
        refine va_calli (va_runV (As := [.int x1, .int (3 : Int32)]) (rest := []) ⟨hx, hb, hml, hown, hts⟩ (c_X3_get l dC dI cI a H.size _ _ _ _ h10) (cwV 2 hts gX3_markOptional_X3_get rfl rfl rfl (by decide +kernel) ⟨Nat.le_of_ble_eq_true rfl, Nat.le_of_ble_eq_true rfl⟩) (jPreV hK hPc hDc hN (ci := 3) rfl rfl) rfl rfl hl.1 rfl (lv_room (Nat.le_of_ble_eq_true rfl)) dX3_markOptional_36 ⟨Nat.le_of_ble_eq_true rfl, Nat.le_of_ble_eq_true rfl⟩) hS (fun q _ h => hFc q h) hFc (fun r' u' t H locs ht hvm hw hB hz1 hk1 hS => ?_)
        subst hw
        obtain ⟨hP1, -, hD1⟩ := hB
        rw [ht] at hP1
        have hP : va_P (dC, dI) vwCl ((W_Tree cI a S)) H := hP1
        have hD : va_D A ((W_Tree cI a S)) := hD1.weaken (fun _ _ _ h => hFc _ h)
        refine lv_aload_n hx hb dX3_markOptional_39 rfl (lv_at hl 1 rfl) ?_
        refine lv_aload_n hx hb dX3_markOptional_40 rfl (lv_at hl 1 rfl) ?_
        refine lv_iload_n hx hb dX3_markOptional_41 rfl (lv_at hl 2 rfl) ?_
        obtain ⟨r11, h12, hF⟩ := ob1_some hF
        have hPc : va_P (dC, dI) vwCl ((W_Tree cI a S)) H := hP
        have hDc : va_D A ((W_Tree cI a S)) := hD
        have hFc := jFreeW (ws := (W_Tree cI a S)) hD hS hA
        refine va_calli (va_runV (As := [.int x1]) (rest := [.ref (a 0), .int r9]) ⟨hx, hb, hml, hown, hts⟩ (c_X3_above l dC dI cI a H.size _ _ _ h12) (cwV 1 hts gX3_markOptional_X3_above rfl rfl rfl (by decide +kernel) ⟨Nat.le_of_ble_eq_true rfl, Nat.le_of_ble_eq_true rfl⟩) (jPreV hK hPc hDc hN (ci := 3) rfl rfl) rfl rfl hl.1 rfl (lv_room (Nat.le_of_ble_eq_true rfl)) dX3_markOptional_42 ⟨Nat.le_of_ble_eq_true rfl, Nat.le_of_ble_eq_true rfl⟩) hS (fun q _ h => hFc q h) hFc (fun r' u' t H locs ht hvm hw hB hz1 hk1 hS => ?_)
        subst hw
        obtain ⟨hP1, -, hD1⟩ := hB
        rw [ht] at hP1
        have hP : va_P (dC, dI) vwCl ((W_Tree cI a S)) H := hP1
        have hD : va_D A ((W_Tree cI a S)) := hD1.weaken (fun _ _ _ h => hFc _ h)
        refine lv_iconst (v := (5 : Int32)) hx hb dX3_markOptional_45 (by decide) ?_
        obtain ⟨r13, h14, hF⟩ := ob1_some hF
        have hPc : va_P (dC, dI) vwCl ((W_Tree cI a S)) H := hP
        have hDc : va_D A ((W_Tree cI a S)) := hD
        have hFc := jFreeW (ws := (W_Tree cI a S)) hD hS hA
        refine va_calli (va_runV (As := [.int r11, .int (5 : Int32)]) (rest := [.int r9]) ⟨hx, hb, hml, hown, hts⟩ (c_X3_get l dC dI cI a H.size _ _ _ _ h14) (cwV 2 hts gX3_markOptional_X3_get rfl rfl rfl (by decide +kernel) ⟨Nat.le_of_ble_eq_true rfl, Nat.le_of_ble_eq_true rfl⟩) (jPreV hK hPc hDc hN (ci := 3) rfl rfl) rfl rfl hl.1 rfl (lv_room (Nat.le_of_ble_eq_true rfl)) dX3_markOptional_46 ⟨Nat.le_of_ble_eq_true rfl, Nat.le_of_ble_eq_true rfl⟩) hS (fun q _ h => hFc q h) hFc (fun r' u' t H locs ht hvm hw hB hz1 hk1 hS => ?_)
        subst hw
        obtain ⟨hP1, -, hD1⟩ := hB
        rw [ht] at hP1
        have hP : va_P (dC, dI) vwCl ((W_Tree cI a S)) H := hP1
        have hD : va_D A ((W_Tree cI a S)) := hD1.weaken (fun _ _ _ h => hFc _ h)
        refine lv_icmp_ge (tgt := 56) hx hb dX3_markOptional_49 (by decide) (fun c15 => ?_) (fun c15 => ?_)
        · have hF := F_pos c15 hF
          refine lv_iconst (v := (0 : Int32)) hx hb dX3_markOptional_56 (by decide) ?_
          exact K57 _ _ _ _ _ _ hF hP hD hS _ (lv_sub hl [1, 2, 0] rfl)
        · have hF := F_neg c15 hF
          refine lv_iconst (v := (1 : Int32)) hx hb dX3_markOptional_52 (by decide) ?_
          refine lv_goto (tgt := 57) hx hb dX3_markOptional_53 (by decide) ?_
          exact K57 _ _ _ _ _ _ hF hP hD hS _ (lv_sub hl [1, 2, 0] rfl)
      refine lv_iload_n hx hb dX3_markOptional_2 rfl (lv_at hl 1 rfl) ?_
      refine lv_aload_n hx hb dX3_markOptional_3 rfl (lv_at hl 0 rfl) ?_
      refine va_get (D := (dC, dI)) (ci := 3) (v := .int (g_Tree_size S)) (C := RX3) (T := TX3) (N := 3) hx hb hts hinX3 hown hK hP 0 rfl rfl 1 (by decide) (hts (Cond.fieldLink RX3 15 "LearnedShapes$Tree" "size" "I") (List.mem_of_getElem? (i := 1) rfl)) (fun _ h9 => h9) rfl dX3_markOptional_4 ?_
      refine lv_icmp_ge (tgt := 86) hx hb dX3_markOptional_7 (by decide) (fun c16 => ?_) (fun c16 => ?_)
      · have hF := F_pos c16 hF
        have e50 := Option.some.inj hF
        subst e50
        exact W.vret hx hb hr (fun t ht hW => ⟨⟨S, rfl, rfl, by rw [ht]; exact hP, va_K.moved hW.alike hK, hD⟩, hS.F ht⟩) hS.2.2 dX3_markOptional_86
      · have hF := F_neg c16 hF
        refine lv_aload_n hx hb dX3_markOptional_10 rfl (lv_at hl 0 rfl) ?_
        refine lv_iload_n hx hb dX3_markOptional_11 rfl (lv_at hl 1 rfl) ?_
        refine lv_iconst (v := (1 : Int32)) hx hb dX3_markOptional_12 (by decide) ?_
        obtain ⟨r17, h18, hF⟩ := ob1_some hF
        have hPc : va_P (dC, dI) vwCl ((W_Tree cI a S)) H := hP
        have hDc : va_D A ((W_Tree cI a S)) := hD
        have hFc := jFreeW (ws := (W_Tree cI a S)) hD hS hA
        refine va_calli (va_runV (As := [.int x1, .int (1 : Int32)]) (rest := []) ⟨hx, hb, hml, hown, hts⟩ (c_X3_get l dC dI cI a H.size _ _ _ _ h18) (cwV 2 hts gX3_markOptional_X3_get rfl rfl rfl (by decide +kernel) ⟨Nat.le_of_ble_eq_true rfl, Nat.le_of_ble_eq_true rfl⟩) (jPreV hK hPc hDc hN (ci := 3) rfl rfl) rfl rfl hl.1 rfl (lv_room (Nat.le_of_ble_eq_true rfl)) dX3_markOptional_13 ⟨Nat.le_of_ble_eq_true rfl, Nat.le_of_ble_eq_true rfl⟩) hS (fun q _ h => hFc q h) hFc (fun r' u' t H locs ht hvm hw hB hz1 hk1 hS => ?_)
        subst hw
        obtain ⟨hP1, -, hD1⟩ := hB
        rw [ht] at hP1
        have hP : va_P (dC, dI) vwCl ((W_Tree cI a S)) H := hP1
        have hD : va_D A ((W_Tree cI a S)) := hD1.weaken (fun _ _ _ h => hFc _ h)
        refine lv_istore_n (lv' := [(2, .int r17), (0, .ref (a 0)), (1, .int x1)]) hx hb dX3_markOptional_16 rfl hl (by decide) rfl (fun ls hl => ?_)
        refine lv_iload_n hx hb dX3_markOptional_17 rfl (lv_at hl 0 rfl) ?_
        refine lv_if_lt (tgt := 31) hx hb dX3_markOptional_18 (by decide) (fun c19 => ?_) (fun c19 => ?_)
        · have hF := F_pos c19 hF
          refine lv_iconst (v := (0 : Int32)) hx hb dX3_markOptional_31 (by decide) ?_
          exact K32 _ _ _ _ _ hF hP hD hS _ (lv_sub hl [1, 2] rfl)
        · have hF := F_neg c19 hF
          refine lv_iload_n hx hb dX3_markOptional_21 rfl (lv_at hl 0 rfl) ?_
          refine lv_bipush (v := (8 : Int32)) hx hb dX3_markOptional_22 (by decide) ?_
          refine lv_icmp_ge (tgt := 31) hx hb dX3_markOptional_24 (by decide) (fun c20 => ?_) (fun c20 => ?_)
          · have hF := F_pos c20 hF
            refine lv_iconst (v := (0 : Int32)) hx hb dX3_markOptional_31 (by decide) ?_
            exact K32 _ _ _ _ _ hF hP hD hS _ (lv_sub hl [1, 2] rfl)
          · have hF := F_neg c20 hF
            refine lv_iconst (v := (1 : Int32)) hx hb dX3_markOptional_27 (by decide) ?_
            refine lv_goto (tgt := 32) hx hb dX3_markOptional_28 (by decide) ?_
            exact K32 _ _ _ _ _ hF hP hD hS _ (lv_sub hl [1, 2] rfl)
  have KE : ∀ (H : Heap) (locs : List Loc), va_P (dC, dI) vwCl ((W_Tree cI a S)) H → va_D A ((W_Tree cI a S)) → va_S A s.heap H locs → W p l e (headSpec wsX3_markOptional ({ frames := 2, cells := 0, slots := 0, locals := 47 } : Room)).room s m ([.ref (a 0)] : List Value).toArray below meth c H locs 0 0 (MQ below (va_Qv (fun u : S_Tree => Y = u) (fun u : S_Tree => jB (dC, dI) [(cI, .int)] A ((W_Tree cI a u))) A) ([.ref (a 0)] : List Value).toArray s 0 0 A) (F0 m 0 ls []) := by
    intro H locs hP hD hS
    unfold F_X3_markOptional at hF
    refine lv_iconst (v := (0 : Int32)) hx hb dX3_markOptional_0 (by decide) ?_
    refine lv_istore_n (lv' := [(1, .int (0 : Int32)), (0, .ref (a 0))]) hx hb dX3_markOptional_1 rfl hl (by decide) rfl (fun ls hl => ?_)
    exact K2 _ _ _ _ _ hF hP hD hS _ (lv_sub hl [1, 0] rfl)
  exact KE _ _ hP hD hS
set_option maxHeartbeats 4000000 in
set_option maxRecDepth 100000 in
theorem c_X3_copyFrom (l : Launch) (dC : Nat → ClassId) (dI : Nat → Nat → Nat) (cI : ClassId) (a b : Nat → Nat) (sz : Nat) (S : S_Tree) (S1 : S_Tree)  (Y : S_Tree) (hF : F_X3_copyFrom S S1  = some Y) : Met l yX3_copyFrom wsX3_copyFrom ({ frames := 2, cells := 0, slots := 0, locals := 87 } : Room) (va_Pc [.ref (a 0), .ref (b 0)] (jPre (dC, dI) [(cI, .int)] sz ((W_Tree cI a S) ++ (W_Tree cI b S1)))) (va_Qv (fun u : S_Tree => Y = u) (fun u : S_Tree => jB (dC, dI) [(cI, .int)] (va_A ((W_Tree cI a S) ++ (W_Tree cI b S1)) sz) ((W_Tree cI a u) ++ (W_Tree cI b S1))) (va_A ((W_Tree cI a S) ++ (W_Tree cI b S1)) sz)) 0 0 (va_A ((W_Tree cI a S) ++ (W_Tree cI b S1)) sz) := by
  refine Met.ofW (cc := cX3_copyFrom) (maxL := 2) (ret := none) (by decide) rfl ?_
  intro p e s m args below meth c s₁ B hml hv
  obtain ⟨rfl, hsz, hP, hK, hD0, hN⟩ := hv
  have hx := B.exec
  have hb := B.bytes
  have hr := B.returns
  have hts := atoms_spec (ws := wsX3_copyFrom) B.pre
  have hown : s.vm.findClass RX3 = some m.cls := findClass_of_methodNamed B.named
  have hlocks := B.notSynchronized
  have hinX3 : ∀ w ∈ u_ws RX3 TX3 3, w ∈ wsX3_copyFrom := by decide +kernel
  subst hsz
  have hD := hD0.self (sz := s.heap.size)
  generalize hAe : (va_A ((W_Tree cI a S) ++ (W_Tree cI b S1)) s.heap.size) = A at hD ⊢
  have hA : ∀ q : Nat, s.heap.size ≤ q → A q := fun q h => by rw [← hAe]; exact Or.inr h
  have hS : va_S A s.heap s.heap [] := va_S.rf
  have hl := lv_entry ([.ref (a 0), .ref (b 0)]) (n := 2) (Nat.le_of_ble_eq_true rfl)
  rw [lg_entry_eq]
  generalize (lg_sl ([.ref (a 0), .ref (b 0)]) ++ List.replicate (2 - (lg_sl ([.ref (a 0), .ref (b 0)])).length) Slot.unset).toArray = ls at hl ⊢
  have hl : lv_has ls 2 [(0, .ref (a 0)), (1, .ref (b 0))] := hl
  have KE : ∀ (H : Heap) (locs : List Loc), va_P (dC, dI) vwCl ((W_Tree cI a S) ++ (W_Tree cI b S1)) H → va_D A ((W_Tree cI a S) ++ (W_Tree cI b S1)) → va_S A s.heap H locs → W p l e (headSpec wsX3_copyFrom ({ frames := 2, cells := 0, slots := 0, locals := 87 } : Room)).room s m ([.ref (a 0), .ref (b 0)] : List Value).toArray below meth c H locs 0 0 (MQ below (va_Qv (fun u : S_Tree => Y = u) (fun u : S_Tree => jB (dC, dI) [(cI, .int)] A ((W_Tree cI a u) ++ (W_Tree cI b S1))) A) ([.ref (a 0), .ref (b 0)] : List Value).toArray s 0 0 A) (F0 m 0 ls []) := by
    intro H locs hP hD hS
    unfold F_X3_copyFrom at hF
    refine lv_aload_n hx hb dX3_copyFrom_0 rfl (lv_at hl 1 rfl) ?_
    refine va_get (D := (dC, dI)) (ci := 3) (v := .ref (b 1)) (C := RX3) (T := TX3) (N := 3) hx hb hts hinX3 hown hK hP 2 rfl rfl 0 (by decide) (hts (Cond.fieldLink RX3 11 "LearnedShapes$Tree" "cells" "[I") (List.mem_of_getElem? (i := 1) rfl)) (fun _ h9 => h9) rfl dX3_copyFrom_1 ?_
    refine lv_iconst (v := (0 : Int32)) hx hb dX3_copyFrom_4 (by decide) ?_
    refine lv_aload_n hx hb dX3_copyFrom_5 rfl (lv_at hl 0 rfl) ?_
    refine va_get (D := (dC, dI)) (ci := 3) (v := .ref (a 1)) (C := RX3) (T := TX3) (N := 3) hx hb hts hinX3 hown hK hP 0 rfl rfl 0 (by decide) (hts (Cond.fieldLink RX3 11 "LearnedShapes$Tree" "cells" "[I") (List.mem_of_getElem? (i := 1) rfl)) (fun _ h9 => h9) rfl dX3_copyFrom_6 ?_
    refine lv_iconst (v := (0 : Int32)) hx hb dX3_copyFrom_9 (by decide) ?_
    refine lv_aload_n hx hb dX3_copyFrom_10 rfl (lv_at hl 1 rfl) ?_
    refine va_get (D := (dC, dI)) (ci := 3) (v := .int (g_Tree_size S1)) (C := RX3) (T := TX3) (N := 3) hx hb hts hinX3 hown hK hP 2 rfl rfl 1 (by decide) (hts (Cond.fieldLink RX3 15 "LearnedShapes$Tree" "size" "I") (List.mem_of_getElem? (i := 2) rfl)) (fun _ h9 => h9) rfl dX3_copyFrom_11 ?_
    obtain ⟨u1, h2, hF⟩ := ob1_some hF
    have hPc := hP.sub (ws' := (W_Arr576 cI (sh b 1) (g_Tree_cells S1)) ++ (W_Arr576 cI (sh a 1) (g_Tree_cells S))) [3, 1] rfl
    have hDc := hD.sub (ws' := (W_Arr576 cI (sh b 1) (g_Tree_cells S1)) ++ (W_Arr576 cI (sh a 1) (g_Tree_cells S))) [3, 1] (by decide) rfl
    have hFc := va_free (wc := (W_Arr576 cI (sh b 1) (g_Tree_cells S1)) ++ (W_Arr576 cI (sh a 1) (g_Tree_cells S))) hD hS hA [3, 1] rfl
    refine va_callv (va_runS (As := [.ref (b 1), .int (0 : Int32), .ref (a 1), .int (0 : Int32), .int (g_Tree_size S1)]) (rest := []) ⟨hx, hb, hml, hown, hts⟩ (c_X3_moveCells l dC dI cI (sh b 1) (sh a 1) H.size _ _ _ _ _ _ h2) (va_cwS 5 hts gX3_copyFrom_X3_moveCells rfl rfl rfl (by decide +kernel) ⟨Nat.le_of_ble_eq_true rfl, Nat.le_of_ble_eq_true rfl⟩) (jPreS hK hPc hDc hN) rfl rfl hl.1 rfl (lv_room (Nat.le_of_ble_eq_true rfl)) dX3_copyFrom_14 ⟨Nat.le_of_ble_eq_true rfl, Nat.le_of_ble_eq_true rfl⟩) hS (fun q _ h => hFc q h) hFc (fun u' t H locs ht hvm hw hB hz1 hk1 hS => ?_)
    subst hw
    obtain ⟨hP1, -, hD1⟩ := hB
    rw [ht] at hP1
    obtain ⟨hP, hD⟩ := jJoin (wc := (W_Arr576 cI (sh b 1) (g_Tree_cells S1)) ++ (W_Arr576 cI (sh a 1) (g_Tree_cells S))) (w1 := (W_Arr576 cI (sh b 1) (g_Tree_cells S1)) ++ (W_Arr576 cI (sh a 1) u1)) (ws' := (W_Tree cI a (s_Tree_cells S u1)) ++ (W_Tree cI b S1)) hP hD [3, 1] [0, 2] [0, 3, 1, 2] rfl rfl (by decide) (by decide) hk1 hFc hP1 hD1 (by decide) rfl
    refine lv_aload_n hx hb dX3_copyFrom_17 rfl (lv_at hl 0 rfl) ?_
    refine lv_aload_n hx hb dX3_copyFrom_18 rfl (lv_at hl 1 rfl) ?_
    refine va_get (D := (dC, dI)) (ci := 3) (v := .int (g_Tree_size S1)) (C := RX3) (T := TX3) (N := 3) hx hb hts hinX3 hown hK hP 2 rfl rfl 1 (by decide) (hts (Cond.fieldLink RX3 15 "LearnedShapes$Tree" "size" "I") (List.mem_of_getElem? (i := 2) rfl)) (fun _ h9 => h9) rfl dX3_copyFrom_19 ?_
    refine va_put (D := (dC, dI)) (ci := 3) (v := .int (g_Tree_size S1)) (ty := .int) (C := RX3) (T := TX3) (N := 3) hx hb hts hinX3 tyX3 tyX3_ok nmX3 hown hK hP hD hS 0 rfl rfl 1 (by decide) (hts (Cond.fieldLink RX3 15 "LearnedShapes$Tree" "size" "I") (List.mem_of_getElem? (i := 2) rfl)) (fun _ h9 => h9) rfl (by decide +kernel) (rfl) rfl (Nat.le_of_ble_eq_true rfl) dX3_copyFrom_22 (fun H locs hP hD hS => ?_)
    have hP : va_P (dC, dI) vwCl ((W_Tree cI a (s_Tree_size (s_Tree_cells S u1) (g_Tree_size S1))) ++ (W_Tree cI b S1)) H := hP
    have hD : va_D A ((W_Tree cI a (s_Tree_size (s_Tree_cells S u1) (g_Tree_size S1))) ++ (W_Tree cI b S1)) := hD
    refine lv_aload_n hx hb dX3_copyFrom_25 rfl (lv_at hl 0 rfl) ?_
    refine lv_aload_n hx hb dX3_copyFrom_26 rfl (lv_at hl 1 rfl) ?_
    refine va_get (D := (dC, dI)) (ci := 3) (v := .int (g_Tree_documents S1)) (C := RX3) (T := TX3) (N := 3) hx hb hts hinX3 hown hK hP 2 rfl rfl 2 (by decide) (hts (Cond.fieldLink RX3 19 "LearnedShapes$Tree" "documents" "I") (List.mem_of_getElem? (i := 3) rfl)) (fun _ h9 => h9) rfl dX3_copyFrom_27 ?_
    refine va_put (D := (dC, dI)) (ci := 3) (v := .int (g_Tree_documents S1)) (ty := .int) (C := RX3) (T := TX3) (N := 3) hx hb hts hinX3 tyX3 tyX3_ok nmX3 hown hK hP hD hS 0 rfl rfl 2 (by decide) (hts (Cond.fieldLink RX3 19 "LearnedShapes$Tree" "documents" "I") (List.mem_of_getElem? (i := 3) rfl)) (fun _ h9 => h9) rfl (by decide +kernel) (rfl) rfl (Nat.le_of_ble_eq_true rfl) dX3_copyFrom_30 (fun H locs hP hD hS => ?_)
    have hP : va_P (dC, dI) vwCl ((W_Tree cI a (s_Tree_documents (s_Tree_size (s_Tree_cells S u1) (g_Tree_size S1)) (g_Tree_documents S1))) ++ (W_Tree cI b S1)) H := hP
    have hD : va_D A ((W_Tree cI a (s_Tree_documents (s_Tree_size (s_Tree_cells S u1) (g_Tree_size S1)) (g_Tree_documents S1))) ++ (W_Tree cI b S1)) := hD
    have e50 := Option.some.inj hF
    subst e50
    exact W.vret hx hb hr (fun t ht hW => ⟨⟨(s_Tree_documents (s_Tree_size (s_Tree_cells S u1) (g_Tree_size S1)) (g_Tree_documents S1)), rfl, rfl, by rw [ht]; exact hP, va_K.moved hW.alike hK, hD⟩, hS.F ht⟩) hS.2.2 dX3_copyFrom_33
  exact KE _ _ hP hD hS
