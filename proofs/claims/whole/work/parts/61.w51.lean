set_option maxHeartbeats 4000000 in
set_option maxRecDepth 100000 in
theorem c_X5_goesOn (l : Launch) (dC : Nat → ClassId) (dI : Nat → Nat → Nat) (cI : ClassId) (a : Nat → Nat) (sz : Nat) (S : S_Model)  (rr : Bool) (Y : S_Model) (hF : F_X5_goesOn S  = some (rr, Y)) : Met l yX5_goesOn wsX5_goesOn ({ frames := 5, cells := 0, slots := 0, locals := 113 } : Room) (va_Pc [.ref (a 0)] (jPre (dC, dI) [(cI, .int)] sz ((W_Model cI a S)))) (va_Qi (fun (r' : Int32) (u : S_Model) => b2i rr = r' ∧ Y = u) (fun u : S_Model => jB (dC, dI) [(cI, .int)] (va_A ((W_Model cI a S)) sz) ((W_Model cI a u))) (va_A ((W_Model cI a S)) sz)) 0 0 (va_A ((W_Model cI a S)) sz) := by
  refine Met.ofW (cc := cX5_goesOn) (maxL := 3) (ret := (some .boolean)) (by decide) rfl ?_
  intro p e s m args below meth c s₁ B hml hv
  obtain ⟨rfl, hsz, hP, hK, hD0, hN⟩ := hv
  have hx := B.exec
  have hb := B.bytes
  have hr := B.returns
  have hts := atoms_spec (ws := wsX5_goesOn) B.pre
  have hown : s.vm.findClass RX5 = some m.cls := findClass_of_methodNamed B.named
  have hlocks := B.notSynchronized
  have hinX5 : ∀ w ∈ u_ws RX5 TX5 26, w ∈ wsX5_goesOn := by decide +kernel
  subst hsz
  have hD := hD0.self (sz := s.heap.size)
  generalize hAe : (va_A ((W_Model cI a S)) s.heap.size) = A at hD ⊢
  have hA : ∀ q : Nat, s.heap.size ≤ q → A q := fun q h => by rw [← hAe]; exact Or.inr h
  have hS : va_S A s.heap s.heap [] := va_S.rf
  have hl := lv_entry ([.ref (a 0)]) (n := 3) (Nat.le_of_ble_eq_true rfl)
  rw [lg_entry_eq]
  generalize (lg_sl ([.ref (a 0)]) ++ List.replicate (3 - (lg_sl ([.ref (a 0)])).length) Slot.unset).toArray = ls at hl ⊢
  have hl : lv_has ls 3 [(0, .ref (a 0))] := hl
  have KE : ∀ (H : Heap) (locs : List Loc), va_P (dC, dI) vwCl ((W_Model cI a S)) H → va_D A ((W_Model cI a S)) → va_S A s.heap H locs → W p l e (headSpec wsX5_goesOn ({ frames := 5, cells := 0, slots := 0, locals := 113 } : Room)).room s m ([.ref (a 0)] : List Value).toArray below meth c H locs 0 0 (MQ below (va_Qi (fun (r' : Int32) (u : S_Model) => b2i rr = r' ∧ Y = u) (fun u : S_Model => jB (dC, dI) [(cI, .int)] A ((W_Model cI a u))) A) ([.ref (a 0)] : List Value).toArray s 0 0 A) (F0 m 0 ls []) := by
    intro H locs hP hD hS
    unfold F_X5_goesOn at hF
    refine lv_aload_n hx hb dX5_goesOn_0 rfl (lv_at hl 0 rfl) ?_
    refine wg_open (v := .ref (a 10)) hx hb hts hinX5 hown hK hP rfl (hts (Cond.fieldLink RX5 37 "LearnedShapesModel" "open" "[I") (List.mem_of_getElem? (i := 1) rfl)) dX5_goesOn_1 ?_
    refine lv_aload_n hx hb dX5_goesOn_4 rfl (lv_at hl 0 rfl) ?_
    refine wg_deep (v := .int (g_Model_deep S)) hx hb hts hinX5 hown hK hP rfl (hts (Cond.fieldLink RX5 85 "LearnedShapesModel" "deep" "I") (List.mem_of_getElem? (i := 2) rfl)) dX5_goesOn_5 ?_
    refine lv_iconst (v := (1 : Int32)) hx hb dX5_goesOn_8 (by decide) ?_
    refine lv_isub hx hb dX5_goesOn_9 ?_
    obtain ⟨g1, hF⟩ := og_some hF
    refine wl_open (f := (g_Model_open S)) hx hb hK hP rfl (inb_in g1) dX5_goesOn_10 ?_
    refine lv_istore_n (lv' := [(1, .int ((g_Model_open S) ((g_Model_deep S) - (1 : Int32)).toNatClampNeg)), (0, .ref (a 0))]) hx hb dX5_goesOn_11 rfl hl (by decide) rfl (fun ls hl => ?_)
    refine lv_aload_n hx hb dX5_goesOn_12 rfl (lv_at hl 1 rfl) ?_
    refine wg_kinds (v := .ref (a 4)) hx hb hts hinX5 hown hK hP rfl (hts (Cond.fieldLink RX5 19 "LearnedShapesModel" "kinds" "[I") (List.mem_of_getElem? (i := 3) rfl)) dX5_goesOn_13 ?_
    refine lv_iload_n hx hb dX5_goesOn_16 rfl (lv_at hl 0 rfl) ?_
    obtain ⟨g2, hF⟩ := og_some hF
    refine wl_kinds (f := (g_Model_kinds S)) hx hb hK hP rfl (inb_in g2) dX5_goesOn_17 ?_
    refine lv_bipush (v := (6 : Int32)) hx hb dX5_goesOn_18 (by decide) ?_
    refine lv_icmp_ne (tgt := 122) hx hb dX5_goesOn_20 (by decide) (fun c3 => ?_) (fun c3 => ?_)
    · have hF := F_neg c3 hF
      refine lv_aload_n hx hb dX5_goesOn_122 rfl (lv_at hl 1 rfl) ?_
      refine lv_bipush (v := (93 : Int32)) hx hb dX5_goesOn_123 (by decide) ?_
      refine lv_bipush (v := (93 : Int32)) hx hb dX5_goesOn_125 (by decide) ?_
      obtain ⟨r4, h5, hF⟩ := ob1_some hF
      have hPc : va_P (dC, dI) vwCl ((W_Model cI a S)) H := hP
      have hDc : va_D A ((W_Model cI a S)) := hD
      have hFc := jFreeW (ws := (W_Model cI a S)) hD hS hA
      refine va_calli (va_runV (As := [.int (93 : Int32), .int (93 : Int32)]) (rest := []) ⟨hx, hb, hml, hown, hts⟩ (c_X5_isAt l dC dI cI a H.size _ _ _ _ h5) (cwV 2 hts gX5_goesOn_X5_isAt rfl rfl rfl (by decide +kernel) ⟨Nat.le_of_ble_eq_true rfl, Nat.le_of_ble_eq_true rfl⟩) (jPreV hK hPc hDc hN (ci := 5) rfl rfl) rfl rfl hl.1 rfl (lv_room (Nat.le_of_ble_eq_true rfl)) dX5_goesOn_127 ⟨Nat.le_of_ble_eq_true rfl, Nat.le_of_ble_eq_true rfl⟩) hS (fun q _ h => hFc q h) hFc (fun r' u' t H locs ht hvm hw hB hz1 hk1 hS => ?_)
      subst hw
      obtain ⟨hP1, -, hD1⟩ := hB
      rw [ht] at hP1
      have hP : va_P (dC, dI) vwCl ((W_Model cI a S)) H := hP1
      have hD : va_D A ((W_Model cI a S)) := hD1.weaken (fun _ _ _ h => hFc _ h)
      refine lv_if_eq (tgt := 139) hx hb dX5_goesOn_130 (by decide) (fun c6 => ?_) (fun c6 => ?_)
      · have hF := F_pos c6 hF
        refine lv_aload_n hx hb dX5_goesOn_139 rfl (lv_at hl 1 rfl) ?_
        refine wg_used (v := .ref (a 9)) hx hb hts hinX5 hown hK hP rfl (hts (Cond.fieldLink RX5 34 "LearnedShapesModel" "used" "[I") (List.mem_of_getElem? (i := 4) rfl)) dX5_goesOn_140 ?_
        refine lv_iload_n hx hb dX5_goesOn_143 rfl (lv_at hl 0 rfl) ?_
        obtain ⟨g7, hF⟩ := og_some hF
        refine wl_used (f := (g_Model_used S)) hx hb hK hP rfl (inb_in g7) dX5_goesOn_144 ?_
        refine lv_iconst (v := (1 : Int32)) hx hb dX5_goesOn_145 (by decide) ?_
        refine lv_icmp_ne (tgt := 163) hx hb dX5_goesOn_146 (by decide) (fun c8 => ?_) (fun c8 => ?_)
        · have hF := F_neg c8 hF
          refine lv_aload_n hx hb dX5_goesOn_163 rfl (lv_at hl 1 rfl) ?_
          refine wg_used (v := .ref (a 9)) hx hb hts hinX5 hown hK hP rfl (hts (Cond.fieldLink RX5 34 "LearnedShapesModel" "used" "[I") (List.mem_of_getElem? (i := 4) rfl)) dX5_goesOn_164 ?_
          refine lv_iload_n hx hb dX5_goesOn_167 rfl (lv_at hl 0 rfl) ?_
          refine lv_iconst (v := (1 : Int32)) hx hb dX5_goesOn_168 (by decide) ?_
          obtain ⟨g9, hF⟩ := og_some hF
          refine ws_used (f := (g_Model_used S)) hx hb hK hP hD hS rfl (inb_in g9) dX5_goesOn_169 (fun H locs hP hD hS => ?_)
          refine lv_aload_n hx hb dX5_goesOn_170 rfl (lv_at hl 1 rfl) ?_
          refine lv_bipush (v := (8 : Int32)) hx hb dX5_goesOn_171 (by decide) ?_
          obtain ⟨r10, u11, h12, hF⟩ := ob2_some hF
          have hPc : va_P (dC, dI) vwCl ((W_Model cI a (s_Model_used S (upd (g_Model_used S) ((g_Model_open S) ((g_Model_deep S) - (1 : Int32)).toNatClampNeg).toNatClampNeg (1 : Int32))))) H := hP
          have hDc : va_D A ((W_Model cI a (s_Model_used S (upd (g_Model_used S) ((g_Model_open S) ((g_Model_deep S) - (1 : Int32)).toNatClampNeg).toNatClampNeg (1 : Int32))))) := hD
          have hFc := jFreeW (ws := (W_Model cI a (s_Model_used S (upd (g_Model_used S) ((g_Model_open S) ((g_Model_deep S) - (1 : Int32)).toNatClampNeg).toNatClampNeg (1 : Int32))))) hD hS hA
          refine va_calli (va_runV (As := [.int (8 : Int32)]) (rest := []) ⟨hx, hb, hml, hown, hts⟩ (c_X5_isValue l dC dI cI a H.size _ _ _ _ h12) (cwV 1 hts gX5_goesOn_X5_isValue rfl rfl rfl (by decide +kernel) ⟨Nat.le_of_ble_eq_true rfl, Nat.le_of_ble_eq_true rfl⟩) (jPreV hK hPc hDc hN (ci := 5) rfl rfl) rfl rfl hl.1 rfl (lv_room (Nat.le_of_ble_eq_true rfl)) dX5_goesOn_173 ⟨Nat.le_of_ble_eq_true rfl, Nat.le_of_ble_eq_true rfl⟩) hS (fun q _ h => hFc q h) hFc (fun r' u' t H locs ht hvm hw hB hz1 hk1 hS => ?_)
          obtain ⟨e1, e2⟩ := hw
          subst e1
          subst e2
          obtain ⟨hP1, -, hD1⟩ := hB
          rw [ht] at hP1
          have hP : va_P (dC, dI) vwCl ((W_Model cI a u11)) H := hP1
          have hD : va_D A ((W_Model cI a u11)) := hD1.weaken (fun _ _ _ h => hFc _ h)
          have e50 := Option.some.inj hF
          obtain ⟨e60, e51⟩ := Prod.mk.inj e50
          subst e60
          subst e51
          exact W.zret (v := (b2i r10)) hx hb hr (nb2i _) (fun t ht hW => ⟨⟨(b2i r10), u11, rfl, ⟨rfl, rfl⟩, by rw [ht]; exact hP, va_K.moved hW.alike hK, hD⟩, hS.F ht⟩) hS.2.2 dX5_goesOn_176
        · have hF := F_pos c8 hF
          refine lv_aload_n hx hb dX5_goesOn_149 rfl (lv_at hl 1 rfl) ?_
          refine lv_bipush (v := (44 : Int32)) hx hb dX5_goesOn_150 (by decide) ?_
          obtain ⟨r13, u14, h15, hF⟩ := ob2_some hF
          have hPc : va_P (dC, dI) vwCl ((W_Model cI a S)) H := hP
          have hDc : va_D A ((W_Model cI a S)) := hD
          have hFc := jFreeW (ws := (W_Model cI a S)) hD hS hA
          refine va_calli (va_runV (As := [.int (44 : Int32)]) (rest := []) ⟨hx, hb, hml, hown, hts⟩ (c_X5_isSign l dC dI cI a H.size _ _ _ _ h15) (cwV 1 hts gX5_goesOn_X5_isSign rfl rfl rfl (by decide +kernel) ⟨Nat.le_of_ble_eq_true rfl, Nat.le_of_ble_eq_true rfl⟩) (jPreV hK hPc hDc hN (ci := 5) rfl rfl) rfl rfl hl.1 rfl (lv_room (Nat.le_of_ble_eq_true rfl)) dX5_goesOn_152 ⟨Nat.le_of_ble_eq_true rfl, Nat.le_of_ble_eq_true rfl⟩) hS (fun q _ h => hFc q h) hFc (fun r' u' t H locs ht hvm hw hB hz1 hk1 hS => ?_)
          obtain ⟨e1, e2⟩ := hw
          subst e1
          subst e2
          obtain ⟨hP1, -, hD1⟩ := hB
          rw [ht] at hP1
          have hP : va_P (dC, dI) vwCl ((W_Model cI a u14)) H := hP1
          have hD : va_D A ((W_Model cI a u14)) := hD1.weaken (fun _ _ _ h => hFc _ h)
          refine lv_if_ne (tgt := 163) hx hb dX5_goesOn_155 (by decide) (fun c16 => ?_) (fun c16 => ?_)
          · have hF := F_neg c16 hF
            refine lv_aload_n hx hb dX5_goesOn_163 rfl (lv_at hl 1 rfl) ?_
            refine wg_used (v := .ref (a 9)) hx hb hts hinX5 hown hK hP rfl (hts (Cond.fieldLink RX5 34 "LearnedShapesModel" "used" "[I") (List.mem_of_getElem? (i := 4) rfl)) dX5_goesOn_164 ?_
            refine lv_iload_n hx hb dX5_goesOn_167 rfl (lv_at hl 0 rfl) ?_
            refine lv_iconst (v := (1 : Int32)) hx hb dX5_goesOn_168 (by decide) ?_
            obtain ⟨g17, hF⟩ := og_some hF
            refine ws_used (f := (g_Model_used u14)) hx hb hK hP hD hS rfl (inb_in g17) dX5_goesOn_169 (fun H locs hP hD hS => ?_)
            refine lv_aload_n hx hb dX5_goesOn_170 rfl (lv_at hl 1 rfl) ?_
            refine lv_bipush (v := (8 : Int32)) hx hb dX5_goesOn_171 (by decide) ?_
            obtain ⟨r18, u19, h20, hF⟩ := ob2_some hF
            have hPc : va_P (dC, dI) vwCl ((W_Model cI a (s_Model_used u14 (upd (g_Model_used u14) ((g_Model_open S) ((g_Model_deep S) - (1 : Int32)).toNatClampNeg).toNatClampNeg (1 : Int32))))) H := hP
            have hDc : va_D A ((W_Model cI a (s_Model_used u14 (upd (g_Model_used u14) ((g_Model_open S) ((g_Model_deep S) - (1 : Int32)).toNatClampNeg).toNatClampNeg (1 : Int32))))) := hD
            have hFc := jFreeW (ws := (W_Model cI a (s_Model_used u14 (upd (g_Model_used u14) ((g_Model_open S) ((g_Model_deep S) - (1 : Int32)).toNatClampNeg).toNatClampNeg (1 : Int32))))) hD hS hA
            refine va_calli (va_runV (As := [.int (8 : Int32)]) (rest := []) ⟨hx, hb, hml, hown, hts⟩ (c_X5_isValue l dC dI cI a H.size _ _ _ _ h20) (cwV 1 hts gX5_goesOn_X5_isValue rfl rfl rfl (by decide +kernel) ⟨Nat.le_of_ble_eq_true rfl, Nat.le_of_ble_eq_true rfl⟩) (jPreV hK hPc hDc hN (ci := 5) rfl rfl) rfl rfl hl.1 rfl (lv_room (Nat.le_of_ble_eq_true rfl)) dX5_goesOn_173 ⟨Nat.le_of_ble_eq_true rfl, Nat.le_of_ble_eq_true rfl⟩) hS (fun q _ h => hFc q h) hFc (fun r' u' t H locs ht hvm hw hB hz1 hk1 hS => ?_)
            obtain ⟨e1, e2⟩ := hw
            subst e1
            subst e2
            obtain ⟨hP1, -, hD1⟩ := hB
            rw [ht] at hP1
            have hP : va_P (dC, dI) vwCl ((W_Model cI a u19)) H := hP1
            have hD : va_D A ((W_Model cI a u19)) := hD1.weaken (fun _ _ _ h => hFc _ h)
            have e50 := Option.some.inj hF
            obtain ⟨e60, e51⟩ := Prod.mk.inj e50
            subst e60
            subst e51
            exact W.zret (v := (b2i r18)) hx hb hr (nb2i _) (fun t ht hW => ⟨⟨(b2i r18), u19, rfl, ⟨rfl, rfl⟩, by rw [ht]; exact hP, va_K.moved hW.alike hK, hD⟩, hS.F ht⟩) hS.2.2 dX5_goesOn_176
          · have hF := F_pos c16 hF
            refine lv_aload_n hx hb dX5_goesOn_158 rfl (lv_at hl 1 rfl) ?_
            obtain ⟨r21, u22, h23, hF⟩ := ob2_some hF
            have hPc : va_P (dC, dI) vwCl ((W_Model cI a u14)) H := hP
            have hDc : va_D A ((W_Model cI a u14)) := hD
            have hFc := jFreeW (ws := (W_Model cI a u14)) hD hS hA
            refine va_calli (va_runV (As := []) (rest := []) ⟨hx, hb, hml, hown, hts⟩ (c_X5_stops l dC dI cI a H.size _ _ _ h23) (cwV 0 hts gX5_goesOn_X5_stops rfl rfl rfl (by decide +kernel) ⟨Nat.le_of_ble_eq_true rfl, Nat.le_of_ble_eq_true rfl⟩) (jPreV hK hPc hDc hN (ci := 5) rfl rfl) rfl rfl hl.1 rfl (lv_room (Nat.le_of_ble_eq_true rfl)) dX5_goesOn_159 ⟨Nat.le_of_ble_eq_true rfl, Nat.le_of_ble_eq_true rfl⟩) hS (fun q _ h => hFc q h) hFc (fun r' u' t H locs ht hvm hw hB hz1 hk1 hS => ?_)
            obtain ⟨e1, e2⟩ := hw
            subst e1
            subst e2
            obtain ⟨hP1, -, hD1⟩ := hB
            rw [ht] at hP1
            have hP : va_P (dC, dI) vwCl ((W_Model cI a u22)) H := hP1
            have hD : va_D A ((W_Model cI a u22)) := hD1.weaken (fun _ _ _ h => hFc _ h)
            have e50 := Option.some.inj hF
            obtain ⟨e60, e51⟩ := Prod.mk.inj e50
            subst e60
            subst e51
            exact W.zret (v := (b2i r21)) hx hb hr (nb2i _) (fun t ht hW => ⟨⟨(b2i r21), u22, rfl, ⟨rfl, rfl⟩, by rw [ht]; exact hP, va_K.moved hW.alike hK, hD⟩, hS.F ht⟩) hS.2.2 dX5_goesOn_162
      · have hF := F_neg c6 hF
        refine lv_aload_n hx hb dX5_goesOn_133 rfl (lv_at hl 1 rfl) ?_
        refine lv_iload_n hx hb dX5_goesOn_134 rfl (lv_at hl 0 rfl) ?_
        obtain ⟨r24, u25, h26, hF⟩ := ob2_some hF
        have hPc : va_P (dC, dI) vwCl ((W_Model cI a S)) H := hP
        have hDc : va_D A ((W_Model cI a S)) := hD
        have hFc := jFreeW (ws := (W_Model cI a S)) hD hS hA
        refine va_calli (va_runV (As := [.int ((g_Model_open S) ((g_Model_deep S) - (1 : Int32)).toNatClampNeg)]) (rest := []) ⟨hx, hb, hml, hown, hts⟩ (c_X5_closes l dC dI cI a H.size _ _ _ _ h26) (cwV 1 hts gX5_goesOn_X5_closes rfl rfl rfl (by decide +kernel) ⟨Nat.le_of_ble_eq_true rfl, Nat.le_of_ble_eq_true rfl⟩) (jPreV hK hPc hDc hN (ci := 5) rfl rfl) rfl rfl hl.1 rfl (lv_room (Nat.le_of_ble_eq_true rfl)) dX5_goesOn_135 ⟨Nat.le_of_ble_eq_true rfl, Nat.le_of_ble_eq_true rfl⟩) hS (fun q _ h => hFc q h) hFc (fun r' u' t H locs ht hvm hw hB hz1 hk1 hS => ?_)
        obtain ⟨e1, e2⟩ := hw
        subst e1
        subst e2
        obtain ⟨hP1, -, hD1⟩ := hB
        rw [ht] at hP1
        have hP : va_P (dC, dI) vwCl ((W_Model cI a u25)) H := hP1
        have hD : va_D A ((W_Model cI a u25)) := hD1.weaken (fun _ _ _ h => hFc _ h)
        have e50 := Option.some.inj hF
        obtain ⟨e60, e51⟩ := Prod.mk.inj e50
        subst e60
        subst e51
        exact W.zret (v := (b2i r24)) hx hb hr (nb2i _) (fun t ht hW => ⟨⟨(b2i r24), u25, rfl, ⟨rfl, rfl⟩, by rw [ht]; exact hP, va_K.moved hW.alike hK, hD⟩, hS.F ht⟩) hS.2.2 dX5_goesOn_138
    · have hF := F_pos c3 hF
      refine lv_aload_n hx hb dX5_goesOn_23 rfl (lv_at hl 1 rfl) ?_
      refine lv_bipush (v := (41 : Int32)) hx hb dX5_goesOn_24 (by decide) ?_
      refine lv_bipush (v := (41 : Int32)) hx hb dX5_goesOn_26 (by decide) ?_
      obtain ⟨r27, h28, hF⟩ := ob1_some hF
      have hPc : va_P (dC, dI) vwCl ((W_Model cI a S)) H := hP
      have hDc : va_D A ((W_Model cI a S)) := hD
      have hFc := jFreeW (ws := (W_Model cI a S)) hD hS hA
      refine va_calli (va_runV (As := [.int (41 : Int32), .int (41 : Int32)]) (rest := []) ⟨hx, hb, hml, hown, hts⟩ (c_X5_isAt l dC dI cI a H.size _ _ _ _ h28) (cwV 2 hts gX5_goesOn_X5_isAt rfl rfl rfl (by decide +kernel) ⟨Nat.le_of_ble_eq_true rfl, Nat.le_of_ble_eq_true rfl⟩) (jPreV hK hPc hDc hN (ci := 5) rfl rfl) rfl rfl hl.1 rfl (lv_room (Nat.le_of_ble_eq_true rfl)) dX5_goesOn_28 ⟨Nat.le_of_ble_eq_true rfl, Nat.le_of_ble_eq_true rfl⟩) hS (fun q _ h => hFc q h) hFc (fun r' u' t H locs ht hvm hw hB hz1 hk1 hS => ?_)
      subst hw
      obtain ⟨hP1, -, hD1⟩ := hB
      rw [ht] at hP1
      have hP : va_P (dC, dI) vwCl ((W_Model cI a S)) H := hP1
      have hD : va_D A ((W_Model cI a S)) := hD1.weaken (fun _ _ _ h => hFc _ h)
      refine lv_if_eq (tgt := 40) hx hb dX5_goesOn_31 (by decide) (fun c29 => ?_) (fun c29 => ?_)
      · have hF := F_pos c29 hF
        refine lv_aload_n hx hb dX5_goesOn_40 rfl (lv_at hl 1 rfl) ?_
        refine lv_bipush (v := (65 : Int32)) hx hb dX5_goesOn_41 (by decide) ?_
        refine lv_bipush (v := (72 : Int32)) hx hb dX5_goesOn_43 (by decide) ?_
        obtain ⟨r30, h31, hF⟩ := ob1_some hF
        have hPc : va_P (dC, dI) vwCl ((W_Model cI a S)) H := hP
        have hDc : va_D A ((W_Model cI a S)) := hD
        have hFc := jFreeW (ws := (W_Model cI a S)) hD hS hA
        refine va_calli (va_runV (As := [.int (65 : Int32), .int (72 : Int32)]) (rest := []) ⟨hx, hb, hml, hown, hts⟩ (c_X5_isAt l dC dI cI a H.size _ _ _ _ h31) (cwV 2 hts gX5_goesOn_X5_isAt rfl rfl rfl (by decide +kernel) ⟨Nat.le_of_ble_eq_true rfl, Nat.le_of_ble_eq_true rfl⟩) (jPreV hK hPc hDc hN (ci := 5) rfl rfl) rfl rfl hl.1 rfl (lv_room (Nat.le_of_ble_eq_true rfl)) dX5_goesOn_45 ⟨Nat.le_of_ble_eq_true rfl, Nat.le_of_ble_eq_true rfl⟩) hS (fun q _ h => hFc q h) hFc (fun r' u' t H locs ht hvm hw hB hz1 hk1 hS => ?_)
        subst hw
        obtain ⟨hP1, -, hD1⟩ := hB
        rw [ht] at hP1
        have hP : va_P (dC, dI) vwCl ((W_Model cI a S)) H := hP1
        have hD : va_D A ((W_Model cI a S)) := hD1.weaken (fun _ _ _ h => hFc _ h)
        refine lv_if_eq (tgt := 76) hx hb dX5_goesOn_48 (by decide) (fun c32 => ?_) (fun c32 => ?_)
        · have hF := F_pos c32 hF
          refine lv_aload_n hx hb dX5_goesOn_76 rfl (lv_at hl 1 rfl) ?_
          obtain ⟨r33, u34, h35, hF⟩ := ob2_some hF
          have hPc : va_P (dC, dI) vwCl ((W_Model cI a S)) H := hP
          have hDc : va_D A ((W_Model cI a S)) := hD
          have hFc := jFreeW (ws := (W_Model cI a S)) hD hS hA
          refine va_calli (va_runV (As := []) (rest := []) ⟨hx, hb, hml, hown, hts⟩ (c_X5_stops l dC dI cI a H.size _ _ _ h35) (cwV 0 hts gX5_goesOn_X5_stops rfl rfl rfl (by decide +kernel) ⟨Nat.le_of_ble_eq_true rfl, Nat.le_of_ble_eq_true rfl⟩) (jPreV hK hPc hDc hN (ci := 5) rfl rfl) rfl rfl hl.1 rfl (lv_room (Nat.le_of_ble_eq_true rfl)) dX5_goesOn_77 ⟨Nat.le_of_ble_eq_true rfl, Nat.le_of_ble_eq_true rfl⟩) hS (fun q _ h => hFc q h) hFc (fun r' u' t H locs ht hvm hw hB hz1 hk1 hS => ?_)
          obtain ⟨e1, e2⟩ := hw
          subst e1
          subst e2
          obtain ⟨hP1, -, hD1⟩ := hB
          rw [ht] at hP1
          have hP : va_P (dC, dI) vwCl ((W_Model cI a u34)) H := hP1
          have hD : va_D A ((W_Model cI a u34)) := hD1.weaken (fun _ _ _ h => hFc _ h)
          have e50 := Option.some.inj hF
          obtain ⟨e60, e51⟩ := Prod.mk.inj e50
          subst e60
          subst e51
          exact W.zret (v := (b2i r33)) hx hb hr (nb2i _) (fun t ht hW => ⟨⟨(b2i r33), u34, rfl, ⟨rfl, rfl⟩, by rw [ht]; exact hP, va_K.moved hW.alike hK, hD⟩, hS.F ht⟩) hS.2.2 dX5_goesOn_80
        · have hF := F_neg c32 hF
          refine lv_aload_n hx hb dX5_goesOn_51 rfl (lv_at hl 1 rfl) ?_
          refine wg_used (v := .ref (a 9)) hx hb hts hinX5 hown hK hP rfl (hts (Cond.fieldLink RX5 34 "LearnedShapesModel" "used" "[I") (List.mem_of_getElem? (i := 4) rfl)) dX5_goesOn_52 ?_
          refine lv_iload_n hx hb dX5_goesOn_55 rfl (lv_at hl 0 rfl) ?_
          obtain ⟨g36, hF⟩ := og_some hF
          refine wl_used (f := (g_Model_used S)) hx hb hK hP rfl (inb_in g36) dX5_goesOn_56 ?_
          refine lv_aload_n hx hb dX5_goesOn_57 rfl (lv_at hl 1 rfl) ?_
          refine wg_text (v := .ref (a 3)) hx hb hts hinX5 hown hK hP rfl (hts (Cond.fieldLink RX5 16 "LearnedShapesModel" "text" "[I") (List.mem_of_getElem? (i := 5) rfl)) dX5_goesOn_58 ?_
          refine lv_aload_n hx hb dX5_goesOn_61 rfl (lv_at hl 1 rfl) ?_
          refine wg_at (v := .int (g_Model_at S)) hx hb hts hinX5 hown hK hP rfl (hts (Cond.fieldLink RX5 68 "LearnedShapesModel" "at" "I") (List.mem_of_getElem? (i := 6) rfl)) dX5_goesOn_62 ?_
          obtain ⟨g37, hF⟩ := og_some hF
          refine wl_text (f := (g_Model_text S)) hx hb hK hP rfl (inb_in g37) dX5_goesOn_65 ?_
          refine lv_bipush (v := (65 : Int32)) hx hb dX5_goesOn_66 (by decide) ?_
          refine lv_isub hx hb dX5_goesOn_68 ?_
          refine lv_ishr hx hb dX5_goesOn_69 ?_
          refine lv_iconst (v := (1 : Int32)) hx hb dX5_goesOn_70 (by decide) ?_
          refine lv_iand hx hb dX5_goesOn_71 ?_
          refine lv_iconst (v := (1 : Int32)) hx hb dX5_goesOn_72 (by decide) ?_
          refine lv_icmp_ne (tgt := 81) hx hb dX5_goesOn_73 (by decide) (fun c38 => ?_) (fun c38 => ?_)
          · have hF := F_neg c38 hF
            refine lv_aload_n hx hb dX5_goesOn_81 rfl (lv_at hl 1 rfl) ?_
            refine wg_text (v := .ref (a 3)) hx hb hts hinX5 hown hK hP rfl (hts (Cond.fieldLink RX5 16 "LearnedShapesModel" "text" "[I") (List.mem_of_getElem? (i := 5) rfl)) dX5_goesOn_82 ?_
            refine lv_aload_n hx hb dX5_goesOn_85 rfl (lv_at hl 1 rfl) ?_
            refine wg_at (v := .int (g_Model_at S)) hx hb hts hinX5 hown hK hP rfl (hts (Cond.fieldLink RX5 68 "LearnedShapesModel" "at" "I") (List.mem_of_getElem? (i := 6) rfl)) dX5_goesOn_86 ?_
            obtain ⟨g39, hF⟩ := og_some hF
            refine wl_text (f := (g_Model_text S)) hx hb hK hP rfl (inb_in g39) dX5_goesOn_89 ?_
            refine lv_bipush (v := (65 : Int32)) hx hb dX5_goesOn_90 (by decide) ?_
            refine lv_isub hx hb dX5_goesOn_92 ?_
            refine lv_istore_n (lv' := [(2, .int (((g_Model_text S) (g_Model_at S).toNatClampNeg) - (65 : Int32))), (1, .int ((g_Model_open S) ((g_Model_deep S) - (1 : Int32)).toNatClampNeg)), (0, .ref (a 0))]) hx hb dX5_goesOn_93 rfl hl (by decide) rfl (fun ls hl => ?_)
            refine lv_aload_n hx hb dX5_goesOn_94 rfl (lv_at hl 2 rfl) ?_
            refine wg_used (v := .ref (a 9)) hx hb hts hinX5 hown hK hP rfl (hts (Cond.fieldLink RX5 34 "LearnedShapesModel" "used" "[I") (List.mem_of_getElem? (i := 4) rfl)) dX5_goesOn_95 ?_
            refine lv_iload_n hx hb dX5_goesOn_98 rfl (lv_at hl 1 rfl) ?_
            refine lv_dup2_11 hx hb dX5_goesOn_99 rfl rfl ?_
            obtain ⟨g40, hF⟩ := og_some hF
            refine wl_used (f := (g_Model_used S)) hx hb hK hP rfl (inb_in g40) dX5_goesOn_100 ?_
            refine lv_iconst (v := (1 : Int32)) hx hb dX5_goesOn_101 (by decide) ?_
            refine lv_iload_n hx hb dX5_goesOn_102 rfl (lv_at hl 0 rfl) ?_
            refine lv_ishl hx hb dX5_goesOn_103 ?_
            refine lv_ior hx hb dX5_goesOn_104 ?_
            obtain ⟨g41, hF⟩ := og_some hF
            refine ws_used (f := (g_Model_used S)) hx hb hK hP hD hS rfl (inb_in g41) dX5_goesOn_105 (fun H locs hP hD hS => ?_)
            refine lv_aload_n hx hb dX5_goesOn_106 rfl (lv_at hl 2 rfl) ?_
            refine lv_dup hx hb dX5_goesOn_107 rfl ?_
            refine wg_at (v := .int (g_Model_at S)) hx hb hts hinX5 hown hK hP rfl (hts (Cond.fieldLink RX5 68 "LearnedShapesModel" "at" "I") (List.mem_of_getElem? (i := 6) rfl)) dX5_goesOn_108 ?_
            refine lv_iconst (v := (1 : Int32)) hx hb dX5_goesOn_111 (by decide) ?_
            refine lv_iadd hx hb dX5_goesOn_112 ?_
            refine wp_at (v := ((g_Model_at S) + (1 : Int32))) hx hb hts hinX5 hown hK hP hD hS (hts (Cond.fieldLink RX5 68 "LearnedShapesModel" "at" "I") (List.mem_of_getElem? (i := 6) rfl)) (rfl) (rfl) dX5_goesOn_113 (fun H locs hP hD hS => ?_)
            refine lv_aload_n hx hb dX5_goesOn_116 rfl (lv_at hl 2 rfl) ?_
            refine lv_iload_n hx hb dX5_goesOn_117 rfl (lv_at hl 0 rfl) ?_
            obtain ⟨r42, u43, h44, hF⟩ := ob2_some hF
            have hPc : va_P (dC, dI) vwCl ((W_Model cI a (s_Model_at (s_Model_used S (upd (g_Model_used S) ((g_Model_open S) ((g_Model_deep S) - (1 : Int32)).toNatClampNeg).toNatClampNeg (((g_Model_used S) ((g_Model_open S) ((g_Model_deep S) - (1 : Int32)).toNatClampNeg).toNatClampNeg) ||| ((1 : Int32) <<< ((((g_Model_text S) (g_Model_at S).toNatClampNeg) - (65 : Int32)) &&& 31))))) ((g_Model_at S) + (1 : Int32))))) H := hP
            have hDc : va_D A ((W_Model cI a (s_Model_at (s_Model_used S (upd (g_Model_used S) ((g_Model_open S) ((g_Model_deep S) - (1 : Int32)).toNatClampNeg).toNatClampNeg (((g_Model_used S) ((g_Model_open S) ((g_Model_deep S) - (1 : Int32)).toNatClampNeg).toNatClampNeg) ||| ((1 : Int32) <<< ((((g_Model_text S) (g_Model_at S).toNatClampNeg) - (65 : Int32)) &&& 31))))) ((g_Model_at S) + (1 : Int32))))) := hD
            have hFc := jFreeW (ws := (W_Model cI a (s_Model_at (s_Model_used S (upd (g_Model_used S) ((g_Model_open S) ((g_Model_deep S) - (1 : Int32)).toNatClampNeg).toNatClampNeg (((g_Model_used S) ((g_Model_open S) ((g_Model_deep S) - (1 : Int32)).toNatClampNeg).toNatClampNeg) ||| ((1 : Int32) <<< ((((g_Model_text S) (g_Model_at S).toNatClampNeg) - (65 : Int32)) &&& 31))))) ((g_Model_at S) + (1 : Int32))))) hD hS hA
            refine va_calli (va_runV (As := [.int (((g_Model_text S) (g_Model_at S).toNatClampNeg) - (65 : Int32))]) (rest := []) ⟨hx, hb, hml, hown, hts⟩ (c_X5_isValue l dC dI cI a H.size _ _ _ _ h44) (cwV 1 hts gX5_goesOn_X5_isValue rfl rfl rfl (by decide +kernel) ⟨Nat.le_of_ble_eq_true rfl, Nat.le_of_ble_eq_true rfl⟩) (jPreV hK hPc hDc hN (ci := 5) rfl rfl) rfl rfl hl.1 rfl (lv_room (Nat.le_of_ble_eq_true rfl)) dX5_goesOn_118 ⟨Nat.le_of_ble_eq_true rfl, Nat.le_of_ble_eq_true rfl⟩) hS (fun q _ h => hFc q h) hFc (fun r' u' t H locs ht hvm hw hB hz1 hk1 hS => ?_)
            obtain ⟨e1, e2⟩ := hw
            subst e1
            subst e2
            obtain ⟨hP1, -, hD1⟩ := hB
            rw [ht] at hP1
            have hP : va_P (dC, dI) vwCl ((W_Model cI a u43)) H := hP1
            have hD : va_D A ((W_Model cI a u43)) := hD1.weaken (fun _ _ _ h => hFc _ h)
            have e50 := Option.some.inj hF
            obtain ⟨e60, e51⟩ := Prod.mk.inj e50
            subst e60
            subst e51
            exact W.zret (v := (b2i r42)) hx hb hr (nb2i _) (fun t ht hW => ⟨⟨(b2i r42), u43, rfl, ⟨rfl, rfl⟩, by rw [ht]; exact hP, va_K.moved hW.alike hK, hD⟩, hS.F ht⟩) hS.2.2 dX5_goesOn_121
          · have hF := F_pos c38 hF
            refine lv_aload_n hx hb dX5_goesOn_76 rfl (lv_at hl 1 rfl) ?_
            obtain ⟨r45, u46, h47, hF⟩ := ob2_some hF
            have hPc : va_P (dC, dI) vwCl ((W_Model cI a S)) H := hP
            have hDc : va_D A ((W_Model cI a S)) := hD
            have hFc := jFreeW (ws := (W_Model cI a S)) hD hS hA
            refine va_calli (va_runV (As := []) (rest := []) ⟨hx, hb, hml, hown, hts⟩ (c_X5_stops l dC dI cI a H.size _ _ _ h47) (cwV 0 hts gX5_goesOn_X5_stops rfl rfl rfl (by decide +kernel) ⟨Nat.le_of_ble_eq_true rfl, Nat.le_of_ble_eq_true rfl⟩) (jPreV hK hPc hDc hN (ci := 5) rfl rfl) rfl rfl hl.1 rfl (lv_room (Nat.le_of_ble_eq_true rfl)) dX5_goesOn_77 ⟨Nat.le_of_ble_eq_true rfl, Nat.le_of_ble_eq_true rfl⟩) hS (fun q _ h => hFc q h) hFc (fun r' u' t H locs ht hvm hw hB hz1 hk1 hS => ?_)
            obtain ⟨e1, e2⟩ := hw
            subst e1
            subst e2
            obtain ⟨hP1, -, hD1⟩ := hB
            rw [ht] at hP1
            have hP : va_P (dC, dI) vwCl ((W_Model cI a u46)) H := hP1
            have hD : va_D A ((W_Model cI a u46)) := hD1.weaken (fun _ _ _ h => hFc _ h)
            have e50 := Option.some.inj hF
            obtain ⟨e60, e51⟩ := Prod.mk.inj e50
            subst e60
            subst e51
            exact W.zret (v := (b2i r45)) hx hb hr (nb2i _) (fun t ht hW => ⟨⟨(b2i r45), u46, rfl, ⟨rfl, rfl⟩, by rw [ht]; exact hP, va_K.moved hW.alike hK, hD⟩, hS.F ht⟩) hS.2.2 dX5_goesOn_80
      · have hF := F_neg c29 hF
        refine lv_aload_n hx hb dX5_goesOn_34 rfl (lv_at hl 1 rfl) ?_
        refine lv_iload_n hx hb dX5_goesOn_35 rfl (lv_at hl 0 rfl) ?_
        obtain ⟨r48, u49, h50, hF⟩ := ob2_some hF
        have hPc : va_P (dC, dI) vwCl ((W_Model cI a S)) H := hP
        have hDc : va_D A ((W_Model cI a S)) := hD
        have hFc := jFreeW (ws := (W_Model cI a S)) hD hS hA
        refine va_calli (va_runV (As := [.int ((g_Model_open S) ((g_Model_deep S) - (1 : Int32)).toNatClampNeg)]) (rest := []) ⟨hx, hb, hml, hown, hts⟩ (c_X5_closes l dC dI cI a H.size _ _ _ _ h50) (cwV 1 hts gX5_goesOn_X5_closes rfl rfl rfl (by decide +kernel) ⟨Nat.le_of_ble_eq_true rfl, Nat.le_of_ble_eq_true rfl⟩) (jPreV hK hPc hDc hN (ci := 5) rfl rfl) rfl rfl hl.1 rfl (lv_room (Nat.le_of_ble_eq_true rfl)) dX5_goesOn_36 ⟨Nat.le_of_ble_eq_true rfl, Nat.le_of_ble_eq_true rfl⟩) hS (fun q _ h => hFc q h) hFc (fun r' u' t H locs ht hvm hw hB hz1 hk1 hS => ?_)
        obtain ⟨e1, e2⟩ := hw
        subst e1
        subst e2
        obtain ⟨hP1, -, hD1⟩ := hB
        rw [ht] at hP1
        have hP : va_P (dC, dI) vwCl ((W_Model cI a u49)) H := hP1
        have hD : va_D A ((W_Model cI a u49)) := hD1.weaken (fun _ _ _ h => hFc _ h)
        have e50 := Option.some.inj hF
        obtain ⟨e60, e51⟩ := Prod.mk.inj e50
        subst e60
        subst e51
        exact W.zret (v := (b2i r48)) hx hb hr (nb2i _) (fun t ht hW => ⟨⟨(b2i r48), u49, rfl, ⟨rfl, rfl⟩, by rw [ht]; exact hP, va_K.moved hW.alike hK, hD⟩, hS.F ht⟩) hS.2.2 dX5_goesOn_39
  exact KE _ _ hP hD hS
set_option maxHeartbeats 4000000 in
set_option maxRecDepth 100000 in
theorem c_X5_isText (l : Launch) (dC : Nat → ClassId) (dI : Nat → Nat → Nat) (cI : ClassId) (a : Nat → Nat) (sz : Nat) (S : S_Model)  (rr : Bool) (Y : S_Model) (hF : F_X5_isText S  = some (rr, Y)) : Met l yX5_isText wsX5_isText ({ frames := 6, cells := 0, slots := 0, locals := 135 } : Room) (va_Pc [.ref (a 0)] (jPre (dC, dI) [(cI, .int)] sz ((W_Model cI a S)))) (va_Qi (fun (r' : Int32) (u : S_Model) => b2i rr = r' ∧ Y = u) (fun u : S_Model => jB (dC, dI) [(cI, .int)] (va_A ((W_Model cI a S)) sz) ((W_Model cI a u))) (va_A ((W_Model cI a S)) sz)) 0 0 (va_A ((W_Model cI a S)) sz) := by
  refine Met.ofW (cc := cX5_isText) (maxL := 1) (ret := (some .boolean)) (by decide) rfl ?_
  intro p e s m args below meth c s₁ B hml hv
  obtain ⟨rfl, hsz, hP, hK, hD0, hN⟩ := hv
  have hx := B.exec
  have hb := B.bytes
  have hr := B.returns
  have hts := atoms_spec (ws := wsX5_isText) B.pre
  have hown : s.vm.findClass RX5 = some m.cls := findClass_of_methodNamed B.named
  have hlocks := B.notSynchronized
  have hinX5 : ∀ w ∈ u_ws RX5 TX5 26, w ∈ wsX5_isText := by decide +kernel
  subst hsz
  have hD := hD0.self (sz := s.heap.size)
  generalize hAe : (va_A ((W_Model cI a S)) s.heap.size) = A at hD ⊢
  have hA : ∀ q : Nat, s.heap.size ≤ q → A q := fun q h => by rw [← hAe]; exact Or.inr h
  have hS : va_S A s.heap s.heap [] := va_S.rf
  have hl := lv_entry ([.ref (a 0)]) (n := 1) (Nat.le_of_ble_eq_true rfl)
  rw [lg_entry_eq]
  generalize (lg_sl ([.ref (a 0)]) ++ List.replicate (1 - (lg_sl ([.ref (a 0)])).length) Slot.unset).toArray = ls at hl ⊢
  have hl : lv_has ls 1 [(0, .ref (a 0))] := hl
  have K49 : ∀ (n49 : Nat) (S : S_Model) (H : Heap) (locs : List Loc), F_X5_isText_49 n49 S = some (rr, Y) → va_P (dC, dI) vwCl ((W_Model cI a S)) H → va_D A ((W_Model cI a S)) → va_S A s.heap H locs → ∀ ls : Array Slot, lv_has ls 1 [(0, .ref (a 0))] → W p l e (headSpec wsX5_isText ({ frames := 6, cells := 0, slots := 0, locals := 135 } : Room)).room s m ([.ref (a 0)] : List Value).toArray below meth c H locs 0 0 (MQ below (va_Qi (fun (r' : Int32) (u : S_Model) => b2i rr = r' ∧ Y = u) (fun u : S_Model => jB (dC, dI) [(cI, .int)] A ((W_Model cI a u))) A) ([.ref (a 0)] : List Value).toArray s 0 0 A) (F0 m 49 ls []) := by
    intro n49
    induction n49 with
    | zero => intro S H locs hF; exact nomatch hF
    | succ n49 ih49 =>
      intro S H locs hF hP hD hS ls hl
      rw [F_X5_isText_49_s] at hF
      refine lv_aload_n hx hb dX5_isText_49 rfl (lv_at hl 0 rfl) ?_
      refine wg_deep (v := .int (g_Model_deep S)) hx hb hts hinX5 hown hK hP rfl (hts (Cond.fieldLink RX5 85 "LearnedShapesModel" "deep" "I") (List.mem_of_getElem? (i := 3) rfl)) dX5_isText_50 ?_
      refine lv_if_le (tgt := 65) hx hb dX5_isText_53 (by decide) (fun c1 => ?_) (fun c1 => ?_)
      · have hF := F_pos c1 hF
        refine lv_aload_n hx hb dX5_isText_65 rfl (lv_at hl 0 rfl) ?_
        refine lv_aload_n hx hb dX5_isText_66 rfl (lv_at hl 0 rfl) ?_
        refine wg_at (v := .int (g_Model_at S)) hx hb hts hinX5 hown hK hP rfl (hts (Cond.fieldLink RX5 68 "LearnedShapesModel" "at" "I") (List.mem_of_getElem? (i := 1) rfl)) dX5_isText_67 ?_
        refine lv_aload_n hx hb dX5_isText_70 rfl (lv_at hl 0 rfl) ?_
        refine wg_typed (v := .int (g_Model_typed S)) hx hb hts hinX5 hown hK hP rfl (hts (Cond.fieldLink RX5 71 "LearnedShapesModel" "typed" "I") (List.mem_of_getElem? (i := 6) rfl)) dX5_isText_71 ?_
        refine lv_icmp_ge (tgt := 81) hx hb dX5_isText_74 (by decide) (fun c2 => ?_) (fun c2 => ?_)
        · have hF := F_pos c2 hF
          refine lv_iconst (v := (0 : Int32)) hx hb dX5_isText_81 (by decide) ?_
          refine wp_isFault (v := (0 : Int32)) hx hb hts hinX5 hown hK hP hD hS (hts (Cond.fieldLink RX5 74 "LearnedShapesModel" "isFault" "Z") (List.mem_of_getElem? (i := 5) rfl)) (rfl) (rfl) dX5_isText_82 (fun H locs hP hD hS => ?_)
          refine lv_aload_n hx hb dX5_isText_85 rfl (lv_at hl 0 rfl) ?_
          refine wg_at (v := .int (g_Model_at S)) hx hb hts hinX5 hown hK hP rfl (hts (Cond.fieldLink RX5 68 "LearnedShapesModel" "at" "I") (List.mem_of_getElem? (i := 1) rfl)) dX5_isText_86 ?_
          refine lv_aload_n hx hb dX5_isText_89 rfl (lv_at hl 0 rfl) ?_
          refine wg_typed (v := .int (g_Model_typed S)) hx hb hts hinX5 hown hK hP rfl (hts (Cond.fieldLink RX5 71 "LearnedShapesModel" "typed" "I") (List.mem_of_getElem? (i := 6) rfl)) dX5_isText_90 ?_
          refine lv_icmp_ne (tgt := 100) hx hb dX5_isText_93 (by decide) (fun c3 => ?_) (fun c3 => ?_)
          · have hF := F_neg c3 hF
            refine lv_iconst (v := (0 : Int32)) hx hb dX5_isText_100 (by decide) ?_
            have e50 := Option.some.inj hF
            obtain ⟨e60, e51⟩ := Prod.mk.inj e50
            subst e60
            subst e51
            exact W.zret (v := (0 : Int32)) hx hb hr (rfl) (fun t ht hW => ⟨⟨(0 : Int32), (s_Model_isFault S (0 : Int32)), rfl, ⟨rfl, rfl⟩, by rw [ht]; exact hP, va_K.moved hW.alike hK, hD⟩, hS.F ht⟩) hS.2.2 dX5_isText_101
          · have hF := F_pos c3 hF
            refine lv_iconst (v := (1 : Int32)) hx hb dX5_isText_96 (by decide) ?_
            refine lv_goto (tgt := 101) hx hb dX5_isText_97 (by decide) ?_
            have e50 := Option.some.inj hF
            obtain ⟨e60, e51⟩ := Prod.mk.inj e50
            subst e60
            subst e51
            exact W.zret (v := (1 : Int32)) hx hb hr (rfl) (fun t ht hW => ⟨⟨(1 : Int32), (s_Model_isFault S (0 : Int32)), rfl, ⟨rfl, rfl⟩, by rw [ht]; exact hP, va_K.moved hW.alike hK, hD⟩, hS.F ht⟩) hS.2.2 dX5_isText_101
        · have hF := F_neg c2 hF
          refine lv_iconst (v := (1 : Int32)) hx hb dX5_isText_77 (by decide) ?_
          refine lv_goto (tgt := 82) hx hb dX5_isText_78 (by decide) ?_
          refine wp_isFault (v := (1 : Int32)) hx hb hts hinX5 hown hK hP hD hS (hts (Cond.fieldLink RX5 74 "LearnedShapesModel" "isFault" "Z") (List.mem_of_getElem? (i := 5) rfl)) (rfl) (rfl) dX5_isText_82 (fun H locs hP hD hS => ?_)
          refine lv_aload_n hx hb dX5_isText_85 rfl (lv_at hl 0 rfl) ?_
          refine wg_at (v := .int (g_Model_at S)) hx hb hts hinX5 hown hK hP rfl (hts (Cond.fieldLink RX5 68 "LearnedShapesModel" "at" "I") (List.mem_of_getElem? (i := 1) rfl)) dX5_isText_86 ?_
          refine lv_aload_n hx hb dX5_isText_89 rfl (lv_at hl 0 rfl) ?_
          refine wg_typed (v := .int (g_Model_typed S)) hx hb hts hinX5 hown hK hP rfl (hts (Cond.fieldLink RX5 71 "LearnedShapesModel" "typed" "I") (List.mem_of_getElem? (i := 6) rfl)) dX5_isText_90 ?_
          refine lv_icmp_ne (tgt := 100) hx hb dX5_isText_93 (by decide) (fun c4 => ?_) (fun c4 => ?_)
          · have hF := F_neg c4 hF
            refine lv_iconst (v := (0 : Int32)) hx hb dX5_isText_100 (by decide) ?_
            have e50 := Option.some.inj hF
            obtain ⟨e60, e51⟩ := Prod.mk.inj e50
            subst e60
            subst e51
            exact W.zret (v := (0 : Int32)) hx hb hr (rfl) (fun t ht hW => ⟨⟨(0 : Int32), (s_Model_isFault S (1 : Int32)), rfl, ⟨rfl, rfl⟩, by rw [ht]; exact hP, va_K.moved hW.alike hK, hD⟩, hS.F ht⟩) hS.2.2 dX5_isText_101
          · have hF := F_pos c4 hF
            refine lv_iconst (v := (1 : Int32)) hx hb dX5_isText_96 (by decide) ?_
            refine lv_goto (tgt := 101) hx hb dX5_isText_97 (by decide) ?_
            have e50 := Option.some.inj hF
            obtain ⟨e60, e51⟩ := Prod.mk.inj e50
            subst e60
            subst e51
            exact W.zret (v := (1 : Int32)) hx hb hr (rfl) (fun t ht hW => ⟨⟨(1 : Int32), (s_Model_isFault S (1 : Int32)), rfl, ⟨rfl, rfl⟩, by rw [ht]; exact hP, va_K.moved hW.alike hK, hD⟩, hS.F ht⟩) hS.2.2 dX5_isText_101
      · have hF := F_neg c1 hF
        refine lv_aload_n hx hb dX5_isText_56 rfl (lv_at hl 0 rfl) ?_
        obtain ⟨r5, u6, h7, hF⟩ := ob2_some hF
        have hPc : va_P (dC, dI) vwCl ((W_Model cI a S)) H := hP
        have hDc : va_D A ((W_Model cI a S)) := hD
        have hFc := jFreeW (ws := (W_Model cI a S)) hD hS hA
        refine va_calli (va_runV (As := []) (rest := []) ⟨hx, hb, hml, hown, hts⟩ (c_X5_goesOn l dC dI cI a H.size _ _ _ h7) (cwV 0 hts gX5_isText_X5_goesOn rfl rfl rfl (by decide +kernel) ⟨Nat.le_of_ble_eq_true rfl, Nat.le_of_ble_eq_true rfl⟩) (jPreV hK hPc hDc hN (ci := 5) rfl rfl) rfl rfl hl.1 rfl (lv_room (Nat.le_of_ble_eq_true rfl)) dX5_isText_57 ⟨Nat.le_of_ble_eq_true rfl, Nat.le_of_ble_eq_true rfl⟩) hS (fun q _ h => hFc q h) hFc (fun r' u' t H locs ht hvm hw hB hz1 hk1 hS => ?_)
        obtain ⟨e1, e2⟩ := hw
        subst e1
        subst e2
        obtain ⟨hP1, -, hD1⟩ := hB
        rw [ht] at hP1
        have hP : va_P (dC, dI) vwCl ((W_Model cI a u6)) H := hP1
        have hD : va_D A ((W_Model cI a u6)) := hD1.weaken (fun _ _ _ h => hFc _ h)
        refine lv_if_ne (tgt := 49) hx hb dX5_isText_60 (by decide) (fun c8 => ?_) (fun c8 => ?_)
        · have hF := F_neg c8 hF
          exact ih49 _ _ _ hF hP hD hS _ (lv_sub hl [0] rfl)
        · have hF := F_pos c8 hF
          refine lv_iconst (v := (0 : Int32)) hx hb dX5_isText_63 (by decide) ?_
          have e50 := Option.some.inj hF
          obtain ⟨e60, e51⟩ := Prod.mk.inj e50
          subst e60
          subst e51
          exact W.zret (v := (0 : Int32)) hx hb hr (rfl) (fun t ht hW => ⟨⟨(0 : Int32), u6, rfl, ⟨rfl, rfl⟩, by rw [ht]; exact hP, va_K.moved hW.alike hK, hD⟩, hS.F ht⟩) hS.2.2 dX5_isText_64
  have KE : ∀ (H : Heap) (locs : List Loc), va_P (dC, dI) vwCl ((W_Model cI a S)) H → va_D A ((W_Model cI a S)) → va_S A s.heap H locs → W p l e (headSpec wsX5_isText ({ frames := 6, cells := 0, slots := 0, locals := 135 } : Room)).room s m ([.ref (a 0)] : List Value).toArray below meth c H locs 0 0 (MQ below (va_Qi (fun (r' : Int32) (u : S_Model) => b2i rr = r' ∧ Y = u) (fun u : S_Model => jB (dC, dI) [(cI, .int)] A ((W_Model cI a u))) A) ([.ref (a 0)] : List Value).toArray s 0 0 A) (F0 m 0 ls []) := by
    intro H locs hP hD hS
    unfold F_X5_isText at hF
    refine lv_aload_n hx hb dX5_isText_0 rfl (lv_at hl 0 rfl) ?_
    refine lv_iconst (v := (0 : Int32)) hx hb dX5_isText_1 (by decide) ?_
    refine wp_at (v := (0 : Int32)) hx hb hts hinX5 hown hK hP hD hS (hts (Cond.fieldLink RX5 68 "LearnedShapesModel" "at" "I") (List.mem_of_getElem? (i := 1) rfl)) (rfl) (rfl) dX5_isText_2 (fun H locs hP hD hS => ?_)
    refine lv_aload_n hx hb dX5_isText_5 rfl (lv_at hl 0 rfl) ?_
    refine lv_iconst (v := (0 : Int32)) hx hb dX5_isText_6 (by decide) ?_
    refine wp_valued (v := (0 : Int32)) hx hb hts hinX5 hown hK hP hD hS (hts (Cond.fieldLink RX5 82 "LearnedShapesModel" "valued" "I") (List.mem_of_getElem? (i := 2) rfl)) (rfl) (rfl) dX5_isText_7 (fun H locs hP hD hS => ?_)
    refine lv_aload_n hx hb dX5_isText_10 rfl (lv_at hl 0 rfl) ?_
    refine lv_iconst (v := (0 : Int32)) hx hb dX5_isText_11 (by decide) ?_
    refine wp_deep (v := (0 : Int32)) hx hb hts hinX5 hown hK hP hD hS (hts (Cond.fieldLink RX5 85 "LearnedShapesModel" "deep" "I") (List.mem_of_getElem? (i := 3) rfl)) (rfl) (rfl) dX5_isText_12 (fun H locs hP hD hS => ?_)
    refine lv_aload_n hx hb dX5_isText_15 rfl (lv_at hl 0 rfl) ?_
    refine lv_iconst (v := (0 : Int32)) hx hb dX5_isText_16 (by decide) ?_
    refine wp_deepest (v := (0 : Int32)) hx hb hts hinX5 hown hK hP hD hS (hts (Cond.fieldLink RX5 99 "LearnedShapesModel" "deepest" "I") (List.mem_of_getElem? (i := 4) rfl)) (rfl) (rfl) dX5_isText_17 (fun H locs hP hD hS => ?_)
    refine lv_aload_n hx hb dX5_isText_20 rfl (lv_at hl 0 rfl) ?_
    refine lv_iconst (v := (0 : Int32)) hx hb dX5_isText_21 (by decide) ?_
    refine wp_isFault (v := (0 : Int32)) hx hb hts hinX5 hown hK hP hD hS (hts (Cond.fieldLink RX5 74 "LearnedShapesModel" "isFault" "Z") (List.mem_of_getElem? (i := 5) rfl)) (rfl) (rfl) dX5_isText_22 (fun H locs hP hD hS => ?_)
    refine lv_aload_n hx hb dX5_isText_25 rfl (lv_at hl 0 rfl) ?_
    refine lv_bipush (v := (40 : Int32)) hx hb dX5_isText_26 (by decide) ?_
    refine lv_bipush (v := (40 : Int32)) hx hb dX5_isText_28 (by decide) ?_
    obtain ⟨r9, h10, hF⟩ := ob1_some hF
    have hPc : va_P (dC, dI) vwCl ((W_Model cI a (s_Model_isFault (s_Model_deepest (s_Model_deep (s_Model_valued (s_Model_at S (0 : Int32)) (0 : Int32)) (0 : Int32)) (0 : Int32)) (0 : Int32)))) H := hP
    have hDc : va_D A ((W_Model cI a (s_Model_isFault (s_Model_deepest (s_Model_deep (s_Model_valued (s_Model_at S (0 : Int32)) (0 : Int32)) (0 : Int32)) (0 : Int32)) (0 : Int32)))) := hD
    have hFc := jFreeW (ws := (W_Model cI a (s_Model_isFault (s_Model_deepest (s_Model_deep (s_Model_valued (s_Model_at S (0 : Int32)) (0 : Int32)) (0 : Int32)) (0 : Int32)) (0 : Int32)))) hD hS hA
    refine va_calli (va_runV (As := [.int (40 : Int32), .int (40 : Int32)]) (rest := []) ⟨hx, hb, hml, hown, hts⟩ (c_X5_isAt l dC dI cI a H.size _ _ _ _ h10) (cwV 2 hts gX5_isText_X5_isAt rfl rfl rfl (by decide +kernel) ⟨Nat.le_of_ble_eq_true rfl, Nat.le_of_ble_eq_true rfl⟩) (jPreV hK hPc hDc hN (ci := 5) rfl rfl) rfl rfl hl.1 rfl (lv_room (Nat.le_of_ble_eq_true rfl)) dX5_isText_30 ⟨Nat.le_of_ble_eq_true rfl, Nat.le_of_ble_eq_true rfl⟩) hS (fun q _ h => hFc q h) hFc (fun r' u' t H locs ht hvm hw hB hz1 hk1 hS => ?_)
    subst hw
    obtain ⟨hP1, -, hD1⟩ := hB
    rw [ht] at hP1
    have hP : va_P (dC, dI) vwCl ((W_Model cI a (s_Model_isFault (s_Model_deepest (s_Model_deep (s_Model_valued (s_Model_at S (0 : Int32)) (0 : Int32)) (0 : Int32)) (0 : Int32)) (0 : Int32)))) H := hP1
    have hD : va_D A ((W_Model cI a (s_Model_isFault (s_Model_deepest (s_Model_deep (s_Model_valued (s_Model_at S (0 : Int32)) (0 : Int32)) (0 : Int32)) (0 : Int32)) (0 : Int32)))) := hD1.weaken (fun _ _ _ h => hFc _ h)
    refine lv_if_ne (tgt := 41) hx hb dX5_isText_33 (by decide) (fun c11 => ?_) (fun c11 => ?_)
    · have hF := F_neg c11 hF
      refine lv_aload_n hx hb dX5_isText_41 rfl (lv_at hl 0 rfl) ?_
      refine lv_bipush (v := (6 : Int32)) hx hb dX5_isText_42 (by decide) ?_
      refine lv_iconst (v := (-1 : Int32)) hx hb dX5_isText_44 (by decide) ?_
      obtain ⟨r12, u13, h14, hF⟩ := ob2_some hF
      have hPc : va_P (dC, dI) vwCl ((W_Model cI a (s_Model_isFault (s_Model_deepest (s_Model_deep (s_Model_valued (s_Model_at S (0 : Int32)) (0 : Int32)) (0 : Int32)) (0 : Int32)) (0 : Int32)))) H := hP
      have hDc : va_D A ((W_Model cI a (s_Model_isFault (s_Model_deepest (s_Model_deep (s_Model_valued (s_Model_at S (0 : Int32)) (0 : Int32)) (0 : Int32)) (0 : Int32)) (0 : Int32)))) := hD
      have hFc := jFreeW (ws := (W_Model cI a (s_Model_isFault (s_Model_deepest (s_Model_deep (s_Model_valued (s_Model_at S (0 : Int32)) (0 : Int32)) (0 : Int32)) (0 : Int32)) (0 : Int32)))) hD hS hA
      refine va_calli (va_runV (As := [.int (6 : Int32), .int (-1 : Int32)]) (rest := []) ⟨hx, hb, hml, hown, hts⟩ (c_X5_opens l dC dI cI a H.size _ _ _ _ _ h14) (cwV 2 hts gX5_isText_X5_opens rfl rfl rfl (by decide +kernel) ⟨Nat.le_of_ble_eq_true rfl, Nat.le_of_ble_eq_true rfl⟩) (jPreV hK hPc hDc hN (ci := 5) rfl rfl) rfl rfl hl.1 rfl (lv_room (Nat.le_of_ble_eq_true rfl)) dX5_isText_45 ⟨Nat.le_of_ble_eq_true rfl, Nat.le_of_ble_eq_true rfl⟩) hS (fun q _ h => hFc q h) hFc (fun r' u' t H locs ht hvm hw hB hz1 hk1 hS => ?_)
      obtain ⟨e1, e2⟩ := hw
      subst e1
      subst e2
      obtain ⟨hP1, -, hD1⟩ := hB
      rw [ht] at hP1
      have hP : va_P (dC, dI) vwCl ((W_Model cI a u13)) H := hP1
      have hD : va_D A ((W_Model cI a u13)) := hD1.weaken (fun _ _ _ h => hFc _ h)
      refine lv_pop hx hb dX5_isText_48 rfl ?_
      exact K49 _ _ _ _ hF hP hD hS _ (lv_sub hl [0] rfl)
    · have hF := F_pos c11 hF
      refine lv_aload_n hx hb dX5_isText_36 rfl (lv_at hl 0 rfl) ?_
      obtain ⟨r15, u16, h17, hF⟩ := ob2_some hF
      have hPc : va_P (dC, dI) vwCl ((W_Model cI a (s_Model_isFault (s_Model_deepest (s_Model_deep (s_Model_valued (s_Model_at S (0 : Int32)) (0 : Int32)) (0 : Int32)) (0 : Int32)) (0 : Int32)))) H := hP
      have hDc : va_D A ((W_Model cI a (s_Model_isFault (s_Model_deepest (s_Model_deep (s_Model_valued (s_Model_at S (0 : Int32)) (0 : Int32)) (0 : Int32)) (0 : Int32)) (0 : Int32)))) := hD
      have hFc := jFreeW (ws := (W_Model cI a (s_Model_isFault (s_Model_deepest (s_Model_deep (s_Model_valued (s_Model_at S (0 : Int32)) (0 : Int32)) (0 : Int32)) (0 : Int32)) (0 : Int32)))) hD hS hA
      refine va_calli (va_runV (As := []) (rest := []) ⟨hx, hb, hml, hown, hts⟩ (c_X5_stops l dC dI cI a H.size _ _ _ h17) (cwV 0 hts gX5_isText_X5_stops rfl rfl rfl (by decide +kernel) ⟨Nat.le_of_ble_eq_true rfl, Nat.le_of_ble_eq_true rfl⟩) (jPreV hK hPc hDc hN (ci := 5) rfl rfl) rfl rfl hl.1 rfl (lv_room (Nat.le_of_ble_eq_true rfl)) dX5_isText_37 ⟨Nat.le_of_ble_eq_true rfl, Nat.le_of_ble_eq_true rfl⟩) hS (fun q _ h => hFc q h) hFc (fun r' u' t H locs ht hvm hw hB hz1 hk1 hS => ?_)
      obtain ⟨e1, e2⟩ := hw
      subst e1
      subst e2
      obtain ⟨hP1, -, hD1⟩ := hB
      rw [ht] at hP1
      have hP : va_P (dC, dI) vwCl ((W_Model cI a u16)) H := hP1
      have hD : va_D A ((W_Model cI a u16)) := hD1.weaken (fun _ _ _ h => hFc _ h)
      have e50 := Option.some.inj hF
      obtain ⟨e60, e51⟩ := Prod.mk.inj e50
      subst e60
      subst e51
      exact W.zret (v := (b2i r15)) hx hb hr (nb2i _) (fun t ht hW => ⟨⟨(b2i r15), u16, rfl, ⟨rfl, rfl⟩, by rw [ht]; exact hP, va_K.moved hW.alike hK, hD⟩, hS.F ht⟩) hS.2.2 dX5_isText_40
  exact KE _ _ hP hD hS
set_option maxHeartbeats 4000000 in
set_option maxRecDepth 100000 in
theorem c_X5_append (l : Launch) (dC : Nat → ClassId) (dI : Nat → Nat → Nat) (cI : ClassId) (a : Nat → Nat) (sz : Nat) (S : S_Model) (v1 : Int32) (rr : Int32) (Y : S_Model) (hF : F_X5_append S v1 = some (rr, Y)) : Met l yX5_append wsX5_append ({ frames := 1, cells := 0, slots := 0, locals := 22 } : Room) (va_Pc [.ref (a 0), .int v1] (jPre (dC, dI) [(cI, .int)] sz ((W_Model cI a S)))) (va_Qi (fun (r' : Int32) (u : S_Model) => rr = r' ∧ Y = u) (fun u : S_Model => jB (dC, dI) [(cI, .int)] (va_A ((W_Model cI a S)) sz) ((W_Model cI a u))) (va_A ((W_Model cI a S)) sz)) 0 0 (va_A ((W_Model cI a S)) sz) := by
  refine Met.ofW (cc := cX5_append) (maxL := 2) (ret := (some .int)) (by decide) rfl ?_
  intro p e s m args below meth c s₁ B hml hv
  obtain ⟨rfl, hsz, hP, hK, hD0, hN⟩ := hv
  have hx := B.exec
  have hb := B.bytes
  have hr := B.returns
  have hts := atoms_spec (ws := wsX5_append) B.pre
  have hown : s.vm.findClass RX5 = some m.cls := findClass_of_methodNamed B.named
  have hlocks := B.notSynchronized
  have hinX5 : ∀ w ∈ u_ws RX5 TX5 26, w ∈ wsX5_append := by decide +kernel
  subst hsz
  have hD := hD0.self (sz := s.heap.size)
  generalize hAe : (va_A ((W_Model cI a S)) s.heap.size) = A at hD ⊢
  have hA : ∀ q : Nat, s.heap.size ≤ q → A q := fun q h => by rw [← hAe]; exact Or.inr h
  have hS : va_S A s.heap s.heap [] := va_S.rf
  have hl := lv_entry ([.ref (a 0), .int v1]) (n := 2) (Nat.le_of_ble_eq_true rfl)
  rw [lg_entry_eq]
  generalize (lg_sl ([.ref (a 0), .int v1]) ++ List.replicate (2 - (lg_sl ([.ref (a 0), .int v1])).length) Slot.unset).toArray = ls at hl ⊢
  have hl : lv_has ls 2 [(0, .ref (a 0)), (1, .int v1)] := hl
  have KE : ∀ (H : Heap) (locs : List Loc), va_P (dC, dI) vwCl ((W_Model cI a S)) H → va_D A ((W_Model cI a S)) → va_S A s.heap H locs → W p l e (headSpec wsX5_append ({ frames := 1, cells := 0, slots := 0, locals := 22 } : Room)).room s m ([.ref (a 0), .int v1] : List Value).toArray below meth c H locs 0 0 (MQ below (va_Qi (fun (r' : Int32) (u : S_Model) => rr = r' ∧ Y = u) (fun u : S_Model => jB (dC, dI) [(cI, .int)] A ((W_Model cI a u))) A) ([.ref (a 0), .int v1] : List Value).toArray s 0 0 A) (F0 m 0 ls []) := by
    intro H locs hP hD hS
    unfold F_X5_append at hF
    refine lv_aload_n hx hb dX5_append_0 rfl (lv_at hl 0 rfl) ?_
    refine lv_iconst (v := (0 : Int32)) hx hb dX5_append_1 (by decide) ?_
    refine wp_thrown (v := (0 : Int32)) hx hb hts hinX5 hown hK hP hD hS (hts (Cond.fieldLink RX5 49 "LearnedShapesModel" "thrown" "I") (List.mem_of_getElem? (i := 1) rfl)) (rfl) (rfl) dX5_append_2 (fun H locs hP hD hS => ?_)
    refine lv_iload_n hx hb dX5_append_5 rfl (lv_at hl 1 rfl) ?_
    refine lv_bipush (v := (33 : Int32)) hx hb dX5_append_6 (by decide) ?_
    refine lv_bipush (v := (126 : Int32)) hx hb dX5_append_8 (by decide) ?_
    obtain ⟨r1, h2, hF⟩ := ob1_some hF
    have hPc : va_P (dC, dI) vwCl ([] : va_W) H := fun k q h => by simp at h
    have hDc : va_D A ([] : va_W) := ⟨fun i j p q h => by simp at h, fun k q h => by simp at h⟩
    have hFc := jFreeW (ws := []) hDc hS hA
    refine va_calli (va_runS (As := [.int v1, .int (33 : Int32), .int (126 : Int32)]) (rest := []) ⟨hx, hb, hml, hown, hts⟩ (c_X5_in l dC dI cI  H.size _ _ _ _ h2) (va_cwS 3 hts gX5_append_X5_in rfl rfl rfl (by decide +kernel) ⟨Nat.le_of_ble_eq_true rfl, Nat.le_of_ble_eq_true rfl⟩) (jPreS hK hPc hDc hN) rfl rfl hl.1 rfl (lv_room (Nat.le_of_ble_eq_true rfl)) dX5_append_10 ⟨Nat.le_of_ble_eq_true rfl, Nat.le_of_ble_eq_true rfl⟩) hS (fun q _ h => hFc q h) hFc (fun r' u' t H locs ht hvm hw hB hz1 hk1 hS => ?_)
    subst hw
    obtain ⟨hP1, -, hD1⟩ := hB
    rw [ht] at hP1
    have hP : va_P (dC, dI) vwCl ((W_Model cI a (s_Model_thrown S (0 : Int32)))) H := jNone hP hk1
    refine lv_if_ne (tgt := 22) hx hb dX5_append_13 (by decide) (fun c3 => ?_) (fun c3 => ?_)
    · have hF := F_neg c3 hF
      refine lv_aload_n hx hb dX5_append_22 rfl (lv_at hl 0 rfl) ?_
      refine wg_typed (v := .int (g_Model_typed S)) hx hb hts hinX5 hown hK hP rfl (hts (Cond.fieldLink RX5 71 "LearnedShapesModel" "typed" "I") (List.mem_of_getElem? (i := 2) rfl)) dX5_append_23 ?_
      refine lv_bipush (v := (60 : Int32)) hx hb dX5_append_26 (by decide) ?_
      refine lv_icmp_ne (tgt := 37) hx hb dX5_append_28 (by decide) (fun c4 => ?_) (fun c4 => ?_)
      · have hF := F_neg c4 hF
        refine lv_aload_n hx hb dX5_append_37 rfl (lv_at hl 0 rfl) ?_
        refine wg_text (v := .ref (a 3)) hx hb hts hinX5 hown hK hP rfl (hts (Cond.fieldLink RX5 16 "LearnedShapesModel" "text" "[I") (List.mem_of_getElem? (i := 3) rfl)) dX5_append_38 ?_
        refine lv_aload_n hx hb dX5_append_41 rfl (lv_at hl 0 rfl) ?_
        refine wg_typed (v := .int (g_Model_typed S)) hx hb hts hinX5 hown hK hP rfl (hts (Cond.fieldLink RX5 71 "LearnedShapesModel" "typed" "I") (List.mem_of_getElem? (i := 2) rfl)) dX5_append_42 ?_
        refine lv_iload_n hx hb dX5_append_45 rfl (lv_at hl 1 rfl) ?_
        obtain ⟨g5, hF⟩ := og_some hF
        refine ws_text (f := (g_Model_text S)) hx hb hK hP hD hS rfl (inb_in g5) dX5_append_46 (fun H locs hP hD hS => ?_)
        refine lv_aload_n hx hb dX5_append_47 rfl (lv_at hl 0 rfl) ?_
        refine lv_dup hx hb dX5_append_48 rfl ?_
        refine wg_typed (v := .int (g_Model_typed S)) hx hb hts hinX5 hown hK hP rfl (hts (Cond.fieldLink RX5 71 "LearnedShapesModel" "typed" "I") (List.mem_of_getElem? (i := 2) rfl)) dX5_append_49 ?_
        refine lv_iconst (v := (1 : Int32)) hx hb dX5_append_52 (by decide) ?_
        refine lv_iadd hx hb dX5_append_53 ?_
        refine wp_typed (v := ((g_Model_typed S) + (1 : Int32))) hx hb hts hinX5 hown hK hP hD hS (hts (Cond.fieldLink RX5 71 "LearnedShapesModel" "typed" "I") (List.mem_of_getElem? (i := 2) rfl)) (rfl) (rfl) dX5_append_54 (fun H locs hP hD hS => ?_)
        refine lv_aload_n hx hb dX5_append_57 rfl (lv_at hl 0 rfl) ?_
        refine wg_typed (v := .int ((g_Model_typed S) + (1 : Int32))) hx hb hts hinX5 hown hK hP rfl (hts (Cond.fieldLink RX5 71 "LearnedShapesModel" "typed" "I") (List.mem_of_getElem? (i := 2) rfl)) dX5_append_58 ?_
        have e50 := Option.some.inj hF
        obtain ⟨e60, e51⟩ := Prod.mk.inj e50
        subst e60
        subst e51
        exact W.iret (v := ((g_Model_typed S) + (1 : Int32))) hx hb hr (fun t ht hW => ⟨⟨((g_Model_typed S) + (1 : Int32)), (s_Model_typed (s_Model_text (s_Model_thrown S (0 : Int32)) (upd (g_Model_text S) (g_Model_typed S).toNatClampNeg v1)) ((g_Model_typed S) + (1 : Int32))), rfl, ⟨rfl, rfl⟩, by rw [ht]; exact hP, va_K.moved hW.alike hK, hD⟩, hS.F ht⟩) hS.2.2 dX5_append_61
      · have hF := F_pos c4 hF
        refine lv_aload_n hx hb dX5_append_31 rfl (lv_at hl 0 rfl) ?_
        refine lv_iconst (v := (2 : Int32)) hx hb dX5_append_32 (by decide) ?_
        obtain ⟨r6, u7, h8, hF⟩ := ob2_some hF
        have hPc : va_P (dC, dI) vwCl ((W_Model cI a (s_Model_thrown S (0 : Int32)))) H := hP
        have hDc : va_D A ((W_Model cI a (s_Model_thrown S (0 : Int32)))) := hD
        have hFc := jFreeW (ws := (W_Model cI a (s_Model_thrown S (0 : Int32)))) hD hS hA
        refine va_calli (va_runV (As := [.int (2 : Int32)]) (rest := []) ⟨hx, hb, hml, hown, hts⟩ (c_X5_fails l dC dI cI a H.size _ _ _ _ h8) (cwV 1 hts gX5_append_X5_fails rfl rfl rfl (by decide +kernel) ⟨Nat.le_of_ble_eq_true rfl, Nat.le_of_ble_eq_true rfl⟩) (jPreV hK hPc hDc hN (ci := 5) rfl rfl) rfl rfl hl.1 rfl (lv_room (Nat.le_of_ble_eq_true rfl)) dX5_append_33 ⟨Nat.le_of_ble_eq_true rfl, Nat.le_of_ble_eq_true rfl⟩) hS (fun q _ h => hFc q h) hFc (fun r' u' t H locs ht hvm hw hB hz1 hk1 hS => ?_)
        obtain ⟨e1, e2⟩ := hw
        subst e1
        subst e2
        obtain ⟨hP1, -, hD1⟩ := hB
        rw [ht] at hP1
        have hP : va_P (dC, dI) vwCl ((W_Model cI a u7)) H := hP1
        have hD : va_D A ((W_Model cI a u7)) := hD1.weaken (fun _ _ _ h => hFc _ h)
        have e50 := Option.some.inj hF
        obtain ⟨e60, e51⟩ := Prod.mk.inj e50
        subst e60
        subst e51
        exact W.iret (v := r6) hx hb hr (fun t ht hW => ⟨⟨r6, u7, rfl, ⟨rfl, rfl⟩, by rw [ht]; exact hP, va_K.moved hW.alike hK, hD⟩, hS.F ht⟩) hS.2.2 dX5_append_36
    · have hF := F_pos c3 hF
      refine lv_aload_n hx hb dX5_append_16 rfl (lv_at hl 0 rfl) ?_
      refine lv_iconst (v := (1 : Int32)) hx hb dX5_append_17 (by decide) ?_
      obtain ⟨r9, u10, h11, hF⟩ := ob2_some hF
      have hPc : va_P (dC, dI) vwCl ((W_Model cI a (s_Model_thrown S (0 : Int32)))) H := hP
      have hDc : va_D A ((W_Model cI a (s_Model_thrown S (0 : Int32)))) := hD
      have hFc := jFreeW (ws := (W_Model cI a (s_Model_thrown S (0 : Int32)))) hD hS hA
      refine va_calli (va_runV (As := [.int (1 : Int32)]) (rest := []) ⟨hx, hb, hml, hown, hts⟩ (c_X5_fails l dC dI cI a H.size _ _ _ _ h11) (cwV 1 hts gX5_append_X5_fails rfl rfl rfl (by decide +kernel) ⟨Nat.le_of_ble_eq_true rfl, Nat.le_of_ble_eq_true rfl⟩) (jPreV hK hPc hDc hN (ci := 5) rfl rfl) rfl rfl hl.1 rfl (lv_room (Nat.le_of_ble_eq_true rfl)) dX5_append_18 ⟨Nat.le_of_ble_eq_true rfl, Nat.le_of_ble_eq_true rfl⟩) hS (fun q _ h => hFc q h) hFc (fun r' u' t H locs ht hvm hw hB hz1 hk1 hS => ?_)
      obtain ⟨e1, e2⟩ := hw
      subst e1
      subst e2
      obtain ⟨hP1, -, hD1⟩ := hB
      rw [ht] at hP1
      have hP : va_P (dC, dI) vwCl ((W_Model cI a u10)) H := hP1
      have hD : va_D A ((W_Model cI a u10)) := hD1.weaken (fun _ _ _ h => hFc _ h)
      have e50 := Option.some.inj hF
      obtain ⟨e60, e51⟩ := Prod.mk.inj e50
      subst e60
      subst e51
      exact W.iret (v := r9) hx hb hr (fun t ht hW => ⟨⟨r9, u10, rfl, ⟨rfl, rfl⟩, by rw [ht]; exact hP, va_K.moved hW.alike hK, hD⟩, hS.F ht⟩) hS.2.2 dX5_append_21
  exact KE _ _ hP hD hS
set_option maxHeartbeats 4000000 in
set_option maxRecDepth 100000 in
theorem c_X5_clearBuffer (l : Launch) (dC : Nat → ClassId) (dI : Nat → Nat → Nat) (cI : ClassId) (a : Nat → Nat) (sz : Nat) (S : S_Model)  (rr : Int32) (Y : S_Model) (hF : F_X5_clearBuffer S  = some (rr, Y)) : Met l yX5_clearBuffer wsX5_clearBuffer ({ frames := 0, cells := 0, slots := 0, locals := 0 } : Room) (va_Pc [.ref (a 0)] (jPre (dC, dI) [(cI, .int)] sz ((W_Model cI a S)))) (va_Qi (fun (r' : Int32) (u : S_Model) => rr = r' ∧ Y = u) (fun u : S_Model => jB (dC, dI) [(cI, .int)] (va_A ((W_Model cI a S)) sz) ((W_Model cI a u))) (va_A ((W_Model cI a S)) sz)) 0 0 (va_A ((W_Model cI a S)) sz) := by
  refine Met.ofW (cc := cX5_clearBuffer) (maxL := 2) (ret := (some .int)) (by decide) rfl ?_
  intro p e s m args below meth c s₁ B hml hv
  obtain ⟨rfl, hsz, hP, hK, hD0, hN⟩ := hv
  have hx := B.exec
  have hb := B.bytes
  have hr := B.returns
  have hts := atoms_spec (ws := wsX5_clearBuffer) B.pre
  have hown : s.vm.findClass RX5 = some m.cls := findClass_of_methodNamed B.named
  have hlocks := B.notSynchronized
  have hinX5 : ∀ w ∈ u_ws RX5 TX5 26, w ∈ wsX5_clearBuffer := by decide +kernel
  subst hsz
  have hD := hD0.self (sz := s.heap.size)
  generalize hAe : (va_A ((W_Model cI a S)) s.heap.size) = A at hD ⊢
  have hA : ∀ q : Nat, s.heap.size ≤ q → A q := fun q h => by rw [← hAe]; exact Or.inr h
  have hS : va_S A s.heap s.heap [] := va_S.rf
  have hl := lv_entry ([.ref (a 0)]) (n := 2) (Nat.le_of_ble_eq_true rfl)
  rw [lg_entry_eq]
  generalize (lg_sl ([.ref (a 0)]) ++ List.replicate (2 - (lg_sl ([.ref (a 0)])).length) Slot.unset).toArray = ls at hl ⊢
  have hl : lv_has ls 2 [(0, .ref (a 0))] := hl
  have KE : ∀ (H : Heap) (locs : List Loc), va_P (dC, dI) vwCl ((W_Model cI a S)) H → va_D A ((W_Model cI a S)) → va_S A s.heap H locs → W p l e (headSpec wsX5_clearBuffer ({ frames := 0, cells := 0, slots := 0, locals := 0 } : Room)).room s m ([.ref (a 0)] : List Value).toArray below meth c H locs 0 0 (MQ below (va_Qi (fun (r' : Int32) (u : S_Model) => rr = r' ∧ Y = u) (fun u : S_Model => jB (dC, dI) [(cI, .int)] A ((W_Model cI a u))) A) ([.ref (a 0)] : List Value).toArray s 0 0 A) (F0 m 0 ls []) := by
    intro H locs hP hD hS
    unfold F_X5_clearBuffer at hF
    refine lv_aload_n hx hb dX5_clearBuffer_0 rfl (lv_at hl 0 rfl) ?_
    refine lv_iconst (v := (0 : Int32)) hx hb dX5_clearBuffer_1 (by decide) ?_
    refine wp_thrown (v := (0 : Int32)) hx hb hts hinX5 hown hK hP hD hS (hts (Cond.fieldLink RX5 49 "LearnedShapesModel" "thrown" "I") (List.mem_of_getElem? (i := 1) rfl)) (rfl) (rfl) dX5_clearBuffer_2 (fun H locs hP hD hS => ?_)
    refine lv_aload_n hx hb dX5_clearBuffer_5 rfl (lv_at hl 0 rfl) ?_
    refine wg_typed (v := .int (g_Model_typed S)) hx hb hts hinX5 hown hK hP rfl (hts (Cond.fieldLink RX5 71 "LearnedShapesModel" "typed" "I") (List.mem_of_getElem? (i := 2) rfl)) dX5_clearBuffer_6 ?_
    refine lv_istore_n (lv' := [(1, .int (g_Model_typed S)), (0, .ref (a 0))]) hx hb dX5_clearBuffer_9 rfl hl (by decide) rfl (fun ls hl => ?_)
    refine lv_aload_n hx hb dX5_clearBuffer_10 rfl (lv_at hl 1 rfl) ?_
    refine lv_iconst (v := (0 : Int32)) hx hb dX5_clearBuffer_11 (by decide) ?_
    refine wp_typed (v := (0 : Int32)) hx hb hts hinX5 hown hK hP hD hS (hts (Cond.fieldLink RX5 71 "LearnedShapesModel" "typed" "I") (List.mem_of_getElem? (i := 2) rfl)) (rfl) (rfl) dX5_clearBuffer_12 (fun H locs hP hD hS => ?_)
    refine lv_iload_n hx hb dX5_clearBuffer_15 rfl (lv_at hl 0 rfl) ?_
    have e50 := Option.some.inj hF
    obtain ⟨e60, e51⟩ := Prod.mk.inj e50
    subst e60
    subst e51
    exact W.iret (v := (g_Model_typed S)) hx hb hr (fun t ht hW => ⟨⟨(g_Model_typed S), (s_Model_typed (s_Model_thrown S (0 : Int32)) (0 : Int32)), rfl, ⟨rfl, rfl⟩, by rw [ht]; exact hP, va_K.moved hW.alike hK, hD⟩, hS.F ht⟩) hS.2.2 dX5_clearBuffer_16
  exact KE _ _ hP hD hS
set_option maxHeartbeats 4000000 in
set_option maxRecDepth 100000 in
theorem c_X5_firstError (l : Launch) (dC : Nat → ClassId) (dI : Nat → Nat → Nat) (cI : ClassId) (a : Nat → Nat) (sz : Nat) (S : S_Model)  (rr : Int32) (Y : S_Model) (hF : F_X5_firstError S  = some (rr, Y)) : Met l yX5_firstError wsX5_firstError ({ frames := 7, cells := 0, slots := 0, locals := 155 } : Room) (va_Pc [.ref (a 0)] (jPre (dC, dI) [(cI, .int)] sz ((W_Model cI a S)))) (va_Qi (fun (r' : Int32) (u : S_Model) => rr = r' ∧ Y = u) (fun u : S_Model => jB (dC, dI) [(cI, .int)] (va_A ((W_Model cI a S)) sz) ((W_Model cI a u))) (va_A ((W_Model cI a S)) sz)) 0 0 (va_A ((W_Model cI a S)) sz) := by
  refine Met.ofW (cc := cX5_firstError) (maxL := 2) (ret := (some .int)) (by decide) rfl ?_
  intro p e s m args below meth c s₁ B hml hv
  obtain ⟨rfl, hsz, hP, hK, hD0, hN⟩ := hv
  have hx := B.exec
  have hb := B.bytes
  have hr := B.returns
  have hts := atoms_spec (ws := wsX5_firstError) B.pre
  have hown : s.vm.findClass RX5 = some m.cls := findClass_of_methodNamed B.named
  have hlocks := B.notSynchronized
  have hinX5 : ∀ w ∈ u_ws RX5 TX5 26, w ∈ wsX5_firstError := by decide +kernel
  subst hsz
  have hD := hD0.self (sz := s.heap.size)
  generalize hAe : (va_A ((W_Model cI a S)) s.heap.size) = A at hD ⊢
  have hA : ∀ q : Nat, s.heap.size ≤ q → A q := fun q h => by rw [← hAe]; exact Or.inr h
  have hS : va_S A s.heap s.heap [] := va_S.rf
  have hl := lv_entry ([.ref (a 0)]) (n := 2) (Nat.le_of_ble_eq_true rfl)
  rw [lg_entry_eq]
  generalize (lg_sl ([.ref (a 0)]) ++ List.replicate (2 - (lg_sl ([.ref (a 0)])).length) Slot.unset).toArray = ls at hl ⊢
  have hl : lv_has ls 2 [(0, .ref (a 0))] := hl
  have KE : ∀ (H : Heap) (locs : List Loc), va_P (dC, dI) vwCl ((W_Model cI a S)) H → va_D A ((W_Model cI a S)) → va_S A s.heap H locs → W p l e (headSpec wsX5_firstError ({ frames := 7, cells := 0, slots := 0, locals := 155 } : Room)).room s m ([.ref (a 0)] : List Value).toArray below meth c H locs 0 0 (MQ below (va_Qi (fun (r' : Int32) (u : S_Model) => rr = r' ∧ Y = u) (fun u : S_Model => jB (dC, dI) [(cI, .int)] A ((W_Model cI a u))) A) ([.ref (a 0)] : List Value).toArray s 0 0 A) (F0 m 0 ls []) := by
    intro H locs hP hD hS
    unfold F_X5_firstError at hF
    refine lv_aload_n hx hb dX5_firstError_0 rfl (lv_at hl 0 rfl) ?_
    refine lv_iconst (v := (0 : Int32)) hx hb dX5_firstError_1 (by decide) ?_
    refine wp_thrown (v := (0 : Int32)) hx hb hts hinX5 hown hK hP hD hS (hts (Cond.fieldLink RX5 49 "LearnedShapesModel" "thrown" "I") (List.mem_of_getElem? (i := 1) rfl)) (rfl) (rfl) dX5_firstError_2 (fun H locs hP hD hS => ?_)
    refine lv_aload_n hx hb dX5_firstError_5 rfl (lv_at hl 0 rfl) ?_
    obtain ⟨r1, u2, h3, hF⟩ := ob2_some hF
    have hPc : va_P (dC, dI) vwCl ((W_Model cI a (s_Model_thrown S (0 : Int32)))) H := hP
    have hDc : va_D A ((W_Model cI a (s_Model_thrown S (0 : Int32)))) := hD
    have hFc := jFreeW (ws := (W_Model cI a (s_Model_thrown S (0 : Int32)))) hD hS hA
    refine va_calli (va_runV (As := []) (rest := []) ⟨hx, hb, hml, hown, hts⟩ (c_X5_isText l dC dI cI a H.size _ _ _ h3) (cwV 0 hts gX5_firstError_X5_isText rfl rfl rfl (by decide +kernel) ⟨Nat.le_of_ble_eq_true rfl, Nat.le_of_ble_eq_true rfl⟩) (jPreV hK hPc hDc hN (ci := 5) rfl rfl) rfl rfl hl.1 rfl (lv_room (Nat.le_of_ble_eq_true rfl)) dX5_firstError_6 ⟨Nat.le_of_ble_eq_true rfl, Nat.le_of_ble_eq_true rfl⟩) hS (fun q _ h => hFc q h) hFc (fun r' u' t H locs ht hvm hw hB hz1 hk1 hS => ?_)
    obtain ⟨e1, e2⟩ := hw
    subst e1
    subst e2
    obtain ⟨hP1, -, hD1⟩ := hB
    rw [ht] at hP1
    have hP : va_P (dC, dI) vwCl ((W_Model cI a u2)) H := hP1
    have hD : va_D A ((W_Model cI a u2)) := hD1.weaken (fun _ _ _ h => hFc _ h)
    refine lv_istore_n (lv' := [(1, .int (b2i r1)), (0, .ref (a 0))]) hx hb dX5_firstError_9 rfl hl (by decide) rfl (fun ls hl => ?_)
    refine lv_iload_n hx hb dX5_firstError_10 rfl (lv_at hl 0 rfl) ?_
    refine lv_if_ne (tgt := 28) hx hb dX5_firstError_11 (by decide) (fun c4 => ?_) (fun c4 => ?_)
    · have hF := F_neg c4 hF
      refine lv_aload_n hx hb dX5_firstError_28 rfl (lv_at hl 1 rfl) ?_
      refine wg_typed (v := .int (g_Model_typed u2)) hx hb hts hinX5 hown hK hP rfl (hts (Cond.fieldLink RX5 71 "LearnedShapesModel" "typed" "I") (List.mem_of_getElem? (i := 4) rfl)) dX5_firstError_29 ?_
      have e50 := Option.some.inj hF
      obtain ⟨e60, e51⟩ := Prod.mk.inj e50
      subst e60
      subst e51
      exact W.iret (v := (g_Model_typed u2)) hx hb hr (fun t ht hW => ⟨⟨(g_Model_typed u2), u2, rfl, ⟨rfl, rfl⟩, by rw [ht]; exact hP, va_K.moved hW.alike hK, hD⟩, hS.F ht⟩) hS.2.2 dX5_firstError_32
    · have hF := F_pos c4 hF
      refine lv_aload_n hx hb dX5_firstError_14 rfl (lv_at hl 1 rfl) ?_
      refine wg_isFault (v := .int (g_Model_isFault u2)) hx hb hts hinX5 hown hK hP rfl (hts (Cond.fieldLink RX5 74 "LearnedShapesModel" "isFault" "Z") (List.mem_of_getElem? (i := 2) rfl)) dX5_firstError_15 ?_
      refine lv_if_eq (tgt := 28) hx hb dX5_firstError_18 (by decide) (fun c5 => ?_) (fun c5 => ?_)
      · have hF := F_pos c5 hF
        refine lv_aload_n hx hb dX5_firstError_28 rfl (lv_at hl 1 rfl) ?_
        refine wg_typed (v := .int (g_Model_typed u2)) hx hb hts hinX5 hown hK hP rfl (hts (Cond.fieldLink RX5 71 "LearnedShapesModel" "typed" "I") (List.mem_of_getElem? (i := 4) rfl)) dX5_firstError_29 ?_
        have e50 := Option.some.inj hF
        obtain ⟨e60, e51⟩ := Prod.mk.inj e50
        subst e60
        subst e51
        exact W.iret (v := (g_Model_typed u2)) hx hb hr (fun t ht hW => ⟨⟨(g_Model_typed u2), u2, rfl, ⟨rfl, rfl⟩, by rw [ht]; exact hP, va_K.moved hW.alike hK, hD⟩, hS.F ht⟩) hS.2.2 dX5_firstError_32
      · have hF := F_neg c5 hF
        refine lv_aload_n hx hb dX5_firstError_21 rfl (lv_at hl 1 rfl) ?_
        refine wg_at (v := .int (g_Model_at u2)) hx hb hts hinX5 hown hK hP rfl (hts (Cond.fieldLink RX5 68 "LearnedShapesModel" "at" "I") (List.mem_of_getElem? (i := 3) rfl)) dX5_firstError_22 ?_
        refine lv_goto (tgt := 32) hx hb dX5_firstError_25 (by decide) ?_
        have e50 := Option.some.inj hF
        obtain ⟨e60, e51⟩ := Prod.mk.inj e50
        subst e60
        subst e51
        exact W.iret (v := (g_Model_at u2)) hx hb hr (fun t ht hW => ⟨⟨(g_Model_at u2), u2, rfl, ⟨rfl, rfl⟩, by rw [ht]; exact hP, va_K.moved hW.alike hK, hD⟩, hS.F ht⟩) hS.2.2 dX5_firstError_32
  exact KE _ _ hP hD hS
set_option maxHeartbeats 4000000 in
set_option maxRecDepth 100000 in
theorem c_X5_joined (l : Launch) (dC : Nat → ClassId) (dI : Nat → Nat → Nat) (cI : ClassId) (sz : Nat)  (v1 : Int32) (v2 : Int32) (rr : Int32) (hF : F_X5_joined  v1 v2 = some rr) : Met l yX5_joined wsX5_joined ({ frames := 1, cells := 0, slots := 0, locals := 22 } : Room) (va_Pc [.int v1, .int v2] (jPre (dC, dI) [(cI, .int)] sz (([] : va_W)))) (va_Qi (fun (r' : Int32) (_ : Unit) => rr = r') (fun _ : Unit => jB (dC, dI) [(cI, .int)] (va_A (([] : va_W)) sz) (([] : va_W))) (va_A (([] : va_W)) sz)) 0 0 (va_A (([] : va_W)) sz) := by
  refine Met.ofW (cc := cX5_joined) (maxL := 2) (ret := (some .int)) (by decide) rfl ?_
  intro p e s m args below meth c s₁ B hml hv
  obtain ⟨rfl, hsz, hP, hK, hD0, hN⟩ := hv
  have hx := B.exec
  have hb := B.bytes
  have hr := B.returns
  have hts := atoms_spec (ws := wsX5_joined) B.pre
  have hown : s.vm.findClass RX5 = some m.cls := findClass_of_methodNamed B.named
  have hlocks := B.notSynchronized
  subst hsz
  have hD := hD0.self (sz := s.heap.size)
  generalize hAe : (va_A (([] : va_W)) s.heap.size) = A at hD ⊢
  have hA : ∀ q : Nat, s.heap.size ≤ q → A q := fun q h => by rw [← hAe]; exact Or.inr h
  have hS : va_S A s.heap s.heap [] := va_S.rf
  have hl := lv_entry ([.int v1, .int v2]) (n := 2) (Nat.le_of_ble_eq_true rfl)
  rw [lg_entry_eq]
  generalize (lg_sl ([.int v1, .int v2]) ++ List.replicate (2 - (lg_sl ([.int v1, .int v2])).length) Slot.unset).toArray = ls at hl ⊢
  have hl : lv_has ls 2 [(0, .int v1), (1, .int v2)] := hl
  have KE : ∀ (H : Heap) (locs : List Loc), va_P (dC, dI) vwCl (([] : va_W)) H → va_D A (([] : va_W)) → va_S A s.heap H locs → W p l e (headSpec wsX5_joined ({ frames := 1, cells := 0, slots := 0, locals := 22 } : Room)).room s m ([.int v1, .int v2] : List Value).toArray below meth c H locs 0 0 (MQ below (va_Qi (fun (r' : Int32) (_ : Unit) => rr = r') (fun _ : Unit => jB (dC, dI) [(cI, .int)] A (([] : va_W))) A) ([.int v1, .int v2] : List Value).toArray s 0 0 A) (F0 m 0 ls []) := by
    intro H locs hP hD hS
    unfold F_X5_joined at hF
    refine lv_iload_n hx hb dX5_joined_0 rfl (lv_at hl 0 rfl) ?_
    refine lv_iload_n hx hb dX5_joined_1 rfl (lv_at hl 1 rfl) ?_
    refine lv_icmp_eq (tgt := 9) hx hb dX5_joined_2 (by decide) (fun c1 => ?_) (fun c1 => ?_)
    · have hF := F_pos c1 hF
      refine lv_iload_n hx hb dX5_joined_9 rfl (lv_at hl 0 rfl) ?_
      have e50 := Option.some.inj hF
      subst e50
      exact W.iret (v := v1) hx hb hr (fun t ht hW => ⟨⟨v1, (), rfl, rfl, by rw [ht]; exact hP, va_K.moved hW.alike hK, hD⟩, hS.F ht⟩) hS.2.2 dX5_joined_10
    · have hF := F_neg c1 hF
      refine lv_iload_n hx hb dX5_joined_5 rfl (lv_at hl 1 rfl) ?_
      refine lv_if_ne (tgt := 11) hx hb dX5_joined_6 (by decide) (fun c2 => ?_) (fun c2 => ?_)
      · have hF := F_neg c2 hF
        refine lv_iload_n hx hb dX5_joined_11 rfl (lv_at hl 0 rfl) ?_
        refine lv_if_ne (tgt := 17) hx hb dX5_joined_12 (by decide) (fun c3 => ?_) (fun c3 => ?_)
        · have hF := F_neg c3 hF
          refine lv_iload_n hx hb dX5_joined_17 rfl (lv_at hl 0 rfl) ?_
          refine lv_iconst (v := (1 : Int32)) hx hb dX5_joined_18 (by decide) ?_
          refine lv_iconst (v := (4 : Int32)) hx hb dX5_joined_19 (by decide) ?_
          obtain ⟨r4, h5, hF⟩ := ob1_some hF
          have hPc : va_P (dC, dI) vwCl (([] : va_W)) H := hP
          have hDc : va_D A (([] : va_W)) := hD
          have hFc := jFreeW (ws := ([] : va_W)) hD hS hA
          refine va_calli (va_runS (As := [.int v1, .int (1 : Int32), .int (4 : Int32)]) (rest := []) ⟨hx, hb, hml, hown, hts⟩ (c_X5_in l dC dI cI  H.size _ _ _ _ h5) (va_cwS 3 hts gX5_joined_X5_in rfl rfl rfl (by decide +kernel) ⟨Nat.le_of_ble_eq_true rfl, Nat.le_of_ble_eq_true rfl⟩) (jPreS hK hPc hDc hN) rfl rfl hl.1 rfl (lv_room (Nat.le_of_ble_eq_true rfl)) dX5_joined_20 ⟨Nat.le_of_ble_eq_true rfl, Nat.le_of_ble_eq_true rfl⟩) hS (fun q _ h => hFc q h) hFc (fun r' u' t H locs ht hvm hw hB hz1 hk1 hS => ?_)
          subst hw
          obtain ⟨hP1, -, hD1⟩ := hB
          rw [ht] at hP1
          have hP : va_P (dC, dI) vwCl (([] : va_W)) H := hP1
          have hD : va_D A (([] : va_W)) := hD1.weaken (fun _ _ _ h => hFc _ h)
          refine lv_if_eq (tgt := 35) hx hb dX5_joined_23 (by decide) (fun c6 => ?_) (fun c6 => ?_)
          · have hF := F_pos c6 hF
            refine lv_bipush (v := (7 : Int32)) hx hb dX5_joined_35 (by decide) ?_
            have e50 := Option.some.inj hF
            subst e50
            exact W.iret (v := (7 : Int32)) hx hb hr (fun t ht hW => ⟨⟨(7 : Int32), (), rfl, rfl, by rw [ht]; exact hP, va_K.moved hW.alike hK, hD⟩, hS.F ht⟩) hS.2.2 dX5_joined_37
          · have hF := F_neg c6 hF
            refine lv_iload_n hx hb dX5_joined_26 rfl (lv_at hl 1 rfl) ?_
            refine lv_iconst (v := (1 : Int32)) hx hb dX5_joined_27 (by decide) ?_
            refine lv_iconst (v := (4 : Int32)) hx hb dX5_joined_28 (by decide) ?_
            obtain ⟨r7, h8, hF⟩ := ob1_some hF
            have hPc : va_P (dC, dI) vwCl (([] : va_W)) H := hP
            have hDc : va_D A (([] : va_W)) := hD
            have hFc := jFreeW (ws := ([] : va_W)) hD hS hA
            refine va_calli (va_runS (As := [.int v2, .int (1 : Int32), .int (4 : Int32)]) (rest := []) ⟨hx, hb, hml, hown, hts⟩ (c_X5_in l dC dI cI  H.size _ _ _ _ h8) (va_cwS 3 hts gX5_joined_X5_in rfl rfl rfl (by decide +kernel) ⟨Nat.le_of_ble_eq_true rfl, Nat.le_of_ble_eq_true rfl⟩) (jPreS hK hPc hDc hN) rfl rfl hl.1 rfl (lv_room (Nat.le_of_ble_eq_true rfl)) dX5_joined_29 ⟨Nat.le_of_ble_eq_true rfl, Nat.le_of_ble_eq_true rfl⟩) hS (fun q _ h => hFc q h) hFc (fun r' u' t H locs ht hvm hw hB hz1 hk1 hS => ?_)
            subst hw
            obtain ⟨hP1, -, hD1⟩ := hB
            rw [ht] at hP1
            have hP : va_P (dC, dI) vwCl (([] : va_W)) H := hP1
            have hD : va_D A (([] : va_W)) := hD1.weaken (fun _ _ _ h => hFc _ h)
            refine lv_if_ne (tgt := 38) hx hb dX5_joined_32 (by decide) (fun c9 => ?_) (fun c9 => ?_)
            · have hF := F_neg c9 hF
              refine lv_iload_n hx hb dX5_joined_38 rfl (lv_at hl 0 rfl) ?_
              refine lv_iconst (v := (2 : Int32)) hx hb dX5_joined_39 (by decide) ?_
              refine lv_iconst (v := (3 : Int32)) hx hb dX5_joined_40 (by decide) ?_
              obtain ⟨r10, h11, hF⟩ := ob1_some hF
              have hPc : va_P (dC, dI) vwCl (([] : va_W)) H := hP
              have hDc : va_D A (([] : va_W)) := hD
              have hFc := jFreeW (ws := ([] : va_W)) hD hS hA
              refine va_calli (va_runS (As := [.int v1, .int (2 : Int32), .int (3 : Int32)]) (rest := []) ⟨hx, hb, hml, hown, hts⟩ (c_X5_in l dC dI cI  H.size _ _ _ _ h11) (va_cwS 3 hts gX5_joined_X5_in rfl rfl rfl (by decide +kernel) ⟨Nat.le_of_ble_eq_true rfl, Nat.le_of_ble_eq_true rfl⟩) (jPreS hK hPc hDc hN) rfl rfl hl.1 rfl (lv_room (Nat.le_of_ble_eq_true rfl)) dX5_joined_41 ⟨Nat.le_of_ble_eq_true rfl, Nat.le_of_ble_eq_true rfl⟩) hS (fun q _ h => hFc q h) hFc (fun r' u' t H locs ht hvm hw hB hz1 hk1 hS => ?_)
              subst hw
              obtain ⟨hP1, -, hD1⟩ := hB
              rw [ht] at hP1
              have hP : va_P (dC, dI) vwCl (([] : va_W)) H := hP1
              have hD : va_D A (([] : va_W)) := hD1.weaken (fun _ _ _ h => hFc _ h)
              refine lv_if_eq (tgt := 60) hx hb dX5_joined_44 (by decide) (fun c12 => ?_) (fun c12 => ?_)
              · have hF := F_pos c12 hF
                refine lv_iconst (v := (4 : Int32)) hx hb dX5_joined_60 (by decide) ?_
                have e50 := Option.some.inj hF
                subst e50
                exact W.iret (v := (4 : Int32)) hx hb hr (fun t ht hW => ⟨⟨(4 : Int32), (), rfl, rfl, by rw [ht]; exact hP, va_K.moved hW.alike hK, hD⟩, hS.F ht⟩) hS.2.2 dX5_joined_61
              · have hF := F_neg c12 hF
                refine lv_iload_n hx hb dX5_joined_47 rfl (lv_at hl 1 rfl) ?_
                refine lv_iconst (v := (2 : Int32)) hx hb dX5_joined_48 (by decide) ?_
                refine lv_iconst (v := (3 : Int32)) hx hb dX5_joined_49 (by decide) ?_
                obtain ⟨r13, h14, hF⟩ := ob1_some hF
                have hPc : va_P (dC, dI) vwCl (([] : va_W)) H := hP
                have hDc : va_D A (([] : va_W)) := hD
                have hFc := jFreeW (ws := ([] : va_W)) hD hS hA
                refine va_calli (va_runS (As := [.int v2, .int (2 : Int32), .int (3 : Int32)]) (rest := []) ⟨hx, hb, hml, hown, hts⟩ (c_X5_in l dC dI cI  H.size _ _ _ _ h14) (va_cwS 3 hts gX5_joined_X5_in rfl rfl rfl (by decide +kernel) ⟨Nat.le_of_ble_eq_true rfl, Nat.le_of_ble_eq_true rfl⟩) (jPreS hK hPc hDc hN) rfl rfl hl.1 rfl (lv_room (Nat.le_of_ble_eq_true rfl)) dX5_joined_50 ⟨Nat.le_of_ble_eq_true rfl, Nat.le_of_ble_eq_true rfl⟩) hS (fun q _ h => hFc q h) hFc (fun r' u' t H locs ht hvm hw hB hz1 hk1 hS => ?_)
                subst hw
                obtain ⟨hP1, -, hD1⟩ := hB
                rw [ht] at hP1
                have hP : va_P (dC, dI) vwCl (([] : va_W)) H := hP1
                have hD : va_D A (([] : va_W)) := hD1.weaken (fun _ _ _ h => hFc _ h)
                refine lv_if_eq (tgt := 60) hx hb dX5_joined_53 (by decide) (fun c15 => ?_) (fun c15 => ?_)
                · have hF := F_pos c15 hF
                  refine lv_iconst (v := (4 : Int32)) hx hb dX5_joined_60 (by decide) ?_
                  have e50 := Option.some.inj hF
                  subst e50
                  exact W.iret (v := (4 : Int32)) hx hb hr (fun t ht hW => ⟨⟨(4 : Int32), (), rfl, rfl, by rw [ht]; exact hP, va_K.moved hW.alike hK, hD⟩, hS.F ht⟩) hS.2.2 dX5_joined_61
                · have hF := F_neg c15 hF
                  refine lv_iconst (v := (3 : Int32)) hx hb dX5_joined_56 (by decide) ?_
                  refine lv_goto (tgt := 61) hx hb dX5_joined_57 (by decide) ?_
                  have e50 := Option.some.inj hF
                  subst e50
                  exact W.iret (v := (3 : Int32)) hx hb hr (fun t ht hW => ⟨⟨(3 : Int32), (), rfl, rfl, by rw [ht]; exact hP, va_K.moved hW.alike hK, hD⟩, hS.F ht⟩) hS.2.2 dX5_joined_61
            · have hF := F_pos c9 hF
              refine lv_bipush (v := (7 : Int32)) hx hb dX5_joined_35 (by decide) ?_
              have e50 := Option.some.inj hF
              subst e50
              exact W.iret (v := (7 : Int32)) hx hb hr (fun t ht hW => ⟨⟨(7 : Int32), (), rfl, rfl, by rw [ht]; exact hP, va_K.moved hW.alike hK, hD⟩, hS.F ht⟩) hS.2.2 dX5_joined_37
        · have hF := F_pos c3 hF
          refine lv_iload_n hx hb dX5_joined_15 rfl (lv_at hl 1 rfl) ?_
          have e50 := Option.some.inj hF
          subst e50
          exact W.iret (v := v2) hx hb hr (fun t ht hW => ⟨⟨v2, (), rfl, rfl, by rw [ht]; exact hP, va_K.moved hW.alike hK, hD⟩, hS.F ht⟩) hS.2.2 dX5_joined_16
      · have hF := F_pos c2 hF
        refine lv_iload_n hx hb dX5_joined_9 rfl (lv_at hl 0 rfl) ?_
        have e50 := Option.some.inj hF
        subst e50
        exact W.iret (v := v1) hx hb hr (fun t ht hW => ⟨⟨v1, (), rfl, rfl, by rw [ht]; exact hP, va_K.moved hW.alike hK, hD⟩, hS.F ht⟩) hS.2.2 dX5_joined_10
  exact KE _ _ hP hD hS
set_option maxHeartbeats 4000000 in
set_option maxRecDepth 100000 in
theorem c_X5_lays (l : Launch) (dC : Nat → ClassId) (dI : Nat → Nat → Nat) (cI : ClassId) (a : Nat → Nat) (sz : Nat) (S : S_Model) (v1 : Int32) (Y : S_Model) (hF : F_X5_lays S v1 = some Y) : Met l yX5_lays wsX5_lays ({ frames := 0, cells := 0, slots := 0, locals := 0 } : Room) (va_Pc [.ref (a 0), .int v1] (jPre (dC, dI) [(cI, .int)] sz ((W_Model cI a S)))) (va_Qv (fun u : S_Model => Y = u) (fun u : S_Model => jB (dC, dI) [(cI, .int)] (va_A ((W_Model cI a S)) sz) ((W_Model cI a u))) (va_A ((W_Model cI a S)) sz)) 0 0 (va_A ((W_Model cI a S)) sz) := by
  refine Met.ofW (cc := cX5_lays) (maxL := 3) (ret := none) (by decide) rfl ?_
  intro p e s m args below meth c s₁ B hml hv
  obtain ⟨rfl, hsz, hP, hK, hD0, hN⟩ := hv
  have hx := B.exec
  have hb := B.bytes
  have hr := B.returns
  have hts := atoms_spec (ws := wsX5_lays) B.pre
  have hown : s.vm.findClass RX5 = some m.cls := findClass_of_methodNamed B.named
  have hlocks := B.notSynchronized
  have hinX5 : ∀ w ∈ u_ws RX5 TX5 26, w ∈ wsX5_lays := by decide +kernel
  subst hsz
  have hD := hD0.self (sz := s.heap.size)
  generalize hAe : (va_A ((W_Model cI a S)) s.heap.size) = A at hD ⊢
  have hA : ∀ q : Nat, s.heap.size ≤ q → A q := fun q h => by rw [← hAe]; exact Or.inr h
  have hS : va_S A s.heap s.heap [] := va_S.rf
  have hl := lv_entry ([.ref (a 0), .int v1]) (n := 3) (Nat.le_of_ble_eq_true rfl)
  rw [lg_entry_eq]
  generalize (lg_sl ([.ref (a 0), .int v1]) ++ List.replicate (3 - (lg_sl ([.ref (a 0), .int v1])).length) Slot.unset).toArray = ls at hl ⊢
  have hl : lv_has ls 3 [(0, .ref (a 0)), (1, .int v1)] := hl
  have K2 : ∀ (n2 : Nat) (S : S_Model) (x2 : Int32) (H : Heap) (locs : List Loc), F_X5_lays_2 v1 n2 S x2 = some Y → va_P (dC, dI) vwCl ((W_Model cI a S)) H → va_D A ((W_Model cI a S)) → va_S A s.heap H locs → ∀ ls : Array Slot, lv_has ls 3 [(0, .ref (a 0)), (1, .int v1), (2, .int x2)] → W p l e (headSpec wsX5_lays ({ frames := 0, cells := 0, slots := 0, locals := 0 } : Room)).room s m ([.ref (a 0), .int v1] : List Value).toArray below meth c H locs 0 0 (MQ below (va_Qv (fun u : S_Model => Y = u) (fun u : S_Model => jB (dC, dI) [(cI, .int)] A ((W_Model cI a u))) A) ([.ref (a 0), .int v1] : List Value).toArray s 0 0 A) (F0 m 2 ls []) := by
    intro n2
    induction n2 with
    | zero => intro S x2 H locs hF; exact nomatch hF
    | succ n2 ih2 =>
      intro S x2 H locs hF hP hD hS ls hl
      rw [F_X5_lays_2_s] at hF
      refine lv_iload_n hx hb dX5_lays_2 rfl (lv_at hl 2 rfl) ?_
      refine lv_sipush (v := (210 : Int32)) hx hb dX5_lays_3 (by decide) ?_
      refine lv_icmp_ge (tgt := 35) hx hb dX5_lays_6 (by decide) (fun c1 => ?_) (fun c1 => ?_)
      · have hF := F_pos c1 hF
        refine lv_aload_n hx hb dX5_lays_35 rfl (lv_at hl 0 rfl) ?_
        refine lv_aload_n hx hb dX5_lays_36 rfl (lv_at hl 0 rfl) ?_
        refine wg_now (v := .ref (a 1)) hx hb hts hinX5 hown hK hP rfl (hts (Cond.fieldLink RX5 7 "LearnedShapesModel" "now" "[I") (List.mem_of_getElem? (i := 2) rfl)) dX5_lays_37 ?_
        refine lv_iconst (v := (3 : Int32)) hx hb dX5_lays_40 (by decide) ?_
        refine lv_iload_n hx hb dX5_lays_41 rfl (lv_at hl 1 rfl) ?_
        refine lv_iadd hx hb dX5_lays_42 ?_
        obtain ⟨g2, hF⟩ := og_some hF
        refine wl_now (f := (g_Model_now S)) hx hb hK hP rfl (inb_in g2) dX5_lays_43 ?_
        refine wp_top (v := ((g_Model_now S) ((3 : Int32) + v1).toNatClampNeg)) hx hb hts hinX5 hown hK hP hD hS (hts (Cond.fieldLink RX5 123 "LearnedShapesModel" "top" "I") (List.mem_of_getElem? (i := 3) rfl)) (rfl) (rfl) dX5_lays_44 (fun H locs hP hD hS => ?_)
        refine lv_aload_n hx hb dX5_lays_47 rfl (lv_at hl 0 rfl) ?_
        refine lv_iconst (v := (0 : Int32)) hx hb dX5_lays_48 (by decide) ?_
        refine wp_becameAny (v := (0 : Int32)) hx hb hts hinX5 hown hK hP hD hS (hts (Cond.fieldLink RX5 126 "LearnedShapesModel" "becameAny" "Z") (List.mem_of_getElem? (i := 4) rfl)) (rfl) (rfl) dX5_lays_49 (fun H locs hP hD hS => ?_)
        have e50 := Option.some.inj hF
        subst e50
        exact W.vret hx hb hr (fun t ht hW => ⟨⟨(s_Model_becameAny (s_Model_top S ((g_Model_now S) ((3 : Int32) + v1).toNatClampNeg)) (0 : Int32)), rfl, rfl, by rw [ht]; exact hP, va_K.moved hW.alike hK, hD⟩, hS.F ht⟩) hS.2.2 dX5_lays_52
      · have hF := F_neg c1 hF
        refine lv_aload_n hx hb dX5_lays_9 rfl (lv_at hl 0 rfl) ?_
        refine wg_tree (v := .ref (a 11)) hx hb hts hinX5 hown hK hP rfl (hts (Cond.fieldLink RX5 40 "LearnedShapesModel" "tree" "[I") (List.mem_of_getElem? (i := 1) rfl)) dX5_lays_10 ?_
        refine lv_iload_n hx hb dX5_lays_13 rfl (lv_at hl 2 rfl) ?_
        refine lv_aload_n hx hb dX5_lays_14 rfl (lv_at hl 0 rfl) ?_
        refine wg_now (v := .ref (a 1)) hx hb hts hinX5 hown hK hP rfl (hts (Cond.fieldLink RX5 7 "LearnedShapesModel" "now" "[I") (List.mem_of_getElem? (i := 2) rfl)) dX5_lays_15 ?_
        refine lv_iconst (v := (5 : Int32)) hx hb dX5_lays_18 (by decide) ?_
        refine lv_sipush (v := (210 : Int32)) hx hb dX5_lays_19 (by decide) ?_
        refine lv_iload_n hx hb dX5_lays_22 rfl (lv_at hl 1 rfl) ?_
        refine lv_imul hx hb dX5_lays_23 ?_
        refine lv_iadd hx hb dX5_lays_24 ?_
        refine lv_iload_n hx hb dX5_lays_25 rfl (lv_at hl 2 rfl) ?_
        refine lv_iadd hx hb dX5_lays_26 ?_
        obtain ⟨g3, hF⟩ := og_some hF
        refine wl_now (f := (g_Model_now S)) hx hb hK hP rfl (inb_in g3) dX5_lays_27 ?_
        obtain ⟨g4, hF⟩ := og_some hF
        refine ws_tree (f := (g_Model_tree S)) hx hb hK hP hD hS rfl (inb_in g4) dX5_lays_28 (fun H locs hP hD hS => ?_)
        refine lv_iinc (v := (x2 + (1 : Int32))) (lv' := [(2, .int (x2 + (1 : Int32))), (0, .ref (a 0)), (1, .int v1)]) hx hb dX5_lays_29 hl (k := 2) rfl rfl (by decide) rfl (fun ls hl => ?_)
        refine lv_goto (tgt := 2) hx hb dX5_lays_32 (by decide) ?_
        exact ih2 _ _ _ _ hF hP hD hS _ (lv_sub hl [1, 2, 0] rfl)
  have KE : ∀ (H : Heap) (locs : List Loc), va_P (dC, dI) vwCl ((W_Model cI a S)) H → va_D A ((W_Model cI a S)) → va_S A s.heap H locs → W p l e (headSpec wsX5_lays ({ frames := 0, cells := 0, slots := 0, locals := 0 } : Room)).room s m ([.ref (a 0), .int v1] : List Value).toArray below meth c H locs 0 0 (MQ below (va_Qv (fun u : S_Model => Y = u) (fun u : S_Model => jB (dC, dI) [(cI, .int)] A ((W_Model cI a u))) A) ([.ref (a 0), .int v1] : List Value).toArray s 0 0 A) (F0 m 0 ls []) := by
    intro H locs hP hD hS
    unfold F_X5_lays at hF
    refine lv_iconst (v := (0 : Int32)) hx hb dX5_lays_0 (by decide) ?_
    refine lv_istore_n (lv' := [(2, .int (0 : Int32)), (0, .ref (a 0)), (1, .int v1)]) hx hb dX5_lays_1 rfl hl (by decide) rfl (fun ls hl => ?_)
    exact K2 _ _ _ _ _ hF hP hD hS _ (lv_sub hl [1, 2, 0] rfl)
  exact KE _ _ hP hD hS
set_option maxHeartbeats 4000000 in
set_option maxRecDepth 100000 in
theorem c_X5_childAt (l : Launch) (dC : Nat → ClassId) (dI : Nat → Nat → Nat) (cI : ClassId) (a : Nat → Nat) (sz : Nat) (S : S_Model) (v1 : Int32) (v2 : Int32) (rr : Int32) (hF : F_X5_childAt S v1 v2 = some rr) : Met l yX5_childAt wsX5_childAt ({ frames := 0, cells := 0, slots := 0, locals := 0 } : Room) (va_Pc [.ref (a 0), .int v1, .int v2] (jPre (dC, dI) [(cI, .int)] sz ((W_Model cI a S)))) (va_Qi (fun (r' : Int32) (_ : Unit) => rr = r') (fun _ : Unit => jB (dC, dI) [(cI, .int)] (va_A ((W_Model cI a S)) sz) ((W_Model cI a S))) (va_A ((W_Model cI a S)) sz)) 0 0 (va_A ((W_Model cI a S)) sz) := by
  refine Met.ofW (cc := cX5_childAt) (maxL := 4) (ret := (some .int)) (by decide) rfl ?_
  intro p e s m args below meth c s₁ B hml hv
  obtain ⟨rfl, hsz, hP, hK, hD0, hN⟩ := hv
  have hx := B.exec
  have hb := B.bytes
  have hr := B.returns
  have hts := atoms_spec (ws := wsX5_childAt) B.pre
  have hown : s.vm.findClass RX5 = some m.cls := findClass_of_methodNamed B.named
  have hlocks := B.notSynchronized
  have hinX5 : ∀ w ∈ u_ws RX5 TX5 26, w ∈ wsX5_childAt := by decide +kernel
  subst hsz
  have hD := hD0.self (sz := s.heap.size)
  generalize hAe : (va_A ((W_Model cI a S)) s.heap.size) = A at hD ⊢
  have hA : ∀ q : Nat, s.heap.size ≤ q → A q := fun q h => by rw [← hAe]; exact Or.inr h
  have hS : va_S A s.heap s.heap [] := va_S.rf
  have hl := lv_entry ([.ref (a 0), .int v1, .int v2]) (n := 4) (Nat.le_of_ble_eq_true rfl)
  rw [lg_entry_eq]
  generalize (lg_sl ([.ref (a 0), .int v1, .int v2]) ++ List.replicate (4 - (lg_sl ([.ref (a 0), .int v1, .int v2])).length) Slot.unset).toArray = ls at hl ⊢
  have hl : lv_has ls 4 [(0, .ref (a 0)), (1, .int v1), (2, .int v2)] := hl
  have K2 : ∀ (n2 : Nat) (x3 : Int32) (H : Heap) (locs : List Loc), F_X5_childAt_2 v1 v2 S n2 x3 = some rr → va_P (dC, dI) vwCl ((W_Model cI a S)) H → va_D A ((W_Model cI a S)) → va_S A s.heap H locs → ∀ ls : Array Slot, lv_has ls 4 [(0, .ref (a 0)), (1, .int v1), (2, .int v2), (3, .int x3)] → W p l e (headSpec wsX5_childAt ({ frames := 0, cells := 0, slots := 0, locals := 0 } : Room)).room s m ([.ref (a 0), .int v1, .int v2] : List Value).toArray below meth c H locs 0 0 (MQ below (va_Qi (fun (r' : Int32) (_ : Unit) => rr = r') (fun _ : Unit => jB (dC, dI) [(cI, .int)] A ((W_Model cI a S))) A) ([.ref (a 0), .int v1, .int v2] : List Value).toArray s 0 0 A) (F0 m 2 ls []) := by
    intro n2
    induction n2 with
    | zero => intro x3 H locs hF; exact nomatch hF
    | succ n2 ih2 =>
      intro x3 H locs hF hP hD hS ls hl
      rw [F_X5_childAt_2_s] at hF
      refine lv_iload_n hx hb dX5_childAt_2 rfl (lv_at hl 3 rfl) ?_
      refine lv_aload_n hx hb dX5_childAt_3 rfl (lv_at hl 0 rfl) ?_
      refine wg_top (v := .int (g_Model_top S)) hx hb hts hinX5 hown hK hP rfl (hts (Cond.fieldLink RX5 123 "LearnedShapesModel" "top" "I") (List.mem_of_getElem? (i := 1) rfl)) dX5_childAt_4 ?_
      refine lv_icmp_ge (tgt := 61) hx hb dX5_childAt_7 (by decide) (fun c1 => ?_) (fun c1 => ?_)
      · have hF := F_pos c1 hF
        refine lv_iconst (v := (-1 : Int32)) hx hb dX5_childAt_61 (by decide) ?_
        have e50 := Option.some.inj hF
        subst e50
        exact W.iret (v := (-1 : Int32)) hx hb hr (fun t ht hW => ⟨⟨(-1 : Int32), (), rfl, rfl, by rw [ht]; exact hP, va_K.moved hW.alike hK, hD⟩, hS.F ht⟩) hS.2.2 dX5_childAt_62
      · have hF := F_neg c1 hF
        refine lv_aload_n hx hb dX5_childAt_10 rfl (lv_at hl 0 rfl) ?_
        refine wg_tree (v := .ref (a 11)) hx hb hts hinX5 hown hK hP rfl (hts (Cond.fieldLink RX5 40 "LearnedShapesModel" "tree" "[I") (List.mem_of_getElem? (i := 2) rfl)) dX5_childAt_11 ?_
        refine lv_bipush (v := (7 : Int32)) hx hb dX5_childAt_14 (by decide) ?_
        refine lv_iload_n hx hb dX5_childAt_16 rfl (lv_at hl 3 rfl) ?_
        refine lv_imul hx hb dX5_childAt_17 ?_
        obtain ⟨g2, hF⟩ := og_some hF
        refine wl_tree (f := (g_Model_tree S)) hx hb hK hP rfl (inb_in g2) dX5_childAt_18 ?_
        refine lv_iconst (v := (-1 : Int32)) hx hb dX5_childAt_19 (by decide) ?_
        refine lv_icmp_eq (tgt := 55) hx hb dX5_childAt_20 (by decide) (fun c3 => ?_) (fun c3 => ?_)
        · have hF := F_pos c3 hF
          refine lv_iinc (v := (x3 + (1 : Int32))) (lv' := [(3, .int (x3 + (1 : Int32))), (0, .ref (a 0)), (1, .int v1), (2, .int v2)]) hx hb dX5_childAt_55 hl (k := 3) rfl rfl (by decide) rfl (fun ls hl => ?_)
          refine lv_goto (tgt := 2) hx hb dX5_childAt_58 (by decide) ?_
          exact ih2 _ _ _ hF hP hD hS _ (lv_sub hl [1, 2, 3, 0] rfl)
        · have hF := F_neg c3 hF
          refine lv_aload_n hx hb dX5_childAt_23 rfl (lv_at hl 0 rfl) ?_
          refine wg_tree (v := .ref (a 11)) hx hb hts hinX5 hown hK hP rfl (hts (Cond.fieldLink RX5 40 "LearnedShapesModel" "tree" "[I") (List.mem_of_getElem? (i := 2) rfl)) dX5_childAt_24 ?_
          refine lv_bipush (v := (7 : Int32)) hx hb dX5_childAt_27 (by decide) ?_
          refine lv_iload_n hx hb dX5_childAt_29 rfl (lv_at hl 3 rfl) ?_
          refine lv_imul hx hb dX5_childAt_30 ?_
          refine lv_iconst (v := (1 : Int32)) hx hb dX5_childAt_31 (by decide) ?_
          refine lv_iadd hx hb dX5_childAt_32 ?_
          obtain ⟨g4, hF⟩ := og_some hF
          refine wl_tree (f := (g_Model_tree S)) hx hb hK hP rfl (inb_in g4) dX5_childAt_33 ?_
          refine lv_iload_n hx hb dX5_childAt_34 rfl (lv_at hl 1 rfl) ?_
          refine lv_icmp_ne (tgt := 55) hx hb dX5_childAt_35 (by decide) (fun c5 => ?_) (fun c5 => ?_)
          · have hF := F_neg c5 hF
            refine lv_iinc (v := (x3 + (1 : Int32))) (lv' := [(3, .int (x3 + (1 : Int32))), (0, .ref (a 0)), (1, .int v1), (2, .int v2)]) hx hb dX5_childAt_55 hl (k := 3) rfl rfl (by decide) rfl (fun ls hl => ?_)
            refine lv_goto (tgt := 2) hx hb dX5_childAt_58 (by decide) ?_
            exact ih2 _ _ _ hF hP hD hS _ (lv_sub hl [1, 2, 3, 0] rfl)
          · have hF := F_pos c5 hF
            refine lv_aload_n hx hb dX5_childAt_38 rfl (lv_at hl 0 rfl) ?_
            refine wg_tree (v := .ref (a 11)) hx hb hts hinX5 hown hK hP rfl (hts (Cond.fieldLink RX5 40 "LearnedShapesModel" "tree" "[I") (List.mem_of_getElem? (i := 2) rfl)) dX5_childAt_39 ?_
            refine lv_bipush (v := (7 : Int32)) hx hb dX5_childAt_42 (by decide) ?_
            refine lv_iload_n hx hb dX5_childAt_44 rfl (lv_at hl 3 rfl) ?_
            refine lv_imul hx hb dX5_childAt_45 ?_
            refine lv_iconst (v := (2 : Int32)) hx hb dX5_childAt_46 (by decide) ?_
            refine lv_iadd hx hb dX5_childAt_47 ?_
            obtain ⟨g6, hF⟩ := og_some hF
            refine wl_tree (f := (g_Model_tree S)) hx hb hK hP rfl (inb_in g6) dX5_childAt_48 ?_
            refine lv_iload_n hx hb dX5_childAt_49 rfl (lv_at hl 2 rfl) ?_
            refine lv_icmp_ne (tgt := 55) hx hb dX5_childAt_50 (by decide) (fun c7 => ?_) (fun c7 => ?_)
            · have hF := F_neg c7 hF
              refine lv_iinc (v := (x3 + (1 : Int32))) (lv' := [(3, .int (x3 + (1 : Int32))), (0, .ref (a 0)), (1, .int v1), (2, .int v2)]) hx hb dX5_childAt_55 hl (k := 3) rfl rfl (by decide) rfl (fun ls hl => ?_)
              refine lv_goto (tgt := 2) hx hb dX5_childAt_58 (by decide) ?_
              exact ih2 _ _ _ hF hP hD hS _ (lv_sub hl [1, 2, 3, 0] rfl)
            · have hF := F_pos c7 hF
              refine lv_iload_n hx hb dX5_childAt_53 rfl (lv_at hl 3 rfl) ?_
              have e50 := Option.some.inj hF
              subst e50
              exact W.iret (v := x3) hx hb hr (fun t ht hW => ⟨⟨x3, (), rfl, rfl, by rw [ht]; exact hP, va_K.moved hW.alike hK, hD⟩, hS.F ht⟩) hS.2.2 dX5_childAt_54
  have KE : ∀ (H : Heap) (locs : List Loc), va_P (dC, dI) vwCl ((W_Model cI a S)) H → va_D A ((W_Model cI a S)) → va_S A s.heap H locs → W p l e (headSpec wsX5_childAt ({ frames := 0, cells := 0, slots := 0, locals := 0 } : Room)).room s m ([.ref (a 0), .int v1, .int v2] : List Value).toArray below meth c H locs 0 0 (MQ below (va_Qi (fun (r' : Int32) (_ : Unit) => rr = r') (fun _ : Unit => jB (dC, dI) [(cI, .int)] A ((W_Model cI a S))) A) ([.ref (a 0), .int v1, .int v2] : List Value).toArray s 0 0 A) (F0 m 0 ls []) := by
    intro H locs hP hD hS
    unfold F_X5_childAt at hF
    refine lv_iconst (v := (0 : Int32)) hx hb dX5_childAt_0 (by decide) ?_
    refine lv_istore_n (lv' := [(3, .int (0 : Int32)), (0, .ref (a 0)), (1, .int v1), (2, .int v2)]) hx hb dX5_childAt_1 rfl hl (by decide) rfl (fun ls hl => ?_)
    exact K2 _ _ _ _ hF hP hD hS _ (lv_sub hl [1, 2, 3, 0] rfl)
  exact KE _ _ hP hD hS
set_option maxHeartbeats 4000000 in
set_option maxRecDepth 100000 in
theorem c_X5_makes (l : Launch) (dC : Nat → ClassId) (dI : Nat → Nat → Nat) (cI : ClassId) (a : Nat → Nat) (sz : Nat) (S : S_Model) (v1 : Int32) (v2 : Int32) (v3 : Int32) (v4 : Int32) (rr : Int32) (Y : S_Model) (hF : F_X5_makes S v1 v2 v3 v4 = some (rr, Y)) : Met l yX5_makes wsX5_makes ({ frames := 0, cells := 0, slots := 0, locals := 0 } : Room) (va_Pc [.ref (a 0), .int v1, .int v2, .int v3, .int v4] (jPre (dC, dI) [(cI, .int)] sz ((W_Model cI a S)))) (va_Qi (fun (r' : Int32) (u : S_Model) => rr = r' ∧ Y = u) (fun u : S_Model => jB (dC, dI) [(cI, .int)] (va_A ((W_Model cI a S)) sz) ((W_Model cI a u))) (va_A ((W_Model cI a S)) sz)) 0 0 (va_A ((W_Model cI a S)) sz) := by
  refine Met.ofW (cc := cX5_makes) (maxL := 6) (ret := (some .int)) (by decide) rfl ?_
  intro p e s m args below meth c s₁ B hml hv
  obtain ⟨rfl, hsz, hP, hK, hD0, hN⟩ := hv
  have hx := B.exec
  have hb := B.bytes
  have hr := B.returns
  have hts := atoms_spec (ws := wsX5_makes) B.pre
  have hown : s.vm.findClass RX5 = some m.cls := findClass_of_methodNamed B.named
  have hlocks := B.notSynchronized
  have hinX5 : ∀ w ∈ u_ws RX5 TX5 26, w ∈ wsX5_makes := by decide +kernel
  subst hsz
  have hD := hD0.self (sz := s.heap.size)
  generalize hAe : (va_A ((W_Model cI a S)) s.heap.size) = A at hD ⊢
  have hA : ∀ q : Nat, s.heap.size ≤ q → A q := fun q h => by rw [← hAe]; exact Or.inr h
  have hS : va_S A s.heap s.heap [] := va_S.rf
  have hl := lv_entry ([.ref (a 0), .int v1, .int v2, .int v3, .int v4]) (n := 6) (Nat.le_of_ble_eq_true rfl)
  rw [lg_entry_eq]
  generalize (lg_sl ([.ref (a 0), .int v1, .int v2, .int v3, .int v4]) ++ List.replicate (6 - (lg_sl ([.ref (a 0), .int v1, .int v2, .int v3, .int v4])).length) Slot.unset).toArray = ls at hl ⊢
  have hl : lv_has ls 6 [(0, .ref (a 0)), (1, .int v1), (2, .int v2), (3, .int v3), (4, .int v4)] := hl
  have KE : ∀ (H : Heap) (locs : List Loc), va_P (dC, dI) vwCl ((W_Model cI a S)) H → va_D A ((W_Model cI a S)) → va_S A s.heap H locs → W p l e (headSpec wsX5_makes ({ frames := 0, cells := 0, slots := 0, locals := 0 } : Room)).room s m ([.ref (a 0), .int v1, .int v2, .int v3, .int v4] : List Value).toArray below meth c H locs 0 0 (MQ below (va_Qi (fun (r' : Int32) (u : S_Model) => rr = r' ∧ Y = u) (fun u : S_Model => jB (dC, dI) [(cI, .int)] A ((W_Model cI a u))) A) ([.ref (a 0), .int v1, .int v2, .int v3, .int v4] : List Value).toArray s 0 0 A) (F0 m 0 ls []) := by
    intro H locs hP hD hS
    unfold F_X5_makes at hF
    refine lv_bipush (v := (7 : Int32)) hx hb dX5_makes_0 (by decide) ?_
    refine lv_aload_n hx hb dX5_makes_2 rfl (lv_at hl 0 rfl) ?_
    refine wg_top (v := .int (g_Model_top S)) hx hb hts hinX5 hown hK hP rfl (hts (Cond.fieldLink RX5 123 "LearnedShapesModel" "top" "I") (List.mem_of_getElem? (i := 1) rfl)) dX5_makes_3 ?_
    refine lv_imul hx hb dX5_makes_6 ?_
    refine lv_istore (lv' := [(5, .int ((7 : Int32) * (g_Model_top S))), (0, .ref (a 0)), (1, .int v1), (2, .int v2), (3, .int v3), (4, .int v4)]) hx hb dX5_makes_7 hl (by decide) rfl (fun ls hl => ?_)
    refine lv_aload_n hx hb dX5_makes_9 rfl (lv_at hl 1 rfl) ?_
    refine wg_tree (v := .ref (a 11)) hx hb hts hinX5 hown hK hP rfl (hts (Cond.fieldLink RX5 40 "LearnedShapesModel" "tree" "[I") (List.mem_of_getElem? (i := 2) rfl)) dX5_makes_10 ?_
    refine lv_iload hx hb dX5_makes_13 (lv_at hl 0 rfl) ?_
    refine lv_iload_n hx hb dX5_makes_15 rfl (lv_at hl 4 rfl) ?_
    obtain ⟨g1, hF⟩ := og_some hF
    refine ws_tree (f := (g_Model_tree S)) hx hb hK hP hD hS rfl (inb_in g1) dX5_makes_16 (fun H locs hP hD hS => ?_)
    refine lv_aload_n hx hb dX5_makes_17 rfl (lv_at hl 1 rfl) ?_
    refine wg_tree (v := .ref (a 11)) hx hb hts hinX5 hown hK hP rfl (hts (Cond.fieldLink RX5 40 "LearnedShapesModel" "tree" "[I") (List.mem_of_getElem? (i := 2) rfl)) dX5_makes_18 ?_
    refine lv_iload hx hb dX5_makes_21 (lv_at hl 0 rfl) ?_
    refine lv_iconst (v := (1 : Int32)) hx hb dX5_makes_23 (by decide) ?_
    refine lv_iadd hx hb dX5_makes_24 ?_
    refine lv_iload_n hx hb dX5_makes_25 rfl (lv_at hl 2 rfl) ?_
    obtain ⟨g2, hF⟩ := og_some hF
    refine ws_tree (f := (upd (g_Model_tree S) ((7 : Int32) * (g_Model_top S)).toNatClampNeg v3)) hx hb hK hP hD hS rfl (inb_in g2) dX5_makes_26 (fun H locs hP hD hS => ?_)
    have hP : va_P (dC, dI) vwCl ((W_Model cI a (s_Model_tree S (upd (upd (g_Model_tree S) ((7 : Int32) * (g_Model_top S)).toNatClampNeg v3) (((7 : Int32) * (g_Model_top S)) + (1 : Int32)).toNatClampNeg v1)))) H := hP
    have hD : va_D A ((W_Model cI a (s_Model_tree S (upd (upd (g_Model_tree S) ((7 : Int32) * (g_Model_top S)).toNatClampNeg v3) (((7 : Int32) * (g_Model_top S)) + (1 : Int32)).toNatClampNeg v1)))) := hD
    refine lv_aload_n hx hb dX5_makes_27 rfl (lv_at hl 1 rfl) ?_
    refine wg_tree (v := .ref (a 11)) hx hb hts hinX5 hown hK hP rfl (hts (Cond.fieldLink RX5 40 "LearnedShapesModel" "tree" "[I") (List.mem_of_getElem? (i := 2) rfl)) dX5_makes_28 ?_
    refine lv_iload hx hb dX5_makes_31 (lv_at hl 0 rfl) ?_
    refine lv_iconst (v := (2 : Int32)) hx hb dX5_makes_33 (by decide) ?_
    refine lv_iadd hx hb dX5_makes_34 ?_
    refine lv_iload_n hx hb dX5_makes_35 rfl (lv_at hl 3 rfl) ?_
    obtain ⟨g3, hF⟩ := og_some hF
    refine ws_tree (f := (upd (upd (g_Model_tree S) ((7 : Int32) * (g_Model_top S)).toNatClampNeg v3) (((7 : Int32) * (g_Model_top S)) + (1 : Int32)).toNatClampNeg v1)) hx hb hK hP hD hS rfl (inb_in g3) dX5_makes_36 (fun H locs hP hD hS => ?_)
    have hP : va_P (dC, dI) vwCl ((W_Model cI a (s_Model_tree S (upd (upd (upd (g_Model_tree S) ((7 : Int32) * (g_Model_top S)).toNatClampNeg v3) (((7 : Int32) * (g_Model_top S)) + (1 : Int32)).toNatClampNeg v1) (((7 : Int32) * (g_Model_top S)) + (2 : Int32)).toNatClampNeg v2)))) H := hP
    have hD : va_D A ((W_Model cI a (s_Model_tree S (upd (upd (upd (g_Model_tree S) ((7 : Int32) * (g_Model_top S)).toNatClampNeg v3) (((7 : Int32) * (g_Model_top S)) + (1 : Int32)).toNatClampNeg v1) (((7 : Int32) * (g_Model_top S)) + (2 : Int32)).toNatClampNeg v2)))) := hD
    refine lv_aload_n hx hb dX5_makes_37 rfl (lv_at hl 1 rfl) ?_
    refine wg_tree (v := .ref (a 11)) hx hb hts hinX5 hown hK hP rfl (hts (Cond.fieldLink RX5 40 "LearnedShapesModel" "tree" "[I") (List.mem_of_getElem? (i := 2) rfl)) dX5_makes_38 ?_
    refine lv_iload hx hb dX5_makes_41 (lv_at hl 0 rfl) ?_
    refine lv_iconst (v := (3 : Int32)) hx hb dX5_makes_43 (by decide) ?_
    refine lv_iadd hx hb dX5_makes_44 ?_
    refine lv_iconst (v := (0 : Int32)) hx hb dX5_makes_45 (by decide) ?_
    obtain ⟨g4, hF⟩ := og_some hF
    refine ws_tree (f := (upd (upd (upd (g_Model_tree S) ((7 : Int32) * (g_Model_top S)).toNatClampNeg v3) (((7 : Int32) * (g_Model_top S)) + (1 : Int32)).toNatClampNeg v1) (((7 : Int32) * (g_Model_top S)) + (2 : Int32)).toNatClampNeg v2)) hx hb hK hP hD hS rfl (inb_in g4) dX5_makes_46 (fun H locs hP hD hS => ?_)
    have hP : va_P (dC, dI) vwCl ((W_Model cI a (s_Model_tree S (upd (upd (upd (upd (g_Model_tree S) ((7 : Int32) * (g_Model_top S)).toNatClampNeg v3) (((7 : Int32) * (g_Model_top S)) + (1 : Int32)).toNatClampNeg v1) (((7 : Int32) * (g_Model_top S)) + (2 : Int32)).toNatClampNeg v2) (((7 : Int32) * (g_Model_top S)) + (3 : Int32)).toNatClampNeg (0 : Int32))))) H := hP
    have hD : va_D A ((W_Model cI a (s_Model_tree S (upd (upd (upd (upd (g_Model_tree S) ((7 : Int32) * (g_Model_top S)).toNatClampNeg v3) (((7 : Int32) * (g_Model_top S)) + (1 : Int32)).toNatClampNeg v1) (((7 : Int32) * (g_Model_top S)) + (2 : Int32)).toNatClampNeg v2) (((7 : Int32) * (g_Model_top S)) + (3 : Int32)).toNatClampNeg (0 : Int32))))) := hD
    refine lv_aload_n hx hb dX5_makes_47 rfl (lv_at hl 1 rfl) ?_
    refine wg_tree (v := .ref (a 11)) hx hb hts hinX5 hown hK hP rfl (hts (Cond.fieldLink RX5 40 "LearnedShapesModel" "tree" "[I") (List.mem_of_getElem? (i := 2) rfl)) dX5_makes_48 ?_
    refine lv_iload hx hb dX5_makes_51 (lv_at hl 0 rfl) ?_
    refine lv_iconst (v := (4 : Int32)) hx hb dX5_makes_53 (by decide) ?_
    refine lv_iadd hx hb dX5_makes_54 ?_
    refine lv_iconst (v := (0 : Int32)) hx hb dX5_makes_55 (by decide) ?_
    obtain ⟨g5, hF⟩ := og_some hF
    refine ws_tree (f := (upd (upd (upd (upd (g_Model_tree S) ((7 : Int32) * (g_Model_top S)).toNatClampNeg v3) (((7 : Int32) * (g_Model_top S)) + (1 : Int32)).toNatClampNeg v1) (((7 : Int32) * (g_Model_top S)) + (2 : Int32)).toNatClampNeg v2) (((7 : Int32) * (g_Model_top S)) + (3 : Int32)).toNatClampNeg (0 : Int32))) hx hb hK hP hD hS rfl (inb_in g5) dX5_makes_56 (fun H locs hP hD hS => ?_)
    have hP : va_P (dC, dI) vwCl ((W_Model cI a (s_Model_tree S (upd (upd (upd (upd (upd (g_Model_tree S) ((7 : Int32) * (g_Model_top S)).toNatClampNeg v3) (((7 : Int32) * (g_Model_top S)) + (1 : Int32)).toNatClampNeg v1) (((7 : Int32) * (g_Model_top S)) + (2 : Int32)).toNatClampNeg v2) (((7 : Int32) * (g_Model_top S)) + (3 : Int32)).toNatClampNeg (0 : Int32)) (((7 : Int32) * (g_Model_top S)) + (4 : Int32)).toNatClampNeg (0 : Int32))))) H := hP
    have hD : va_D A ((W_Model cI a (s_Model_tree S (upd (upd (upd (upd (upd (g_Model_tree S) ((7 : Int32) * (g_Model_top S)).toNatClampNeg v3) (((7 : Int32) * (g_Model_top S)) + (1 : Int32)).toNatClampNeg v1) (((7 : Int32) * (g_Model_top S)) + (2 : Int32)).toNatClampNeg v2) (((7 : Int32) * (g_Model_top S)) + (3 : Int32)).toNatClampNeg (0 : Int32)) (((7 : Int32) * (g_Model_top S)) + (4 : Int32)).toNatClampNeg (0 : Int32))))) := hD
    refine lv_aload_n hx hb dX5_makes_57 rfl (lv_at hl 1 rfl) ?_
    refine wg_tree (v := .ref (a 11)) hx hb hts hinX5 hown hK hP rfl (hts (Cond.fieldLink RX5 40 "LearnedShapesModel" "tree" "[I") (List.mem_of_getElem? (i := 2) rfl)) dX5_makes_58 ?_
    refine lv_iload hx hb dX5_makes_61 (lv_at hl 0 rfl) ?_
    refine lv_iconst (v := (5 : Int32)) hx hb dX5_makes_63 (by decide) ?_
    refine lv_iadd hx hb dX5_makes_64 ?_
    refine lv_iconst (v := (0 : Int32)) hx hb dX5_makes_65 (by decide) ?_
    obtain ⟨g6, hF⟩ := og_some hF
    refine ws_tree (f := (upd (upd (upd (upd (upd (g_Model_tree S) ((7 : Int32) * (g_Model_top S)).toNatClampNeg v3) (((7 : Int32) * (g_Model_top S)) + (1 : Int32)).toNatClampNeg v1) (((7 : Int32) * (g_Model_top S)) + (2 : Int32)).toNatClampNeg v2) (((7 : Int32) * (g_Model_top S)) + (3 : Int32)).toNatClampNeg (0 : Int32)) (((7 : Int32) * (g_Model_top S)) + (4 : Int32)).toNatClampNeg (0 : Int32))) hx hb hK hP hD hS rfl (inb_in g6) dX5_makes_66 (fun H locs hP hD hS => ?_)
    have hP : va_P (dC, dI) vwCl ((W_Model cI a (s_Model_tree S (upd (upd (upd (upd (upd (upd (g_Model_tree S) ((7 : Int32) * (g_Model_top S)).toNatClampNeg v3) (((7 : Int32) * (g_Model_top S)) + (1 : Int32)).toNatClampNeg v1) (((7 : Int32) * (g_Model_top S)) + (2 : Int32)).toNatClampNeg v2) (((7 : Int32) * (g_Model_top S)) + (3 : Int32)).toNatClampNeg (0 : Int32)) (((7 : Int32) * (g_Model_top S)) + (4 : Int32)).toNatClampNeg (0 : Int32)) (((7 : Int32) * (g_Model_top S)) + (5 : Int32)).toNatClampNeg (0 : Int32))))) H := hP
    have hD : va_D A ((W_Model cI a (s_Model_tree S (upd (upd (upd (upd (upd (upd (g_Model_tree S) ((7 : Int32) * (g_Model_top S)).toNatClampNeg v3) (((7 : Int32) * (g_Model_top S)) + (1 : Int32)).toNatClampNeg v1) (((7 : Int32) * (g_Model_top S)) + (2 : Int32)).toNatClampNeg v2) (((7 : Int32) * (g_Model_top S)) + (3 : Int32)).toNatClampNeg (0 : Int32)) (((7 : Int32) * (g_Model_top S)) + (4 : Int32)).toNatClampNeg (0 : Int32)) (((7 : Int32) * (g_Model_top S)) + (5 : Int32)).toNatClampNeg (0 : Int32))))) := hD
    refine lv_aload_n hx hb dX5_makes_67 rfl (lv_at hl 1 rfl) ?_
    refine wg_tree (v := .ref (a 11)) hx hb hts hinX5 hown hK hP rfl (hts (Cond.fieldLink RX5 40 "LearnedShapesModel" "tree" "[I") (List.mem_of_getElem? (i := 2) rfl)) dX5_makes_68 ?_
    refine lv_iload hx hb dX5_makes_71 (lv_at hl 0 rfl) ?_
    refine lv_bipush (v := (6 : Int32)) hx hb dX5_makes_73 (by decide) ?_
    refine lv_iadd hx hb dX5_makes_75 ?_
    refine lv_iload hx hb dX5_makes_76 (lv_at hl 5 rfl) ?_
    obtain ⟨g7, hF⟩ := og_some hF
    refine ws_tree (f := (upd (upd (upd (upd (upd (upd (g_Model_tree S) ((7 : Int32) * (g_Model_top S)).toNatClampNeg v3) (((7 : Int32) * (g_Model_top S)) + (1 : Int32)).toNatClampNeg v1) (((7 : Int32) * (g_Model_top S)) + (2 : Int32)).toNatClampNeg v2) (((7 : Int32) * (g_Model_top S)) + (3 : Int32)).toNatClampNeg (0 : Int32)) (((7 : Int32) * (g_Model_top S)) + (4 : Int32)).toNatClampNeg (0 : Int32)) (((7 : Int32) * (g_Model_top S)) + (5 : Int32)).toNatClampNeg (0 : Int32))) hx hb hK hP hD hS rfl (inb_in g7) dX5_makes_78 (fun H locs hP hD hS => ?_)
    have hP : va_P (dC, dI) vwCl ((W_Model cI a (s_Model_tree S (upd (upd (upd (upd (upd (upd (upd (g_Model_tree S) ((7 : Int32) * (g_Model_top S)).toNatClampNeg v3) (((7 : Int32) * (g_Model_top S)) + (1 : Int32)).toNatClampNeg v1) (((7 : Int32) * (g_Model_top S)) + (2 : Int32)).toNatClampNeg v2) (((7 : Int32) * (g_Model_top S)) + (3 : Int32)).toNatClampNeg (0 : Int32)) (((7 : Int32) * (g_Model_top S)) + (4 : Int32)).toNatClampNeg (0 : Int32)) (((7 : Int32) * (g_Model_top S)) + (5 : Int32)).toNatClampNeg (0 : Int32)) (((7 : Int32) * (g_Model_top S)) + (6 : Int32)).toNatClampNeg v4)))) H := hP
    have hD : va_D A ((W_Model cI a (s_Model_tree S (upd (upd (upd (upd (upd (upd (upd (g_Model_tree S) ((7 : Int32) * (g_Model_top S)).toNatClampNeg v3) (((7 : Int32) * (g_Model_top S)) + (1 : Int32)).toNatClampNeg v1) (((7 : Int32) * (g_Model_top S)) + (2 : Int32)).toNatClampNeg v2) (((7 : Int32) * (g_Model_top S)) + (3 : Int32)).toNatClampNeg (0 : Int32)) (((7 : Int32) * (g_Model_top S)) + (4 : Int32)).toNatClampNeg (0 : Int32)) (((7 : Int32) * (g_Model_top S)) + (5 : Int32)).toNatClampNeg (0 : Int32)) (((7 : Int32) * (g_Model_top S)) + (6 : Int32)).toNatClampNeg v4)))) := hD
    refine lv_aload_n hx hb dX5_makes_79 rfl (lv_at hl 1 rfl) ?_
    refine lv_dup hx hb dX5_makes_80 rfl ?_
    refine wg_top (v := .int (g_Model_top S)) hx hb hts hinX5 hown hK hP rfl (hts (Cond.fieldLink RX5 123 "LearnedShapesModel" "top" "I") (List.mem_of_getElem? (i := 1) rfl)) dX5_makes_81 ?_
    refine lv_iconst (v := (1 : Int32)) hx hb dX5_makes_84 (by decide) ?_
    refine lv_iadd hx hb dX5_makes_85 ?_
    refine wp_top (v := ((g_Model_top S) + (1 : Int32))) hx hb hts hinX5 hown hK hP hD hS (hts (Cond.fieldLink RX5 123 "LearnedShapesModel" "top" "I") (List.mem_of_getElem? (i := 1) rfl)) (rfl) (rfl) dX5_makes_86 (fun H locs hP hD hS => ?_)
    refine lv_aload_n hx hb dX5_makes_89 rfl (lv_at hl 1 rfl) ?_
    refine wg_top (v := .int ((g_Model_top S) + (1 : Int32))) hx hb hts hinX5 hown hK hP rfl (hts (Cond.fieldLink RX5 123 "LearnedShapesModel" "top" "I") (List.mem_of_getElem? (i := 1) rfl)) dX5_makes_90 ?_
    refine lv_iconst (v := (1 : Int32)) hx hb dX5_makes_93 (by decide) ?_
    refine lv_isub hx hb dX5_makes_94 ?_
    have e50 := Option.some.inj hF
    obtain ⟨e60, e51⟩ := Prod.mk.inj e50
    subst e60
    subst e51
    exact W.iret (v := (((g_Model_top S) + (1 : Int32)) - (1 : Int32))) hx hb hr (fun t ht hW => ⟨⟨(((g_Model_top S) + (1 : Int32)) - (1 : Int32)), (s_Model_top (s_Model_tree S (upd (upd (upd (upd (upd (upd (upd (g_Model_tree S) ((7 : Int32) * (g_Model_top S)).toNatClampNeg v3) (((7 : Int32) * (g_Model_top S)) + (1 : Int32)).toNatClampNeg v1) (((7 : Int32) * (g_Model_top S)) + (2 : Int32)).toNatClampNeg v2) (((7 : Int32) * (g_Model_top S)) + (3 : Int32)).toNatClampNeg (0 : Int32)) (((7 : Int32) * (g_Model_top S)) + (4 : Int32)).toNatClampNeg (0 : Int32)) (((7 : Int32) * (g_Model_top S)) + (5 : Int32)).toNatClampNeg (0 : Int32)) (((7 : Int32) * (g_Model_top S)) + (6 : Int32)).toNatClampNeg v4)) ((g_Model_top S) + (1 : Int32))), rfl, ⟨rfl, rfl⟩, by rw [ht]; exact hP, va_K.moved hW.alike hK, hD⟩, hS.F ht⟩) hS.2.2 dX5_makes_95
  exact KE _ _ hP hD hS
set_option maxHeartbeats 4000000 in
set_option maxRecDepth 100000 in
theorem c_X5_bares (l : Launch) (dC : Nat → ClassId) (dI : Nat → Nat → Nat) (cI : ClassId) (a : Nat → Nat) (sz : Nat) (S : S_Model) (v1 : Int32) (Y : S_Model) (hF : F_X5_bares S v1 = some Y) : Met l yX5_bares wsX5_bares ({ frames := 0, cells := 0, slots := 0, locals := 0 } : Room) (va_Pc [.ref (a 0), .int v1] (jPre (dC, dI) [(cI, .int)] sz ((W_Model cI a S)))) (va_Qv (fun u : S_Model => Y = u) (fun u : S_Model => jB (dC, dI) [(cI, .int)] (va_A ((W_Model cI a S)) sz) ((W_Model cI a u))) (va_A ((W_Model cI a S)) sz)) 0 0 (va_A ((W_Model cI a S)) sz) := by
  refine Met.ofW (cc := cX5_bares) (maxL := 5) (ret := none) (by decide) rfl ?_
  intro p e s m args below meth c s₁ B hml hv
  obtain ⟨rfl, hsz, hP, hK, hD0, hN⟩ := hv
  have hx := B.exec
  have hb := B.bytes
  have hr := B.returns
  have hts := atoms_spec (ws := wsX5_bares) B.pre
  have hown : s.vm.findClass RX5 = some m.cls := findClass_of_methodNamed B.named
  have hlocks := B.notSynchronized
  have hinX5 : ∀ w ∈ u_ws RX5 TX5 26, w ∈ wsX5_bares := by decide +kernel
  subst hsz
  have hD := hD0.self (sz := s.heap.size)
  generalize hAe : (va_A ((W_Model cI a S)) s.heap.size) = A at hD ⊢
  have hA : ∀ q : Nat, s.heap.size ≤ q → A q := fun q h => by rw [← hAe]; exact Or.inr h
  have hS : va_S A s.heap s.heap [] := va_S.rf
  have hl := lv_entry ([.ref (a 0), .int v1]) (n := 5) (Nat.le_of_ble_eq_true rfl)
  rw [lg_entry_eq]
  generalize (lg_sl ([.ref (a 0), .int v1]) ++ List.replicate (5 - (lg_sl ([.ref (a 0), .int v1])).length) Slot.unset).toArray = ls at hl ⊢
  have hl : lv_has ls 5 [(0, .ref (a 0)), (1, .int v1)] := hl
  have K4 : ∀ (n4 : Nat) (S : S_Model) (x2 : Int32) (H : Heap) (locs : List Loc), F_X5_bares_4 v1 n4 S x2 = some Y → va_P (dC, dI) vwCl ((W_Model cI a S)) H → va_D A ((W_Model cI a S)) → va_S A s.heap H locs → ∀ ls : Array Slot, lv_has ls 5 [(0, .ref (a 0)), (1, .int v1), (2, .int x2)] → W p l e (headSpec wsX5_bares ({ frames := 0, cells := 0, slots := 0, locals := 0 } : Room)).room s m ([.ref (a 0), .int v1] : List Value).toArray below meth c H locs 0 0 (MQ below (va_Qv (fun u : S_Model => Y = u) (fun u : S_Model => jB (dC, dI) [(cI, .int)] A ((W_Model cI a u))) A) ([.ref (a 0), .int v1] : List Value).toArray s 0 0 A) (F0 m 4 ls []) := by
    intro n4
    induction n4 with
    | zero => intro S x2 H locs hF; exact nomatch hF
    | succ n4 ih4 =>
      intro S x2 H locs hF hP hD hS ls hl
      rw [F_X5_bares_4_s] at hF
      have K52 : ∀ (S : S_Model) (x2 : Int32) (t0 : Bool) (H : Heap) (locs : List Loc), F_X5_bares_52 v1 (F_X5_bares_4 v1 n4) S x2 t0 = some Y → va_P (dC, dI) vwCl ((W_Model cI a S)) H → va_D A ((W_Model cI a S)) → va_S A s.heap H locs → ∀ ls : Array Slot, lv_has ls 5 [(0, .ref (a 0)), (1, .int v1), (2, .int x2)] → W p l e (headSpec wsX5_bares ({ frames := 0, cells := 0, slots := 0, locals := 0 } : Room)).room s m ([.ref (a 0), .int v1] : List Value).toArray below meth c H locs 0 0 (MQ below (va_Qv (fun u : S_Model => Y = u) (fun u : S_Model => jB (dC, dI) [(cI, .int)] A ((W_Model cI a u))) A) ([.ref (a 0), .int v1] : List Value).toArray s 0 0 A) (F0 m 52 ls [.int (b2i t0)]) := by
        intro S x2 t0 H locs hF hP hD hS ls hl
        unfold F_X5_bares_52 at hF
        refine lv_istore (lv' := [(4, .int (b2i t0)), (0, .ref (a 0)), (1, .int v1), (2, .int x2)]) hx hb dX5_bares_52 hl (by decide) rfl (fun ls hl => ?_)
        refine lv_aload_n hx hb dX5_bares_54 rfl (lv_at hl 1 rfl) ?_
        refine wg_tree (v := .ref (a 11)) hx hb hts hinX5 hown hK hP rfl (hts (Cond.fieldLink RX5 40 "LearnedShapesModel" "tree" "[I") (List.mem_of_getElem? (i := 2) rfl)) dX5_bares_55 ?_
        refine lv_bipush (v := (7 : Int32)) hx hb dX5_bares_58 (by decide) ?_
        refine lv_iload_n hx hb dX5_bares_60 rfl (lv_at hl 3 rfl) ?_
        refine lv_imul hx hb dX5_bares_61 ?_
        refine lv_iload hx hb dX5_bares_62 (lv_at hl 0 rfl) ?_
        refine lv_if_eq (tgt := 71) hx hb dX5_bares_64 (by decide) (fun c1 => ?_) (fun c1 => ?_)
        · have hF := F_pos c1 hF
          refine lv_aload_n hx hb dX5_bares_71 rfl (lv_at hl 1 rfl) ?_
          refine wg_tree (v := .ref (a 11)) hx hb hts hinX5 hown hK hP rfl (hts (Cond.fieldLink RX5 40 "LearnedShapesModel" "tree" "[I") (List.mem_of_getElem? (i := 2) rfl)) dX5_bares_72 ?_
          refine lv_bipush (v := (7 : Int32)) hx hb dX5_bares_75 (by decide) ?_
          refine lv_iload_n hx hb dX5_bares_77 rfl (lv_at hl 3 rfl) ?_
          refine lv_imul hx hb dX5_bares_78 ?_
          obtain ⟨g2, hF⟩ := og_some hF
          refine wl_tree (f := (g_Model_tree S)) hx hb hK hP rfl (inb_in g2) dX5_bares_79 ?_
          obtain ⟨g3, hF⟩ := og_some hF
          refine ws_tree (f := (g_Model_tree S)) hx hb hK hP hD hS rfl (inb_in g3) dX5_bares_80 (fun H locs hP hD hS => ?_)
          refine lv_iinc (v := (x2 + (1 : Int32))) (lv' := [(2, .int (x2 + (1 : Int32))), (4, .int (b2i t0)), (0, .ref (a 0)), (1, .int v1)]) hx hb dX5_bares_81 hl (k := 3) rfl rfl (by decide) rfl (fun ls hl => ?_)
          refine lv_goto (tgt := 4) hx hb dX5_bares_84 (by decide) ?_
          exact ih4 _ _ _ _ hF hP hD hS _ (lv_sub hl [2, 3, 0] rfl)
        · have hF := F_neg c1 hF
          refine lv_iconst (v := (-1 : Int32)) hx hb dX5_bares_67 (by decide) ?_
          refine lv_goto (tgt := 80) hx hb dX5_bares_68 (by decide) ?_
          obtain ⟨g4, hF⟩ := og_some hF
          refine ws_tree (f := (g_Model_tree S)) hx hb hK hP hD hS rfl (inb_in g4) dX5_bares_80 (fun H locs hP hD hS => ?_)
          refine lv_iinc (v := (x2 + (1 : Int32))) (lv' := [(2, .int (x2 + (1 : Int32))), (4, .int (b2i t0)), (0, .ref (a 0)), (1, .int v1)]) hx hb dX5_bares_81 hl (k := 3) rfl rfl (by decide) rfl (fun ls hl => ?_)
          refine lv_goto (tgt := 4) hx hb dX5_bares_84 (by decide) ?_
          exact ih4 _ _ _ _ hF hP hD hS _ (lv_sub hl [2, 3, 0] rfl)
      refine lv_iload_n hx hb dX5_bares_4 rfl (lv_at hl 2 rfl) ?_
      refine lv_aload_n hx hb dX5_bares_5 rfl (lv_at hl 0 rfl) ?_
      refine wg_top (v := .int (g_Model_top S)) hx hb hts hinX5 hown hK hP rfl (hts (Cond.fieldLink RX5 123 "LearnedShapesModel" "top" "I") (List.mem_of_getElem? (i := 1) rfl)) dX5_bares_6 ?_
      refine lv_icmp_ge (tgt := 87) hx hb dX5_bares_9 (by decide) (fun c5 => ?_) (fun c5 => ?_)
      · have hF := F_pos c5 hF
        have e50 := Option.some.inj hF
        subst e50
        exact W.vret hx hb hr (fun t ht hW => ⟨⟨S, rfl, rfl, by rw [ht]; exact hP, va_K.moved hW.alike hK, hD⟩, hS.F ht⟩) hS.2.2 dX5_bares_87
      · have hF := F_neg c5 hF
        refine lv_aload_n hx hb dX5_bares_12 rfl (lv_at hl 0 rfl) ?_
        refine wg_tree (v := .ref (a 11)) hx hb hts hinX5 hown hK hP rfl (hts (Cond.fieldLink RX5 40 "LearnedShapesModel" "tree" "[I") (List.mem_of_getElem? (i := 2) rfl)) dX5_bares_13 ?_
        refine lv_bipush (v := (7 : Int32)) hx hb dX5_bares_16 (by decide) ?_
        refine lv_iload_n hx hb dX5_bares_18 rfl (lv_at hl 2 rfl) ?_
        refine lv_imul hx hb dX5_bares_19 ?_
        refine lv_iconst (v := (1 : Int32)) hx hb dX5_bares_20 (by decide) ?_
        refine lv_iadd hx hb dX5_bares_21 ?_
        obtain ⟨g6, hF⟩ := og_some hF
        refine wl_tree (f := (g_Model_tree S)) hx hb hK hP rfl (inb_in g6) dX5_bares_22 ?_
        refine lv_istore_n (lv' := [(3, .int ((g_Model_tree S) (((7 : Int32) * x2) + (1 : Int32)).toNatClampNeg)), (0, .ref (a 0)), (1, .int v1), (2, .int x2)]) hx hb dX5_bares_23 rfl hl (by decide) rfl (fun ls hl => ?_)
        refine lv_iload_n hx hb dX5_bares_24 rfl (lv_at hl 0 rfl) ?_
        refine lv_iload_n hx hb dX5_bares_25 rfl (lv_at hl 2 rfl) ?_
        refine lv_icmp_eq (tgt := 47) hx hb dX5_bares_26 (by decide) (fun c7 => ?_) (fun c7 => ?_)
        · have hF := F_pos c7 hF
          refine lv_iconst (v := (1 : Int32)) hx hb dX5_bares_47 (by decide) ?_
          refine lv_goto (tgt := 52) hx hb dX5_bares_48 (by decide) ?_
          exact K52 _ _ _ _ _ hF hP hD hS _ (lv_sub hl [1, 2, 3] rfl)
        · have hF := F_neg c7 hF
          refine lv_iload_n hx hb dX5_bares_29 rfl (lv_at hl 0 rfl) ?_
          refine lv_iload_n hx hb dX5_bares_30 rfl (lv_at hl 2 rfl) ?_
          refine lv_icmp_le (tgt := 51) hx hb dX5_bares_31 (by decide) (fun c8 => ?_) (fun c8 => ?_)
          · have hF := F_pos c8 hF
            refine lv_iconst (v := (0 : Int32)) hx hb dX5_bares_51 (by decide) ?_
            exact K52 _ _ _ _ _ hF hP hD hS _ (lv_sub hl [1, 2, 3] rfl)
          · have hF := F_neg c8 hF
            refine lv_aload_n hx hb dX5_bares_34 rfl (lv_at hl 1 rfl) ?_
            refine wg_tree (v := .ref (a 11)) hx hb hts hinX5 hown hK hP rfl (hts (Cond.fieldLink RX5 40 "LearnedShapesModel" "tree" "[I") (List.mem_of_getElem? (i := 2) rfl)) dX5_bares_35 ?_
            refine lv_bipush (v := (7 : Int32)) hx hb dX5_bares_38 (by decide) ?_
            refine lv_iload_n hx hb dX5_bares_40 rfl (lv_at hl 0 rfl) ?_
            refine lv_imul hx hb dX5_bares_41 ?_
            obtain ⟨g9, hF⟩ := og_some hF
            refine wl_tree (f := (g_Model_tree S)) hx hb hK hP rfl (inb_in g9) dX5_bares_42 ?_
            refine lv_iconst (v := (-1 : Int32)) hx hb dX5_bares_43 (by decide) ?_
            refine lv_icmp_ne (tgt := 51) hx hb dX5_bares_44 (by decide) (fun c10 => ?_) (fun c10 => ?_)
            · have hF := F_neg c10 hF
              refine lv_iconst (v := (0 : Int32)) hx hb dX5_bares_51 (by decide) ?_
              exact K52 _ _ _ _ _ hF hP hD hS _ (lv_sub hl [1, 2, 3] rfl)
            · have hF := F_pos c10 hF
              refine lv_iconst (v := (1 : Int32)) hx hb dX5_bares_47 (by decide) ?_
              refine lv_goto (tgt := 52) hx hb dX5_bares_48 (by decide) ?_
              exact K52 _ _ _ _ _ hF hP hD hS _ (lv_sub hl [1, 2, 3] rfl)
  have KE : ∀ (H : Heap) (locs : List Loc), va_P (dC, dI) vwCl ((W_Model cI a S)) H → va_D A ((W_Model cI a S)) → va_S A s.heap H locs → W p l e (headSpec wsX5_bares ({ frames := 0, cells := 0, slots := 0, locals := 0 } : Room)).room s m ([.ref (a 0), .int v1] : List Value).toArray below meth c H locs 0 0 (MQ below (va_Qv (fun u : S_Model => Y = u) (fun u : S_Model => jB (dC, dI) [(cI, .int)] A ((W_Model cI a u))) A) ([.ref (a 0), .int v1] : List Value).toArray s 0 0 A) (F0 m 0 ls []) := by
    intro H locs hP hD hS
    unfold F_X5_bares at hF
    refine lv_iload_n hx hb dX5_bares_0 rfl (lv_at hl 1 rfl) ?_
    refine lv_iconst (v := (1 : Int32)) hx hb dX5_bares_1 (by decide) ?_
    refine lv_iadd hx hb dX5_bares_2 ?_
    refine lv_istore_n (lv' := [(2, .int (v1 + (1 : Int32))), (0, .ref (a 0)), (1, .int v1)]) hx hb dX5_bares_3 rfl hl (by decide) rfl (fun ls hl => ?_)
    exact K4 _ _ _ _ _ hF hP hD hS _ (lv_sub hl [1, 2, 0] rfl)
  exact KE _ _ hP hD hS
set_option maxHeartbeats 4000000 in
set_option maxRecDepth 100000 in
theorem c_X5_widens (l : Launch) (dC : Nat → ClassId) (dI : Nat → Nat → Nat) (cI : ClassId) (a : Nat → Nat) (sz : Nat) (S : S_Model) (v1 : Int32) (v2 : Int32) (v3 : Int32) (Y : S_Model) (hF : F_X5_widens S v1 v2 v3 = some Y) : Met l yX5_widens wsX5_widens ({ frames := 1, cells := 0, slots := 0, locals := 24 } : Room) (va_Pc [.ref (a 0), .int v1, .int v2, .int v3] (jPre (dC, dI) [(cI, .int)] sz ((W_Model cI a S)))) (va_Qv (fun u : S_Model => Y = u) (fun u : S_Model => jB (dC, dI) [(cI, .int)] (va_A ((W_Model cI a S)) sz) ((W_Model cI a u))) (va_A ((W_Model cI a S)) sz)) 0 0 (va_A ((W_Model cI a S)) sz) := by
  refine Met.ofW (cc := cX5_widens) (maxL := 5) (ret := none) (by decide) rfl ?_
  intro p e s m args below meth c s₁ B hml hv
  obtain ⟨rfl, hsz, hP, hK, hD0, hN⟩ := hv
  have hx := B.exec
  have hb := B.bytes
  have hr := B.returns
  have hts := atoms_spec (ws := wsX5_widens) B.pre
  have hown : s.vm.findClass RX5 = some m.cls := findClass_of_methodNamed B.named
  have hlocks := B.notSynchronized
  have hinX5 : ∀ w ∈ u_ws RX5 TX5 26, w ∈ wsX5_widens := by decide +kernel
  subst hsz
  have hD := hD0.self (sz := s.heap.size)
  generalize hAe : (va_A ((W_Model cI a S)) s.heap.size) = A at hD ⊢
  have hA : ∀ q : Nat, s.heap.size ≤ q → A q := fun q h => by rw [← hAe]; exact Or.inr h
  have hS : va_S A s.heap s.heap [] := va_S.rf
  have hl := lv_entry ([.ref (a 0), .int v1, .int v2, .int v3]) (n := 5) (Nat.le_of_ble_eq_true rfl)
  rw [lg_entry_eq]
  generalize (lg_sl ([.ref (a 0), .int v1, .int v2, .int v3]) ++ List.replicate (5 - (lg_sl ([.ref (a 0), .int v1, .int v2, .int v3])).length) Slot.unset).toArray = ls at hl ⊢
  have hl : lv_has ls 5 [(0, .ref (a 0)), (1, .int v1), (2, .int v2), (3, .int v3)] := hl
  have KE : ∀ (H : Heap) (locs : List Loc), va_P (dC, dI) vwCl ((W_Model cI a S)) H → va_D A ((W_Model cI a S)) → va_S A s.heap H locs → W p l e (headSpec wsX5_widens ({ frames := 1, cells := 0, slots := 0, locals := 24 } : Room)).room s m ([.ref (a 0), .int v1, .int v2, .int v3] : List Value).toArray below meth c H locs 0 0 (MQ below (va_Qv (fun u : S_Model => Y = u) (fun u : S_Model => jB (dC, dI) [(cI, .int)] A ((W_Model cI a u))) A) ([.ref (a 0), .int v1, .int v2, .int v3] : List Value).toArray s 0 0 A) (F0 m 0 ls []) := by
    intro H locs hP hD hS
    unfold F_X5_widens at hF
    refine lv_bipush (v := (7 : Int32)) hx hb dX5_widens_0 (by decide) ?_
    refine lv_iload_n hx hb dX5_widens_2 rfl (lv_at hl 1 rfl) ?_
    refine lv_imul hx hb dX5_widens_3 ?_
    refine lv_istore (lv' := [(4, .int ((7 : Int32) * v1)), (0, .ref (a 0)), (1, .int v1), (2, .int v2), (3, .int v3)]) hx hb dX5_widens_4 hl (by decide) rfl (fun ls hl => ?_)
    refine lv_iload_n hx hb dX5_widens_6 rfl (lv_at hl 3 rfl) ?_
    refine lv_aload_n hx hb dX5_widens_7 rfl (lv_at hl 1 rfl) ?_
    refine wg_tree (v := .ref (a 11)) hx hb hts hinX5 hown hK hP rfl (hts (Cond.fieldLink RX5 40 "LearnedShapesModel" "tree" "[I") (List.mem_of_getElem? (i := 1) rfl)) dX5_widens_8 ?_
    refine lv_iload hx hb dX5_widens_11 (lv_at hl 0 rfl) ?_
    obtain ⟨g1, hF⟩ := og_some hF
    refine wl_tree (f := (g_Model_tree S)) hx hb hK hP rfl (inb_in g1) dX5_widens_13 ?_
    refine lv_icmp_eq (tgt := 52) hx hb dX5_widens_14 (by decide) (fun c2 => ?_) (fun c2 => ?_)
    · have hF := F_pos c2 hF
      have e50 := Option.some.inj hF
      subst e50
      exact W.vret hx hb hr (fun t ht hW => ⟨⟨S, rfl, rfl, by rw [ht]; exact hP, va_K.moved hW.alike hK, hD⟩, hS.F ht⟩) hS.2.2 dX5_widens_52
    · have hF := F_neg c2 hF
      refine lv_aload_n hx hb dX5_widens_17 rfl (lv_at hl 1 rfl) ?_
      refine wg_tree (v := .ref (a 11)) hx hb hts hinX5 hown hK hP rfl (hts (Cond.fieldLink RX5 40 "LearnedShapesModel" "tree" "[I") (List.mem_of_getElem? (i := 1) rfl)) dX5_widens_18 ?_
      refine lv_iload hx hb dX5_widens_21 (lv_at hl 0 rfl) ?_
      refine lv_iload_n hx hb dX5_widens_23 rfl (lv_at hl 3 rfl) ?_
      obtain ⟨g3, hF⟩ := og_some hF
      refine ws_tree (f := (g_Model_tree S)) hx hb hK hP hD hS rfl (inb_in g3) dX5_widens_24 (fun H locs hP hD hS => ?_)
      refine lv_aload_n hx hb dX5_widens_25 rfl (lv_at hl 1 rfl) ?_
      refine wg_tree (v := .ref (a 11)) hx hb hts hinX5 hown hK hP rfl (hts (Cond.fieldLink RX5 40 "LearnedShapesModel" "tree" "[I") (List.mem_of_getElem? (i := 1) rfl)) dX5_widens_26 ?_
      refine lv_iload hx hb dX5_widens_29 (lv_at hl 0 rfl) ?_
      refine lv_bipush (v := (6 : Int32)) hx hb dX5_widens_31 (by decide) ?_
      refine lv_iadd hx hb dX5_widens_33 ?_
      refine lv_iload_n hx hb dX5_widens_34 rfl (lv_at hl 4 rfl) ?_
      obtain ⟨g4, hF⟩ := og_some hF
      refine ws_tree (f := (upd (g_Model_tree S) ((7 : Int32) * v1).toNatClampNeg v2)) hx hb hK hP hD hS rfl (inb_in g4) dX5_widens_35 (fun H locs hP hD hS => ?_)
      have hP : va_P (dC, dI) vwCl ((W_Model cI a (s_Model_tree S (upd (upd (g_Model_tree S) ((7 : Int32) * v1).toNatClampNeg v2) (((7 : Int32) * v1) + (6 : Int32)).toNatClampNeg v3)))) H := hP
      have hD : va_D A ((W_Model cI a (s_Model_tree S (upd (upd (g_Model_tree S) ((7 : Int32) * v1).toNatClampNeg v2) (((7 : Int32) * v1) + (6 : Int32)).toNatClampNeg v3)))) := hD
      refine lv_iload_n hx hb dX5_widens_36 rfl (lv_at hl 3 rfl) ?_
      refine lv_bipush (v := (7 : Int32)) hx hb dX5_widens_37 (by decide) ?_
      refine lv_icmp_ne (tgt := 52) hx hb dX5_widens_39 (by decide) (fun c5 => ?_) (fun c5 => ?_)
      · have hF := F_neg c5 hF
        have e50 := Option.some.inj hF
        subst e50
        exact W.vret hx hb hr (fun t ht hW => ⟨⟨(s_Model_tree S (upd (upd (g_Model_tree S) ((7 : Int32) * v1).toNatClampNeg v2) (((7 : Int32) * v1) + (6 : Int32)).toNatClampNeg v3)), rfl, rfl, by rw [ht]; exact hP, va_K.moved hW.alike hK, hD⟩, hS.F ht⟩) hS.2.2 dX5_widens_52
      · have hF := F_pos c5 hF
        refine lv_aload_n hx hb dX5_widens_42 rfl (lv_at hl 1 rfl) ?_
        refine lv_iconst (v := (1 : Int32)) hx hb dX5_widens_43 (by decide) ?_
        refine wp_becameAny (v := (1 : Int32)) hx hb hts hinX5 hown hK hP hD hS (hts (Cond.fieldLink RX5 126 "LearnedShapesModel" "becameAny" "Z") (List.mem_of_getElem? (i := 2) rfl)) (rfl) (rfl) dX5_widens_44 (fun H locs hP hD hS => ?_)
        refine lv_aload_n hx hb dX5_widens_47 rfl (lv_at hl 1 rfl) ?_
        refine lv_iload_n hx hb dX5_widens_48 rfl (lv_at hl 2 rfl) ?_
        obtain ⟨u6, h7, hF⟩ := ob1_some hF
        have hPc : va_P (dC, dI) vwCl ((W_Model cI a (s_Model_becameAny (s_Model_tree S (upd (upd (g_Model_tree S) ((7 : Int32) * v1).toNatClampNeg v2) (((7 : Int32) * v1) + (6 : Int32)).toNatClampNeg v3)) (1 : Int32)))) H := hP
        have hDc : va_D A ((W_Model cI a (s_Model_becameAny (s_Model_tree S (upd (upd (g_Model_tree S) ((7 : Int32) * v1).toNatClampNeg v2) (((7 : Int32) * v1) + (6 : Int32)).toNatClampNeg v3)) (1 : Int32)))) := hD
        have hFc := jFreeW (ws := (W_Model cI a (s_Model_becameAny (s_Model_tree S (upd (upd (g_Model_tree S) ((7 : Int32) * v1).toNatClampNeg v2) (((7 : Int32) * v1) + (6 : Int32)).toNatClampNeg v3)) (1 : Int32)))) hD hS hA
        refine va_callv (va_runV (As := [.int v1]) (rest := []) ⟨hx, hb, hml, hown, hts⟩ (c_X5_bares l dC dI cI a H.size _ _ _ h7) (cwV 1 hts gX5_widens_X5_bares rfl rfl rfl (by decide +kernel) ⟨Nat.le_of_ble_eq_true rfl, Nat.le_of_ble_eq_true rfl⟩) (jPreV hK hPc hDc hN (ci := 5) rfl rfl) rfl rfl hl.1 rfl (lv_room (Nat.le_of_ble_eq_true rfl)) dX5_widens_49 ⟨Nat.le_of_ble_eq_true rfl, Nat.le_of_ble_eq_true rfl⟩) hS (fun q _ h => hFc q h) hFc (fun u' t H locs ht hvm hw hB hz1 hk1 hS => ?_)
        subst hw
        obtain ⟨hP1, -, hD1⟩ := hB
        rw [ht] at hP1
        have hP : va_P (dC, dI) vwCl ((W_Model cI a u6)) H := hP1
        have hD : va_D A ((W_Model cI a u6)) := hD1.weaken (fun _ _ _ h => hFc _ h)
        have e50 := Option.some.inj hF
        subst e50
        exact W.vret hx hb hr (fun t ht hW => ⟨⟨u6, rfl, rfl, by rw [ht]; exact hP, va_K.moved hW.alike hK, hD⟩, hS.F ht⟩) hS.2.2 dX5_widens_52
  exact KE _ _ hP hD hS
set_option maxHeartbeats 4000000 in
set_option maxRecDepth 100000 in
theorem c_X5_nodes (l : Launch) (dC : Nat → ClassId) (dI : Nat → Nat → Nat) (cI : ClassId) (a : Nat → Nat) (sz : Nat) (S : S_Model)  (rr : Int32) (hF : F_X5_nodes S  = some rr) : Met l yX5_nodes wsX5_nodes ({ frames := 0, cells := 0, slots := 0, locals := 0 } : Room) (va_Pc [.ref (a 0)] (jPre (dC, dI) [(cI, .int)] sz ((W_Model cI a S)))) (va_Qi (fun (r' : Int32) (_ : Unit) => rr = r') (fun _ : Unit => jB (dC, dI) [(cI, .int)] (va_A ((W_Model cI a S)) sz) ((W_Model cI a S))) (va_A ((W_Model cI a S)) sz)) 0 0 (va_A ((W_Model cI a S)) sz) := by
  refine Met.ofW (cc := cX5_nodes) (maxL := 3) (ret := (some .int)) (by decide) rfl ?_
  intro p e s m args below meth c s₁ B hml hv
  obtain ⟨rfl, hsz, hP, hK, hD0, hN⟩ := hv
  have hx := B.exec
  have hb := B.bytes
  have hr := B.returns
  have hts := atoms_spec (ws := wsX5_nodes) B.pre
  have hown : s.vm.findClass RX5 = some m.cls := findClass_of_methodNamed B.named
  have hlocks := B.notSynchronized
  have hinX5 : ∀ w ∈ u_ws RX5 TX5 26, w ∈ wsX5_nodes := by decide +kernel
  subst hsz
  have hD := hD0.self (sz := s.heap.size)
  generalize hAe : (va_A ((W_Model cI a S)) s.heap.size) = A at hD ⊢
  have hA : ∀ q : Nat, s.heap.size ≤ q → A q := fun q h => by rw [← hAe]; exact Or.inr h
  have hS : va_S A s.heap s.heap [] := va_S.rf
  have hl := lv_entry ([.ref (a 0)]) (n := 3) (Nat.le_of_ble_eq_true rfl)
  rw [lg_entry_eq]
  generalize (lg_sl ([.ref (a 0)]) ++ List.replicate (3 - (lg_sl ([.ref (a 0)])).length) Slot.unset).toArray = ls at hl ⊢
  have hl : lv_has ls 3 [(0, .ref (a 0))] := hl
  have K4 : ∀ (n4 : Nat) (x1 : Int32) (x2 : Int32) (H : Heap) (locs : List Loc), F_X5_nodes_4 S n4 x1 x2 = some rr → va_P (dC, dI) vwCl ((W_Model cI a S)) H → va_D A ((W_Model cI a S)) → va_S A s.heap H locs → ∀ ls : Array Slot, lv_has ls 3 [(0, .ref (a 0)), (1, .int x1), (2, .int x2)] → W p l e (headSpec wsX5_nodes ({ frames := 0, cells := 0, slots := 0, locals := 0 } : Room)).room s m ([.ref (a 0)] : List Value).toArray below meth c H locs 0 0 (MQ below (va_Qi (fun (r' : Int32) (_ : Unit) => rr = r') (fun _ : Unit => jB (dC, dI) [(cI, .int)] A ((W_Model cI a S))) A) ([.ref (a 0)] : List Value).toArray s 0 0 A) (F0 m 4 ls []) := by
    intro n4
    induction n4 with
    | zero => intro x1 x2 H locs hF; exact nomatch hF
    | succ n4 ih4 =>
      intro x1 x2 H locs hF hP hD hS ls hl
      rw [F_X5_nodes_4_s] at hF
      refine lv_iload_n hx hb dX5_nodes_4 rfl (lv_at hl 2 rfl) ?_
      refine lv_aload_n hx hb dX5_nodes_5 rfl (lv_at hl 0 rfl) ?_
      refine wg_top (v := .int (g_Model_top S)) hx hb hts hinX5 hown hK hP rfl (hts (Cond.fieldLink RX5 123 "LearnedShapesModel" "top" "I") (List.mem_of_getElem? (i := 1) rfl)) dX5_nodes_6 ?_
      refine lv_icmp_ge (tgt := 39) hx hb dX5_nodes_9 (by decide) (fun c1 => ?_) (fun c1 => ?_)
      · have hF := F_pos c1 hF
        refine lv_iload_n hx hb dX5_nodes_39 rfl (lv_at hl 1 rfl) ?_
        have e50 := Option.some.inj hF
        subst e50
        exact W.iret (v := x1) hx hb hr (fun t ht hW => ⟨⟨x1, (), rfl, rfl, by rw [ht]; exact hP, va_K.moved hW.alike hK, hD⟩, hS.F ht⟩) hS.2.2 dX5_nodes_40
      · have hF := F_neg c1 hF
        refine lv_iload_n hx hb dX5_nodes_12 rfl (lv_at hl 1 rfl) ?_
        refine lv_aload_n hx hb dX5_nodes_13 rfl (lv_at hl 0 rfl) ?_
        refine wg_tree (v := .ref (a 11)) hx hb hts hinX5 hown hK hP rfl (hts (Cond.fieldLink RX5 40 "LearnedShapesModel" "tree" "[I") (List.mem_of_getElem? (i := 2) rfl)) dX5_nodes_14 ?_
        refine lv_bipush (v := (7 : Int32)) hx hb dX5_nodes_17 (by decide) ?_
        refine lv_iload_n hx hb dX5_nodes_19 rfl (lv_at hl 2 rfl) ?_
        refine lv_imul hx hb dX5_nodes_20 ?_
        obtain ⟨g2, hF⟩ := og_some hF
        refine wl_tree (f := (g_Model_tree S)) hx hb hK hP rfl (inb_in g2) dX5_nodes_21 ?_
        refine lv_iconst (v := (-1 : Int32)) hx hb dX5_nodes_22 (by decide) ?_
        refine lv_icmp_ne (tgt := 30) hx hb dX5_nodes_23 (by decide) (fun c3 => ?_) (fun c3 => ?_)
        · have hF := F_neg c3 hF
          refine lv_iconst (v := (1 : Int32)) hx hb dX5_nodes_30 (by decide) ?_
          refine lv_iadd hx hb dX5_nodes_31 ?_
          refine lv_istore_n (lv' := [(1, .int (x1 + (1 : Int32))), (0, .ref (a 0)), (2, .int x2)]) hx hb dX5_nodes_32 rfl hl (by decide) rfl (fun ls hl => ?_)
          refine lv_iinc (v := (x2 + (1 : Int32))) (lv' := [(2, .int (x2 + (1 : Int32))), (1, .int (x1 + (1 : Int32))), (0, .ref (a 0))]) hx hb dX5_nodes_33 hl (k := 2) rfl rfl (by decide) rfl (fun ls hl => ?_)
          refine lv_goto (tgt := 4) hx hb dX5_nodes_36 (by decide) ?_
          exact ih4 _ _ _ _ hF hP hD hS _ (lv_sub hl [2, 1, 0] rfl)
        · have hF := F_pos c3 hF
          refine lv_iconst (v := (0 : Int32)) hx hb dX5_nodes_26 (by decide) ?_
          refine lv_goto (tgt := 31) hx hb dX5_nodes_27 (by decide) ?_
          refine lv_iadd hx hb dX5_nodes_31 ?_
          refine lv_istore_n (lv' := [(1, .int (x1 + (0 : Int32))), (0, .ref (a 0)), (2, .int x2)]) hx hb dX5_nodes_32 rfl hl (by decide) rfl (fun ls hl => ?_)
          refine lv_iinc (v := (x2 + (1 : Int32))) (lv' := [(2, .int (x2 + (1 : Int32))), (1, .int (x1 + (0 : Int32))), (0, .ref (a 0))]) hx hb dX5_nodes_33 hl (k := 2) rfl rfl (by decide) rfl (fun ls hl => ?_)
          refine lv_goto (tgt := 4) hx hb dX5_nodes_36 (by decide) ?_
          exact ih4 _ _ _ _ hF hP hD hS _ (lv_sub hl [2, 1, 0] rfl)
  have KE : ∀ (H : Heap) (locs : List Loc), va_P (dC, dI) vwCl ((W_Model cI a S)) H → va_D A ((W_Model cI a S)) → va_S A s.heap H locs → W p l e (headSpec wsX5_nodes ({ frames := 0, cells := 0, slots := 0, locals := 0 } : Room)).room s m ([.ref (a 0)] : List Value).toArray below meth c H locs 0 0 (MQ below (va_Qi (fun (r' : Int32) (_ : Unit) => rr = r') (fun _ : Unit => jB (dC, dI) [(cI, .int)] A ((W_Model cI a S))) A) ([.ref (a 0)] : List Value).toArray s 0 0 A) (F0 m 0 ls []) := by
    intro H locs hP hD hS
    unfold F_X5_nodes at hF
    refine lv_iconst (v := (0 : Int32)) hx hb dX5_nodes_0 (by decide) ?_
    refine lv_istore_n (lv' := [(1, .int (0 : Int32)), (0, .ref (a 0))]) hx hb dX5_nodes_1 rfl hl (by decide) rfl (fun ls hl => ?_)
    refine lv_iconst (v := (0 : Int32)) hx hb dX5_nodes_2 (by decide) ?_
    refine lv_istore_n (lv' := [(2, .int (0 : Int32)), (1, .int (0 : Int32)), (0, .ref (a 0))]) hx hb dX5_nodes_3 rfl hl (by decide) rfl (fun ls hl => ?_)
    exact K4 _ _ _ _ _ hF hP hD hS _ (lv_sub hl [2, 1, 0] rfl)
  exact KE _ _ hP hD hS
set_option maxHeartbeats 4000000 in
set_option maxRecDepth 100000 in
theorem c_X5_nodeFor (l : Launch) (dC : Nat → ClassId) (dI : Nat → Nat → Nat) (cI : ClassId) (a : Nat → Nat) (sz : Nat) (S : S_Model) (v1 : Int32) (v2 : Int32) (rr : Int32) (Y : S_Model) (hF : F_X5_nodeFor S v1 v2 = some (rr, Y)) : Met l yX5_nodeFor wsX5_nodeFor ({ frames := 1, cells := 0, slots := 0, locals := 25 } : Room) (va_Pc [.ref (a 0), .int v1, .int v2] (jPre (dC, dI) [(cI, .int)] sz ((W_Model cI a S)))) (va_Qi (fun (r' : Int32) (u : S_Model) => rr = r' ∧ Y = u) (fun u : S_Model => jB (dC, dI) [(cI, .int)] (va_A ((W_Model cI a S)) sz) ((W_Model cI a u))) (va_A ((W_Model cI a S)) sz)) 0 0 (va_A ((W_Model cI a S)) sz) := by
  refine Met.ofW (cc := cX5_nodeFor) (maxL := 5) (ret := (some .int)) (by decide) rfl ?_
  intro p e s m args below meth c s₁ B hml hv
  obtain ⟨rfl, hsz, hP, hK, hD0, hN⟩ := hv
  have hx := B.exec
  have hb := B.bytes
  have hr := B.returns
  have hts := atoms_spec (ws := wsX5_nodeFor) B.pre
  have hown : s.vm.findClass RX5 = some m.cls := findClass_of_methodNamed B.named
  have hlocks := B.notSynchronized
  have hinX5 : ∀ w ∈ u_ws RX5 TX5 26, w ∈ wsX5_nodeFor := by decide +kernel
  subst hsz
  have hD := hD0.self (sz := s.heap.size)
  generalize hAe : (va_A ((W_Model cI a S)) s.heap.size) = A at hD ⊢
  have hA : ∀ q : Nat, s.heap.size ≤ q → A q := fun q h => by rw [← hAe]; exact Or.inr h
  have hS : va_S A s.heap s.heap [] := va_S.rf
  have hl := lv_entry ([.ref (a 0), .int v1, .int v2]) (n := 5) (Nat.le_of_ble_eq_true rfl)
  rw [lg_entry_eq]
  generalize (lg_sl ([.ref (a 0), .int v1, .int v2]) ++ List.replicate (5 - (lg_sl ([.ref (a 0), .int v1, .int v2])).length) Slot.unset).toArray = ls at hl ⊢
  have hl : lv_has ls 5 [(0, .ref (a 0)), (1, .int v1), (2, .int v2)] := hl
  have K71 : ∀ (S : S_Model) (x3 : Int32) (t0 : Int32) (H : Heap) (locs : List Loc), F_X5_nodeFor_71 v1 v2 S x3 t0 = some (rr, Y) → va_P (dC, dI) vwCl ((W_Model cI a S)) H → va_D A ((W_Model cI a S)) → va_S A s.heap H locs → ∀ ls : Array Slot, lv_has ls 5 [(0, .ref (a 0)), (1, .int v1), (2, .int v2), (3, .int x3)] → W p l e (headSpec wsX5_nodeFor ({ frames := 1, cells := 0, slots := 0, locals := 25 } : Room)).room s m ([.ref (a 0), .int v1, .int v2] : List Value).toArray below meth c H locs 0 0 (MQ below (va_Qi (fun (r' : Int32) (u : S_Model) => rr = r' ∧ Y = u) (fun u : S_Model => jB (dC, dI) [(cI, .int)] A ((W_Model cI a u))) A) ([.ref (a 0), .int v1, .int v2] : List Value).toArray s 0 0 A) (F0 m 71 ls [.int t0]) := by
    intro S x3 t0 H locs hF hP hD hS ls hl
    unfold F_X5_nodeFor_71 at hF
    refine lv_istore (lv' := [(4, .int t0), (0, .ref (a 0)), (1, .int v1), (2, .int v2), (3, .int x3)]) hx hb dX5_nodeFor_71 hl (by decide) rfl (fun ls hl => ?_)
    refine lv_iload hx hb dX5_nodeFor_73 (lv_at hl 0 rfl) ?_
    refine lv_iconst (v := (-1 : Int32)) hx hb dX5_nodeFor_75 (by decide) ?_
    refine lv_icmp_ne (tgt := 100) hx hb dX5_nodeFor_76 (by decide) (fun c1 => ?_) (fun c1 => ?_)
    · have hF := F_neg c1 hF
      refine lv_iload hx hb dX5_nodeFor_100 (lv_at hl 0 rfl) ?_
      have e50 := Option.some.inj hF
      obtain ⟨e60, e51⟩ := Prod.mk.inj e50
      subst e60
      subst e51
      exact W.iret (v := t0) hx hb hr (fun t ht hW => ⟨⟨t0, S, rfl, ⟨rfl, rfl⟩, by rw [ht]; exact hP, va_K.moved hW.alike hK, hD⟩, hS.F ht⟩) hS.2.2 dX5_nodeFor_102
    · have hF := F_pos c1 hF
      refine lv_aload_n hx hb dX5_nodeFor_79 rfl (lv_at hl 1 rfl) ?_
      refine lv_iload_n hx hb dX5_nodeFor_80 rfl (lv_at hl 4 rfl) ?_
      refine lv_aload_n hx hb dX5_nodeFor_81 rfl (lv_at hl 1 rfl) ?_
      refine wg_letters (v := .ref (a 6)) hx hb hts hinX5 hown hK hP rfl (hts (Cond.fieldLink RX5 25 "LearnedShapesModel" "letters" "[I") (List.mem_of_getElem? (i := 5) rfl)) dX5_nodeFor_82 ?_
      refine lv_iload_n hx hb dX5_nodeFor_85 rfl (lv_at hl 2 rfl) ?_
      obtain ⟨g2, hF⟩ := og_some hF
      refine wl_letters (f := (g_Model_letters S)) hx hb hK hP rfl (inb_in g2) dX5_nodeFor_86 ?_
      refine lv_aload_n hx hb dX5_nodeFor_87 rfl (lv_at hl 1 rfl) ?_
      refine wg_kinds (v := .ref (a 4)) hx hb hts hinX5 hown hK hP rfl (hts (Cond.fieldLink RX5 19 "LearnedShapesModel" "kinds" "[I") (List.mem_of_getElem? (i := 6) rfl)) dX5_nodeFor_88 ?_
      refine lv_iload_n hx hb dX5_nodeFor_91 rfl (lv_at hl 2 rfl) ?_
      obtain ⟨g3, hF⟩ := og_some hF
      refine wl_kinds (f := (g_Model_kinds S)) hx hb hK hP rfl (inb_in g3) dX5_nodeFor_92 ?_
      refine lv_iload_n hx hb dX5_nodeFor_93 rfl (lv_at hl 3 rfl) ?_
      obtain ⟨r4, u5, h6, hF⟩ := ob2_some hF
      have hPc : va_P (dC, dI) vwCl ((W_Model cI a S)) H := hP
      have hDc : va_D A ((W_Model cI a S)) := hD
      have hFc := jFreeW (ws := (W_Model cI a S)) hD hS hA
      refine va_calli (va_runV (As := [.int x3, .int ((g_Model_letters S) v1.toNatClampNeg), .int ((g_Model_kinds S) v1.toNatClampNeg), .int v2]) (rest := []) ⟨hx, hb, hml, hown, hts⟩ (c_X5_makes l dC dI cI a H.size _ _ _ _ _ _ _ h6) (cwV 4 hts gX5_nodeFor_X5_makes rfl rfl rfl (by decide +kernel) ⟨Nat.le_of_ble_eq_true rfl, Nat.le_of_ble_eq_true rfl⟩) (jPreV hK hPc hDc hN (ci := 5) rfl rfl) rfl rfl hl.1 rfl (lv_room (Nat.le_of_ble_eq_true rfl)) dX5_nodeFor_94 ⟨Nat.le_of_ble_eq_true rfl, Nat.le_of_ble_eq_true rfl⟩) hS (fun q _ h => hFc q h) hFc (fun r' u' t H locs ht hvm hw hB hz1 hk1 hS => ?_)
      obtain ⟨e1, e2⟩ := hw
      subst e1
      subst e2
      obtain ⟨hP1, -, hD1⟩ := hB
      rw [ht] at hP1
      have hP : va_P (dC, dI) vwCl ((W_Model cI a u5)) H := hP1
      have hD : va_D A ((W_Model cI a u5)) := hD1.weaken (fun _ _ _ h => hFc _ h)
      refine lv_goto (tgt := 102) hx hb dX5_nodeFor_97 (by decide) ?_
      have e50 := Option.some.inj hF
      obtain ⟨e60, e51⟩ := Prod.mk.inj e50
      subst e60
      subst e51
      exact W.iret (v := r4) hx hb hr (fun t ht hW => ⟨⟨r4, u5, rfl, ⟨rfl, rfl⟩, by rw [ht]; exact hP, va_K.moved hW.alike hK, hD⟩, hS.F ht⟩) hS.2.2 dX5_nodeFor_102
  have K45 : ∀ (S : S_Model) (x3 : Int32) (H : Heap) (locs : List Loc), F_X5_nodeFor_45 v1 v2 S x3 = some (rr, Y) → va_P (dC, dI) vwCl ((W_Model cI a S)) H → va_D A ((W_Model cI a S)) → va_S A s.heap H locs → ∀ ls : Array Slot, lv_has ls 5 [(0, .ref (a 0)), (1, .int v1), (2, .int v2), (3, .int x3)] → W p l e (headSpec wsX5_nodeFor ({ frames := 1, cells := 0, slots := 0, locals := 25 } : Room)).room s m ([.ref (a 0), .int v1, .int v2] : List Value).toArray below meth c H locs 0 0 (MQ below (va_Qi (fun (r' : Int32) (u : S_Model) => rr = r' ∧ Y = u) (fun u : S_Model => jB (dC, dI) [(cI, .int)] A ((W_Model cI a u))) A) ([.ref (a 0), .int v1, .int v2] : List Value).toArray s 0 0 A) (F0 m 45 ls []) := by
    intro S x3 H locs hF hP hD hS ls hl
    unfold F_X5_nodeFor_45 at hF
    refine lv_iload_n hx hb dX5_nodeFor_45 rfl (lv_at hl 1 rfl) ?_
    refine lv_if_ne (tgt := 60) hx hb dX5_nodeFor_46 (by decide) (fun c7 => ?_) (fun c7 => ?_)
    · have hF := F_neg c7 hF
      refine lv_aload_n hx hb dX5_nodeFor_60 rfl (lv_at hl 0 rfl) ?_
      refine lv_iload_n hx hb dX5_nodeFor_61 rfl (lv_at hl 3 rfl) ?_
      refine lv_aload_n hx hb dX5_nodeFor_62 rfl (lv_at hl 0 rfl) ?_
      refine wg_letters (v := .ref (a 6)) hx hb hts hinX5 hown hK hP rfl (hts (Cond.fieldLink RX5 25 "LearnedShapesModel" "letters" "[I") (List.mem_of_getElem? (i := 5) rfl)) dX5_nodeFor_63 ?_
      refine lv_iload_n hx hb dX5_nodeFor_66 rfl (lv_at hl 1 rfl) ?_
      obtain ⟨g8, hF⟩ := og_some hF
      refine wl_letters (f := (g_Model_letters S)) hx hb hK hP rfl (inb_in g8) dX5_nodeFor_67 ?_
      obtain ⟨r9, h10, hF⟩ := ob1_some hF
      have hPc : va_P (dC, dI) vwCl ((W_Model cI a S)) H := hP
      have hDc : va_D A ((W_Model cI a S)) := hD
      have hFc := jFreeW (ws := (W_Model cI a S)) hD hS hA
      refine va_calli (va_runV (As := [.int x3, .int ((g_Model_letters S) v1.toNatClampNeg)]) (rest := []) ⟨hx, hb, hml, hown, hts⟩ (c_X5_childAt l dC dI cI a H.size _ _ _ _ h10) (cwV 2 hts gX5_nodeFor_X5_childAt rfl rfl rfl (by decide +kernel) ⟨Nat.le_of_ble_eq_true rfl, Nat.le_of_ble_eq_true rfl⟩) (jPreV hK hPc hDc hN (ci := 5) rfl rfl) rfl rfl hl.1 rfl (lv_room (Nat.le_of_ble_eq_true rfl)) dX5_nodeFor_68 ⟨Nat.le_of_ble_eq_true rfl, Nat.le_of_ble_eq_true rfl⟩) hS (fun q _ h => hFc q h) hFc (fun r' u' t H locs ht hvm hw hB hz1 hk1 hS => ?_)
      subst hw
      obtain ⟨hP1, -, hD1⟩ := hB
      rw [ht] at hP1
      have hP : va_P (dC, dI) vwCl ((W_Model cI a S)) H := hP1
      have hD : va_D A ((W_Model cI a S)) := hD1.weaken (fun _ _ _ h => hFc _ h)
      exact K71 _ _ _ _ _ hF hP hD hS _ (lv_sub hl [0, 1, 2, 3] rfl)
    · have hF := F_pos c7 hF
      refine lv_aload_n hx hb dX5_nodeFor_49 rfl (lv_at hl 0 rfl) ?_
      refine wg_top (v := .int (g_Model_top S)) hx hb hts hinX5 hown hK hP rfl (hts (Cond.fieldLink RX5 123 "LearnedShapesModel" "top" "I") (List.mem_of_getElem? (i := 4) rfl)) dX5_nodeFor_50 ?_
      refine lv_if_le (tgt := 60) hx hb dX5_nodeFor_53 (by decide) (fun c11 => ?_) (fun c11 => ?_)
      · have hF := F_pos c11 hF
        refine lv_aload_n hx hb dX5_nodeFor_60 rfl (lv_at hl 0 rfl) ?_
        refine lv_iload_n hx hb dX5_nodeFor_61 rfl (lv_at hl 3 rfl) ?_
        refine lv_aload_n hx hb dX5_nodeFor_62 rfl (lv_at hl 0 rfl) ?_
        refine wg_letters (v := .ref (a 6)) hx hb hts hinX5 hown hK hP rfl (hts (Cond.fieldLink RX5 25 "LearnedShapesModel" "letters" "[I") (List.mem_of_getElem? (i := 5) rfl)) dX5_nodeFor_63 ?_
        refine lv_iload_n hx hb dX5_nodeFor_66 rfl (lv_at hl 1 rfl) ?_
        obtain ⟨g12, hF⟩ := og_some hF
        refine wl_letters (f := (g_Model_letters S)) hx hb hK hP rfl (inb_in g12) dX5_nodeFor_67 ?_
        obtain ⟨r13, h14, hF⟩ := ob1_some hF
        have hPc : va_P (dC, dI) vwCl ((W_Model cI a S)) H := hP
        have hDc : va_D A ((W_Model cI a S)) := hD
        have hFc := jFreeW (ws := (W_Model cI a S)) hD hS hA
        refine va_calli (va_runV (As := [.int x3, .int ((g_Model_letters S) v1.toNatClampNeg)]) (rest := []) ⟨hx, hb, hml, hown, hts⟩ (c_X5_childAt l dC dI cI a H.size _ _ _ _ h14) (cwV 2 hts gX5_nodeFor_X5_childAt rfl rfl rfl (by decide +kernel) ⟨Nat.le_of_ble_eq_true rfl, Nat.le_of_ble_eq_true rfl⟩) (jPreV hK hPc hDc hN (ci := 5) rfl rfl) rfl rfl hl.1 rfl (lv_room (Nat.le_of_ble_eq_true rfl)) dX5_nodeFor_68 ⟨Nat.le_of_ble_eq_true rfl, Nat.le_of_ble_eq_true rfl⟩) hS (fun q _ h => hFc q h) hFc (fun r' u' t H locs ht hvm hw hB hz1 hk1 hS => ?_)
        subst hw
        obtain ⟨hP1, -, hD1⟩ := hB
        rw [ht] at hP1
        have hP : va_P (dC, dI) vwCl ((W_Model cI a S)) H := hP1
        have hD : va_D A ((W_Model cI a S)) := hD1.weaken (fun _ _ _ h => hFc _ h)
        exact K71 _ _ _ _ _ hF hP hD hS _ (lv_sub hl [0, 1, 2, 3] rfl)
      · have hF := F_neg c11 hF
        refine lv_iconst (v := (0 : Int32)) hx hb dX5_nodeFor_56 (by decide) ?_
        refine lv_goto (tgt := 71) hx hb dX5_nodeFor_57 (by decide) ?_
        exact K71 _ _ _ _ _ hF hP hD hS _ (lv_sub hl [0, 1, 2, 3] rfl)
  have K19 : ∀ (S : S_Model) (t0 : Int32) (H : Heap) (locs : List Loc), F_X5_nodeFor_19 v1 v2 S t0 = some (rr, Y) → va_P (dC, dI) vwCl ((W_Model cI a S)) H → va_D A ((W_Model cI a S)) → va_S A s.heap H locs → ∀ ls : Array Slot, lv_has ls 5 [(0, .ref (a 0)), (1, .int v1), (2, .int v2)] → W p l e (headSpec wsX5_nodeFor ({ frames := 1, cells := 0, slots := 0, locals := 25 } : Room)).room s m ([.ref (a 0), .int v1, .int v2] : List Value).toArray below meth c H locs 0 0 (MQ below (va_Qi (fun (r' : Int32) (u : S_Model) => rr = r' ∧ Y = u) (fun u : S_Model => jB (dC, dI) [(cI, .int)] A ((W_Model cI a u))) A) ([.ref (a 0), .int v1, .int v2] : List Value).toArray s 0 0 A) (F0 m 19 ls [.int t0]) := by
    intro S t0 H locs hF hP hD hS ls hl
    unfold F_X5_nodeFor_19 at hF
    refine lv_istore_n (lv' := [(3, .int t0), (0, .ref (a 0)), (1, .int v1), (2, .int v2)]) hx hb dX5_nodeFor_19 rfl hl (by decide) rfl (fun ls hl => ?_)
    refine lv_iload_n hx hb dX5_nodeFor_20 rfl (lv_at hl 2 rfl) ?_
    refine lv_if_le (tgt := 45) hx hb dX5_nodeFor_21 (by decide) (fun c15 => ?_) (fun c15 => ?_)
    · have hF := F_pos c15 hF
      exact K45 _ _ _ _ hF hP hD hS _ (lv_sub hl [1, 2, 3, 0] rfl)
    · have hF := F_neg c15 hF
      refine lv_iload_n hx hb dX5_nodeFor_24 rfl (lv_at hl 0 rfl) ?_
      refine lv_iconst (v := (-1 : Int32)) hx hb dX5_nodeFor_25 (by decide) ?_
      refine lv_icmp_eq (tgt := 43) hx hb dX5_nodeFor_26 (by decide) (fun c16 => ?_) (fun c16 => ?_)
      · have hF := F_pos c16 hF
        refine lv_iconst (v := (-1 : Int32)) hx hb dX5_nodeFor_43 (by decide) ?_
        have e50 := Option.some.inj hF
        obtain ⟨e60, e51⟩ := Prod.mk.inj e50
        subst e60
        subst e51
        exact W.iret (v := (-1 : Int32)) hx hb hr (fun t ht hW => ⟨⟨(-1 : Int32), S, rfl, ⟨rfl, rfl⟩, by rw [ht]; exact hP, va_K.moved hW.alike hK, hD⟩, hS.F ht⟩) hS.2.2 dX5_nodeFor_44
      · have hF := F_neg c16 hF
        refine lv_aload_n hx hb dX5_nodeFor_29 rfl (lv_at hl 1 rfl) ?_
        refine wg_tree (v := .ref (a 11)) hx hb hts hinX5 hown hK hP rfl (hts (Cond.fieldLink RX5 40 "LearnedShapesModel" "tree" "[I") (List.mem_of_getElem? (i := 3) rfl)) dX5_nodeFor_30 ?_
        refine lv_bipush (v := (7 : Int32)) hx hb dX5_nodeFor_33 (by decide) ?_
        refine lv_iload_n hx hb dX5_nodeFor_35 rfl (lv_at hl 0 rfl) ?_
        refine lv_imul hx hb dX5_nodeFor_36 ?_
        obtain ⟨g17, hF⟩ := og_some hF
        refine wl_tree (f := (g_Model_tree S)) hx hb hK hP rfl (inb_in g17) dX5_nodeFor_37 ?_
        refine lv_bipush (v := (7 : Int32)) hx hb dX5_nodeFor_38 (by decide) ?_
        refine lv_icmp_ne (tgt := 45) hx hb dX5_nodeFor_40 (by decide) (fun c18 => ?_) (fun c18 => ?_)
        · have hF := F_neg c18 hF
          exact K45 _ _ _ _ hF hP hD hS _ (lv_sub hl [1, 2, 3, 0] rfl)
        · have hF := F_pos c18 hF
          refine lv_iconst (v := (-1 : Int32)) hx hb dX5_nodeFor_43 (by decide) ?_
          have e50 := Option.some.inj hF
          obtain ⟨e60, e51⟩ := Prod.mk.inj e50
          subst e60
          subst e51
          exact W.iret (v := (-1 : Int32)) hx hb hr (fun t ht hW => ⟨⟨(-1 : Int32), S, rfl, ⟨rfl, rfl⟩, by rw [ht]; exact hP, va_K.moved hW.alike hK, hD⟩, hS.F ht⟩) hS.2.2 dX5_nodeFor_44
  have KE : ∀ (H : Heap) (locs : List Loc), va_P (dC, dI) vwCl ((W_Model cI a S)) H → va_D A ((W_Model cI a S)) → va_S A s.heap H locs → W p l e (headSpec wsX5_nodeFor ({ frames := 1, cells := 0, slots := 0, locals := 25 } : Room)).room s m ([.ref (a 0), .int v1, .int v2] : List Value).toArray below meth c H locs 0 0 (MQ below (va_Qi (fun (r' : Int32) (u : S_Model) => rr = r' ∧ Y = u) (fun u : S_Model => jB (dC, dI) [(cI, .int)] A ((W_Model cI a u))) A) ([.ref (a 0), .int v1, .int v2] : List Value).toArray s 0 0 A) (F0 m 0 ls []) := by
    intro H locs hP hD hS
    unfold F_X5_nodeFor at hF
    refine lv_iload_n hx hb dX5_nodeFor_0 rfl (lv_at hl 1 rfl) ?_
    refine lv_if_ne (tgt := 8) hx hb dX5_nodeFor_1 (by decide) (fun c19 => ?_) (fun c19 => ?_)
    · have hF := F_neg c19 hF
      refine lv_aload_n hx hb dX5_nodeFor_8 rfl (lv_at hl 0 rfl) ?_
      refine wg_place (v := .ref (a 12)) hx hb hts hinX5 hown hK hP rfl (hts (Cond.fieldLink RX5 43 "LearnedShapesModel" "place" "[I") (List.mem_of_getElem? (i := 1) rfl)) dX5_nodeFor_9 ?_
      refine lv_aload_n hx hb dX5_nodeFor_12 rfl (lv_at hl 0 rfl) ?_
      refine wg_above (v := .ref (a 5)) hx hb hts hinX5 hown hK hP rfl (hts (Cond.fieldLink RX5 22 "LearnedShapesModel" "above" "[I") (List.mem_of_getElem? (i := 2) rfl)) dX5_nodeFor_13 ?_
      refine lv_iload_n hx hb dX5_nodeFor_16 rfl (lv_at hl 1 rfl) ?_
      obtain ⟨g20, hF⟩ := og_some hF
      refine wl_above (f := (g_Model_above S)) hx hb hK hP rfl (inb_in g20) dX5_nodeFor_17 ?_
      obtain ⟨g21, hF⟩ := og_some hF
      refine wl_place (f := (g_Model_place S)) hx hb hK hP rfl (inb_in g21) dX5_nodeFor_18 ?_
      exact K19 _ _ _ _ hF hP hD hS _ (lv_sub hl [0, 1, 2] rfl)
    · have hF := F_pos c19 hF
      refine lv_iconst (v := (-1 : Int32)) hx hb dX5_nodeFor_4 (by decide) ?_
      refine lv_goto (tgt := 19) hx hb dX5_nodeFor_5 (by decide) ?_
      exact K19 _ _ _ _ hF hP hD hS _ (lv_sub hl [0, 1, 2] rfl)
  exact KE _ _ hP hD hS
set_option maxHeartbeats 4000000 in
set_option maxRecDepth 100000 in
theorem c_X5_shows (l : Launch) (dC : Nat → ClassId) (dI : Nat → Nat → Nat) (cI : ClassId) (a : Nat → Nat) (sz : Nat) (S : S_Model) (v1 : Int32) (Y : S_Model) (hF : F_X5_shows S v1 = some Y) : Met l yX5_shows wsX5_shows ({ frames := 2, cells := 0, slots := 0, locals := 49 } : Room) (va_Pc [.ref (a 0), .int v1] (jPre (dC, dI) [(cI, .int)] sz ((W_Model cI a S)))) (va_Qv (fun u : S_Model => Y = u) (fun u : S_Model => jB (dC, dI) [(cI, .int)] (va_A ((W_Model cI a S)) sz) ((W_Model cI a u))) (va_A ((W_Model cI a S)) sz)) 0 0 (va_A ((W_Model cI a S)) sz) := by
  refine Met.ofW (cc := cX5_shows) (maxL := 6) (ret := none) (by decide) rfl ?_
  intro p e s m args below meth c s₁ B hml hv
  obtain ⟨rfl, hsz, hP, hK, hD0, hN⟩ := hv
  have hx := B.exec
  have hb := B.bytes
  have hr := B.returns
  have hts := atoms_spec (ws := wsX5_shows) B.pre
  have hown : s.vm.findClass RX5 = some m.cls := findClass_of_methodNamed B.named
  have hlocks := B.notSynchronized
  have hinX5 : ∀ w ∈ u_ws RX5 TX5 26, w ∈ wsX5_shows := by decide +kernel
  subst hsz
  have hD := hD0.self (sz := s.heap.size)
  generalize hAe : (va_A ((W_Model cI a S)) s.heap.size) = A at hD ⊢
  have hA : ∀ q : Nat, s.heap.size ≤ q → A q := fun q h => by rw [← hAe]; exact Or.inr h
  have hS : va_S A s.heap s.heap [] := va_S.rf
  have hl := lv_entry ([.ref (a 0), .int v1]) (n := 6) (Nat.le_of_ble_eq_true rfl)
  rw [lg_entry_eq]
  generalize (lg_sl ([.ref (a 0), .int v1]) ++ List.replicate (6 - (lg_sl ([.ref (a 0), .int v1])).length) Slot.unset).toArray = ls at hl ⊢
  have hl : lv_has ls 6 [(0, .ref (a 0)), (1, .int v1)] := hl
  have K18 : ∀ (n18 : Nat) (S : S_Model) (x2 : Int32) (x3 : Int32) (H : Heap) (locs : List Loc), F_X5_shows_18 n18 S x2 x3 = some Y → va_P (dC, dI) vwCl ((W_Model cI a S)) H → va_D A ((W_Model cI a S)) → va_S A s.heap H locs → ∀ ls : Array Slot, lv_has ls 6 [(0, .ref (a 0)), (2, .int x2), (3, .int x3)] → W p l e (headSpec wsX5_shows ({ frames := 2, cells := 0, slots := 0, locals := 49 } : Room)).room s m ([.ref (a 0), .int v1] : List Value).toArray below meth c H locs 0 0 (MQ below (va_Qv (fun u : S_Model => Y = u) (fun u : S_Model => jB (dC, dI) [(cI, .int)] A ((W_Model cI a u))) A) ([.ref (a 0), .int v1] : List Value).toArray s 0 0 A) (F0 m 18 ls []) := by
    intro n18
    induction n18 with
    | zero => intro S x2 x3 H locs hF; exact nomatch hF
    | succ n18 ih18 =>
      intro S x2 x3 H locs hF hP hD hS ls hl
      rw [F_X5_shows_18_s] at hF
      have K126 : ∀ (S : S_Model) (x2 : Int32) (x3 : Int32) (x4 : Int32) (x5 : Int32) (t1 : Int32) (t2 : Int32) (H : Heap) (locs : List Loc), F_X5_shows_126 (F_X5_shows_18 n18) S x2 x3 x4 x5 t1 t2 = some Y → va_P (dC, dI) vwCl ((W_Model cI a S)) H → va_D A ((W_Model cI a S)) → va_S A s.heap H locs → ∀ ls : Array Slot, lv_has ls 6 [(0, .ref (a 0)), (2, .int x2), (3, .int x3), (4, .int x4), (5, .int x5)] → W p l e (headSpec wsX5_shows ({ frames := 2, cells := 0, slots := 0, locals := 49 } : Room)).room s m ([.ref (a 0), .int v1] : List Value).toArray below meth c H locs 0 0 (MQ below (va_Qv (fun u : S_Model => Y = u) (fun u : S_Model => jB (dC, dI) [(cI, .int)] A ((W_Model cI a u))) A) ([.ref (a 0), .int v1] : List Value).toArray s 0 0 A) (F0 m 126 ls [.int t2, .int t1, .ref (a 11)]) := by
        intro S x2 x3 x4 x5 t1 t2 H locs hF hP hD hS ls hl
        unfold F_X5_shows_126 at hF
        obtain ⟨g1, hF⟩ := og_some hF
        refine ws_tree (f := (g_Model_tree S)) hx hb hK hP hD hS rfl (inb_in g1) dX5_shows_126 (fun H locs hP hD hS => ?_)
        refine lv_aload_n hx hb dX5_shows_127 rfl (lv_at hl 0 rfl) ?_
        refine lv_iload hx hb dX5_shows_128 (lv_at hl 3 rfl) ?_
        refine lv_aload_n hx hb dX5_shows_130 rfl (lv_at hl 0 rfl) ?_
        refine wg_tree (v := .ref (a 11)) hx hb hts hinX5 hown hK hP rfl (hts (Cond.fieldLink RX5 40 "LearnedShapesModel" "tree" "[I") (List.mem_of_getElem? (i := 4) rfl)) dX5_shows_131 ?_
        refine lv_iload hx hb dX5_shows_134 (lv_at hl 4 rfl) ?_
        obtain ⟨g2, hF⟩ := og_some hF
        refine wl_tree (f := (upd (g_Model_tree S) t1.toNatClampNeg t2)) hx hb hK hP rfl (inb_in g2) dX5_shows_136 ?_
        refine lv_aload_n hx hb dX5_shows_137 rfl (lv_at hl 0 rfl) ?_
        refine wg_kinds (v := .ref (a 4)) hx hb hts hinX5 hown hK hP rfl (hts (Cond.fieldLink RX5 19 "LearnedShapesModel" "kinds" "[I") (List.mem_of_getElem? (i := 5) rfl)) dX5_shows_138 ?_
        refine lv_iload_n hx hb dX5_shows_141 rfl (lv_at hl 2 rfl) ?_
        obtain ⟨g3, hF⟩ := og_some hF
        refine wl_kinds (f := (g_Model_kinds S)) hx hb hK hP rfl (inb_in g3) dX5_shows_142 ?_
        obtain ⟨r4, h5, hF⟩ := ob1_some hF
        have hPc : va_P (dC, dI) vwCl ([] : va_W) H := fun k q h => by simp at h
        have hDc : va_D A ([] : va_W) := ⟨fun i j p q h => by simp at h, fun k q h => by simp at h⟩
        have hFc := jFreeW (ws := []) hDc hS hA
        refine va_calli (va_runS (As := [.int ((upd (g_Model_tree S) t1.toNatClampNeg t2) x5.toNatClampNeg), .int ((g_Model_kinds S) x3.toNatClampNeg)]) (rest := [.int x4, .ref (a 0)]) ⟨hx, hb, hml, hown, hts⟩ (c_X5_joined l dC dI cI  H.size _ _ _ h5) (va_cwS 2 hts gX5_shows_X5_joined rfl rfl rfl (by decide +kernel) ⟨Nat.le_of_ble_eq_true rfl, Nat.le_of_ble_eq_true rfl⟩) (jPreS hK hPc hDc hN) rfl rfl hl.1 rfl (lv_room (Nat.le_of_ble_eq_true rfl)) dX5_shows_143 ⟨Nat.le_of_ble_eq_true rfl, Nat.le_of_ble_eq_true rfl⟩) hS (fun q _ h => hFc q h) hFc (fun r' u' t H locs ht hvm hw hB hz1 hk1 hS => ?_)
        subst hw
        obtain ⟨hP1, -, hD1⟩ := hB
        rw [ht] at hP1
        have hP : va_P (dC, dI) vwCl ((W_Model cI a (s_Model_tree S (upd (g_Model_tree S) t1.toNatClampNeg t2)))) H := jNone hP hk1
        refine lv_iload_n hx hb dX5_shows_146 rfl (lv_at hl 1 rfl) ?_
        obtain ⟨u6, h7, hF⟩ := ob1_some hF
        have hPc : va_P (dC, dI) vwCl ((W_Model cI a (s_Model_tree S (upd (g_Model_tree S) t1.toNatClampNeg t2)))) H := hP
        have hDc : va_D A ((W_Model cI a (s_Model_tree S (upd (g_Model_tree S) t1.toNatClampNeg t2)))) := hD
        have hFc := jFreeW (ws := (W_Model cI a (s_Model_tree S (upd (g_Model_tree S) t1.toNatClampNeg t2)))) hD hS hA
        refine va_callv (va_runV (As := [.int x4, .int r4, .int x2]) (rest := []) ⟨hx, hb, hml, hown, hts⟩ (c_X5_widens l dC dI cI a H.size _ _ _ _ _ h7) (cwV 3 hts gX5_shows_X5_widens rfl rfl rfl (by decide +kernel) ⟨Nat.le_of_ble_eq_true rfl, Nat.le_of_ble_eq_true rfl⟩) (jPreV hK hPc hDc hN (ci := 5) rfl rfl) rfl rfl hl.1 rfl (lv_room (Nat.le_of_ble_eq_true rfl)) dX5_shows_147 ⟨Nat.le_of_ble_eq_true rfl, Nat.le_of_ble_eq_true rfl⟩) hS (fun q _ h => hFc q h) hFc (fun u' t H locs ht hvm hw hB hz1 hk1 hS => ?_)
        subst hw
        obtain ⟨hP1, -, hD1⟩ := hB
        rw [ht] at hP1
        have hP : va_P (dC, dI) vwCl ((W_Model cI a u6)) H := hP1
        have hD : va_D A ((W_Model cI a u6)) := hD1.weaken (fun _ _ _ h => hFc _ h)
        refine lv_iinc (v := (x3 + (1 : Int32))) (lv' := [(3, .int (x3 + (1 : Int32))), (0, .ref (a 0)), (2, .int x2), (4, .int x4), (5, .int x5)]) hx hb dX5_shows_150 hl (k := 2) rfl rfl (by decide) rfl (fun ls hl => ?_)
        refine lv_goto (tgt := 18) hx hb dX5_shows_153 (by decide) ?_
        exact ih18 _ _ _ _ _ hF hP hD hS _ (lv_sub hl [1, 2, 0] rfl)
      have K94 : ∀ (S : S_Model) (x2 : Int32) (x3 : Int32) (x4 : Int32) (x5 : Int32) (t1 : Int32) (t2 : Int32) (t3 : Bool) (H : Heap) (locs : List Loc), F_X5_shows_94 (F_X5_shows_18 n18) S x2 x3 x4 x5 t1 t2 t3 = some Y → va_P (dC, dI) vwCl ((W_Model cI a S)) H → va_D A ((W_Model cI a S)) → va_S A s.heap H locs → ∀ ls : Array Slot, lv_has ls 6 [(0, .ref (a 0)), (2, .int x2), (3, .int x3), (4, .int x4), (5, .int x5)] → W p l e (headSpec wsX5_shows ({ frames := 2, cells := 0, slots := 0, locals := 49 } : Room)).room s m ([.ref (a 0), .int v1] : List Value).toArray below meth c H locs 0 0 (MQ below (va_Qv (fun u : S_Model => Y = u) (fun u : S_Model => jB (dC, dI) [(cI, .int)] A ((W_Model cI a u))) A) ([.ref (a 0), .int v1] : List Value).toArray s 0 0 A) (F0 m 94 ls [.int (b2i t3), .int t2, .int t1, .ref (a 11)]) := by
        intro S x2 x3 x4 x5 t1 t2 t3 H locs hF hP hD hS ls hl
        unfold F_X5_shows_94 at hF
        refine lv_iadd hx hb dX5_shows_94 ?_
        obtain ⟨g8, hF⟩ := og_some hF
        refine ws_tree (f := (g_Model_tree S)) hx hb hK hP hD hS rfl (inb_in g8) dX5_shows_95 (fun H locs hP hD hS => ?_)
        refine lv_aload_n hx hb dX5_shows_96 rfl (lv_at hl 0 rfl) ?_
        refine wg_tree (v := .ref (a 11)) hx hb hts hinX5 hown hK hP rfl (hts (Cond.fieldLink RX5 40 "LearnedShapesModel" "tree" "[I") (List.mem_of_getElem? (i := 4) rfl)) dX5_shows_97 ?_
        refine lv_iload hx hb dX5_shows_100 (lv_at hl 4 rfl) ?_
        refine lv_iconst (v := (4 : Int32)) hx hb dX5_shows_102 (by decide) ?_
        refine lv_iadd hx hb dX5_shows_103 ?_
        refine lv_aload_n hx hb dX5_shows_104 rfl (lv_at hl 0 rfl) ?_
        refine wg_kinds (v := .ref (a 4)) hx hb hts hinX5 hown hK hP rfl (hts (Cond.fieldLink RX5 19 "LearnedShapesModel" "kinds" "[I") (List.mem_of_getElem? (i := 5) rfl)) dX5_shows_105 ?_
        refine lv_iload_n hx hb dX5_shows_108 rfl (lv_at hl 2 rfl) ?_
        obtain ⟨g9, hF⟩ := og_some hF
        refine wl_kinds (f := (g_Model_kinds S)) hx hb hK hP rfl (inb_in g9) dX5_shows_109 ?_
        refine lv_if_ne (tgt := 117) hx hb dX5_shows_110 (by decide) (fun c10 => ?_) (fun c10 => ?_)
        · have hF := F_neg c10 hF
          refine lv_aload_n hx hb dX5_shows_117 rfl (lv_at hl 0 rfl) ?_
          refine wg_tree (v := .ref (a 11)) hx hb hts hinX5 hown hK hP rfl (hts (Cond.fieldLink RX5 40 "LearnedShapesModel" "tree" "[I") (List.mem_of_getElem? (i := 4) rfl)) dX5_shows_118 ?_
          refine lv_iload hx hb dX5_shows_121 (lv_at hl 4 rfl) ?_
          refine lv_iconst (v := (4 : Int32)) hx hb dX5_shows_123 (by decide) ?_
          refine lv_iadd hx hb dX5_shows_124 ?_
          obtain ⟨g11, hF⟩ := og_some hF
          refine wl_tree (f := (upd (g_Model_tree S) t1.toNatClampNeg (t2 + (b2i t3)))) hx hb hK hP rfl (inb_in g11) dX5_shows_125 ?_
          exact K126 _ _ _ _ _ _ _ _ _ hF hP hD hS _ (lv_sub hl [0, 1, 2, 3, 4] rfl)
        · have hF := F_pos c10 hF
          refine lv_iconst (v := (1 : Int32)) hx hb dX5_shows_113 (by decide) ?_
          refine lv_goto (tgt := 126) hx hb dX5_shows_114 (by decide) ?_
          exact K126 _ _ _ _ _ _ _ _ _ hF hP hD hS _ (lv_sub hl [0, 1, 2, 3, 4] rfl)
      refine lv_iload_n hx hb dX5_shows_18 rfl (lv_at hl 2 rfl) ?_
      refine lv_aload_n hx hb dX5_shows_19 rfl (lv_at hl 0 rfl) ?_
      refine wg_valued (v := .int (g_Model_valued S)) hx hb hts hinX5 hown hK hP rfl (hts (Cond.fieldLink RX5 82 "LearnedShapesModel" "valued" "I") (List.mem_of_getElem? (i := 2) rfl)) dX5_shows_20 ?_
      refine lv_icmp_ge (tgt := 156) hx hb dX5_shows_23 (by decide) (fun c12 => ?_) (fun c12 => ?_)
      · have hF := F_pos c12 hF
        have e50 := Option.some.inj hF
        subst e50
        exact W.vret hx hb hr (fun t ht hW => ⟨⟨S, rfl, rfl, by rw [ht]; exact hP, va_K.moved hW.alike hK, hD⟩, hS.F ht⟩) hS.2.2 dX5_shows_156
      · have hF := F_neg c12 hF
        refine lv_aload_n hx hb dX5_shows_26 rfl (lv_at hl 0 rfl) ?_
        refine lv_iload_n hx hb dX5_shows_27 rfl (lv_at hl 2 rfl) ?_
        refine lv_iload_n hx hb dX5_shows_28 rfl (lv_at hl 1 rfl) ?_
        obtain ⟨r13, u14, h15, hF⟩ := ob2_some hF
        have hPc : va_P (dC, dI) vwCl ((W_Model cI a S)) H := hP
        have hDc : va_D A ((W_Model cI a S)) := hD
        have hFc := jFreeW (ws := (W_Model cI a S)) hD hS hA
        refine va_calli (va_runV (As := [.int x3, .int x2]) (rest := []) ⟨hx, hb, hml, hown, hts⟩ (c_X5_nodeFor l dC dI cI a H.size _ _ _ _ _ h15) (cwV 2 hts gX5_shows_X5_nodeFor rfl rfl rfl (by decide +kernel) ⟨Nat.le_of_ble_eq_true rfl, Nat.le_of_ble_eq_true rfl⟩) (jPreV hK hPc hDc hN (ci := 5) rfl rfl) rfl rfl hl.1 rfl (lv_room (Nat.le_of_ble_eq_true rfl)) dX5_shows_29 ⟨Nat.le_of_ble_eq_true rfl, Nat.le_of_ble_eq_true rfl⟩) hS (fun q _ h => hFc q h) hFc (fun r' u' t H locs ht hvm hw hB hz1 hk1 hS => ?_)
        obtain ⟨e1, e2⟩ := hw
        subst e1
        subst e2
        obtain ⟨hP1, -, hD1⟩ := hB
        rw [ht] at hP1
        have hP : va_P (dC, dI) vwCl ((W_Model cI a u14)) H := hP1
        have hD : va_D A ((W_Model cI a u14)) := hD1.weaken (fun _ _ _ h => hFc _ h)
        refine lv_istore (lv' := [(4, .int r13), (0, .ref (a 0)), (2, .int x2), (3, .int x3)]) hx hb dX5_shows_32 hl (by decide) rfl (fun ls hl => ?_)
        refine lv_aload_n hx hb dX5_shows_34 rfl (lv_at hl 1 rfl) ?_
        refine wg_place (v := .ref (a 12)) hx hb hts hinX5 hown hK hP rfl (hts (Cond.fieldLink RX5 43 "LearnedShapesModel" "place" "[I") (List.mem_of_getElem? (i := 3) rfl)) dX5_shows_35 ?_
        refine lv_iload_n hx hb dX5_shows_38 rfl (lv_at hl 3 rfl) ?_
        refine lv_iload hx hb dX5_shows_39 (lv_at hl 0 rfl) ?_
        obtain ⟨g16, hF⟩ := og_some hF
        refine ws_place (f := (g_Model_place u14)) hx hb hK hP hD hS rfl (inb_in g16) dX5_shows_41 (fun H locs hP hD hS => ?_)
        refine lv_iload hx hb dX5_shows_42 (lv_at hl 0 rfl) ?_
        refine lv_iconst (v := (-1 : Int32)) hx hb dX5_shows_44 (by decide) ?_
        refine lv_icmp_eq (tgt := 150) hx hb dX5_shows_45 (by decide) (fun c17 => ?_) (fun c17 => ?_)
        · have hF := F_pos c17 hF
          refine lv_iinc (v := (x3 + (1 : Int32))) (lv' := [(3, .int (x3 + (1 : Int32))), (4, .int r13), (0, .ref (a 0)), (2, .int x2)]) hx hb dX5_shows_150 hl (k := 3) rfl rfl (by decide) rfl (fun ls hl => ?_)
          refine lv_goto (tgt := 18) hx hb dX5_shows_153 (by decide) ?_
          exact ih18 _ _ _ _ _ hF hP hD hS _ (lv_sub hl [2, 3, 0] rfl)
        · have hF := F_neg c17 hF
          refine lv_bipush (v := (7 : Int32)) hx hb dX5_shows_48 (by decide) ?_
          refine lv_iload hx hb dX5_shows_50 (lv_at hl 0 rfl) ?_
          refine lv_imul hx hb dX5_shows_52 ?_
          refine lv_istore (lv' := [(5, .int ((7 : Int32) * r13)), (4, .int r13), (0, .ref (a 0)), (2, .int x2), (3, .int x3)]) hx hb dX5_shows_53 hl (by decide) rfl (fun ls hl => ?_)
          refine lv_aload_n hx hb dX5_shows_55 rfl (lv_at hl 2 rfl) ?_
          refine wg_tree (v := .ref (a 11)) hx hb hts hinX5 hown hK hP rfl (hts (Cond.fieldLink RX5 40 "LearnedShapesModel" "tree" "[I") (List.mem_of_getElem? (i := 4) rfl)) dX5_shows_56 ?_
          refine lv_iload hx hb dX5_shows_59 (lv_at hl 0 rfl) ?_
          refine lv_iconst (v := (3 : Int32)) hx hb dX5_shows_61 (by decide) ?_
          refine lv_iadd hx hb dX5_shows_62 ?_
          refine lv_dup2_11 hx hb dX5_shows_63 rfl rfl ?_
          obtain ⟨g18, hF⟩ := og_some hF
          refine wl_tree (f := (g_Model_tree u14)) hx hb hK hP rfl (inb_in g18) dX5_shows_64 ?_
          refine lv_iconst (v := (1 : Int32)) hx hb dX5_shows_65 (by decide) ?_
          refine lv_iadd hx hb dX5_shows_66 ?_
          obtain ⟨g19, hF⟩ := og_some hF
          refine ws_tree (f := (g_Model_tree u14)) hx hb hK hP hD hS rfl (inb_in g19) dX5_shows_67 (fun H locs hP hD hS => ?_)
          refine lv_aload_n hx hb dX5_shows_68 rfl (lv_at hl 2 rfl) ?_
          refine wg_tree (v := .ref (a 11)) hx hb hts hinX5 hown hK hP rfl (hts (Cond.fieldLink RX5 40 "LearnedShapesModel" "tree" "[I") (List.mem_of_getElem? (i := 4) rfl)) dX5_shows_69 ?_
          refine lv_iload hx hb dX5_shows_72 (lv_at hl 0 rfl) ?_
          refine lv_iconst (v := (5 : Int32)) hx hb dX5_shows_74 (by decide) ?_
          refine lv_iadd hx hb dX5_shows_75 ?_
          refine lv_dup2_11 hx hb dX5_shows_76 rfl rfl ?_
          obtain ⟨g20, hF⟩ := og_some hF
          refine wl_tree (f := (upd (g_Model_tree u14) (((7 : Int32) * r13) + (3 : Int32)).toNatClampNeg (((g_Model_tree u14) (((7 : Int32) * r13) + (3 : Int32)).toNatClampNeg) + (1 : Int32)))) hx hb hK hP rfl (inb_in g20) dX5_shows_77 ?_
          refine lv_aload_n hx hb dX5_shows_78 rfl (lv_at hl 2 rfl) ?_
          refine wg_kinds (v := .ref (a 4)) hx hb hts hinX5 hown hK hP rfl (hts (Cond.fieldLink RX5 19 "LearnedShapesModel" "kinds" "[I") (List.mem_of_getElem? (i := 5) rfl)) dX5_shows_79 ?_
          refine lv_iload_n hx hb dX5_shows_82 rfl (lv_at hl 4 rfl) ?_
          obtain ⟨g21, hF⟩ := og_some hF
          refine wl_kinds (f := (g_Model_kinds u14)) hx hb hK hP rfl (inb_in g21) dX5_shows_83 ?_
          refine lv_bipush (v := (6 : Int32)) hx hb dX5_shows_84 (by decide) ?_
          refine lv_icmp_ne (tgt := 93) hx hb dX5_shows_86 (by decide) (fun c22 => ?_) (fun c22 => ?_)
          · have hF := F_neg c22 hF
            refine lv_iconst (v := (0 : Int32)) hx hb dX5_shows_93 (by decide) ?_
            exact K94 _ _ _ _ _ _ _ _ _ _ hF hP hD hS _ (lv_sub hl [2, 3, 4, 1, 0] rfl)
          · have hF := F_pos c22 hF
            refine lv_iconst (v := (1 : Int32)) hx hb dX5_shows_89 (by decide) ?_
            refine lv_goto (tgt := 94) hx hb dX5_shows_90 (by decide) ?_
            exact K94 _ _ _ _ _ _ _ _ _ _ hF hP hD hS _ (lv_sub hl [2, 3, 4, 1, 0] rfl)
  have KE : ∀ (H : Heap) (locs : List Loc), va_P (dC, dI) vwCl ((W_Model cI a S)) H → va_D A ((W_Model cI a S)) → va_S A s.heap H locs → W p l e (headSpec wsX5_shows ({ frames := 2, cells := 0, slots := 0, locals := 49 } : Room)).room s m ([.ref (a 0), .int v1] : List Value).toArray below meth c H locs 0 0 (MQ below (va_Qv (fun u : S_Model => Y = u) (fun u : S_Model => jB (dC, dI) [(cI, .int)] A ((W_Model cI a u))) A) ([.ref (a 0), .int v1] : List Value).toArray s 0 0 A) (F0 m 0 ls []) := by
    intro H locs hP hD hS
    unfold F_X5_shows at hF
    refine lv_aload_n hx hb dX5_shows_0 rfl (lv_at hl 0 rfl) ?_
    refine lv_iload_n hx hb dX5_shows_1 rfl (lv_at hl 1 rfl) ?_
    obtain ⟨u23, h24, hF⟩ := ob1_some hF
    have hPc : va_P (dC, dI) vwCl ((W_Model cI a S)) H := hP
    have hDc : va_D A ((W_Model cI a S)) := hD
    have hFc := jFreeW (ws := (W_Model cI a S)) hD hS hA
    refine va_callv (va_runV (As := [.int v1]) (rest := []) ⟨hx, hb, hml, hown, hts⟩ (c_X5_lays l dC dI cI a H.size _ _ _ h24) (cwV 1 hts gX5_shows_X5_lays rfl rfl rfl (by decide +kernel) ⟨Nat.le_of_ble_eq_true rfl, Nat.le_of_ble_eq_true rfl⟩) (jPreV hK hPc hDc hN (ci := 5) rfl rfl) rfl rfl hl.1 rfl (lv_room (Nat.le_of_ble_eq_true rfl)) dX5_shows_2 ⟨Nat.le_of_ble_eq_true rfl, Nat.le_of_ble_eq_true rfl⟩) hS (fun q _ h => hFc q h) hFc (fun u' t H locs ht hvm hw hB hz1 hk1 hS => ?_)
    subst hw
    obtain ⟨hP1, -, hD1⟩ := hB
    rw [ht] at hP1
    have hP : va_P (dC, dI) vwCl ((W_Model cI a u23)) H := hP1
    have hD : va_D A ((W_Model cI a u23)) := hD1.weaken (fun _ _ _ h => hFc _ h)
    refine lv_aload_n hx hb dX5_shows_5 rfl (lv_at hl 0 rfl) ?_
    refine wg_now (v := .ref (a 1)) hx hb hts hinX5 hown hK hP rfl (hts (Cond.fieldLink RX5 7 "LearnedShapesModel" "now" "[I") (List.mem_of_getElem? (i := 1) rfl)) dX5_shows_6 ?_
    refine lv_iconst (v := (1 : Int32)) hx hb dX5_shows_9 (by decide) ?_
    refine lv_iload_n hx hb dX5_shows_10 rfl (lv_at hl 1 rfl) ?_
    refine lv_iadd hx hb dX5_shows_11 ?_
    obtain ⟨g25, hF⟩ := og_some hF
    refine wl_now (f := (g_Model_now u23)) hx hb hK hP rfl (inb_in g25) dX5_shows_12 ?_
    refine lv_iconst (v := (1 : Int32)) hx hb dX5_shows_13 (by decide) ?_
    refine lv_iadd hx hb dX5_shows_14 ?_
    refine lv_istore_n (lv' := [(2, .int (((g_Model_now u23) ((1 : Int32) + v1).toNatClampNeg) + (1 : Int32))), (0, .ref (a 0)), (1, .int v1)]) hx hb dX5_shows_15 rfl hl (by decide) rfl (fun ls hl => ?_)
    refine lv_iconst (v := (0 : Int32)) hx hb dX5_shows_16 (by decide) ?_
    refine lv_istore_n (lv' := [(3, .int (0 : Int32)), (2, .int (((g_Model_now u23) ((1 : Int32) + v1).toNatClampNeg) + (1 : Int32))), (0, .ref (a 0)), (1, .int v1)]) hx hb dX5_shows_17 rfl hl (by decide) rfl (fun ls hl => ?_)
    exact K18 _ _ _ _ _ _ hF hP hD hS _ (lv_sub hl [2, 1, 0] rfl)
  exact KE _ _ hP hD hS
set_option maxHeartbeats 4000000 in
set_option maxRecDepth 100000 in
theorem c_X5_isRefused (l : Launch) (dC : Nat → ClassId) (dI : Nat → Nat → Nat) (cI : ClassId) (a : Nat → Nat) (sz : Nat) (S : S_Model)  (rr : Bool) (hF : F_X5_isRefused S  = some rr) : Met l yX5_isRefused wsX5_isRefused ({ frames := 1, cells := 0, slots := 0, locals := 22 } : Room) (va_Pc [.ref (a 0)] (jPre (dC, dI) [(cI, .int)] sz ((W_Model cI a S)))) (va_Qi (fun (r' : Int32) (_ : Unit) => b2i rr = r') (fun _ : Unit => jB (dC, dI) [(cI, .int)] (va_A ((W_Model cI a S)) sz) ((W_Model cI a S))) (va_A ((W_Model cI a S)) sz)) 0 0 (va_A ((W_Model cI a S)) sz) := by
  refine Met.ofW (cc := cX5_isRefused) (maxL := 1) (ret := (some .boolean)) (by decide) rfl ?_
  intro p e s m args below meth c s₁ B hml hv
  obtain ⟨rfl, hsz, hP, hK, hD0, hN⟩ := hv
  have hx := B.exec
  have hb := B.bytes
  have hr := B.returns
  have hts := atoms_spec (ws := wsX5_isRefused) B.pre
  have hown : s.vm.findClass RX5 = some m.cls := findClass_of_methodNamed B.named
  have hlocks := B.notSynchronized
  have hinX5 : ∀ w ∈ u_ws RX5 TX5 26, w ∈ wsX5_isRefused := by decide +kernel
  subst hsz
  have hD := hD0.self (sz := s.heap.size)
  generalize hAe : (va_A ((W_Model cI a S)) s.heap.size) = A at hD ⊢
  have hA : ∀ q : Nat, s.heap.size ≤ q → A q := fun q h => by rw [← hAe]; exact Or.inr h
  have hS : va_S A s.heap s.heap [] := va_S.rf
  have hl := lv_entry ([.ref (a 0)]) (n := 1) (Nat.le_of_ble_eq_true rfl)
  rw [lg_entry_eq]
  generalize (lg_sl ([.ref (a 0)]) ++ List.replicate (1 - (lg_sl ([.ref (a 0)])).length) Slot.unset).toArray = ls at hl ⊢
  have hl : lv_has ls 1 [(0, .ref (a 0))] := hl
  have KE : ∀ (H : Heap) (locs : List Loc), va_P (dC, dI) vwCl ((W_Model cI a S)) H → va_D A ((W_Model cI a S)) → va_S A s.heap H locs → W p l e (headSpec wsX5_isRefused ({ frames := 1, cells := 0, slots := 0, locals := 22 } : Room)).room s m ([.ref (a 0)] : List Value).toArray below meth c H locs 0 0 (MQ below (va_Qi (fun (r' : Int32) (_ : Unit) => b2i rr = r') (fun _ : Unit => jB (dC, dI) [(cI, .int)] A ((W_Model cI a S))) A) ([.ref (a 0)] : List Value).toArray s 0 0 A) (F0 m 0 ls []) := by
    intro H locs hP hD hS
    unfold F_X5_isRefused at hF
    refine lv_aload_n hx hb dX5_isRefused_0 rfl (lv_at hl 0 rfl) ?_
    obtain ⟨r1, h2, hF⟩ := ob1_some hF
    have hPc : va_P (dC, dI) vwCl ((W_Model cI a S)) H := hP
    have hDc : va_D A ((W_Model cI a S)) := hD
    have hFc := jFreeW (ws := (W_Model cI a S)) hD hS hA
    refine va_calli (va_runV (As := []) (rest := []) ⟨hx, hb, hml, hown, hts⟩ (c_X5_nodes l dC dI cI a H.size _ _ h2) (cwV 0 hts gX5_isRefused_X5_nodes rfl rfl rfl (by decide +kernel) ⟨Nat.le_of_ble_eq_true rfl, Nat.le_of_ble_eq_true rfl⟩) (jPreV hK hPc hDc hN (ci := 5) rfl rfl) rfl rfl hl.1 rfl (lv_room (Nat.le_of_ble_eq_true rfl)) dX5_isRefused_1 ⟨Nat.le_of_ble_eq_true rfl, Nat.le_of_ble_eq_true rfl⟩) hS (fun q _ h => hFc q h) hFc (fun r' u' t H locs ht hvm hw hB hz1 hk1 hS => ?_)
    subst hw
    obtain ⟨hP1, -, hD1⟩ := hB
    rw [ht] at hP1
    have hP : va_P (dC, dI) vwCl ((W_Model cI a S)) H := hP1
    have hD : va_D A ((W_Model cI a S)) := hD1.weaken (fun _ _ _ h => hFc _ h)
    refine lv_bipush (v := (30 : Int32)) hx hb dX5_isRefused_4 (by decide) ?_
    refine lv_icmp_gt (tgt := 26) hx hb dX5_isRefused_6 (by decide) (fun c3 => ?_) (fun c3 => ?_)
    · have hF := F_pos c3 hF
      refine lv_iconst (v := (1 : Int32)) hx hb dX5_isRefused_26 (by decide) ?_
      refine lv_goto (tgt := 31) hx hb dX5_isRefused_27 (by decide) ?_
      have e50 := Option.some.inj hF
      subst e50
      exact W.zret (v := (1 : Int32)) hx hb hr (rfl) (fun t ht hW => ⟨⟨(1 : Int32), (), rfl, rfl, by rw [ht]; exact hP, va_K.moved hW.alike hK, hD⟩, hS.F ht⟩) hS.2.2 dX5_isRefused_31
    · have hF := F_neg c3 hF
      refine lv_aload_n hx hb dX5_isRefused_9 rfl (lv_at hl 0 rfl) ?_
      refine wg_now (v := .ref (a 1)) hx hb hts hinX5 hown hK hP rfl (hts (Cond.fieldLink RX5 7 "LearnedShapesModel" "now" "[I") (List.mem_of_getElem? (i := 1) rfl)) dX5_isRefused_10 ?_
      refine lv_iconst (v := (0 : Int32)) hx hb dX5_isRefused_13 (by decide) ?_
      obtain ⟨g4, hF⟩ := og_some hF
      refine wl_now (f := (g_Model_now S)) hx hb hK hP rfl (inb_in g4) dX5_isRefused_14 ?_
      refine lv_iconst (v := (1 : Int32)) hx hb dX5_isRefused_15 (by decide) ?_
      refine lv_icmp_ne (tgt := 30) hx hb dX5_isRefused_16 (by decide) (fun c5 => ?_) (fun c5 => ?_)
      · have hF := F_neg c5 hF
        refine lv_iconst (v := (0 : Int32)) hx hb dX5_isRefused_30 (by decide) ?_
        have e50 := Option.some.inj hF
        subst e50
        exact W.zret (v := (0 : Int32)) hx hb hr (rfl) (fun t ht hW => ⟨⟨(0 : Int32), (), rfl, rfl, by rw [ht]; exact hP, va_K.moved hW.alike hK, hD⟩, hS.F ht⟩) hS.2.2 dX5_isRefused_31
      · have hF := F_pos c5 hF
        refine lv_aload_n hx hb dX5_isRefused_19 rfl (lv_at hl 0 rfl) ?_
        refine wg_becameAny (v := .int (g_Model_becameAny S)) hx hb hts hinX5 hown hK hP rfl (hts (Cond.fieldLink RX5 126 "LearnedShapesModel" "becameAny" "Z") (List.mem_of_getElem? (i := 2) rfl)) dX5_isRefused_20 ?_
        refine lv_if_eq (tgt := 30) hx hb dX5_isRefused_23 (by decide) (fun c6 => ?_) (fun c6 => ?_)
        · have hF := F_pos c6 hF
          refine lv_iconst (v := (0 : Int32)) hx hb dX5_isRefused_30 (by decide) ?_
          have e50 := Option.some.inj hF
          subst e50
          exact W.zret (v := (0 : Int32)) hx hb hr (rfl) (fun t ht hW => ⟨⟨(0 : Int32), (), rfl, rfl, by rw [ht]; exact hP, va_K.moved hW.alike hK, hD⟩, hS.F ht⟩) hS.2.2 dX5_isRefused_31
        · have hF := F_neg c6 hF
          refine lv_iconst (v := (1 : Int32)) hx hb dX5_isRefused_26 (by decide) ?_
          refine lv_goto (tgt := 31) hx hb dX5_isRefused_27 (by decide) ?_
          have e50 := Option.some.inj hF
          subst e50
          exact W.zret (v := (1 : Int32)) hx hb hr (rfl) (fun t ht hW => ⟨⟨(1 : Int32), (), rfl, rfl, by rw [ht]; exact hP, va_K.moved hW.alike hK, hD⟩, hS.F ht⟩) hS.2.2 dX5_isRefused_31
  exact KE _ _ hP hD hS
set_option maxHeartbeats 4000000 in
set_option maxRecDepth 100000 in
theorem c_X5_nextChild (l : Launch) (dC : Nat → ClassId) (dI : Nat → Nat → Nat) (cI : ClassId) (a : Nat → Nat) (sz : Nat) (S : S_Model) (v1 : Int32) (v2 : Int32) (rr : Int32) (hF : F_X5_nextChild S v1 v2 = some rr) : Met l yX5_nextChild wsX5_nextChild ({ frames := 1, cells := 0, slots := 0, locals := 23 } : Room) (va_Pc [.ref (a 0), .int v1, .int v2] (jPre (dC, dI) [(cI, .int)] sz ((W_Model cI a S)))) (va_Qi (fun (r' : Int32) (_ : Unit) => rr = r') (fun _ : Unit => jB (dC, dI) [(cI, .int)] (va_A ((W_Model cI a S)) sz) ((W_Model cI a S))) (va_A ((W_Model cI a S)) sz)) 0 0 (va_A ((W_Model cI a S)) sz) := by
  refine Met.ofW (cc := cX5_nextChild) (maxL := 5) (ret := (some .int)) (by decide) rfl ?_
  intro p e s m args below meth c s₁ B hml hv
  obtain ⟨rfl, hsz, hP, hK, hD0, hN⟩ := hv
  have hx := B.exec
  have hb := B.bytes
  have hr := B.returns
  have hts := atoms_spec (ws := wsX5_nextChild) B.pre
  have hown : s.vm.findClass RX5 = some m.cls := findClass_of_methodNamed B.named
  have hlocks := B.notSynchronized
  subst hsz
  have hD := hD0.self (sz := s.heap.size)
  generalize hAe : (va_A ((W_Model cI a S)) s.heap.size) = A at hD ⊢
  have hA : ∀ q : Nat, s.heap.size ≤ q → A q := fun q h => by rw [← hAe]; exact Or.inr h
  have hS : va_S A s.heap s.heap [] := va_S.rf
  have hl := lv_entry ([.ref (a 0), .int v1, .int v2]) (n := 5) (Nat.le_of_ble_eq_true rfl)
  rw [lg_entry_eq]
  generalize (lg_sl ([.ref (a 0), .int v1, .int v2]) ++ List.replicate (5 - (lg_sl ([.ref (a 0), .int v1, .int v2])).length) Slot.unset).toArray = ls at hl ⊢
  have hl : lv_has ls 5 [(0, .ref (a 0)), (1, .int v1), (2, .int v2)] := hl
  have K4 : ∀ (n4 : Nat) (x3 : Int32) (H : Heap) (locs : List Loc), F_X5_nextChild_4 v1 S n4 x3 = some rr → va_P (dC, dI) vwCl ((W_Model cI a S)) H → va_D A ((W_Model cI a S)) → va_S A s.heap H locs → ∀ ls : Array Slot, lv_has ls 5 [(0, .ref (a 0)), (1, .int v1), (3, .int x3)] → W p l e (headSpec wsX5_nextChild ({ frames := 1, cells := 0, slots := 0, locals := 23 } : Room)).room s m ([.ref (a 0), .int v1, .int v2] : List Value).toArray below meth c H locs 0 0 (MQ below (va_Qi (fun (r' : Int32) (_ : Unit) => rr = r') (fun _ : Unit => jB (dC, dI) [(cI, .int)] A ((W_Model cI a S))) A) ([.ref (a 0), .int v1, .int v2] : List Value).toArray s 0 0 A) (F0 m 4 ls []) := by
    intro n4
    induction n4 with
    | zero => intro x3 H locs hF; exact nomatch hF
    | succ n4 ih4 =>
      intro x3 H locs hF hP hD hS ls hl
      rw [F_X5_nextChild_4_s] at hF
      refine lv_iload_n hx hb dX5_nextChild_4 rfl (lv_at hl 2 rfl) ?_
      refine lv_bipush (v := (8 : Int32)) hx hb dX5_nextChild_5 (by decide) ?_
      refine lv_icmp_gt (tgt := 33) hx hb dX5_nextChild_7 (by decide) (fun c1 => ?_) (fun c1 => ?_)
      · have hF := F_pos c1 hF
        refine lv_iconst (v := (-1 : Int32)) hx hb dX5_nextChild_33 (by decide) ?_
        have e50 := Option.some.inj hF
        subst e50
        exact W.iret (v := (-1 : Int32)) hx hb hr (fun t ht hW => ⟨⟨(-1 : Int32), (), rfl, rfl, by rw [ht]; exact hP, va_K.moved hW.alike hK, hD⟩, hS.F ht⟩) hS.2.2 dX5_nextChild_34
      · have hF := F_neg c1 hF
        refine lv_aload_n hx hb dX5_nextChild_10 rfl (lv_at hl 0 rfl) ?_
        refine lv_iload_n hx hb dX5_nextChild_11 rfl (lv_at hl 1 rfl) ?_
        refine lv_iload_n hx hb dX5_nextChild_12 rfl (lv_at hl 2 rfl) ?_
        obtain ⟨r2, h3, hF⟩ := ob1_some hF
        have hPc : va_P (dC, dI) vwCl ((W_Model cI a S)) H := hP
        have hDc : va_D A ((W_Model cI a S)) := hD
        have hFc := jFreeW (ws := (W_Model cI a S)) hD hS hA
        refine va_calli (va_runV (As := [.int v1, .int x3]) (rest := []) ⟨hx, hb, hml, hown, hts⟩ (c_X5_childAt l dC dI cI a H.size _ _ _ _ h3) (cwV 2 hts gX5_nextChild_X5_childAt rfl rfl rfl (by decide +kernel) ⟨Nat.le_of_ble_eq_true rfl, Nat.le_of_ble_eq_true rfl⟩) (jPreV hK hPc hDc hN (ci := 5) rfl rfl) rfl rfl hl.1 rfl (lv_room (Nat.le_of_ble_eq_true rfl)) dX5_nextChild_13 ⟨Nat.le_of_ble_eq_true rfl, Nat.le_of_ble_eq_true rfl⟩) hS (fun q _ h => hFc q h) hFc (fun r' u' t H locs ht hvm hw hB hz1 hk1 hS => ?_)
        subst hw
        obtain ⟨hP1, -, hD1⟩ := hB
        rw [ht] at hP1
        have hP : va_P (dC, dI) vwCl ((W_Model cI a S)) H := hP1
        have hD : va_D A ((W_Model cI a S)) := hD1.weaken (fun _ _ _ h => hFc _ h)
        refine lv_istore (lv' := [(4, .int r2), (0, .ref (a 0)), (1, .int v1), (3, .int x3)]) hx hb dX5_nextChild_16 hl (by decide) rfl (fun ls hl => ?_)
        refine lv_iload hx hb dX5_nextChild_18 (lv_at hl 0 rfl) ?_
        refine lv_iconst (v := (-1 : Int32)) hx hb dX5_nextChild_20 (by decide) ?_
        refine lv_icmp_eq (tgt := 27) hx hb dX5_nextChild_21 (by decide) (fun c4 => ?_) (fun c4 => ?_)
        · have hF := F_pos c4 hF
          refine lv_iinc (v := (x3 + (1 : Int32))) (lv' := [(3, .int (x3 + (1 : Int32))), (4, .int r2), (0, .ref (a 0)), (1, .int v1)]) hx hb dX5_nextChild_27 hl (k := 3) rfl rfl (by decide) rfl (fun ls hl => ?_)
          refine lv_goto (tgt := 4) hx hb dX5_nextChild_30 (by decide) ?_
          exact ih4 _ _ _ hF hP hD hS _ (lv_sub hl [2, 3, 0] rfl)
        · have hF := F_neg c4 hF
          refine lv_iload hx hb dX5_nextChild_24 (lv_at hl 0 rfl) ?_
          have e50 := Option.some.inj hF
          subst e50
          exact W.iret (v := r2) hx hb hr (fun t ht hW => ⟨⟨r2, (), rfl, rfl, by rw [ht]; exact hP, va_K.moved hW.alike hK, hD⟩, hS.F ht⟩) hS.2.2 dX5_nextChild_26
  have KE : ∀ (H : Heap) (locs : List Loc), va_P (dC, dI) vwCl ((W_Model cI a S)) H → va_D A ((W_Model cI a S)) → va_S A s.heap H locs → W p l e (headSpec wsX5_nextChild ({ frames := 1, cells := 0, slots := 0, locals := 23 } : Room)).room s m ([.ref (a 0), .int v1, .int v2] : List Value).toArray below meth c H locs 0 0 (MQ below (va_Qi (fun (r' : Int32) (_ : Unit) => rr = r') (fun _ : Unit => jB (dC, dI) [(cI, .int)] A ((W_Model cI a S))) A) ([.ref (a 0), .int v1, .int v2] : List Value).toArray s 0 0 A) (F0 m 0 ls []) := by
    intro H locs hP hD hS
    unfold F_X5_nextChild at hF
    refine lv_iload_n hx hb dX5_nextChild_0 rfl (lv_at hl 2 rfl) ?_
    refine lv_iconst (v := (1 : Int32)) hx hb dX5_nextChild_1 (by decide) ?_
    refine lv_iadd hx hb dX5_nextChild_2 ?_
    refine lv_istore_n (lv' := [(3, .int (v2 + (1 : Int32))), (0, .ref (a 0)), (1, .int v1), (2, .int v2)]) hx hb dX5_nextChild_3 rfl hl (by decide) rfl (fun ls hl => ?_)
    exact K4 _ _ _ _ hF hP hD hS _ (lv_sub hl [1, 2, 0] rfl)
  exact KE _ _ hP hD hS
