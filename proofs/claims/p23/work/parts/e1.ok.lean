/-! ===== p23: calls from the law ===== -/
/-- a method with a table of its own that returns always -/
theorem met_ofWH {l : Launch} {y : MethodName} {ws ws' : List Cond} {rm : Room} {Pc : Array Value → State → Prop} {Qc : Array Value → State → Outcome → State → Prop} {mc ms : Nat} {free : Addr → Prop} {cc : ByteArray} {maxL : Nat} {ret : Option FieldType} {hh : List (Nat × Nat × Nat × Nat)}
    (hy : plainName y.cls = true) (hw : ws = Cond.codeWith y cc maxL ret hh :: ws')
    (body : ∀ p e s m args below meth c s₁, BodyLoose p l y (headSpec ws rm) cc maxL ret e s m args below meth c s₁ → c.maxLocals = maxL → Pc args s →
      W p l e (headSpec ws rm).room s m args below meth c s.heap [] 0 0 (MQ below Qc args s mc ms free) (entryFrame m args maxL)) : Met l y ws rm Pc Qc mc ms free := by
  refine MetFree.of_bodyS (code := cc) (maxLocals := maxL) (ret := ret) hy ?_ ?_
  · intro args s m h hn
    obtain ⟨m9, meth, c, hn9, h1, h2, h3, h4, -, h5, h6, -⟩ := Cond.codeWith_spec (atoms_spec (ws := ws) h _ (by rw [hw]; exact List.mem_cons_self))
    cases hn.symm.trans hn9
    exact ⟨meth, c, h1, h2, h3, h4, h5, h6⟩
  · intro p e s m args below meth c s₁ B hml hP _
    have hh0 : s₁.heap = s.heap := by rw [B.state]; rfl
    obtain ⟨t, a1, o, b1, b2, b3⟩ := body p e s m args below meth c s₁ B hml hP s₁ hh0 (Stand.of_body B)
    exact ⟨t, o, a1, b1, b2, ⟨b3.1, b3.2⟩⟩
theorem jLeftP {D : va_G} {wa wb : va_W} {H : Heap} (hP : va_P D vwCl (wa ++ wb) H) : va_P D vwCl wa H := fun k q h => hP k q (by
  rw [List.getElem?_append_left (List.getElem?_eq_some_iff.mp h).1]; exact h)
theorem jPreX.blind {D : va_G} {tys : List (ClassId × FieldType)} {sz : Nat} {ws : va_W} {av : List Value} : FrameBlind (va_Pc av (jPreX D tys sz ws)) := fun a U g mk q => by
  obtain ⟨q0, ⟨q1, qP, qK, qD, qN⟩, z1, z2⟩ := q
  exact ⟨q0, ⟨q1, qP, va_K.moved (u := U) (U := U.calling g mk a) (Vm.Alike.refl U.vm) qK, qD, EN.same (u := U) (U := U.calling g mk a) rfl qN⟩, vx_Zq.moved (u := U) (U := U.calling g mk a) (Vm.Alike.refl U.vm) z1, vx_Zq.moved (u := U) (U := U.calling g mk a) (Vm.Alike.refl U.vm) z2⟩
theorem jZq {C n d : String} {A0 : Nat → Prop} {s : State} {H0 H : Heap} {locs : List Loc} {ws : va_W} (h : vx_Zq C n d A0 s H0) (hS : va_S A0 H0 H locs) (hF : ∀ q, va_A ws H.size q → A0 q) {U : State} (hU : U.heap = H) (hW : s.WarmedH U.vm) : vx_Zq C n d (va_A ws U.heap.size) U U.heap := by
  rw [hU]
  exact ((h.kept (H1 := H) hS.2.1).narrow hF).moved hW.alike
theorem jPreSX {D : va_G} {tys : List (ClassId × FieldType)} {s : State} {H0 H : Heap} {locs : List Loc} {ws : va_W} {A A0 : Nat → Prop} {As : List Value} (hK : va_K D vwCl tys s) (hP : va_P D vwCl ws H) (hD : va_D A ws) (hN : EN s) (hU : vx_Zq Bundle.tN "UNASSIGNED_STACK" Bundle.steD A0 s H0) (hSN : vx_Zq Bundle.tN "SUPPRESSED_SENTINEL" Bundle.listD A0 s H0) (hS : va_S A0 H0 H locs) (hF : ∀ q, va_A ws H.size q → A0 q) : PreS s H (va_Pc As (jPreX D tys H.size ws)) As :=
  ⟨jPreX.blind, fun U hUH hW => ⟨rfl, ⟨by rw [hUH], by rw [hUH]; exact hP, va_K.moved hW.alike hK, hD.weaken (fun _ _ _ _ => trivial), EN.warm hW hN⟩, jZq hU hS hF hUH hW, jZq hSN hS hF hUH hW⟩⟩
theorem jPreVX {D : va_G} {tys : List (ClassId × FieldType)} {s : State} {H0 H : Heap} {locs : List Loc} {ws : va_W} {A A0 : Nat → Prop} {As : List Value} {b ci : Nat} {q : vw_C} {fs : List Value} (hK : va_K D vwCl tys s) (hP : va_P D vwCl ws H) (hD : va_D A ws) (hN : EN s) (hU : vx_Zq Bundle.tN "UNASSIGNED_STACK" Bundle.steD A0 s H0) (hSN : vx_Zq Bundle.tN "SUPPRESSED_SENTINEL" Bundle.listD A0 s H0) (hS : va_S A0 H0 H locs) (hF : ∀ q, va_A ws H.size q → A0 q) (hc : vwCl[ci]? = some q) (he : ws[0]? = some (b, .inr (ci, fs))) : PreV s H q.1 b (va_Pc (.ref b :: As) (jPreX D tys H.size ws)) As :=
  ⟨jPreX.blind, va_recv hK hP (ci := ci) (q0 := 0) hc he, fun U hUH hW => ⟨rfl, ⟨by rw [hUH], by rw [hUH]; exact hP, va_K.moved hW.alike hK, hD.weaken (fun _ _ _ _ => trivial), EN.warm hW hN⟩, jZq hU hS hF hUH hW, jZq hSN hS hF hUH hW⟩⟩
/-! ===== methods that are known not to throw ===== -/
set_option maxHeartbeats 4000000 in
set_option maxRecDepth 100000 in
theorem c_X4_append_ok (l : Launch) (dC : Nat → ClassId) (dI : Nat → Nat → Nat) (cI : ClassId) (a : Nat → Nat) (sz : Nat) (S : S_LS) (v1 : Int32) (rr : Int32) (Y : S_LS) (hF : F_X4_append S v1 = some (.inr (rr, Y))) : Met l yX4_append wsX4_append ({ frames := 6, cells := 0, slots := 0, locals := 90 } : Room) (va_Pc [.ref (a 0), .int v1] (jPre (dC, dI) [(cI, .int)] sz ((W_LS cI a S)))) (va_Qi (fun (r' : Int32) (u : S_LS) => rr = r' ∧ Y = u) (fun u : S_LS => jB (dC, dI) [(cI, .int)] (va_A ((W_LS cI a S)) sz) ((W_LS cI a u))) (va_A ((W_LS cI a S)) sz)) 0 0 (va_A ((W_LS cI a S)) sz) := by
  refine Met.ofW (cc := cX4_append) (maxL := 2) (ret := (some .int)) (by decide) rfl ?_
  intro p e s m args below meth c s₁ B hml hv
  obtain ⟨rfl, hsz, hP, hK, hD0, hN⟩ := hv
  have hx := B.exec
  have hb := B.bytes
  have hr := B.returns
  have hts := atoms_spec (ws := wsX4_append) B.pre
  have hown : s.vm.findClass RX4 = some m.cls := findClass_of_methodNamed B.named
  have hlocks := B.notSynchronized
  have hinX4 : ∀ w ∈ u_ws RX4 TX4 8, w ∈ wsX4_append := by decide +kernel
  subst hsz
  have hD := hD0.self (sz := s.heap.size)
  generalize hAe : (va_A ((W_LS cI a S)) s.heap.size) = A at hD ⊢
  have hA : ∀ q : Nat, s.heap.size ≤ q → A q := fun q h => by rw [← hAe]; exact Or.inr h
  have hS : va_S A s.heap s.heap [] := va_S.rf
  have hl := lv_entry ([.ref (a 0), .int v1]) (n := 2) (Nat.le_of_ble_eq_true rfl)
  rw [lg_entry_eq]
  generalize (lg_sl ([.ref (a 0), .int v1]) ++ List.replicate (2 - (lg_sl ([.ref (a 0), .int v1])).length) Slot.unset).toArray = ls at hl ⊢
  have hl : lv_has ls 2 [(0, .ref (a 0)), (1, .int v1)] := hl
  have KE : ∀ (H : Heap) (locs : List Loc), va_P (dC, dI) vwCl ((W_LS cI a S)) H → va_D A ((W_LS cI a S)) → va_S A s.heap H locs → W p l e (headSpec wsX4_append ({ frames := 6, cells := 0, slots := 0, locals := 90 } : Room)).room s m ([.ref (a 0), .int v1] : List Value).toArray below meth c H locs 0 0 (MQ below (va_Qi (fun (r' : Int32) (u : S_LS) => rr = r' ∧ Y = u) (fun u : S_LS => jB (dC, dI) [(cI, .int)] A ((W_LS cI a u))) A) ([.ref (a 0), .int v1] : List Value).toArray s 0 0 A) (F0 m 0 ls []) := by
    intro H locs hP hD hS
    unfold F_X4_append at hF
    refine lv_iload_n hx hb dX4_append_0 rfl (lv_at hl 1 rfl) ?_
    refine lv_bipush (v := (33 : Int32)) hx hb dX4_append_1 (by decide) ?_
    refine lv_icmp_lt (tgt := 12) hx hb dX4_append_3 (by decide) (fun c1 => ?_) (fun c1 => ?_)
    · have hF := F_pos c1 hF
      exact nomatch hF
    · have hF := F_neg c1 hF
      refine lv_iload_n hx hb dX4_append_6 rfl (lv_at hl 1 rfl) ?_
      refine lv_bipush (v := (126 : Int32)) hx hb dX4_append_7 (by decide) ?_
      refine lv_icmp_le (tgt := 22) hx hb dX4_append_9 (by decide) (fun c2 => ?_) (fun c2 => ?_)
      · have hF := F_pos c2 hF
        refine lv_aload_n hx hb dX4_append_22 rfl (lv_at hl 0 rfl) ?_
        refine va_get (D := (dC, dI)) (ci := 4) (v := .int (g_LS_length S)) (C := RX4) (T := TX4) (N := 8) hx hb hts hinX4 hown hK hP 0 rfl rfl 1 (by decide) (hts (Cond.fieldLink RX4 56 "LearnedShapes" "length" "I") (List.mem_of_getElem? (i := 5) rfl)) (fun _ h9 => h9) rfl dX4_append_23 ?_
        refine lv_if_lt (tgt := 41) hx hb dX4_append_26 (by decide) (fun c3 => ?_) (fun c3 => ?_)
        · have hF := F_pos c3 hF
          exact nomatch hF
        · have hF := F_neg c3 hF
          refine lv_aload_n hx hb dX4_append_29 rfl (lv_at hl 0 rfl) ?_
          refine va_get (D := (dC, dI)) (ci := 4) (v := .int (g_LS_length S)) (C := RX4) (T := TX4) (N := 8) hx hb hts hinX4 hown hK hP 0 rfl rfl 1 (by decide) (hts (Cond.fieldLink RX4 56 "LearnedShapes" "length" "I") (List.mem_of_getElem? (i := 5) rfl)) (fun _ h9 => h9) rfl dX4_append_30 ?_
          refine lv_aload_n hx hb dX4_append_33 rfl (lv_at hl 0 rfl) ?_
          refine va_get (D := (dC, dI)) (ci := 4) (v := .ref (a 1)) (C := RX4) (T := TX4) (N := 8) hx hb hts hinX4 hown hK hP 0 rfl rfl 0 (by decide) (hts (Cond.fieldLink RX4 9 "LearnedShapes" "codes" "[I") (List.mem_of_getElem? (i := 6) rfl)) (fun _ h9 => h9) rfl dX4_append_34 ?_
          refine va_alen (v := (60 : Int32)) hx hb hK hP 1 0 rfl rfl rfl dX4_append_37 ?_
          refine lv_icmp_lt (tgt := 51) hx hb dX4_append_38 (by decide) (fun c4 => ?_) (fun c4 => ?_)
          · have hF := F_pos c4 hF
            refine lv_aload_n hx hb dX4_append_51 rfl (lv_at hl 0 rfl) ?_
            refine va_get (D := (dC, dI)) (ci := 4) (v := .ref (a 1)) (C := RX4) (T := TX4) (N := 8) hx hb hts hinX4 hown hK hP 0 rfl rfl 0 (by decide) (hts (Cond.fieldLink RX4 9 "LearnedShapes" "codes" "[I") (List.mem_of_getElem? (i := 6) rfl)) (fun _ h9 => h9) rfl dX4_append_52 ?_
            refine lv_aload_n hx hb dX4_append_55 rfl (lv_at hl 0 rfl) ?_
            refine va_get (D := (dC, dI)) (ci := 4) (v := .int (g_LS_length S)) (C := RX4) (T := TX4) (N := 8) hx hb hts hinX4 hown hK hP 0 rfl rfl 1 (by decide) (hts (Cond.fieldLink RX4 56 "LearnedShapes" "length" "I") (List.mem_of_getElem? (i := 5) rfl)) (fun _ h9 => h9) rfl dX4_append_56 ?_
            refine lv_iload_n hx hb dX4_append_59 rfl (lv_at hl 1 rfl) ?_
            obtain ⟨g5, hF⟩ := og_some hF
            refine va_iast (f := (g_LS_codes S)) hx hb hK hP hD hS 1 0 rfl rfl (inb_in g5) dX4_append_60 (fun H locs hP hD hS => ?_)
            have hP : va_P (dC, dI) vwCl ((W_LS cI a (s_LS_codes S (upd (g_LS_codes S) (g_LS_length S).toNatClampNeg v1)))) H := hP
            have hD : va_D A ((W_LS cI a (s_LS_codes S (upd (g_LS_codes S) (g_LS_length S).toNatClampNeg v1)))) := hD
            refine lv_aload_n hx hb dX4_append_61 rfl (lv_at hl 0 rfl) ?_
            refine lv_dup hx hb dX4_append_62 rfl ?_
            refine va_get (D := (dC, dI)) (ci := 4) (v := .int (g_LS_length S)) (C := RX4) (T := TX4) (N := 8) hx hb hts hinX4 hown hK hP 0 rfl rfl 1 (by decide) (hts (Cond.fieldLink RX4 56 "LearnedShapes" "length" "I") (List.mem_of_getElem? (i := 5) rfl)) (fun _ h9 => h9) rfl dX4_append_63 ?_
            refine lv_iconst (v := (1 : Int32)) hx hb dX4_append_66 (by decide) ?_
            refine lv_iadd hx hb dX4_append_67 ?_
            refine va_put (D := (dC, dI)) (ci := 4) (v := .int ((g_LS_length S) + (1 : Int32))) (ty := .int) (C := RX4) (T := TX4) (N := 8) hx hb hts hinX4 tyX4 tyX4_ok nmX4 hown hK hP hD hS 0 rfl rfl 1 (by decide) (hts (Cond.fieldLink RX4 56 "LearnedShapes" "length" "I") (List.mem_of_getElem? (i := 5) rfl)) (fun _ h9 => h9) rfl (by decide +kernel) (rfl) rfl (Nat.le_of_ble_eq_true rfl) dX4_append_68 (fun H locs hP hD hS => ?_)
            have hP : va_P (dC, dI) vwCl ((W_LS cI a (s_LS_length (s_LS_codes S (upd (g_LS_codes S) (g_LS_length S).toNatClampNeg v1)) ((g_LS_length S) + (1 : Int32))))) H := hP
            have hD : va_D A ((W_LS cI a (s_LS_length (s_LS_codes S (upd (g_LS_codes S) (g_LS_length S).toNatClampNeg v1)) ((g_LS_length S) + (1 : Int32))))) := hD
            refine lv_aload_n hx hb dX4_append_71 rfl (lv_at hl 0 rfl) ?_
            refine va_get (D := (dC, dI)) (ci := 4) (v := .int ((g_LS_length S) + (1 : Int32))) (C := RX4) (T := TX4) (N := 8) hx hb hts hinX4 hown hK hP 0 rfl rfl 1 (by decide) (hts (Cond.fieldLink RX4 56 "LearnedShapes" "length" "I") (List.mem_of_getElem? (i := 5) rfl)) (fun _ h9 => h9) rfl dX4_append_72 ?_
            have e50 := Sum.inr.inj (Option.some.inj hF)
            obtain ⟨e60, e51⟩ := Prod.mk.inj e50
            subst e60
            subst e51
            exact W.iret (v := ((g_LS_length S) + (1 : Int32))) hx hb hr (fun t ht hW => ⟨⟨((g_LS_length S) + (1 : Int32)), (s_LS_length (s_LS_codes S (upd (g_LS_codes S) (g_LS_length S).toNatClampNeg v1)) ((g_LS_length S) + (1 : Int32))), rfl, ⟨rfl, rfl⟩, by rw [ht]; exact hP, va_K.moved hW.alike hK, hD⟩, hS.F ht⟩) hS.2.2 dX4_append_75
          · have hF := F_neg c4 hF
            exact nomatch hF
      · have hF := F_neg c2 hF
        exact nomatch hF
  exact KE _ _ hP hD hS
set_option maxHeartbeats 4000000 in
set_option maxRecDepth 100000 in
theorem c_X4_node_ok (l : Launch) (dC : Nat → ClassId) (dI : Nat → Nat → Nat) (cI : ClassId) (a : Nat → Nat) (sz : Nat) (S : S_LS) (v1 : Int32) (v2 : Int32) (v3 : Int32) (rr : Int32) (hF : F_X4_node S v1 v2 v3 = some (.inr rr)) : Met l yX4_node wsX4_node ({ frames := 6, cells := 0, slots := 0, locals := 94 } : Room) (va_Pc [.ref (a 0), .int v1, .int v2, .int v3] (jPre (dC, dI) [(cI, .int)] sz ((W_LS cI a S)))) (va_Qi (fun (r' : Int32) (_ : Unit) => rr = r') (fun _ : Unit => jB (dC, dI) [(cI, .int)] (va_A ((W_LS cI a S)) sz) ((W_LS cI a S))) (va_A ((W_LS cI a S)) sz)) 0 0 (va_A ((W_LS cI a S)) sz) := by
  refine Met.ofW (cc := cX4_node) (maxL := 4) (ret := (some .int)) (by decide) rfl ?_
  intro p e s m args below meth c s₁ B hml hv
  obtain ⟨rfl, hsz, hP, hK, hD0, hN⟩ := hv
  have hx := B.exec
  have hb := B.bytes
  have hr := B.returns
  have hts := atoms_spec (ws := wsX4_node) B.pre
  have hown : s.vm.findClass RX4 = some m.cls := findClass_of_methodNamed B.named
  have hlocks := B.notSynchronized
  have hinX4 : ∀ w ∈ u_ws RX4 TX4 8, w ∈ wsX4_node := by decide +kernel
  subst hsz
  have hD := hD0.self (sz := s.heap.size)
  generalize hAe : (va_A ((W_LS cI a S)) s.heap.size) = A at hD ⊢
  have hA : ∀ q : Nat, s.heap.size ≤ q → A q := fun q h => by rw [← hAe]; exact Or.inr h
  have hS : va_S A s.heap s.heap [] := va_S.rf
  have hl := lv_entry ([.ref (a 0), .int v1, .int v2, .int v3]) (n := 4) (Nat.le_of_ble_eq_true rfl)
  rw [lg_entry_eq]
  generalize (lg_sl ([.ref (a 0), .int v1, .int v2, .int v3]) ++ List.replicate (4 - (lg_sl ([.ref (a 0), .int v1, .int v2, .int v3])).length) Slot.unset).toArray = ls at hl ⊢
  have hl : lv_has ls 4 [(0, .ref (a 0)), (1, .int v1), (2, .int v2), (3, .int v3)] := hl
  have KE : ∀ (H : Heap) (locs : List Loc), va_P (dC, dI) vwCl ((W_LS cI a S)) H → va_D A ((W_LS cI a S)) → va_S A s.heap H locs → W p l e (headSpec wsX4_node ({ frames := 6, cells := 0, slots := 0, locals := 94 } : Room)).room s m ([.ref (a 0), .int v1, .int v2, .int v3] : List Value).toArray below meth c H locs 0 0 (MQ below (va_Qi (fun (r' : Int32) (_ : Unit) => rr = r') (fun _ : Unit => jB (dC, dI) [(cI, .int)] A ((W_LS cI a S))) A) ([.ref (a 0), .int v1, .int v2, .int v3] : List Value).toArray s 0 0 A) (F0 m 0 ls []) := by
    intro H locs hP hD hS
    unfold F_X4_node at hF
    refine lv_iload_n hx hb dX4_node_0 rfl (lv_at hl 1 rfl) ?_
    obtain ⟨r1, h2, hF⟩ := ob1_some hF
    have hPc : va_P (dC, dI) vwCl ([] : va_W) H := fun k q h => by simp at h
    have hDc : va_D A ([] : va_W) := ⟨fun i j p q h => by simp at h, fun k q h => by simp at h⟩
    have hFc := jFreeW (ws := []) hDc hS hA
    refine va_calli (va_runS (As := [.int v1]) (rest := []) ⟨hx, hb, hml, hown, hts⟩ (c_X4_isShape l dC dI cI  H.size _ _ h2) (va_cwS 1 hts gX4_node_X4_isShape rfl rfl rfl (by decide +kernel) ⟨Nat.le_of_ble_eq_true rfl, Nat.le_of_ble_eq_true rfl⟩) (jPreS hK hPc hDc hN) rfl rfl hl.1 rfl (lv_room (Nat.le_of_ble_eq_true rfl)) dX4_node_1 ⟨Nat.le_of_ble_eq_true rfl, Nat.le_of_ble_eq_true rfl⟩) hS (fun q _ h => hFc q h) hFc (fun r' u' t H locs ht hvm hw hB hz1 hk1 hS => ?_)
    subst hw
    obtain ⟨hP1, -, hD1⟩ := hB
    rw [ht] at hP1
    have hP : va_P (dC, dI) vwCl ((W_LS cI a S)) H := jNone hP hk1
    refine lv_if_eq (tgt := 22) hx hb dX4_node_4 (by decide) (fun c3 => ?_) (fun c3 => ?_)
    · have hF := F_pos c3 hF
      exact nomatch hF
    · have hF := F_neg c3 hF
      refine lv_aload_n hx hb dX4_node_7 rfl (lv_at hl 0 rfl) ?_
      refine va_get (D := (dC, dI)) (ci := 4) (v := .ref (a 5)) (C := RX4) (T := TX4) (N := 8) hx hb hts hinX4 hown hK hP 0 rfl rfl 3 (by decide) (hts (Cond.fieldLink RX4 23 "LearnedShapes" "now" "LLearnedShapes$State;") (List.mem_of_getElem? (i := 5) rfl)) (fun _ h9 => h9) rfl dX4_node_8 ?_
      refine lv_iload_n hx hb dX4_node_11 rfl (lv_at hl 1 rfl) ?_
      by_cases c4 : v1 = 0
      · have hF := F_pos c4 hF
        have hPc := hP.sub (ws' := (W_State cI (sh a 5) (g_LS_now S))) [5, 6, 7, 8, 9] rfl
        have hDc := hD.sub (ws' := (W_State cI (sh a 5) (g_LS_now S))) [5, 6, 7, 8, 9] (by decide) rfl
        have hFc := va_free (wc := (W_State cI (sh a 5) (g_LS_now S))) hD hS hA [5, 6, 7, 8, 9] rfl
        refine va_callr (va_runV (As := [.int v1]) (rest := []) ⟨hx, hb, hml, hown, hts⟩ (c_X2_tree_first l dC dI cI (sh a 5) H.size _ _ c4) (cwV 1 hts gX4_node_X2_tree rfl rfl rfl (by decide +kernel) ⟨Nat.le_of_ble_eq_true rfl, Nat.le_of_ble_eq_true rfl⟩) (jPreV hK hPc hDc hN (ci := 2) rfl rfl) rfl rfl hl.1 rfl (lv_room (Nat.le_of_ble_eq_true rfl)) dX4_node_12 ⟨Nat.le_of_ble_eq_true rfl, Nat.le_of_ble_eq_true rfl⟩) hS (fun q _ h => hFc q h) hFc (fun u q9 t H locs ht hvm hw hB hz1 hk1 hS => ?_)
        obtain ⟨e9, hP1, -, hD1⟩ := hB
        subst e9
        rw [ht] at hP1
        obtain ⟨hP, hD⟩ := jJoin (wc := (W_State cI (sh a 5) (g_LS_now S))) (w1 := (W_State cI (sh a 5) (g_LS_now S))) (ws' := (W_LS cI a S)) hP hD [5, 6, 7, 8, 9] [0, 1, 2, 3, 4, 10, 11, 12] [0, 1, 2, 3, 4, 8, 9, 10, 11, 12, 5, 6, 7] rfl rfl (by decide) (by decide) hk1 hFc hP1 hD1 (by decide) rfl
        refine lv_iload_n hx hb dX4_node_15 rfl (lv_at hl 2 rfl) ?_
        obtain ⟨r5, h6, hF⟩ := ob1_some hF
        have hPc := hP.sub (ws' := (W_Tree cI (sh a 6) (g_State_first (g_LS_now S)))) [6, 7] rfl
        have hDc := hD.sub (ws' := (W_Tree cI (sh a 6) (g_State_first (g_LS_now S)))) [6, 7] (by decide) rfl
        have hFc := va_free (wc := (W_Tree cI (sh a 6) (g_State_first (g_LS_now S)))) hD hS hA [6, 7] rfl
        refine va_calli (va_runV (As := [.int v2]) (rest := []) ⟨hx, hb, hml, hown, hts⟩ (c_X3_has l dC dI cI (sh a 6) H.size _ _ _ h6) (cwV 1 hts gX4_node_X3_has rfl rfl rfl (by decide +kernel) ⟨Nat.le_of_ble_eq_true rfl, Nat.le_of_ble_eq_true rfl⟩) (jPreV hK hPc hDc hN (ci := 3) rfl rfl) rfl rfl hl.1 rfl (lv_room (Nat.le_of_ble_eq_true rfl)) dX4_node_16 ⟨Nat.le_of_ble_eq_true rfl, Nat.le_of_ble_eq_true rfl⟩) hS (fun q _ h => hFc q h) hFc (fun r' u' t H locs ht hvm hw hB hz1 hk1 hS => ?_)
        subst hw
        obtain ⟨hP1, -, hD1⟩ := hB
        rw [ht] at hP1
        obtain ⟨hP, hD⟩ := jJoin (wc := (W_Tree cI (sh a 6) (g_State_first (g_LS_now S)))) (w1 := (W_Tree cI (sh a 6) (g_State_first (g_LS_now S)))) (ws' := (W_LS cI a S)) hP hD [6, 7] [0, 1, 2, 3, 4, 5, 8, 9, 10, 11, 12] [0, 1, 2, 3, 4, 5, 11, 12, 6, 7, 8, 9, 10] rfl rfl (by decide) (by decide) hk1 hFc hP1 hD1 (by decide) rfl
        refine lv_if_ne (tgt := 32) hx hb dX4_node_19 (by decide) (fun c7 => ?_) (fun c7 => ?_)
        · have hF := F_neg c7 hF
          refine lv_iload_n hx hb dX4_node_32 rfl (lv_at hl 3 rfl) ?_
          refine lv_if_lt (tgt := 42) hx hb dX4_node_33 (by decide) (fun c8 => ?_) (fun c8 => ?_)
          · have hF := F_pos c8 hF
            exact nomatch hF
          · have hF := F_neg c8 hF
            refine lv_iload_n hx hb dX4_node_36 rfl (lv_at hl 3 rfl) ?_
            refine lv_bipush (v := (9 : Int32)) hx hb dX4_node_37 (by decide) ?_
            refine lv_icmp_le (tgt := 52) hx hb dX4_node_39 (by decide) (fun c9 => ?_) (fun c9 => ?_)
            · have hF := F_pos c9 hF
              refine lv_aload_n hx hb dX4_node_52 rfl (lv_at hl 0 rfl) ?_
              refine va_get (D := (dC, dI)) (ci := 4) (v := .ref (a 5)) (C := RX4) (T := TX4) (N := 8) hx hb hts hinX4 hown hK hP 0 rfl rfl 3 (by decide) (hts (Cond.fieldLink RX4 23 "LearnedShapes" "now" "LLearnedShapes$State;") (List.mem_of_getElem? (i := 5) rfl)) (fun _ h9 => h9) rfl dX4_node_53 ?_
              refine lv_iload_n hx hb dX4_node_56 rfl (lv_at hl 1 rfl) ?_
              have hPc := hP.sub (ws' := (W_State cI (sh a 5) (g_LS_now S))) [5, 6, 7, 8, 9] rfl
              have hDc := hD.sub (ws' := (W_State cI (sh a 5) (g_LS_now S))) [5, 6, 7, 8, 9] (by decide) rfl
              have hFc := va_free (wc := (W_State cI (sh a 5) (g_LS_now S))) hD hS hA [5, 6, 7, 8, 9] rfl
              refine va_callr (va_runV (As := [.int v1]) (rest := []) ⟨hx, hb, hml, hown, hts⟩ (c_X2_tree_first l dC dI cI (sh a 5) H.size _ _ c4) (cwV 1 hts gX4_node_X2_tree rfl rfl rfl (by decide +kernel) ⟨Nat.le_of_ble_eq_true rfl, Nat.le_of_ble_eq_true rfl⟩) (jPreV hK hPc hDc hN (ci := 2) rfl rfl) rfl rfl hl.1 rfl (lv_room (Nat.le_of_ble_eq_true rfl)) dX4_node_57 ⟨Nat.le_of_ble_eq_true rfl, Nat.le_of_ble_eq_true rfl⟩) hS (fun q _ h => hFc q h) hFc (fun u q9 t H locs ht hvm hw hB hz1 hk1 hS => ?_)
              obtain ⟨e9, hP1, -, hD1⟩ := hB
              subst e9
              rw [ht] at hP1
              obtain ⟨hP, hD⟩ := jJoin (wc := (W_State cI (sh a 5) (g_LS_now S))) (w1 := (W_State cI (sh a 5) (g_LS_now S))) (ws' := (W_LS cI a S)) hP hD [5, 6, 7, 8, 9] [0, 1, 2, 3, 4, 10, 11, 12] [0, 1, 2, 3, 4, 8, 9, 10, 11, 12, 5, 6, 7] rfl rfl (by decide) (by decide) hk1 hFc hP1 hD1 (by decide) rfl
              refine lv_iload_n hx hb dX4_node_60 rfl (lv_at hl 2 rfl) ?_
              refine lv_iload_n hx hb dX4_node_61 rfl (lv_at hl 3 rfl) ?_
              obtain ⟨r10, h11, hF⟩ := ob1_some hF
              have hPc := hP.sub (ws' := (W_Tree cI (sh a 6) (g_State_first (g_LS_now S)))) [6, 7] rfl
              have hDc := hD.sub (ws' := (W_Tree cI (sh a 6) (g_State_first (g_LS_now S)))) [6, 7] (by decide) rfl
              have hFc := va_free (wc := (W_Tree cI (sh a 6) (g_State_first (g_LS_now S)))) hD hS hA [6, 7] rfl
              refine va_calli (va_runS (As := [.ref (a 6), .int v2, .int v3]) (rest := []) ⟨hx, hb, hml, hown, hts⟩ (c_X4_nodeNumber l dC dI cI (sh a 6) H.size _ _ _ _ h11) (va_cwS 3 hts gX4_node_X4_nodeNumber rfl rfl rfl (by decide +kernel) ⟨Nat.le_of_ble_eq_true rfl, Nat.le_of_ble_eq_true rfl⟩) (jPreS hK hPc hDc hN) rfl rfl hl.1 rfl (lv_room (Nat.le_of_ble_eq_true rfl)) dX4_node_62 ⟨Nat.le_of_ble_eq_true rfl, Nat.le_of_ble_eq_true rfl⟩) hS (fun q _ h => hFc q h) hFc (fun r' u' t H locs ht hvm hw hB hz1 hk1 hS => ?_)
              subst hw
              obtain ⟨hP1, -, hD1⟩ := hB
              rw [ht] at hP1
              obtain ⟨hP, hD⟩ := jJoin (wc := (W_Tree cI (sh a 6) (g_State_first (g_LS_now S)))) (w1 := (W_Tree cI (sh a 6) (g_State_first (g_LS_now S)))) (ws' := (W_LS cI a S)) hP hD [6, 7] [0, 1, 2, 3, 4, 5, 8, 9, 10, 11, 12] [0, 1, 2, 3, 4, 5, 11, 12, 6, 7, 8, 9, 10] rfl rfl (by decide) (by decide) hk1 hFc hP1 hD1 (by decide) rfl
              have e50 := Sum.inr.inj (Option.some.inj hF)
              subst e50
              exact W.iret (v := r10) hx hb hr (fun t ht hW => ⟨⟨r10, (), rfl, rfl, by rw [ht]; exact hP, va_K.moved hW.alike hK, hD⟩, hS.F ht⟩) hS.2.2 dX4_node_65
            · have hF := F_neg c9 hF
              exact nomatch hF
        · have hF := F_pos c7 hF
          exact nomatch hF
      · have hF := F_neg c4 hF
        have hPc := hP.sub (ws' := (W_State cI (sh a 5) (g_LS_now S))) [5, 6, 7, 8, 9] rfl
        have hDc := hD.sub (ws' := (W_State cI (sh a 5) (g_LS_now S))) [5, 6, 7, 8, 9] (by decide) rfl
        have hFc := va_free (wc := (W_State cI (sh a 5) (g_LS_now S))) hD hS hA [5, 6, 7, 8, 9] rfl
        refine va_callr (va_runV (As := [.int v1]) (rest := []) ⟨hx, hb, hml, hown, hts⟩ (c_X2_tree_second l dC dI cI (sh a 5) H.size _ _ c4) (cwV 1 hts gX4_node_X2_tree rfl rfl rfl (by decide +kernel) ⟨Nat.le_of_ble_eq_true rfl, Nat.le_of_ble_eq_true rfl⟩) (jPreV hK hPc hDc hN (ci := 2) rfl rfl) rfl rfl hl.1 rfl (lv_room (Nat.le_of_ble_eq_true rfl)) dX4_node_12 ⟨Nat.le_of_ble_eq_true rfl, Nat.le_of_ble_eq_true rfl⟩) hS (fun q _ h => hFc q h) hFc (fun u q9 t H locs ht hvm hw hB hz1 hk1 hS => ?_)
        obtain ⟨e9, hP1, -, hD1⟩ := hB
        subst e9
        rw [ht] at hP1
        obtain ⟨hP, hD⟩ := jJoin (wc := (W_State cI (sh a 5) (g_LS_now S))) (w1 := (W_State cI (sh a 5) (g_LS_now S))) (ws' := (W_LS cI a S)) hP hD [5, 6, 7, 8, 9] [0, 1, 2, 3, 4, 10, 11, 12] [0, 1, 2, 3, 4, 8, 9, 10, 11, 12, 5, 6, 7] rfl rfl (by decide) (by decide) hk1 hFc hP1 hD1 (by decide) rfl
        refine lv_iload_n hx hb dX4_node_15 rfl (lv_at hl 2 rfl) ?_
        obtain ⟨r12, h13, hF⟩ := ob1_some hF
        have hPc := hP.sub (ws' := (W_Tree cI (sh a 8) (g_State_second (g_LS_now S)))) [8, 9] rfl
        have hDc := hD.sub (ws' := (W_Tree cI (sh a 8) (g_State_second (g_LS_now S)))) [8, 9] (by decide) rfl
        have hFc := va_free (wc := (W_Tree cI (sh a 8) (g_State_second (g_LS_now S)))) hD hS hA [8, 9] rfl
        refine va_calli (va_runV (As := [.int v2]) (rest := []) ⟨hx, hb, hml, hown, hts⟩ (c_X3_has l dC dI cI (sh a 8) H.size _ _ _ h13) (cwV 1 hts gX4_node_X3_has rfl rfl rfl (by decide +kernel) ⟨Nat.le_of_ble_eq_true rfl, Nat.le_of_ble_eq_true rfl⟩) (jPreV hK hPc hDc hN (ci := 3) rfl rfl) rfl rfl hl.1 rfl (lv_room (Nat.le_of_ble_eq_true rfl)) dX4_node_16 ⟨Nat.le_of_ble_eq_true rfl, Nat.le_of_ble_eq_true rfl⟩) hS (fun q _ h => hFc q h) hFc (fun r' u' t H locs ht hvm hw hB hz1 hk1 hS => ?_)
        subst hw
        obtain ⟨hP1, -, hD1⟩ := hB
        rw [ht] at hP1
        obtain ⟨hP, hD⟩ := jJoin (wc := (W_Tree cI (sh a 8) (g_State_second (g_LS_now S)))) (w1 := (W_Tree cI (sh a 8) (g_State_second (g_LS_now S)))) (ws' := (W_LS cI a S)) hP hD [8, 9] [0, 1, 2, 3, 4, 5, 6, 7, 10, 11, 12] [0, 1, 2, 3, 4, 5, 6, 7, 11, 12, 8, 9, 10] rfl rfl (by decide) (by decide) hk1 hFc hP1 hD1 (by decide) rfl
        refine lv_if_ne (tgt := 32) hx hb dX4_node_19 (by decide) (fun c14 => ?_) (fun c14 => ?_)
        · have hF := F_neg c14 hF
          refine lv_iload_n hx hb dX4_node_32 rfl (lv_at hl 3 rfl) ?_
          refine lv_if_lt (tgt := 42) hx hb dX4_node_33 (by decide) (fun c15 => ?_) (fun c15 => ?_)
          · have hF := F_pos c15 hF
            exact nomatch hF
          · have hF := F_neg c15 hF
            refine lv_iload_n hx hb dX4_node_36 rfl (lv_at hl 3 rfl) ?_
            refine lv_bipush (v := (9 : Int32)) hx hb dX4_node_37 (by decide) ?_
            refine lv_icmp_le (tgt := 52) hx hb dX4_node_39 (by decide) (fun c16 => ?_) (fun c16 => ?_)
            · have hF := F_pos c16 hF
              refine lv_aload_n hx hb dX4_node_52 rfl (lv_at hl 0 rfl) ?_
              refine va_get (D := (dC, dI)) (ci := 4) (v := .ref (a 5)) (C := RX4) (T := TX4) (N := 8) hx hb hts hinX4 hown hK hP 0 rfl rfl 3 (by decide) (hts (Cond.fieldLink RX4 23 "LearnedShapes" "now" "LLearnedShapes$State;") (List.mem_of_getElem? (i := 5) rfl)) (fun _ h9 => h9) rfl dX4_node_53 ?_
              refine lv_iload_n hx hb dX4_node_56 rfl (lv_at hl 1 rfl) ?_
              have hPc := hP.sub (ws' := (W_State cI (sh a 5) (g_LS_now S))) [5, 6, 7, 8, 9] rfl
              have hDc := hD.sub (ws' := (W_State cI (sh a 5) (g_LS_now S))) [5, 6, 7, 8, 9] (by decide) rfl
              have hFc := va_free (wc := (W_State cI (sh a 5) (g_LS_now S))) hD hS hA [5, 6, 7, 8, 9] rfl
              refine va_callr (va_runV (As := [.int v1]) (rest := []) ⟨hx, hb, hml, hown, hts⟩ (c_X2_tree_second l dC dI cI (sh a 5) H.size _ _ c4) (cwV 1 hts gX4_node_X2_tree rfl rfl rfl (by decide +kernel) ⟨Nat.le_of_ble_eq_true rfl, Nat.le_of_ble_eq_true rfl⟩) (jPreV hK hPc hDc hN (ci := 2) rfl rfl) rfl rfl hl.1 rfl (lv_room (Nat.le_of_ble_eq_true rfl)) dX4_node_57 ⟨Nat.le_of_ble_eq_true rfl, Nat.le_of_ble_eq_true rfl⟩) hS (fun q _ h => hFc q h) hFc (fun u q9 t H locs ht hvm hw hB hz1 hk1 hS => ?_)
              obtain ⟨e9, hP1, -, hD1⟩ := hB
              subst e9
              rw [ht] at hP1
              obtain ⟨hP, hD⟩ := jJoin (wc := (W_State cI (sh a 5) (g_LS_now S))) (w1 := (W_State cI (sh a 5) (g_LS_now S))) (ws' := (W_LS cI a S)) hP hD [5, 6, 7, 8, 9] [0, 1, 2, 3, 4, 10, 11, 12] [0, 1, 2, 3, 4, 8, 9, 10, 11, 12, 5, 6, 7] rfl rfl (by decide) (by decide) hk1 hFc hP1 hD1 (by decide) rfl
              refine lv_iload_n hx hb dX4_node_60 rfl (lv_at hl 2 rfl) ?_
              refine lv_iload_n hx hb dX4_node_61 rfl (lv_at hl 3 rfl) ?_
              obtain ⟨r17, h18, hF⟩ := ob1_some hF
              have hPc := hP.sub (ws' := (W_Tree cI (sh a 8) (g_State_second (g_LS_now S)))) [8, 9] rfl
              have hDc := hD.sub (ws' := (W_Tree cI (sh a 8) (g_State_second (g_LS_now S)))) [8, 9] (by decide) rfl
              have hFc := va_free (wc := (W_Tree cI (sh a 8) (g_State_second (g_LS_now S)))) hD hS hA [8, 9] rfl
              refine va_calli (va_runS (As := [.ref (a 8), .int v2, .int v3]) (rest := []) ⟨hx, hb, hml, hown, hts⟩ (c_X4_nodeNumber l dC dI cI (sh a 8) H.size _ _ _ _ h18) (va_cwS 3 hts gX4_node_X4_nodeNumber rfl rfl rfl (by decide +kernel) ⟨Nat.le_of_ble_eq_true rfl, Nat.le_of_ble_eq_true rfl⟩) (jPreS hK hPc hDc hN) rfl rfl hl.1 rfl (lv_room (Nat.le_of_ble_eq_true rfl)) dX4_node_62 ⟨Nat.le_of_ble_eq_true rfl, Nat.le_of_ble_eq_true rfl⟩) hS (fun q _ h => hFc q h) hFc (fun r' u' t H locs ht hvm hw hB hz1 hk1 hS => ?_)
              subst hw
              obtain ⟨hP1, -, hD1⟩ := hB
              rw [ht] at hP1
              obtain ⟨hP, hD⟩ := jJoin (wc := (W_Tree cI (sh a 8) (g_State_second (g_LS_now S)))) (w1 := (W_Tree cI (sh a 8) (g_State_second (g_LS_now S)))) (ws' := (W_LS cI a S)) hP hD [8, 9] [0, 1, 2, 3, 4, 5, 6, 7, 10, 11, 12] [0, 1, 2, 3, 4, 5, 6, 7, 11, 12, 8, 9, 10] rfl rfl (by decide) (by decide) hk1 hFc hP1 hD1 (by decide) rfl
              have e50 := Sum.inr.inj (Option.some.inj hF)
              subst e50
              exact W.iret (v := r17) hx hb hr (fun t ht hW => ⟨⟨r17, (), rfl, rfl, by rw [ht]; exact hP, va_K.moved hW.alike hK, hD⟩, hS.F ht⟩) hS.2.2 dX4_node_65
            · have hF := F_neg c16 hF
              exact nomatch hF
        · have hF := F_pos c14 hF
          exact nomatch hF
  exact KE _ _ hP hD hS
set_option maxHeartbeats 4000000 in
set_option maxRecDepth 100000 in
theorem c_X4_child_ok (l : Launch) (dC : Nat → ClassId) (dI : Nat → Nat → Nat) (cI : ClassId) (a : Nat → Nat) (sz : Nat) (S : S_LS) (v1 : Int32) (v2 : Int32) (v3 : Int32) (rr : Int32) (hF : F_X4_child S v1 v2 v3 = some (.inr rr)) : Met l yX4_child wsX4_child ({ frames := 6, cells := 0, slots := 0, locals := 90 } : Room) (va_Pc [.ref (a 0), .int v1, .int v2, .int v3] (jPre (dC, dI) [(cI, .int)] sz ((W_LS cI a S)))) (va_Qi (fun (r' : Int32) (_ : Unit) => rr = r') (fun _ : Unit => jB (dC, dI) [(cI, .int)] (va_A ((W_LS cI a S)) sz) ((W_LS cI a S))) (va_A ((W_LS cI a S)) sz)) 0 0 (va_A ((W_LS cI a S)) sz) := by
  refine Met.ofW (cc := cX4_child) (maxL := 4) (ret := (some .int)) (by decide) rfl ?_
  intro p e s m args below meth c s₁ B hml hv
  obtain ⟨rfl, hsz, hP, hK, hD0, hN⟩ := hv
  have hx := B.exec
  have hb := B.bytes
  have hr := B.returns
  have hts := atoms_spec (ws := wsX4_child) B.pre
  have hown : s.vm.findClass RX4 = some m.cls := findClass_of_methodNamed B.named
  have hlocks := B.notSynchronized
  have hinX4 : ∀ w ∈ u_ws RX4 TX4 8, w ∈ wsX4_child := by decide +kernel
  subst hsz
  have hD := hD0.self (sz := s.heap.size)
  generalize hAe : (va_A ((W_LS cI a S)) s.heap.size) = A at hD ⊢
  have hA : ∀ q : Nat, s.heap.size ≤ q → A q := fun q h => by rw [← hAe]; exact Or.inr h
  have hS : va_S A s.heap s.heap [] := va_S.rf
  have hl := lv_entry ([.ref (a 0), .int v1, .int v2, .int v3]) (n := 4) (Nat.le_of_ble_eq_true rfl)
  rw [lg_entry_eq]
  generalize (lg_sl ([.ref (a 0), .int v1, .int v2, .int v3]) ++ List.replicate (4 - (lg_sl ([.ref (a 0), .int v1, .int v2, .int v3])).length) Slot.unset).toArray = ls at hl ⊢
  have hl : lv_has ls 4 [(0, .ref (a 0)), (1, .int v1), (2, .int v2), (3, .int v3)] := hl
  have KE : ∀ (H : Heap) (locs : List Loc), va_P (dC, dI) vwCl ((W_LS cI a S)) H → va_D A ((W_LS cI a S)) → va_S A s.heap H locs → W p l e (headSpec wsX4_child ({ frames := 6, cells := 0, slots := 0, locals := 90 } : Room)).room s m ([.ref (a 0), .int v1, .int v2, .int v3] : List Value).toArray below meth c H locs 0 0 (MQ below (va_Qi (fun (r' : Int32) (_ : Unit) => rr = r') (fun _ : Unit => jB (dC, dI) [(cI, .int)] A ((W_LS cI a S))) A) ([.ref (a 0), .int v1, .int v2, .int v3] : List Value).toArray s 0 0 A) (F0 m 0 ls []) := by
    intro H locs hP hD hS
    unfold F_X4_child at hF
    refine lv_iload_n hx hb dX4_child_0 rfl (lv_at hl 1 rfl) ?_
    obtain ⟨r1, h2, hF⟩ := ob1_some hF
    have hPc : va_P (dC, dI) vwCl ([] : va_W) H := fun k q h => by simp at h
    have hDc : va_D A ([] : va_W) := ⟨fun i j p q h => by simp at h, fun k q h => by simp at h⟩
    have hFc := jFreeW (ws := []) hDc hS hA
    refine va_calli (va_runS (As := [.int v1]) (rest := []) ⟨hx, hb, hml, hown, hts⟩ (c_X4_isShape l dC dI cI  H.size _ _ h2) (va_cwS 1 hts gX4_child_X4_isShape rfl rfl rfl (by decide +kernel) ⟨Nat.le_of_ble_eq_true rfl, Nat.le_of_ble_eq_true rfl⟩) (jPreS hK hPc hDc hN) rfl rfl hl.1 rfl (lv_room (Nat.le_of_ble_eq_true rfl)) dX4_child_1 ⟨Nat.le_of_ble_eq_true rfl, Nat.le_of_ble_eq_true rfl⟩) hS (fun q _ h => hFc q h) hFc (fun r' u' t H locs ht hvm hw hB hz1 hk1 hS => ?_)
    subst hw
    obtain ⟨hP1, -, hD1⟩ := hB
    rw [ht] at hP1
    have hP : va_P (dC, dI) vwCl ((W_LS cI a S)) H := jNone hP hk1
    refine lv_if_eq (tgt := 22) hx hb dX4_child_4 (by decide) (fun c3 => ?_) (fun c3 => ?_)
    · have hF := F_pos c3 hF
      exact nomatch hF
    · have hF := F_neg c3 hF
      refine lv_aload_n hx hb dX4_child_7 rfl (lv_at hl 0 rfl) ?_
      refine va_get (D := (dC, dI)) (ci := 4) (v := .ref (a 5)) (C := RX4) (T := TX4) (N := 8) hx hb hts hinX4 hown hK hP 0 rfl rfl 3 (by decide) (hts (Cond.fieldLink RX4 23 "LearnedShapes" "now" "LLearnedShapes$State;") (List.mem_of_getElem? (i := 5) rfl)) (fun _ h9 => h9) rfl dX4_child_8 ?_
      refine lv_iload_n hx hb dX4_child_11 rfl (lv_at hl 1 rfl) ?_
      by_cases c4 : v1 = 0
      · have hF := F_pos c4 hF
        have hPc := hP.sub (ws' := (W_State cI (sh a 5) (g_LS_now S))) [5, 6, 7, 8, 9] rfl
        have hDc := hD.sub (ws' := (W_State cI (sh a 5) (g_LS_now S))) [5, 6, 7, 8, 9] (by decide) rfl
        have hFc := va_free (wc := (W_State cI (sh a 5) (g_LS_now S))) hD hS hA [5, 6, 7, 8, 9] rfl
        refine va_callr (va_runV (As := [.int v1]) (rest := []) ⟨hx, hb, hml, hown, hts⟩ (c_X2_tree_first l dC dI cI (sh a 5) H.size _ _ c4) (cwV 1 hts gX4_child_X2_tree rfl rfl rfl (by decide +kernel) ⟨Nat.le_of_ble_eq_true rfl, Nat.le_of_ble_eq_true rfl⟩) (jPreV hK hPc hDc hN (ci := 2) rfl rfl) rfl rfl hl.1 rfl (lv_room (Nat.le_of_ble_eq_true rfl)) dX4_child_12 ⟨Nat.le_of_ble_eq_true rfl, Nat.le_of_ble_eq_true rfl⟩) hS (fun q _ h => hFc q h) hFc (fun u q9 t H locs ht hvm hw hB hz1 hk1 hS => ?_)
        obtain ⟨e9, hP1, -, hD1⟩ := hB
        subst e9
        rw [ht] at hP1
        obtain ⟨hP, hD⟩ := jJoin (wc := (W_State cI (sh a 5) (g_LS_now S))) (w1 := (W_State cI (sh a 5) (g_LS_now S))) (ws' := (W_LS cI a S)) hP hD [5, 6, 7, 8, 9] [0, 1, 2, 3, 4, 10, 11, 12] [0, 1, 2, 3, 4, 8, 9, 10, 11, 12, 5, 6, 7] rfl rfl (by decide) (by decide) hk1 hFc hP1 hD1 (by decide) rfl
        refine lv_iload_n hx hb dX4_child_15 rfl (lv_at hl 2 rfl) ?_
        obtain ⟨r5, h6, hF⟩ := ob1_some hF
        have hPc := hP.sub (ws' := (W_Tree cI (sh a 6) (g_State_first (g_LS_now S)))) [6, 7] rfl
        have hDc := hD.sub (ws' := (W_Tree cI (sh a 6) (g_State_first (g_LS_now S)))) [6, 7] (by decide) rfl
        have hFc := va_free (wc := (W_Tree cI (sh a 6) (g_State_first (g_LS_now S)))) hD hS hA [6, 7] rfl
        refine va_calli (va_runV (As := [.int v2]) (rest := []) ⟨hx, hb, hml, hown, hts⟩ (c_X3_has l dC dI cI (sh a 6) H.size _ _ _ h6) (cwV 1 hts gX4_child_X3_has rfl rfl rfl (by decide +kernel) ⟨Nat.le_of_ble_eq_true rfl, Nat.le_of_ble_eq_true rfl⟩) (jPreV hK hPc hDc hN (ci := 3) rfl rfl) rfl rfl hl.1 rfl (lv_room (Nat.le_of_ble_eq_true rfl)) dX4_child_16 ⟨Nat.le_of_ble_eq_true rfl, Nat.le_of_ble_eq_true rfl⟩) hS (fun q _ h => hFc q h) hFc (fun r' u' t H locs ht hvm hw hB hz1 hk1 hS => ?_)
        subst hw
        obtain ⟨hP1, -, hD1⟩ := hB
        rw [ht] at hP1
        obtain ⟨hP, hD⟩ := jJoin (wc := (W_Tree cI (sh a 6) (g_State_first (g_LS_now S)))) (w1 := (W_Tree cI (sh a 6) (g_State_first (g_LS_now S)))) (ws' := (W_LS cI a S)) hP hD [6, 7] [0, 1, 2, 3, 4, 5, 8, 9, 10, 11, 12] [0, 1, 2, 3, 4, 5, 11, 12, 6, 7, 8, 9, 10] rfl rfl (by decide) (by decide) hk1 hFc hP1 hD1 (by decide) rfl
        refine lv_if_ne (tgt := 32) hx hb dX4_child_19 (by decide) (fun c7 => ?_) (fun c7 => ?_)
        · have hF := F_neg c7 hF
          refine lv_iload_n hx hb dX4_child_32 rfl (lv_at hl 3 rfl) ?_
          refine lv_if_lt (tgt := 42) hx hb dX4_child_33 (by decide) (fun c8 => ?_) (fun c8 => ?_)
          · have hF := F_pos c8 hF
            exact nomatch hF
          · have hF := F_neg c8 hF
            refine lv_iload_n hx hb dX4_child_36 rfl (lv_at hl 3 rfl) ?_
            refine lv_bipush (v := (8 : Int32)) hx hb dX4_child_37 (by decide) ?_
            refine lv_icmp_le (tgt := 52) hx hb dX4_child_39 (by decide) (fun c9 => ?_) (fun c9 => ?_)
            · have hF := F_pos c9 hF
              refine lv_aload_n hx hb dX4_child_52 rfl (lv_at hl 0 rfl) ?_
              refine va_get (D := (dC, dI)) (ci := 4) (v := .ref (a 5)) (C := RX4) (T := TX4) (N := 8) hx hb hts hinX4 hown hK hP 0 rfl rfl 3 (by decide) (hts (Cond.fieldLink RX4 23 "LearnedShapes" "now" "LLearnedShapes$State;") (List.mem_of_getElem? (i := 5) rfl)) (fun _ h9 => h9) rfl dX4_child_53 ?_
              refine lv_iload_n hx hb dX4_child_56 rfl (lv_at hl 1 rfl) ?_
              have hPc := hP.sub (ws' := (W_State cI (sh a 5) (g_LS_now S))) [5, 6, 7, 8, 9] rfl
              have hDc := hD.sub (ws' := (W_State cI (sh a 5) (g_LS_now S))) [5, 6, 7, 8, 9] (by decide) rfl
              have hFc := va_free (wc := (W_State cI (sh a 5) (g_LS_now S))) hD hS hA [5, 6, 7, 8, 9] rfl
              refine va_callr (va_runV (As := [.int v1]) (rest := []) ⟨hx, hb, hml, hown, hts⟩ (c_X2_tree_first l dC dI cI (sh a 5) H.size _ _ c4) (cwV 1 hts gX4_child_X2_tree rfl rfl rfl (by decide +kernel) ⟨Nat.le_of_ble_eq_true rfl, Nat.le_of_ble_eq_true rfl⟩) (jPreV hK hPc hDc hN (ci := 2) rfl rfl) rfl rfl hl.1 rfl (lv_room (Nat.le_of_ble_eq_true rfl)) dX4_child_57 ⟨Nat.le_of_ble_eq_true rfl, Nat.le_of_ble_eq_true rfl⟩) hS (fun q _ h => hFc q h) hFc (fun u q9 t H locs ht hvm hw hB hz1 hk1 hS => ?_)
              obtain ⟨e9, hP1, -, hD1⟩ := hB
              subst e9
              rw [ht] at hP1
              obtain ⟨hP, hD⟩ := jJoin (wc := (W_State cI (sh a 5) (g_LS_now S))) (w1 := (W_State cI (sh a 5) (g_LS_now S))) (ws' := (W_LS cI a S)) hP hD [5, 6, 7, 8, 9] [0, 1, 2, 3, 4, 10, 11, 12] [0, 1, 2, 3, 4, 8, 9, 10, 11, 12, 5, 6, 7] rfl rfl (by decide) (by decide) hk1 hFc hP1 hD1 (by decide) rfl
              refine lv_iload_n hx hb dX4_child_60 rfl (lv_at hl 2 rfl) ?_
              refine lv_iload_n hx hb dX4_child_61 rfl (lv_at hl 3 rfl) ?_
              obtain ⟨r10, h11, hF⟩ := ob1_some hF
              have hPc := hP.sub (ws' := (W_Tree cI (sh a 6) (g_State_first (g_LS_now S)))) [6, 7] rfl
              have hDc := hD.sub (ws' := (W_Tree cI (sh a 6) (g_State_first (g_LS_now S)))) [6, 7] (by decide) rfl
              have hFc := va_free (wc := (W_Tree cI (sh a 6) (g_State_first (g_LS_now S)))) hD hS hA [6, 7] rfl
              refine va_calli (va_runV (As := [.int v2, .int v3]) (rest := []) ⟨hx, hb, hml, hown, hts⟩ (c_X3_findBelow l dC dI cI (sh a 6) H.size _ _ _ _ h11) (cwV 2 hts gX4_child_X3_findBelow rfl rfl rfl (by decide +kernel) ⟨Nat.le_of_ble_eq_true rfl, Nat.le_of_ble_eq_true rfl⟩) (jPreV hK hPc hDc hN (ci := 3) rfl rfl) rfl rfl hl.1 rfl (lv_room (Nat.le_of_ble_eq_true rfl)) dX4_child_62 ⟨Nat.le_of_ble_eq_true rfl, Nat.le_of_ble_eq_true rfl⟩) hS (fun q _ h => hFc q h) hFc (fun r' u' t H locs ht hvm hw hB hz1 hk1 hS => ?_)
              subst hw
              obtain ⟨hP1, -, hD1⟩ := hB
              rw [ht] at hP1
              obtain ⟨hP, hD⟩ := jJoin (wc := (W_Tree cI (sh a 6) (g_State_first (g_LS_now S)))) (w1 := (W_Tree cI (sh a 6) (g_State_first (g_LS_now S)))) (ws' := (W_LS cI a S)) hP hD [6, 7] [0, 1, 2, 3, 4, 5, 8, 9, 10, 11, 12] [0, 1, 2, 3, 4, 5, 11, 12, 6, 7, 8, 9, 10] rfl rfl (by decide) (by decide) hk1 hFc hP1 hD1 (by decide) rfl
              have e50 := Sum.inr.inj (Option.some.inj hF)
              subst e50
              exact W.iret (v := r10) hx hb hr (fun t ht hW => ⟨⟨r10, (), rfl, rfl, by rw [ht]; exact hP, va_K.moved hW.alike hK, hD⟩, hS.F ht⟩) hS.2.2 dX4_child_65
            · have hF := F_neg c9 hF
              exact nomatch hF
        · have hF := F_pos c7 hF
          exact nomatch hF
      · have hF := F_neg c4 hF
        have hPc := hP.sub (ws' := (W_State cI (sh a 5) (g_LS_now S))) [5, 6, 7, 8, 9] rfl
        have hDc := hD.sub (ws' := (W_State cI (sh a 5) (g_LS_now S))) [5, 6, 7, 8, 9] (by decide) rfl
        have hFc := va_free (wc := (W_State cI (sh a 5) (g_LS_now S))) hD hS hA [5, 6, 7, 8, 9] rfl
        refine va_callr (va_runV (As := [.int v1]) (rest := []) ⟨hx, hb, hml, hown, hts⟩ (c_X2_tree_second l dC dI cI (sh a 5) H.size _ _ c4) (cwV 1 hts gX4_child_X2_tree rfl rfl rfl (by decide +kernel) ⟨Nat.le_of_ble_eq_true rfl, Nat.le_of_ble_eq_true rfl⟩) (jPreV hK hPc hDc hN (ci := 2) rfl rfl) rfl rfl hl.1 rfl (lv_room (Nat.le_of_ble_eq_true rfl)) dX4_child_12 ⟨Nat.le_of_ble_eq_true rfl, Nat.le_of_ble_eq_true rfl⟩) hS (fun q _ h => hFc q h) hFc (fun u q9 t H locs ht hvm hw hB hz1 hk1 hS => ?_)
        obtain ⟨e9, hP1, -, hD1⟩ := hB
        subst e9
        rw [ht] at hP1
        obtain ⟨hP, hD⟩ := jJoin (wc := (W_State cI (sh a 5) (g_LS_now S))) (w1 := (W_State cI (sh a 5) (g_LS_now S))) (ws' := (W_LS cI a S)) hP hD [5, 6, 7, 8, 9] [0, 1, 2, 3, 4, 10, 11, 12] [0, 1, 2, 3, 4, 8, 9, 10, 11, 12, 5, 6, 7] rfl rfl (by decide) (by decide) hk1 hFc hP1 hD1 (by decide) rfl
        refine lv_iload_n hx hb dX4_child_15 rfl (lv_at hl 2 rfl) ?_
        obtain ⟨r12, h13, hF⟩ := ob1_some hF
        have hPc := hP.sub (ws' := (W_Tree cI (sh a 8) (g_State_second (g_LS_now S)))) [8, 9] rfl
        have hDc := hD.sub (ws' := (W_Tree cI (sh a 8) (g_State_second (g_LS_now S)))) [8, 9] (by decide) rfl
        have hFc := va_free (wc := (W_Tree cI (sh a 8) (g_State_second (g_LS_now S)))) hD hS hA [8, 9] rfl
        refine va_calli (va_runV (As := [.int v2]) (rest := []) ⟨hx, hb, hml, hown, hts⟩ (c_X3_has l dC dI cI (sh a 8) H.size _ _ _ h13) (cwV 1 hts gX4_child_X3_has rfl rfl rfl (by decide +kernel) ⟨Nat.le_of_ble_eq_true rfl, Nat.le_of_ble_eq_true rfl⟩) (jPreV hK hPc hDc hN (ci := 3) rfl rfl) rfl rfl hl.1 rfl (lv_room (Nat.le_of_ble_eq_true rfl)) dX4_child_16 ⟨Nat.le_of_ble_eq_true rfl, Nat.le_of_ble_eq_true rfl⟩) hS (fun q _ h => hFc q h) hFc (fun r' u' t H locs ht hvm hw hB hz1 hk1 hS => ?_)
        subst hw
        obtain ⟨hP1, -, hD1⟩ := hB
        rw [ht] at hP1
        obtain ⟨hP, hD⟩ := jJoin (wc := (W_Tree cI (sh a 8) (g_State_second (g_LS_now S)))) (w1 := (W_Tree cI (sh a 8) (g_State_second (g_LS_now S)))) (ws' := (W_LS cI a S)) hP hD [8, 9] [0, 1, 2, 3, 4, 5, 6, 7, 10, 11, 12] [0, 1, 2, 3, 4, 5, 6, 7, 11, 12, 8, 9, 10] rfl rfl (by decide) (by decide) hk1 hFc hP1 hD1 (by decide) rfl
        refine lv_if_ne (tgt := 32) hx hb dX4_child_19 (by decide) (fun c14 => ?_) (fun c14 => ?_)
        · have hF := F_neg c14 hF
          refine lv_iload_n hx hb dX4_child_32 rfl (lv_at hl 3 rfl) ?_
          refine lv_if_lt (tgt := 42) hx hb dX4_child_33 (by decide) (fun c15 => ?_) (fun c15 => ?_)
          · have hF := F_pos c15 hF
            exact nomatch hF
          · have hF := F_neg c15 hF
            refine lv_iload_n hx hb dX4_child_36 rfl (lv_at hl 3 rfl) ?_
            refine lv_bipush (v := (8 : Int32)) hx hb dX4_child_37 (by decide) ?_
            refine lv_icmp_le (tgt := 52) hx hb dX4_child_39 (by decide) (fun c16 => ?_) (fun c16 => ?_)
            · have hF := F_pos c16 hF
              refine lv_aload_n hx hb dX4_child_52 rfl (lv_at hl 0 rfl) ?_
              refine va_get (D := (dC, dI)) (ci := 4) (v := .ref (a 5)) (C := RX4) (T := TX4) (N := 8) hx hb hts hinX4 hown hK hP 0 rfl rfl 3 (by decide) (hts (Cond.fieldLink RX4 23 "LearnedShapes" "now" "LLearnedShapes$State;") (List.mem_of_getElem? (i := 5) rfl)) (fun _ h9 => h9) rfl dX4_child_53 ?_
              refine lv_iload_n hx hb dX4_child_56 rfl (lv_at hl 1 rfl) ?_
              have hPc := hP.sub (ws' := (W_State cI (sh a 5) (g_LS_now S))) [5, 6, 7, 8, 9] rfl
              have hDc := hD.sub (ws' := (W_State cI (sh a 5) (g_LS_now S))) [5, 6, 7, 8, 9] (by decide) rfl
              have hFc := va_free (wc := (W_State cI (sh a 5) (g_LS_now S))) hD hS hA [5, 6, 7, 8, 9] rfl
              refine va_callr (va_runV (As := [.int v1]) (rest := []) ⟨hx, hb, hml, hown, hts⟩ (c_X2_tree_second l dC dI cI (sh a 5) H.size _ _ c4) (cwV 1 hts gX4_child_X2_tree rfl rfl rfl (by decide +kernel) ⟨Nat.le_of_ble_eq_true rfl, Nat.le_of_ble_eq_true rfl⟩) (jPreV hK hPc hDc hN (ci := 2) rfl rfl) rfl rfl hl.1 rfl (lv_room (Nat.le_of_ble_eq_true rfl)) dX4_child_57 ⟨Nat.le_of_ble_eq_true rfl, Nat.le_of_ble_eq_true rfl⟩) hS (fun q _ h => hFc q h) hFc (fun u q9 t H locs ht hvm hw hB hz1 hk1 hS => ?_)
              obtain ⟨e9, hP1, -, hD1⟩ := hB
              subst e9
              rw [ht] at hP1
              obtain ⟨hP, hD⟩ := jJoin (wc := (W_State cI (sh a 5) (g_LS_now S))) (w1 := (W_State cI (sh a 5) (g_LS_now S))) (ws' := (W_LS cI a S)) hP hD [5, 6, 7, 8, 9] [0, 1, 2, 3, 4, 10, 11, 12] [0, 1, 2, 3, 4, 8, 9, 10, 11, 12, 5, 6, 7] rfl rfl (by decide) (by decide) hk1 hFc hP1 hD1 (by decide) rfl
              refine lv_iload_n hx hb dX4_child_60 rfl (lv_at hl 2 rfl) ?_
              refine lv_iload_n hx hb dX4_child_61 rfl (lv_at hl 3 rfl) ?_
              obtain ⟨r17, h18, hF⟩ := ob1_some hF
              have hPc := hP.sub (ws' := (W_Tree cI (sh a 8) (g_State_second (g_LS_now S)))) [8, 9] rfl
              have hDc := hD.sub (ws' := (W_Tree cI (sh a 8) (g_State_second (g_LS_now S)))) [8, 9] (by decide) rfl
              have hFc := va_free (wc := (W_Tree cI (sh a 8) (g_State_second (g_LS_now S)))) hD hS hA [8, 9] rfl
              refine va_calli (va_runV (As := [.int v2, .int v3]) (rest := []) ⟨hx, hb, hml, hown, hts⟩ (c_X3_findBelow l dC dI cI (sh a 8) H.size _ _ _ _ h18) (cwV 2 hts gX4_child_X3_findBelow rfl rfl rfl (by decide +kernel) ⟨Nat.le_of_ble_eq_true rfl, Nat.le_of_ble_eq_true rfl⟩) (jPreV hK hPc hDc hN (ci := 3) rfl rfl) rfl rfl hl.1 rfl (lv_room (Nat.le_of_ble_eq_true rfl)) dX4_child_62 ⟨Nat.le_of_ble_eq_true rfl, Nat.le_of_ble_eq_true rfl⟩) hS (fun q _ h => hFc q h) hFc (fun r' u' t H locs ht hvm hw hB hz1 hk1 hS => ?_)
              subst hw
              obtain ⟨hP1, -, hD1⟩ := hB
              rw [ht] at hP1
              obtain ⟨hP, hD⟩ := jJoin (wc := (W_Tree cI (sh a 8) (g_State_second (g_LS_now S)))) (w1 := (W_Tree cI (sh a 8) (g_State_second (g_LS_now S)))) (ws' := (W_LS cI a S)) hP hD [8, 9] [0, 1, 2, 3, 4, 5, 6, 7, 10, 11, 12] [0, 1, 2, 3, 4, 5, 6, 7, 11, 12, 8, 9, 10] rfl rfl (by decide) (by decide) hk1 hFc hP1 hD1 (by decide) rfl
              have e50 := Sum.inr.inj (Option.some.inj hF)
              subst e50
              exact W.iret (v := r17) hx hb hr (fun t ht hW => ⟨⟨r17, (), rfl, rfl, by rw [ht]; exact hP, va_K.moved hW.alike hK, hD⟩, hS.F ht⟩) hS.2.2 dX4_child_65
            · have hF := F_neg c16 hF
              exact nomatch hF
        · have hF := F_pos c14 hF
          exact nomatch hF
  exact KE _ _ hP hD hS
set_option maxHeartbeats 4000000 in
set_option maxRecDepth 100000 in
theorem c_X4_shape_ok (l : Launch) (dC : Nat → ClassId) (dI : Nat → Nat → Nat) (cI : ClassId) (a : Nat → Nat) (sz : Nat) (S : S_LS) (v1 : Int32) (v2 : Int32) (rr : Int32) (hF : F_X4_shape S v1 v2 = some (.inr rr)) : Met l yX4_shape wsX4_shape ({ frames := 6, cells := 0, slots := 0, locals := 90 } : Room) (va_Pc [.ref (a 0), .int v1, .int v2] (jPre (dC, dI) [(cI, .int)] sz ((W_LS cI a S)))) (va_Qi (fun (r' : Int32) (_ : Unit) => rr = r') (fun _ : Unit => jB (dC, dI) [(cI, .int)] (va_A ((W_LS cI a S)) sz) ((W_LS cI a S))) (va_A ((W_LS cI a S)) sz)) 0 0 (va_A ((W_LS cI a S)) sz) := by
  refine Met.ofW (cc := cX4_shape) (maxL := 3) (ret := (some .int)) (by decide) rfl ?_
  intro p e s m args below meth c s₁ B hml hv
  obtain ⟨rfl, hsz, hP, hK, hD0, hN⟩ := hv
  have hx := B.exec
  have hb := B.bytes
  have hr := B.returns
  have hts := atoms_spec (ws := wsX4_shape) B.pre
  have hown : s.vm.findClass RX4 = some m.cls := findClass_of_methodNamed B.named
  have hlocks := B.notSynchronized
  have hinX4 : ∀ w ∈ u_ws RX4 TX4 8, w ∈ wsX4_shape := by decide +kernel
  subst hsz
  have hD := hD0.self (sz := s.heap.size)
  generalize hAe : (va_A ((W_LS cI a S)) s.heap.size) = A at hD ⊢
  have hA : ∀ q : Nat, s.heap.size ≤ q → A q := fun q h => by rw [← hAe]; exact Or.inr h
  have hS : va_S A s.heap s.heap [] := va_S.rf
  have hl := lv_entry ([.ref (a 0), .int v1, .int v2]) (n := 3) (Nat.le_of_ble_eq_true rfl)
  rw [lg_entry_eq]
  generalize (lg_sl ([.ref (a 0), .int v1, .int v2]) ++ List.replicate (3 - (lg_sl ([.ref (a 0), .int v1, .int v2])).length) Slot.unset).toArray = ls at hl ⊢
  have hl : lv_has ls 3 [(0, .ref (a 0)), (1, .int v1), (2, .int v2)] := hl
  have KE : ∀ (H : Heap) (locs : List Loc), va_P (dC, dI) vwCl ((W_LS cI a S)) H → va_D A ((W_LS cI a S)) → va_S A s.heap H locs → W p l e (headSpec wsX4_shape ({ frames := 6, cells := 0, slots := 0, locals := 90 } : Room)).room s m ([.ref (a 0), .int v1, .int v2] : List Value).toArray below meth c H locs 0 0 (MQ below (va_Qi (fun (r' : Int32) (_ : Unit) => rr = r') (fun _ : Unit => jB (dC, dI) [(cI, .int)] A ((W_LS cI a S))) A) ([.ref (a 0), .int v1, .int v2] : List Value).toArray s 0 0 A) (F0 m 0 ls []) := by
    intro H locs hP hD hS
    unfold F_X4_shape at hF
    refine lv_iload_n hx hb dX4_shape_0 rfl (lv_at hl 1 rfl) ?_
    obtain ⟨r1, h2, hF⟩ := ob1_some hF
    have hPc : va_P (dC, dI) vwCl ([] : va_W) H := fun k q h => by simp at h
    have hDc : va_D A ([] : va_W) := ⟨fun i j p q h => by simp at h, fun k q h => by simp at h⟩
    have hFc := jFreeW (ws := []) hDc hS hA
    refine va_calli (va_runS (As := [.int v1]) (rest := []) ⟨hx, hb, hml, hown, hts⟩ (c_X4_isShape l dC dI cI  H.size _ _ h2) (va_cwS 1 hts gX4_shape_X4_isShape rfl rfl rfl (by decide +kernel) ⟨Nat.le_of_ble_eq_true rfl, Nat.le_of_ble_eq_true rfl⟩) (jPreS hK hPc hDc hN) rfl rfl hl.1 rfl (lv_room (Nat.le_of_ble_eq_true rfl)) dX4_shape_1 ⟨Nat.le_of_ble_eq_true rfl, Nat.le_of_ble_eq_true rfl⟩) hS (fun q _ h => hFc q h) hFc (fun r' u' t H locs ht hvm hw hB hz1 hk1 hS => ?_)
    subst hw
    obtain ⟨hP1, -, hD1⟩ := hB
    rw [ht] at hP1
    have hP : va_P (dC, dI) vwCl ((W_LS cI a S)) H := jNone hP hk1
    refine lv_if_ne (tgt := 17) hx hb dX4_shape_4 (by decide) (fun c3 => ?_) (fun c3 => ?_)
    · have hF := F_neg c3 hF
      refine lv_iload_n hx hb dX4_shape_17 rfl (lv_at hl 2 rfl) ?_
      refine lv_if_lt (tgt := 26) hx hb dX4_shape_18 (by decide) (fun c4 => ?_) (fun c4 => ?_)
      · have hF := F_pos c4 hF
        exact nomatch hF
      · have hF := F_neg c4 hF
        refine lv_iload_n hx hb dX4_shape_21 rfl (lv_at hl 2 rfl) ?_
        refine lv_iconst (v := (5 : Int32)) hx hb dX4_shape_22 (by decide) ?_
        refine lv_icmp_le (tgt := 36) hx hb dX4_shape_23 (by decide) (fun c5 => ?_) (fun c5 => ?_)
        · have hF := F_pos c5 hF
          refine lv_aload_n hx hb dX4_shape_36 rfl (lv_at hl 0 rfl) ?_
          refine va_get (D := (dC, dI)) (ci := 4) (v := .ref (a 5)) (C := RX4) (T := TX4) (N := 8) hx hb hts hinX4 hown hK hP 0 rfl rfl 3 (by decide) (hts (Cond.fieldLink RX4 23 "LearnedShapes" "now" "LLearnedShapes$State;") (List.mem_of_getElem? (i := 5) rfl)) (fun _ h9 => h9) rfl dX4_shape_37 ?_
          refine lv_iload_n hx hb dX4_shape_40 rfl (lv_at hl 1 rfl) ?_
          by_cases c6 : v1 = 0
          · have hF := F_pos c6 hF
            have hPc := hP.sub (ws' := (W_State cI (sh a 5) (g_LS_now S))) [5, 6, 7, 8, 9] rfl
            have hDc := hD.sub (ws' := (W_State cI (sh a 5) (g_LS_now S))) [5, 6, 7, 8, 9] (by decide) rfl
            have hFc := va_free (wc := (W_State cI (sh a 5) (g_LS_now S))) hD hS hA [5, 6, 7, 8, 9] rfl
            refine va_callr (va_runV (As := [.int v1]) (rest := []) ⟨hx, hb, hml, hown, hts⟩ (c_X2_tree_first l dC dI cI (sh a 5) H.size _ _ c6) (cwV 1 hts gX4_shape_X2_tree rfl rfl rfl (by decide +kernel) ⟨Nat.le_of_ble_eq_true rfl, Nat.le_of_ble_eq_true rfl⟩) (jPreV hK hPc hDc hN (ci := 2) rfl rfl) rfl rfl hl.1 rfl (lv_room (Nat.le_of_ble_eq_true rfl)) dX4_shape_41 ⟨Nat.le_of_ble_eq_true rfl, Nat.le_of_ble_eq_true rfl⟩) hS (fun q _ h => hFc q h) hFc (fun u q9 t H locs ht hvm hw hB hz1 hk1 hS => ?_)
            obtain ⟨e9, hP1, -, hD1⟩ := hB
            subst e9
            rw [ht] at hP1
            obtain ⟨hP, hD⟩ := jJoin (wc := (W_State cI (sh a 5) (g_LS_now S))) (w1 := (W_State cI (sh a 5) (g_LS_now S))) (ws' := (W_LS cI a S)) hP hD [5, 6, 7, 8, 9] [0, 1, 2, 3, 4, 10, 11, 12] [0, 1, 2, 3, 4, 8, 9, 10, 11, 12, 5, 6, 7] rfl rfl (by decide) (by decide) hk1 hFc hP1 hD1 (by decide) rfl
            refine lv_iload_n hx hb dX4_shape_44 rfl (lv_at hl 2 rfl) ?_
            obtain ⟨r7, h8, hF⟩ := ob1_some hF
            have hPc := hP.sub (ws' := (W_Tree cI (sh a 6) (g_State_first (g_LS_now S)))) [6, 7] rfl
            have hDc := hD.sub (ws' := (W_Tree cI (sh a 6) (g_State_first (g_LS_now S)))) [6, 7] (by decide) rfl
            have hFc := va_free (wc := (W_Tree cI (sh a 6) (g_State_first (g_LS_now S)))) hD hS hA [6, 7] rfl
            refine va_calli (va_runS (As := [.ref (a 6), .int v2]) (rest := []) ⟨hx, hb, hml, hown, hts⟩ (c_X4_shapeNumber l dC dI cI (sh a 6) H.size _ _ _ h8) (va_cwS 2 hts gX4_shape_X4_shapeNumber rfl rfl rfl (by decide +kernel) ⟨Nat.le_of_ble_eq_true rfl, Nat.le_of_ble_eq_true rfl⟩) (jPreS hK hPc hDc hN) rfl rfl hl.1 rfl (lv_room (Nat.le_of_ble_eq_true rfl)) dX4_shape_45 ⟨Nat.le_of_ble_eq_true rfl, Nat.le_of_ble_eq_true rfl⟩) hS (fun q _ h => hFc q h) hFc (fun r' u' t H locs ht hvm hw hB hz1 hk1 hS => ?_)
            subst hw
            obtain ⟨hP1, -, hD1⟩ := hB
            rw [ht] at hP1
            obtain ⟨hP, hD⟩ := jJoin (wc := (W_Tree cI (sh a 6) (g_State_first (g_LS_now S)))) (w1 := (W_Tree cI (sh a 6) (g_State_first (g_LS_now S)))) (ws' := (W_LS cI a S)) hP hD [6, 7] [0, 1, 2, 3, 4, 5, 8, 9, 10, 11, 12] [0, 1, 2, 3, 4, 5, 11, 12, 6, 7, 8, 9, 10] rfl rfl (by decide) (by decide) hk1 hFc hP1 hD1 (by decide) rfl
            have e50 := Sum.inr.inj (Option.some.inj hF)
            subst e50
            exact W.iret (v := r7) hx hb hr (fun t ht hW => ⟨⟨r7, (), rfl, rfl, by rw [ht]; exact hP, va_K.moved hW.alike hK, hD⟩, hS.F ht⟩) hS.2.2 dX4_shape_48
          · have hF := F_neg c6 hF
            have hPc := hP.sub (ws' := (W_State cI (sh a 5) (g_LS_now S))) [5, 6, 7, 8, 9] rfl
            have hDc := hD.sub (ws' := (W_State cI (sh a 5) (g_LS_now S))) [5, 6, 7, 8, 9] (by decide) rfl
            have hFc := va_free (wc := (W_State cI (sh a 5) (g_LS_now S))) hD hS hA [5, 6, 7, 8, 9] rfl
            refine va_callr (va_runV (As := [.int v1]) (rest := []) ⟨hx, hb, hml, hown, hts⟩ (c_X2_tree_second l dC dI cI (sh a 5) H.size _ _ c6) (cwV 1 hts gX4_shape_X2_tree rfl rfl rfl (by decide +kernel) ⟨Nat.le_of_ble_eq_true rfl, Nat.le_of_ble_eq_true rfl⟩) (jPreV hK hPc hDc hN (ci := 2) rfl rfl) rfl rfl hl.1 rfl (lv_room (Nat.le_of_ble_eq_true rfl)) dX4_shape_41 ⟨Nat.le_of_ble_eq_true rfl, Nat.le_of_ble_eq_true rfl⟩) hS (fun q _ h => hFc q h) hFc (fun u q9 t H locs ht hvm hw hB hz1 hk1 hS => ?_)
            obtain ⟨e9, hP1, -, hD1⟩ := hB
            subst e9
            rw [ht] at hP1
            obtain ⟨hP, hD⟩ := jJoin (wc := (W_State cI (sh a 5) (g_LS_now S))) (w1 := (W_State cI (sh a 5) (g_LS_now S))) (ws' := (W_LS cI a S)) hP hD [5, 6, 7, 8, 9] [0, 1, 2, 3, 4, 10, 11, 12] [0, 1, 2, 3, 4, 8, 9, 10, 11, 12, 5, 6, 7] rfl rfl (by decide) (by decide) hk1 hFc hP1 hD1 (by decide) rfl
            refine lv_iload_n hx hb dX4_shape_44 rfl (lv_at hl 2 rfl) ?_
            obtain ⟨r9, h10, hF⟩ := ob1_some hF
            have hPc := hP.sub (ws' := (W_Tree cI (sh a 8) (g_State_second (g_LS_now S)))) [8, 9] rfl
            have hDc := hD.sub (ws' := (W_Tree cI (sh a 8) (g_State_second (g_LS_now S)))) [8, 9] (by decide) rfl
            have hFc := va_free (wc := (W_Tree cI (sh a 8) (g_State_second (g_LS_now S)))) hD hS hA [8, 9] rfl
            refine va_calli (va_runS (As := [.ref (a 8), .int v2]) (rest := []) ⟨hx, hb, hml, hown, hts⟩ (c_X4_shapeNumber l dC dI cI (sh a 8) H.size _ _ _ h10) (va_cwS 2 hts gX4_shape_X4_shapeNumber rfl rfl rfl (by decide +kernel) ⟨Nat.le_of_ble_eq_true rfl, Nat.le_of_ble_eq_true rfl⟩) (jPreS hK hPc hDc hN) rfl rfl hl.1 rfl (lv_room (Nat.le_of_ble_eq_true rfl)) dX4_shape_45 ⟨Nat.le_of_ble_eq_true rfl, Nat.le_of_ble_eq_true rfl⟩) hS (fun q _ h => hFc q h) hFc (fun r' u' t H locs ht hvm hw hB hz1 hk1 hS => ?_)
            subst hw
            obtain ⟨hP1, -, hD1⟩ := hB
            rw [ht] at hP1
            obtain ⟨hP, hD⟩ := jJoin (wc := (W_Tree cI (sh a 8) (g_State_second (g_LS_now S)))) (w1 := (W_Tree cI (sh a 8) (g_State_second (g_LS_now S)))) (ws' := (W_LS cI a S)) hP hD [8, 9] [0, 1, 2, 3, 4, 5, 6, 7, 10, 11, 12] [0, 1, 2, 3, 4, 5, 6, 7, 11, 12, 8, 9, 10] rfl rfl (by decide) (by decide) hk1 hFc hP1 hD1 (by decide) rfl
            have e50 := Sum.inr.inj (Option.some.inj hF)
            subst e50
            exact W.iret (v := r9) hx hb hr (fun t ht hW => ⟨⟨r9, (), rfl, rfl, by rw [ht]; exact hP, va_K.moved hW.alike hK, hD⟩, hS.F ht⟩) hS.2.2 dX4_shape_48
        · have hF := F_neg c5 hF
          exact nomatch hF
    · have hF := F_pos c3 hF
      exact nomatch hF
  exact KE _ _ hP hD hS
set_option maxHeartbeats 4000000 in
set_option maxRecDepth 100000 in
theorem c_X4_count_ok (l : Launch) (dC : Nat → ClassId) (dI : Nat → Nat → Nat) (cI : ClassId) (a : Nat → Nat) (sz : Nat) (S : S_LS) (v1 : Int32) (rr : Int32) (hF : F_X4_count S v1 = some (.inr rr)) : Met l yX4_count wsX4_count ({ frames := 6, cells := 0, slots := 0, locals := 90 } : Room) (va_Pc [.ref (a 0), .int v1] (jPre (dC, dI) [(cI, .int)] sz ((W_LS cI a S)))) (va_Qi (fun (r' : Int32) (_ : Unit) => rr = r') (fun _ : Unit => jB (dC, dI) [(cI, .int)] (va_A ((W_LS cI a S)) sz) ((W_LS cI a S))) (va_A ((W_LS cI a S)) sz)) 0 0 (va_A ((W_LS cI a S)) sz) := by
  refine Met.ofW (cc := cX4_count) (maxL := 2) (ret := (some .int)) (by decide) rfl ?_
  intro p e s m args below meth c s₁ B hml hv
  obtain ⟨rfl, hsz, hP, hK, hD0, hN⟩ := hv
  have hx := B.exec
  have hb := B.bytes
  have hr := B.returns
  have hts := atoms_spec (ws := wsX4_count) B.pre
  have hown : s.vm.findClass RX4 = some m.cls := findClass_of_methodNamed B.named
  have hlocks := B.notSynchronized
  subst hsz
  have hD := hD0.self (sz := s.heap.size)
  generalize hAe : (va_A ((W_LS cI a S)) s.heap.size) = A at hD ⊢
  have hA : ∀ q : Nat, s.heap.size ≤ q → A q := fun q h => by rw [← hAe]; exact Or.inr h
  have hS : va_S A s.heap s.heap [] := va_S.rf
  have hl := lv_entry ([.ref (a 0), .int v1]) (n := 2) (Nat.le_of_ble_eq_true rfl)
  rw [lg_entry_eq]
  generalize (lg_sl ([.ref (a 0), .int v1]) ++ List.replicate (2 - (lg_sl ([.ref (a 0), .int v1])).length) Slot.unset).toArray = ls at hl ⊢
  have hl : lv_has ls 2 [(0, .ref (a 0)), (1, .int v1)] := hl
  have KE : ∀ (H : Heap) (locs : List Loc), va_P (dC, dI) vwCl ((W_LS cI a S)) H → va_D A ((W_LS cI a S)) → va_S A s.heap H locs → W p l e (headSpec wsX4_count ({ frames := 6, cells := 0, slots := 0, locals := 90 } : Room)).room s m ([.ref (a 0), .int v1] : List Value).toArray below meth c H locs 0 0 (MQ below (va_Qi (fun (r' : Int32) (_ : Unit) => rr = r') (fun _ : Unit => jB (dC, dI) [(cI, .int)] A ((W_LS cI a S))) A) ([.ref (a 0), .int v1] : List Value).toArray s 0 0 A) (F0 m 0 ls []) := by
    intro H locs hP hD hS
    unfold F_X4_count at hF
    refine lv_iload_n hx hb dX4_count_0 rfl (lv_at hl 1 rfl) ?_
    refine lv_if_lt (tgt := 9) hx hb dX4_count_1 (by decide) (fun c1 => ?_) (fun c1 => ?_)
    · have hF := F_pos c1 hF
      exact nomatch hF
    · have hF := F_neg c1 hF
      refine lv_iload_n hx hb dX4_count_4 rfl (lv_at hl 1 rfl) ?_
      refine lv_iconst (v := (2 : Int32)) hx hb dX4_count_5 (by decide) ?_
      refine lv_icmp_le (tgt := 19) hx hb dX4_count_6 (by decide) (fun c2 => ?_) (fun c2 => ?_)
      · have hF := F_pos c2 hF
        refine lv_aload_n hx hb dX4_count_19 rfl (lv_at hl 0 rfl) ?_
        refine lv_iload_n hx hb dX4_count_20 rfl (lv_at hl 1 rfl) ?_
        obtain ⟨r3, h4, hF⟩ := ob1_some hF
        have hPc : va_P (dC, dI) vwCl ((W_LS cI a S)) H := hP
        have hDc : va_D A ((W_LS cI a S)) := hD
        have hFc := jFreeW (ws := (W_LS cI a S)) hD hS hA
        refine va_calli (va_runV (As := [.int v1]) (rest := []) ⟨hx, hb, hml, hown, hts⟩ (c_X4_stateNumber l dC dI cI a H.size _ _ _ h4) (cwV 1 hts gX4_count_X4_stateNumber rfl rfl rfl (by decide +kernel) ⟨Nat.le_of_ble_eq_true rfl, Nat.le_of_ble_eq_true rfl⟩) (jPreV hK hPc hDc hN (ci := 4) rfl rfl) rfl rfl hl.1 rfl (lv_room (Nat.le_of_ble_eq_true rfl)) dX4_count_21 ⟨Nat.le_of_ble_eq_true rfl, Nat.le_of_ble_eq_true rfl⟩) hS (fun q _ h => hFc q h) hFc (fun r' u' t H locs ht hvm hw hB hz1 hk1 hS => ?_)
        subst hw
        obtain ⟨hP1, -, hD1⟩ := hB
        rw [ht] at hP1
        have hP : va_P (dC, dI) vwCl ((W_LS cI a S)) H := hP1
        have hD : va_D A ((W_LS cI a S)) := hD1.weaken (fun _ _ _ h => hFc _ h)
        have e50 := Sum.inr.inj (Option.some.inj hF)
        subst e50
        exact W.iret (v := r3) hx hb hr (fun t ht hW => ⟨⟨r3, (), rfl, rfl, by rw [ht]; exact hP, va_K.moved hW.alike hK, hD⟩, hS.F ht⟩) hS.2.2 dX4_count_24
      · have hF := F_neg c2 hF
        exact nomatch hF
  exact KE _ _ hP hD hS
set_option maxHeartbeats 4000000 in
set_option maxRecDepth 100000 in
theorem c_X4_ifLearned_ok (l : Launch) (dC : Nat → ClassId) (dI : Nat → Nat → Nat) (cI : ClassId) (a : Nat → Nat) (sz : Nat) (S : S_LS) (v1 : Int32) (v2 : Int32) (rr : Int32) (Y : S_LS) (hF : F_X4_ifLearned S v1 v2 = some (.inr (rr, Y))) : Met l yX4_ifLearned wsX4_ifLearned ({ frames := 6, cells := 0, slots := 0, locals := 164 } : Room) (va_Pc [.ref (a 0), .int v1, .int v2] (jPre (dC, dI) [(cI, .int)] sz ((W_LS cI a S)))) (va_Qi (fun (r' : Int32) (u : S_LS) => rr = r' ∧ Y = u) (fun u : S_LS => jB (dC, dI) [(cI, .int)] (va_A ((W_LS cI a S)) sz) ((W_LS cI a u))) (va_A ((W_LS cI a S)) sz)) 0 0 (va_A ((W_LS cI a S)) sz) := by
  refine Met.ofW (cc := cX4_ifLearned) (maxL := 3) (ret := (some .int)) (by decide) rfl ?_
  intro p e s m args below meth c s₁ B hml hv
  obtain ⟨rfl, hsz, hP, hK, hD0, hN⟩ := hv
  have hx := B.exec
  have hb := B.bytes
  have hr := B.returns
  have hts := atoms_spec (ws := wsX4_ifLearned) B.pre
  have hown : s.vm.findClass RX4 = some m.cls := findClass_of_methodNamed B.named
  have hlocks := B.notSynchronized
  have hinX4 : ∀ w ∈ u_ws RX4 TX4 8, w ∈ wsX4_ifLearned := by decide +kernel
  subst hsz
  have hD := hD0.self (sz := s.heap.size)
  generalize hAe : (va_A ((W_LS cI a S)) s.heap.size) = A at hD ⊢
  have hA : ∀ q : Nat, s.heap.size ≤ q → A q := fun q h => by rw [← hAe]; exact Or.inr h
  have hS : va_S A s.heap s.heap [] := va_S.rf
  have hl := lv_entry ([.ref (a 0), .int v1, .int v2]) (n := 3) (Nat.le_of_ble_eq_true rfl)
  rw [lg_entry_eq]
  generalize (lg_sl ([.ref (a 0), .int v1, .int v2]) ++ List.replicate (3 - (lg_sl ([.ref (a 0), .int v1, .int v2])).length) Slot.unset).toArray = ls at hl ⊢
  have hl : lv_has ls 3 [(0, .ref (a 0)), (1, .int v1), (2, .int v2)] := hl
  have KE : ∀ (H : Heap) (locs : List Loc), va_P (dC, dI) vwCl ((W_LS cI a S)) H → va_D A ((W_LS cI a S)) → va_S A s.heap H locs → W p l e (headSpec wsX4_ifLearned ({ frames := 6, cells := 0, slots := 0, locals := 164 } : Room)).room s m ([.ref (a 0), .int v1, .int v2] : List Value).toArray below meth c H locs 0 0 (MQ below (va_Qi (fun (r' : Int32) (u : S_LS) => rr = r' ∧ Y = u) (fun u : S_LS => jB (dC, dI) [(cI, .int)] A ((W_LS cI a u))) A) ([.ref (a 0), .int v1, .int v2] : List Value).toArray s 0 0 A) (F0 m 0 ls []) := by
    intro H locs hP hD hS
    unfold F_X4_ifLearned at hF
    refine lv_iload_n hx hb dX4_ifLearned_0 rfl (lv_at hl 1 rfl) ?_
    obtain ⟨r1, h2, hF⟩ := ob1_some hF
    have hPc : va_P (dC, dI) vwCl ([] : va_W) H := fun k q h => by simp at h
    have hDc : va_D A ([] : va_W) := ⟨fun i j p q h => by simp at h, fun k q h => by simp at h⟩
    have hFc := jFreeW (ws := []) hDc hS hA
    refine va_calli (va_runS (As := [.int v1]) (rest := []) ⟨hx, hb, hml, hown, hts⟩ (c_X4_isShape l dC dI cI  H.size _ _ h2) (va_cwS 1 hts gX4_ifLearned_X4_isShape rfl rfl rfl (by decide +kernel) ⟨Nat.le_of_ble_eq_true rfl, Nat.le_of_ble_eq_true rfl⟩) (jPreS hK hPc hDc hN) rfl rfl hl.1 rfl (lv_room (Nat.le_of_ble_eq_true rfl)) dX4_ifLearned_1 ⟨Nat.le_of_ble_eq_true rfl, Nat.le_of_ble_eq_true rfl⟩) hS (fun q _ h => hFc q h) hFc (fun r' u' t H locs ht hvm hw hB hz1 hk1 hS => ?_)
    subst hw
    obtain ⟨hP1, -, hD1⟩ := hB
    rw [ht] at hP1
    have hP : va_P (dC, dI) vwCl ((W_LS cI a S)) H := jNone hP hk1
    refine lv_if_ne (tgt := 17) hx hb dX4_ifLearned_4 (by decide) (fun c3 => ?_) (fun c3 => ?_)
    · have hF := F_neg c3 hF
      refine lv_iload_n hx hb dX4_ifLearned_17 rfl (lv_at hl 2 rfl) ?_
      refine lv_if_lt (tgt := 26) hx hb dX4_ifLearned_18 (by decide) (fun c4 => ?_) (fun c4 => ?_)
      · have hF := F_pos c4 hF
        exact nomatch hF
      · have hF := F_neg c4 hF
        refine lv_iload_n hx hb dX4_ifLearned_21 rfl (lv_at hl 2 rfl) ?_
        refine lv_iconst (v := (4 : Int32)) hx hb dX4_ifLearned_22 (by decide) ?_
        refine lv_icmp_le (tgt := 36) hx hb dX4_ifLearned_23 (by decide) (fun c5 => ?_) (fun c5 => ?_)
        · have hF := F_pos c5 hF
          refine lv_aload_n hx hb dX4_ifLearned_36 rfl (lv_at hl 0 rfl) ?_
          refine va_get (D := (dC, dI)) (ci := 4) (v := .ref (a 2)) (C := RX4) (T := TX4) (N := 8) hx hb hts hinX4 hown hK hP 0 rfl rfl 2 (by decide) (hts (Cond.fieldLink RX4 16 "LearnedShapes" "reader" "LLearnedShapes$Reader;") (List.mem_of_getElem? (i := 5) rfl)) (fun _ h9 => h9) rfl dX4_ifLearned_37 ?_
          refine lv_aload_n hx hb dX4_ifLearned_40 rfl (lv_at hl 0 rfl) ?_
          refine va_get (D := (dC, dI)) (ci := 4) (v := .ref (a 1)) (C := RX4) (T := TX4) (N := 8) hx hb hts hinX4 hown hK hP 0 rfl rfl 0 (by decide) (hts (Cond.fieldLink RX4 9 "LearnedShapes" "codes" "[I") (List.mem_of_getElem? (i := 6) rfl)) (fun _ h9 => h9) rfl dX4_ifLearned_41 ?_
          refine lv_aload_n hx hb dX4_ifLearned_44 rfl (lv_at hl 0 rfl) ?_
          refine va_get (D := (dC, dI)) (ci := 4) (v := .int (g_LS_length S)) (C := RX4) (T := TX4) (N := 8) hx hb hts hinX4 hown hK hP 0 rfl rfl 1 (by decide) (hts (Cond.fieldLink RX4 56 "LearnedShapes" "length" "I") (List.mem_of_getElem? (i := 7) rfl)) (fun _ h9 => h9) rfl dX4_ifLearned_45 ?_
          obtain ⟨r6, u7, h8, hF⟩ := ob2_some hF
          have hPc := hP.sub (ws' := (W_Reader cI (sh a 2) (g_LS_reader S)) ++ (W_Arr60 cI (sh a 1) (g_LS_codes S))) [2, 3, 4, 1] rfl
          have hDc := hD.sub (ws' := (W_Reader cI (sh a 2) (g_LS_reader S)) ++ (W_Arr60 cI (sh a 1) (g_LS_codes S))) [2, 3, 4, 1] (by decide) rfl
          have hFc := va_free (wc := (W_Reader cI (sh a 2) (g_LS_reader S)) ++ (W_Arr60 cI (sh a 1) (g_LS_codes S))) hD hS hA [2, 3, 4, 1] rfl
          refine va_calli (va_runV (As := [.ref (a 1), .int (g_LS_length S)]) (rest := []) ⟨hx, hb, hml, hown, hts⟩ (c_X1_read l dC dI cI (sh a 2) (sh a 1) H.size _ _ _ _ _ h8) (cwV 2 hts gX4_ifLearned_X1_read rfl rfl rfl (by decide +kernel) ⟨Nat.le_of_ble_eq_true rfl, Nat.le_of_ble_eq_true rfl⟩) (jPreV hK hPc hDc hN (ci := 1) rfl rfl) rfl rfl hl.1 rfl (lv_room (Nat.le_of_ble_eq_true rfl)) dX4_ifLearned_48 ⟨Nat.le_of_ble_eq_true rfl, Nat.le_of_ble_eq_true rfl⟩) hS (fun q _ h => hFc q h) hFc (fun r' u' t H locs ht hvm hw hB hz1 hk1 hS => ?_)
          obtain ⟨e1, e2⟩ := hw
          subst e1
          subst e2
          obtain ⟨hP1, -, hD1⟩ := hB
          rw [ht] at hP1
          obtain ⟨hP, hD⟩ := jJoin (wc := (W_Reader cI (sh a 2) (g_LS_reader S)) ++ (W_Arr60 cI (sh a 1) (g_LS_codes S))) (w1 := (W_Reader cI (sh a 2) u7) ++ (W_Arr60 cI (sh a 1) (g_LS_codes S))) (ws' := (W_LS cI a (s_LS_reader S u7))) hP hD [2, 3, 4, 1] [0, 5, 6, 7, 8, 9, 10, 11, 12] [0, 12, 9, 10, 11, 1, 2, 3, 4, 5, 6, 7, 8] rfl rfl (by decide) (by decide) hk1 hFc hP1 hD1 (by decide) rfl
          refine lv_if_ne (tgt := 56) hx hb dX4_ifLearned_51 (by decide) (fun c9 => ?_) (fun c9 => ?_)
          · have hF := F_neg c9 hF
            refine lv_aload_n hx hb dX4_ifLearned_56 rfl (lv_at hl 0 rfl) ?_
            refine lv_aload_n hx hb dX4_ifLearned_57 rfl (lv_at hl 0 rfl) ?_
            refine va_get (D := (dC, dI)) (ci := 4) (v := .ref (a 5)) (C := RX4) (T := TX4) (N := 8) hx hb hts hinX4 hown hK hP 0 rfl rfl 3 (by decide) (hts (Cond.fieldLink RX4 23 "LearnedShapes" "now" "LLearnedShapes$State;") (List.mem_of_getElem? (i := 8) rfl)) (fun _ h9 => h9) rfl dX4_ifLearned_58 ?_
            refine lv_iload_n hx hb dX4_ifLearned_61 rfl (lv_at hl 1 rfl) ?_
            by_cases c10 : v1 = 0
            · have hF := F_pos c10 hF
              have hPc := hP.sub (ws' := (W_State cI (sh a 5) (g_LS_now S))) [5, 6, 7, 8, 9] rfl
              have hDc := hD.sub (ws' := (W_State cI (sh a 5) (g_LS_now S))) [5, 6, 7, 8, 9] (by decide) rfl
              have hFc := va_free (wc := (W_State cI (sh a 5) (g_LS_now S))) hD hS hA [5, 6, 7, 8, 9] rfl
              refine va_callr (va_runV (As := [.int v1]) (rest := [.ref (a 0)]) ⟨hx, hb, hml, hown, hts⟩ (c_X2_tree_first l dC dI cI (sh a 5) H.size _ _ c10) (cwV 1 hts gX4_ifLearned_X2_tree rfl rfl rfl (by decide +kernel) ⟨Nat.le_of_ble_eq_true rfl, Nat.le_of_ble_eq_true rfl⟩) (jPreV hK hPc hDc hN (ci := 2) rfl rfl) rfl rfl hl.1 rfl (lv_room (Nat.le_of_ble_eq_true rfl)) dX4_ifLearned_62 ⟨Nat.le_of_ble_eq_true rfl, Nat.le_of_ble_eq_true rfl⟩) hS (fun q _ h => hFc q h) hFc (fun u q9 t H locs ht hvm hw hB hz1 hk1 hS => ?_)
              obtain ⟨e9, hP1, -, hD1⟩ := hB
              subst e9
              rw [ht] at hP1
              obtain ⟨hP, hD⟩ := jJoin (wc := (W_State cI (sh a 5) (g_LS_now S))) (w1 := (W_State cI (sh a 5) (g_LS_now S))) (ws' := (W_LS cI a (s_LS_reader S u7))) hP hD [5, 6, 7, 8, 9] [0, 1, 2, 3, 4, 10, 11, 12] [0, 1, 2, 3, 4, 8, 9, 10, 11, 12, 5, 6, 7] rfl rfl (by decide) (by decide) hk1 hFc hP1 hD1 (by decide) rfl
              obtain ⟨u11, h12, hF⟩ := ob1_some hF
              have hPc : va_P (dC, dI) vwCl ((W_LS cI a (s_LS_reader S u7))) H := hP
              have hDc : va_D A ((W_LS cI a (s_LS_reader S u7))) := hD
              have hFc := jFreeW (ws := (W_LS cI a (s_LS_reader S u7))) hD hS hA
              refine va_callv (va_runV (As := [.ref (a 6)]) (rest := []) ⟨hx, hb, hml, hown, hts⟩ (c_X4_workOutLearned_false l dC dI cI a H.size _ _ h12) (cwV 1 hts gX4_ifLearned_X4_workOutLearned rfl rfl rfl (by decide +kernel) ⟨Nat.le_of_ble_eq_true rfl, Nat.le_of_ble_eq_true rfl⟩) (jPreV hK hPc hDc hN (ci := 4) rfl rfl) rfl rfl hl.1 rfl (lv_room (Nat.le_of_ble_eq_true rfl)) dX4_ifLearned_65 ⟨Nat.le_of_ble_eq_true rfl, Nat.le_of_ble_eq_true rfl⟩) hS (fun q _ h => hFc q h) hFc (fun u' t H locs ht hvm hw hB hz1 hk1 hS => ?_)
              subst hw
              obtain ⟨hP1, -, hD1⟩ := hB
              rw [ht] at hP1
              have hP : va_P (dC, dI) vwCl ((W_LS cI a u11)) H := hP1
              have hD : va_D A ((W_LS cI a u11)) := hD1.weaken (fun _ _ _ h => hFc _ h)
              refine lv_aload_n hx hb dX4_ifLearned_68 rfl (lv_at hl 0 rfl) ?_
              refine lv_aload_n hx hb dX4_ifLearned_69 rfl (lv_at hl 0 rfl) ?_
              refine va_get (D := (dC, dI)) (ci := 4) (v := .ref (a 5)) (C := RX4) (T := TX4) (N := 8) hx hb hts hinX4 hown hK hP 0 rfl rfl 3 (by decide) (hts (Cond.fieldLink RX4 23 "LearnedShapes" "now" "LLearnedShapes$State;") (List.mem_of_getElem? (i := 8) rfl)) (fun _ h9 => h9) rfl dX4_ifLearned_70 ?_
              refine lv_iload_n hx hb dX4_ifLearned_73 rfl (lv_at hl 1 rfl) ?_
              have hPc := hP.sub (ws' := (W_State cI (sh a 5) (g_LS_now u11))) [5, 6, 7, 8, 9] rfl
              have hDc := hD.sub (ws' := (W_State cI (sh a 5) (g_LS_now u11))) [5, 6, 7, 8, 9] (by decide) rfl
              have hFc := va_free (wc := (W_State cI (sh a 5) (g_LS_now u11))) hD hS hA [5, 6, 7, 8, 9] rfl
              refine va_callr (va_runV (As := [.int v1]) (rest := [.ref (a 0)]) ⟨hx, hb, hml, hown, hts⟩ (c_X2_tree_first l dC dI cI (sh a 5) H.size _ _ c10) (cwV 1 hts gX4_ifLearned_X2_tree rfl rfl rfl (by decide +kernel) ⟨Nat.le_of_ble_eq_true rfl, Nat.le_of_ble_eq_true rfl⟩) (jPreV hK hPc hDc hN (ci := 2) rfl rfl) rfl rfl hl.1 rfl (lv_room (Nat.le_of_ble_eq_true rfl)) dX4_ifLearned_74 ⟨Nat.le_of_ble_eq_true rfl, Nat.le_of_ble_eq_true rfl⟩) hS (fun q _ h => hFc q h) hFc (fun u q9 t H locs ht hvm hw hB hz1 hk1 hS => ?_)
              obtain ⟨e9, hP1, -, hD1⟩ := hB
              subst e9
              rw [ht] at hP1
              obtain ⟨hP, hD⟩ := jJoin (wc := (W_State cI (sh a 5) (g_LS_now u11))) (w1 := (W_State cI (sh a 5) (g_LS_now u11))) (ws' := (W_LS cI a u11)) hP hD [5, 6, 7, 8, 9] [0, 1, 2, 3, 4, 10, 11, 12] [0, 1, 2, 3, 4, 8, 9, 10, 11, 12, 5, 6, 7] rfl rfl (by decide) (by decide) hk1 hFc hP1 hD1 (by decide) rfl
              refine lv_iload_n hx hb dX4_ifLearned_77 rfl (lv_at hl 2 rfl) ?_
              obtain ⟨r13, h14, hF⟩ := ob1_some hF
              have hPc : va_P (dC, dI) vwCl ((W_LS cI a u11)) H := hP
              have hDc : va_D A ((W_LS cI a u11)) := hD
              have hFc := jFreeW (ws := (W_LS cI a u11)) hD hS hA
              refine va_calli (va_runV (As := [.ref (a 6), .int v2]) (rest := []) ⟨hx, hb, hml, hown, hts⟩ (c_X4_outlookNumber_false l dC dI cI a H.size _ _ _ h14) (cwV 2 hts gX4_ifLearned_X4_outlookNumber rfl rfl rfl (by decide +kernel) ⟨Nat.le_of_ble_eq_true rfl, Nat.le_of_ble_eq_true rfl⟩) (jPreV hK hPc hDc hN (ci := 4) rfl rfl) rfl rfl hl.1 rfl (lv_room (Nat.le_of_ble_eq_true rfl)) dX4_ifLearned_78 ⟨Nat.le_of_ble_eq_true rfl, Nat.le_of_ble_eq_true rfl⟩) hS (fun q _ h => hFc q h) hFc (fun r' u' t H locs ht hvm hw hB hz1 hk1 hS => ?_)
              subst hw
              obtain ⟨hP1, -, hD1⟩ := hB
              rw [ht] at hP1
              have hP : va_P (dC, dI) vwCl ((W_LS cI a u11)) H := hP1
              have hD : va_D A ((W_LS cI a u11)) := hD1.weaken (fun _ _ _ h => hFc _ h)
              have e50 := Sum.inr.inj (Option.some.inj hF)
              obtain ⟨e60, e51⟩ := Prod.mk.inj e50
              subst e60
              subst e51
              exact W.iret (v := r13) hx hb hr (fun t ht hW => ⟨⟨r13, u11, rfl, ⟨rfl, rfl⟩, by rw [ht]; exact hP, va_K.moved hW.alike hK, hD⟩, hS.F ht⟩) hS.2.2 dX4_ifLearned_81
            · have hF := F_neg c10 hF
              have hPc := hP.sub (ws' := (W_State cI (sh a 5) (g_LS_now S))) [5, 6, 7, 8, 9] rfl
              have hDc := hD.sub (ws' := (W_State cI (sh a 5) (g_LS_now S))) [5, 6, 7, 8, 9] (by decide) rfl
              have hFc := va_free (wc := (W_State cI (sh a 5) (g_LS_now S))) hD hS hA [5, 6, 7, 8, 9] rfl
              refine va_callr (va_runV (As := [.int v1]) (rest := [.ref (a 0)]) ⟨hx, hb, hml, hown, hts⟩ (c_X2_tree_second l dC dI cI (sh a 5) H.size _ _ c10) (cwV 1 hts gX4_ifLearned_X2_tree rfl rfl rfl (by decide +kernel) ⟨Nat.le_of_ble_eq_true rfl, Nat.le_of_ble_eq_true rfl⟩) (jPreV hK hPc hDc hN (ci := 2) rfl rfl) rfl rfl hl.1 rfl (lv_room (Nat.le_of_ble_eq_true rfl)) dX4_ifLearned_62 ⟨Nat.le_of_ble_eq_true rfl, Nat.le_of_ble_eq_true rfl⟩) hS (fun q _ h => hFc q h) hFc (fun u q9 t H locs ht hvm hw hB hz1 hk1 hS => ?_)
              obtain ⟨e9, hP1, -, hD1⟩ := hB
              subst e9
              rw [ht] at hP1
              obtain ⟨hP, hD⟩ := jJoin (wc := (W_State cI (sh a 5) (g_LS_now S))) (w1 := (W_State cI (sh a 5) (g_LS_now S))) (ws' := (W_LS cI a (s_LS_reader S u7))) hP hD [5, 6, 7, 8, 9] [0, 1, 2, 3, 4, 10, 11, 12] [0, 1, 2, 3, 4, 8, 9, 10, 11, 12, 5, 6, 7] rfl rfl (by decide) (by decide) hk1 hFc hP1 hD1 (by decide) rfl
              obtain ⟨u15, h16, hF⟩ := ob1_some hF
              have hPc : va_P (dC, dI) vwCl ((W_LS cI a (s_LS_reader S u7))) H := hP
              have hDc : va_D A ((W_LS cI a (s_LS_reader S u7))) := hD
              have hFc := jFreeW (ws := (W_LS cI a (s_LS_reader S u7))) hD hS hA
              refine va_callv (va_runV (As := [.ref (a 8)]) (rest := []) ⟨hx, hb, hml, hown, hts⟩ (c_X4_workOutLearned_true l dC dI cI a H.size _ _ h16) (cwV 1 hts gX4_ifLearned_X4_workOutLearned rfl rfl rfl (by decide +kernel) ⟨Nat.le_of_ble_eq_true rfl, Nat.le_of_ble_eq_true rfl⟩) (jPreV hK hPc hDc hN (ci := 4) rfl rfl) rfl rfl hl.1 rfl (lv_room (Nat.le_of_ble_eq_true rfl)) dX4_ifLearned_65 ⟨Nat.le_of_ble_eq_true rfl, Nat.le_of_ble_eq_true rfl⟩) hS (fun q _ h => hFc q h) hFc (fun u' t H locs ht hvm hw hB hz1 hk1 hS => ?_)
              subst hw
              obtain ⟨hP1, -, hD1⟩ := hB
              rw [ht] at hP1
              have hP : va_P (dC, dI) vwCl ((W_LS cI a u15)) H := hP1
              have hD : va_D A ((W_LS cI a u15)) := hD1.weaken (fun _ _ _ h => hFc _ h)
              refine lv_aload_n hx hb dX4_ifLearned_68 rfl (lv_at hl 0 rfl) ?_
              refine lv_aload_n hx hb dX4_ifLearned_69 rfl (lv_at hl 0 rfl) ?_
              refine va_get (D := (dC, dI)) (ci := 4) (v := .ref (a 5)) (C := RX4) (T := TX4) (N := 8) hx hb hts hinX4 hown hK hP 0 rfl rfl 3 (by decide) (hts (Cond.fieldLink RX4 23 "LearnedShapes" "now" "LLearnedShapes$State;") (List.mem_of_getElem? (i := 8) rfl)) (fun _ h9 => h9) rfl dX4_ifLearned_70 ?_
              refine lv_iload_n hx hb dX4_ifLearned_73 rfl (lv_at hl 1 rfl) ?_
              have hPc := hP.sub (ws' := (W_State cI (sh a 5) (g_LS_now u15))) [5, 6, 7, 8, 9] rfl
              have hDc := hD.sub (ws' := (W_State cI (sh a 5) (g_LS_now u15))) [5, 6, 7, 8, 9] (by decide) rfl
              have hFc := va_free (wc := (W_State cI (sh a 5) (g_LS_now u15))) hD hS hA [5, 6, 7, 8, 9] rfl
              refine va_callr (va_runV (As := [.int v1]) (rest := [.ref (a 0)]) ⟨hx, hb, hml, hown, hts⟩ (c_X2_tree_second l dC dI cI (sh a 5) H.size _ _ c10) (cwV 1 hts gX4_ifLearned_X2_tree rfl rfl rfl (by decide +kernel) ⟨Nat.le_of_ble_eq_true rfl, Nat.le_of_ble_eq_true rfl⟩) (jPreV hK hPc hDc hN (ci := 2) rfl rfl) rfl rfl hl.1 rfl (lv_room (Nat.le_of_ble_eq_true rfl)) dX4_ifLearned_74 ⟨Nat.le_of_ble_eq_true rfl, Nat.le_of_ble_eq_true rfl⟩) hS (fun q _ h => hFc q h) hFc (fun u q9 t H locs ht hvm hw hB hz1 hk1 hS => ?_)
              obtain ⟨e9, hP1, -, hD1⟩ := hB
              subst e9
              rw [ht] at hP1
              obtain ⟨hP, hD⟩ := jJoin (wc := (W_State cI (sh a 5) (g_LS_now u15))) (w1 := (W_State cI (sh a 5) (g_LS_now u15))) (ws' := (W_LS cI a u15)) hP hD [5, 6, 7, 8, 9] [0, 1, 2, 3, 4, 10, 11, 12] [0, 1, 2, 3, 4, 8, 9, 10, 11, 12, 5, 6, 7] rfl rfl (by decide) (by decide) hk1 hFc hP1 hD1 (by decide) rfl
              refine lv_iload_n hx hb dX4_ifLearned_77 rfl (lv_at hl 2 rfl) ?_
              obtain ⟨r17, h18, hF⟩ := ob1_some hF
              have hPc : va_P (dC, dI) vwCl ((W_LS cI a u15)) H := hP
              have hDc : va_D A ((W_LS cI a u15)) := hD
              have hFc := jFreeW (ws := (W_LS cI a u15)) hD hS hA
              refine va_calli (va_runV (As := [.ref (a 8), .int v2]) (rest := []) ⟨hx, hb, hml, hown, hts⟩ (c_X4_outlookNumber_true l dC dI cI a H.size _ _ _ h18) (cwV 2 hts gX4_ifLearned_X4_outlookNumber rfl rfl rfl (by decide +kernel) ⟨Nat.le_of_ble_eq_true rfl, Nat.le_of_ble_eq_true rfl⟩) (jPreV hK hPc hDc hN (ci := 4) rfl rfl) rfl rfl hl.1 rfl (lv_room (Nat.le_of_ble_eq_true rfl)) dX4_ifLearned_78 ⟨Nat.le_of_ble_eq_true rfl, Nat.le_of_ble_eq_true rfl⟩) hS (fun q _ h => hFc q h) hFc (fun r' u' t H locs ht hvm hw hB hz1 hk1 hS => ?_)
              subst hw
              obtain ⟨hP1, -, hD1⟩ := hB
              rw [ht] at hP1
              have hP : va_P (dC, dI) vwCl ((W_LS cI a u15)) H := hP1
              have hD : va_D A ((W_LS cI a u15)) := hD1.weaken (fun _ _ _ h => hFc _ h)
              have e50 := Sum.inr.inj (Option.some.inj hF)
              obtain ⟨e60, e51⟩ := Prod.mk.inj e50
              subst e60
              subst e51
              exact W.iret (v := r17) hx hb hr (fun t ht hW => ⟨⟨r17, u15, rfl, ⟨rfl, rfl⟩, by rw [ht]; exact hP, va_K.moved hW.alike hK, hD⟩, hS.F ht⟩) hS.2.2 dX4_ifLearned_81
          · have hF := F_pos c9 hF
            refine lv_iconst (v := (-1 : Int32)) hx hb dX4_ifLearned_54 (by decide) ?_
            have e50 := Sum.inr.inj (Option.some.inj hF)
            obtain ⟨e60, e51⟩ := Prod.mk.inj e50
            subst e60
            subst e51
            exact W.iret (v := (-1 : Int32)) hx hb hr (fun t ht hW => ⟨⟨(-1 : Int32), (s_LS_reader S u7), rfl, ⟨rfl, rfl⟩, by rw [ht]; exact hP, va_K.moved hW.alike hK, hD⟩, hS.F ht⟩) hS.2.2 dX4_ifLearned_55
        · have hF := F_neg c5 hF
          exact nomatch hF
    · have hF := F_pos c3 hF
      exact nomatch hF
  exact KE _ _ hP hD hS
set_option maxHeartbeats 4000000 in
set_option maxRecDepth 100000 in
theorem c_X4_covers_ok (l : Launch) (dC : Nat → ClassId) (dI : Nat → Nat → Nat) (cI : ClassId) (a : Nat → Nat) (sz : Nat) (S : S_LS) (v1 : Int32) (rr : Int32) (hF : F_X4_covers S v1 = some (.inr rr)) : Met l yX4_covers wsX4_covers ({ frames := 12, cells := 0, slots := 0, locals := 332 } : Room) (va_Pc [.ref (a 0), .int v1] (jPre (dC, dI) [(cI, .int)] sz ((W_LS cI a S)))) (va_Qi (fun (r' : Int32) (_ : Unit) => rr = r') (fun _ : Unit => jB (dC, dI) [(cI, .int)] (va_A ((W_LS cI a S)) sz) ((W_LS cI a S))) (va_A ((W_LS cI a S)) sz)) 0 0 (va_A ((W_LS cI a S)) sz) := by
  refine Met.ofW (cc := cX4_covers) (maxL := 2) (ret := (some .int)) (by decide) rfl ?_
  intro p e s m args below meth c s₁ B hml hv
  obtain ⟨rfl, hsz, hP, hK, hD0, hN⟩ := hv
  have hx := B.exec
  have hb := B.bytes
  have hr := B.returns
  have hts := atoms_spec (ws := wsX4_covers) B.pre
  have hown : s.vm.findClass RX4 = some m.cls := findClass_of_methodNamed B.named
  have hlocks := B.notSynchronized
  subst hsz
  have hD := hD0.self (sz := s.heap.size)
  generalize hAe : (va_A ((W_LS cI a S)) s.heap.size) = A at hD ⊢
  have hA : ∀ q : Nat, s.heap.size ≤ q → A q := fun q h => by rw [← hAe]; exact Or.inr h
  have hS : va_S A s.heap s.heap [] := va_S.rf
  have hl := lv_entry ([.ref (a 0), .int v1]) (n := 2) (Nat.le_of_ble_eq_true rfl)
  rw [lg_entry_eq]
  generalize (lg_sl ([.ref (a 0), .int v1]) ++ List.replicate (2 - (lg_sl ([.ref (a 0), .int v1])).length) Slot.unset).toArray = ls at hl ⊢
  have hl : lv_has ls 2 [(0, .ref (a 0)), (1, .int v1)] := hl
  have KE : ∀ (H : Heap) (locs : List Loc), va_P (dC, dI) vwCl ((W_LS cI a S)) H → va_D A ((W_LS cI a S)) → va_S A s.heap H locs → W p l e (headSpec wsX4_covers ({ frames := 12, cells := 0, slots := 0, locals := 332 } : Room)).room s m ([.ref (a 0), .int v1] : List Value).toArray below meth c H locs 0 0 (MQ below (va_Qi (fun (r' : Int32) (_ : Unit) => rr = r') (fun _ : Unit => jB (dC, dI) [(cI, .int)] A ((W_LS cI a S))) A) ([.ref (a 0), .int v1] : List Value).toArray s 0 0 A) (F0 m 0 ls []) := by
    intro H locs hP hD hS
    unfold F_X4_covers at hF
    refine lv_iload_n hx hb dX4_covers_0 rfl (lv_at hl 1 rfl) ?_
    obtain ⟨r1, h2, hF⟩ := ob1_some hF
    have hPc : va_P (dC, dI) vwCl ([] : va_W) H := fun k q h => by simp at h
    have hDc : va_D A ([] : va_W) := ⟨fun i j p q h => by simp at h, fun k q h => by simp at h⟩
    have hFc := jFreeW (ws := []) hDc hS hA
    refine va_calli (va_runS (As := [.int v1]) (rest := []) ⟨hx, hb, hml, hown, hts⟩ (c_X4_isShape l dC dI cI  H.size _ _ h2) (va_cwS 1 hts gX4_covers_X4_isShape rfl rfl rfl (by decide +kernel) ⟨Nat.le_of_ble_eq_true rfl, Nat.le_of_ble_eq_true rfl⟩) (jPreS hK hPc hDc hN) rfl rfl hl.1 rfl (lv_room (Nat.le_of_ble_eq_true rfl)) dX4_covers_1 ⟨Nat.le_of_ble_eq_true rfl, Nat.le_of_ble_eq_true rfl⟩) hS (fun q _ h => hFc q h) hFc (fun r' u' t H locs ht hvm hw hB hz1 hk1 hS => ?_)
    subst hw
    obtain ⟨hP1, -, hD1⟩ := hB
    rw [ht] at hP1
    have hP : va_P (dC, dI) vwCl ((W_LS cI a S)) H := jNone hP hk1
    refine lv_if_ne (tgt := 17) hx hb dX4_covers_4 (by decide) (fun c3 => ?_) (fun c3 => ?_)
    · have hF := F_neg c3 hF
      refine lv_aload_n hx hb dX4_covers_17 rfl (lv_at hl 0 rfl) ?_
      refine lv_iload_n hx hb dX4_covers_18 rfl (lv_at hl 1 rfl) ?_
      obtain ⟨r4, h5, hF⟩ := ob1_some hF
      have hPc : va_P (dC, dI) vwCl ((W_LS cI a S)) H := hP
      have hDc : va_D A ((W_LS cI a S)) := hD
      have hFc := jFreeW (ws := (W_LS cI a S)) hD hS hA
      refine va_calli (va_runV (As := [.int v1]) (rest := []) ⟨hx, hb, hml, hown, hts⟩ (c_X4_coversOther l dC dI cI a H.size _ _ _ h5) (cwV 1 hts gX4_covers_X4_coversOther rfl rfl rfl (by decide +kernel) ⟨Nat.le_of_ble_eq_true rfl, Nat.le_of_ble_eq_true rfl⟩) (jPreV hK hPc hDc hN (ci := 4) rfl rfl) rfl rfl hl.1 rfl (lv_room (Nat.le_of_ble_eq_true rfl)) dX4_covers_19 ⟨Nat.le_of_ble_eq_true rfl, Nat.le_of_ble_eq_true rfl⟩) hS (fun q _ h => hFc q h) hFc (fun r' u' t H locs ht hvm hw hB hz1 hk1 hS => ?_)
      subst hw
      obtain ⟨hP1, -, hD1⟩ := hB
      rw [ht] at hP1
      have hP : va_P (dC, dI) vwCl ((W_LS cI a S)) H := hP1
      have hD : va_D A ((W_LS cI a S)) := hD1.weaken (fun _ _ _ h => hFc _ h)
      refine lv_if_eq (tgt := 29) hx hb dX4_covers_22 (by decide) (fun c6 => ?_) (fun c6 => ?_)
      · have hF := F_pos c6 hF
        refine lv_iconst (v := (0 : Int32)) hx hb dX4_covers_29 (by decide) ?_
        have e50 := Sum.inr.inj (Option.some.inj hF)
        subst e50
        exact W.iret (v := (0 : Int32)) hx hb hr (fun t ht hW => ⟨⟨(0 : Int32), (), rfl, rfl, by rw [ht]; exact hP, va_K.moved hW.alike hK, hD⟩, hS.F ht⟩) hS.2.2 dX4_covers_30
      · have hF := F_neg c6 hF
        refine lv_iconst (v := (1 : Int32)) hx hb dX4_covers_25 (by decide) ?_
        refine lv_goto (tgt := 30) hx hb dX4_covers_26 (by decide) ?_
        have e50 := Sum.inr.inj (Option.some.inj hF)
        subst e50
        exact W.iret (v := (1 : Int32)) hx hb hr (fun t ht hW => ⟨⟨(1 : Int32), (), rfl, rfl, by rw [ht]; exact hP, va_K.moved hW.alike hK, hD⟩, hS.F ht⟩) hS.2.2 dX4_covers_30
    · have hF := F_pos c3 hF
      exact nomatch hF
  exact KE _ _ hP hD hS
set_option maxHeartbeats 4000000 in
set_option maxRecDepth 100000 in
theorem c_X4_sureShare_ok (l : Launch) (dC : Nat → ClassId) (dI : Nat → Nat → Nat) (cI : ClassId) (a : Nat → Nat) (sz : Nat) (S : S_LS) (v1 : Int32) (rr : UInt64) (hF : F_X4_sureShare S v1 = some (.inr rr)) : Met l yX4_sureShare wsX4_sureShare ({ frames := 6, cells := 0, slots := 0, locals := 90 } : Room) (va_Pc [.ref (a 0), .int v1] (jPre (dC, dI) [(cI, .int)] sz ((W_LS cI a S)))) (va_Qd (fun (r' : UInt64) (_ : Unit) => rr = r') (fun _ : Unit => jB (dC, dI) [(cI, .int)] (va_A ((W_LS cI a S)) sz) ((W_LS cI a S))) (va_A ((W_LS cI a S)) sz)) 0 0 (va_A ((W_LS cI a S)) sz) := by
  refine Met.ofW (cc := cX4_sureShare) (maxL := 2) (ret := (some .double)) (by decide) rfl ?_
  intro p e s m args below meth c s₁ B hml hv
  obtain ⟨rfl, hsz, hP, hK, hD0, hN⟩ := hv
  have hx := B.exec
  have hb := B.bytes
  have hr := B.returns
  have hts := atoms_spec (ws := wsX4_sureShare) B.pre
  have hown : s.vm.findClass RX4 = some m.cls := findClass_of_methodNamed B.named
  have hlocks := B.notSynchronized
  have hinX4 : ∀ w ∈ u_ws RX4 TX4 8, w ∈ wsX4_sureShare := by decide +kernel
  subst hsz
  have hD := hD0.self (sz := s.heap.size)
  generalize hAe : (va_A ((W_LS cI a S)) s.heap.size) = A at hD ⊢
  have hA : ∀ q : Nat, s.heap.size ≤ q → A q := fun q h => by rw [← hAe]; exact Or.inr h
  have hS : va_S A s.heap s.heap [] := va_S.rf
  have hl := lv_entry ([.ref (a 0), .int v1]) (n := 2) (Nat.le_of_ble_eq_true rfl)
  rw [lg_entry_eq]
  generalize (lg_sl ([.ref (a 0), .int v1]) ++ List.replicate (2 - (lg_sl ([.ref (a 0), .int v1])).length) Slot.unset).toArray = ls at hl ⊢
  have hl : lv_has ls 2 [(0, .ref (a 0)), (1, .int v1)] := hl
  have KE : ∀ (H : Heap) (locs : List Loc), va_P (dC, dI) vwCl ((W_LS cI a S)) H → va_D A ((W_LS cI a S)) → va_S A s.heap H locs → W p l e (headSpec wsX4_sureShare ({ frames := 6, cells := 0, slots := 0, locals := 90 } : Room)).room s m ([.ref (a 0), .int v1] : List Value).toArray below meth c H locs 0 0 (MQ below (va_Qd (fun (r' : UInt64) (_ : Unit) => rr = r') (fun _ : Unit => jB (dC, dI) [(cI, .int)] A ((W_LS cI a S))) A) ([.ref (a 0), .int v1] : List Value).toArray s 0 0 A) (F0 m 0 ls []) := by
    intro H locs hP hD hS
    unfold F_X4_sureShare at hF
    refine lv_iload_n hx hb dX4_sureShare_0 rfl (lv_at hl 1 rfl) ?_
    obtain ⟨r1, h2, hF⟩ := ob1_some hF
    have hPc : va_P (dC, dI) vwCl ([] : va_W) H := fun k q h => by simp at h
    have hDc : va_D A ([] : va_W) := ⟨fun i j p q h => by simp at h, fun k q h => by simp at h⟩
    have hFc := jFreeW (ws := []) hDc hS hA
    refine va_calli (va_runS (As := [.int v1]) (rest := []) ⟨hx, hb, hml, hown, hts⟩ (c_X4_isShape l dC dI cI  H.size _ _ h2) (va_cwS 1 hts gX4_sureShare_X4_isShape rfl rfl rfl (by decide +kernel) ⟨Nat.le_of_ble_eq_true rfl, Nat.le_of_ble_eq_true rfl⟩) (jPreS hK hPc hDc hN) rfl rfl hl.1 rfl (lv_room (Nat.le_of_ble_eq_true rfl)) dX4_sureShare_1 ⟨Nat.le_of_ble_eq_true rfl, Nat.le_of_ble_eq_true rfl⟩) hS (fun q _ h => hFc q h) hFc (fun r' u' t H locs ht hvm hw hB hz1 hk1 hS => ?_)
    subst hw
    obtain ⟨hP1, -, hD1⟩ := hB
    rw [ht] at hP1
    have hP : va_P (dC, dI) vwCl ((W_LS cI a S)) H := jNone hP hk1
    refine lv_if_ne (tgt := 17) hx hb dX4_sureShare_4 (by decide) (fun c3 => ?_) (fun c3 => ?_)
    · have hF := F_neg c3 hF
      refine lv_aload_n hx hb dX4_sureShare_17 rfl (lv_at hl 0 rfl) ?_
      refine va_get (D := (dC, dI)) (ci := 4) (v := .ref (a 5)) (C := RX4) (T := TX4) (N := 8) hx hb hts hinX4 hown hK hP 0 rfl rfl 3 (by decide) (hts (Cond.fieldLink RX4 23 "LearnedShapes" "now" "LLearnedShapes$State;") (List.mem_of_getElem? (i := 3) rfl)) (fun _ h9 => h9) rfl dX4_sureShare_18 ?_
      refine lv_iload_n hx hb dX4_sureShare_21 rfl (lv_at hl 1 rfl) ?_
      by_cases c4 : v1 = 0
      · have hF := F_pos c4 hF
        have hPc := hP.sub (ws' := (W_State cI (sh a 5) (g_LS_now S))) [5, 6, 7, 8, 9] rfl
        have hDc := hD.sub (ws' := (W_State cI (sh a 5) (g_LS_now S))) [5, 6, 7, 8, 9] (by decide) rfl
        have hFc := va_free (wc := (W_State cI (sh a 5) (g_LS_now S))) hD hS hA [5, 6, 7, 8, 9] rfl
        refine va_callr (va_runV (As := [.int v1]) (rest := []) ⟨hx, hb, hml, hown, hts⟩ (c_X2_tree_first l dC dI cI (sh a 5) H.size _ _ c4) (cwV 1 hts gX4_sureShare_X2_tree rfl rfl rfl (by decide +kernel) ⟨Nat.le_of_ble_eq_true rfl, Nat.le_of_ble_eq_true rfl⟩) (jPreV hK hPc hDc hN (ci := 2) rfl rfl) rfl rfl hl.1 rfl (lv_room (Nat.le_of_ble_eq_true rfl)) dX4_sureShare_22 ⟨Nat.le_of_ble_eq_true rfl, Nat.le_of_ble_eq_true rfl⟩) hS (fun q _ h => hFc q h) hFc (fun u q9 t H locs ht hvm hw hB hz1 hk1 hS => ?_)
        obtain ⟨e9, hP1, -, hD1⟩ := hB
        subst e9
        rw [ht] at hP1
        obtain ⟨hP, hD⟩ := jJoin (wc := (W_State cI (sh a 5) (g_LS_now S))) (w1 := (W_State cI (sh a 5) (g_LS_now S))) (ws' := (W_LS cI a S)) hP hD [5, 6, 7, 8, 9] [0, 1, 2, 3, 4, 10, 11, 12] [0, 1, 2, 3, 4, 8, 9, 10, 11, 12, 5, 6, 7] rfl rfl (by decide) (by decide) hk1 hFc hP1 hD1 (by decide) rfl
        obtain ⟨r5, h6, hF⟩ := ob1_some hF
        have hPc := hP.sub (ws' := (W_Tree cI (sh a 6) (g_State_first (g_LS_now S)))) [6, 7] rfl
        have hDc := hD.sub (ws' := (W_Tree cI (sh a 6) (g_State_first (g_LS_now S)))) [6, 7] (by decide) rfl
        have hFc := va_free (wc := (W_Tree cI (sh a 6) (g_State_first (g_LS_now S)))) hD hS hA [6, 7] rfl
        refine va_calld (va_runS (As := [.ref (a 6)]) (rest := []) ⟨hx, hb, hml, hown, hts⟩ (c_X4_shareOfSure l dC dI cI (sh a 6) H.size _ _ h6) (va_cwS 1 hts gX4_sureShare_X4_shareOfSure rfl rfl rfl (by decide +kernel) ⟨Nat.le_of_ble_eq_true rfl, Nat.le_of_ble_eq_true rfl⟩) (jPreS hK hPc hDc hN) rfl rfl hl.1 rfl (lv_room (Nat.le_of_ble_eq_true rfl)) dX4_sureShare_25 ⟨Nat.le_of_ble_eq_true rfl, Nat.le_of_ble_eq_true rfl⟩) hS (fun q _ h => hFc q h) hFc (fun r' u' t H locs ht hvm hw hB hz1 hk1 hS => ?_)
        subst hw
        obtain ⟨hP1, -, hD1⟩ := hB
        rw [ht] at hP1
        obtain ⟨hP, hD⟩ := jJoin (wc := (W_Tree cI (sh a 6) (g_State_first (g_LS_now S)))) (w1 := (W_Tree cI (sh a 6) (g_State_first (g_LS_now S)))) (ws' := (W_LS cI a S)) hP hD [6, 7] [0, 1, 2, 3, 4, 5, 8, 9, 10, 11, 12] [0, 1, 2, 3, 4, 5, 11, 12, 6, 7, 8, 9, 10] rfl rfl (by decide) (by decide) hk1 hFc hP1 hD1 (by decide) rfl
        have e50 := Sum.inr.inj (Option.some.inj hF)
        subst e50
        exact W.dret (v := r5) hx hb hr (fun t ht hW => ⟨⟨r5, (), rfl, rfl, by rw [ht]; exact hP, va_K.moved hW.alike hK, hD⟩, hS.F ht⟩) hS.2.2 dX4_sureShare_28
      · have hF := F_neg c4 hF
        have hPc := hP.sub (ws' := (W_State cI (sh a 5) (g_LS_now S))) [5, 6, 7, 8, 9] rfl
        have hDc := hD.sub (ws' := (W_State cI (sh a 5) (g_LS_now S))) [5, 6, 7, 8, 9] (by decide) rfl
        have hFc := va_free (wc := (W_State cI (sh a 5) (g_LS_now S))) hD hS hA [5, 6, 7, 8, 9] rfl
        refine va_callr (va_runV (As := [.int v1]) (rest := []) ⟨hx, hb, hml, hown, hts⟩ (c_X2_tree_second l dC dI cI (sh a 5) H.size _ _ c4) (cwV 1 hts gX4_sureShare_X2_tree rfl rfl rfl (by decide +kernel) ⟨Nat.le_of_ble_eq_true rfl, Nat.le_of_ble_eq_true rfl⟩) (jPreV hK hPc hDc hN (ci := 2) rfl rfl) rfl rfl hl.1 rfl (lv_room (Nat.le_of_ble_eq_true rfl)) dX4_sureShare_22 ⟨Nat.le_of_ble_eq_true rfl, Nat.le_of_ble_eq_true rfl⟩) hS (fun q _ h => hFc q h) hFc (fun u q9 t H locs ht hvm hw hB hz1 hk1 hS => ?_)
        obtain ⟨e9, hP1, -, hD1⟩ := hB
        subst e9
        rw [ht] at hP1
        obtain ⟨hP, hD⟩ := jJoin (wc := (W_State cI (sh a 5) (g_LS_now S))) (w1 := (W_State cI (sh a 5) (g_LS_now S))) (ws' := (W_LS cI a S)) hP hD [5, 6, 7, 8, 9] [0, 1, 2, 3, 4, 10, 11, 12] [0, 1, 2, 3, 4, 8, 9, 10, 11, 12, 5, 6, 7] rfl rfl (by decide) (by decide) hk1 hFc hP1 hD1 (by decide) rfl
        obtain ⟨r7, h8, hF⟩ := ob1_some hF
        have hPc := hP.sub (ws' := (W_Tree cI (sh a 8) (g_State_second (g_LS_now S)))) [8, 9] rfl
        have hDc := hD.sub (ws' := (W_Tree cI (sh a 8) (g_State_second (g_LS_now S)))) [8, 9] (by decide) rfl
        have hFc := va_free (wc := (W_Tree cI (sh a 8) (g_State_second (g_LS_now S)))) hD hS hA [8, 9] rfl
        refine va_calld (va_runS (As := [.ref (a 8)]) (rest := []) ⟨hx, hb, hml, hown, hts⟩ (c_X4_shareOfSure l dC dI cI (sh a 8) H.size _ _ h8) (va_cwS 1 hts gX4_sureShare_X4_shareOfSure rfl rfl rfl (by decide +kernel) ⟨Nat.le_of_ble_eq_true rfl, Nat.le_of_ble_eq_true rfl⟩) (jPreS hK hPc hDc hN) rfl rfl hl.1 rfl (lv_room (Nat.le_of_ble_eq_true rfl)) dX4_sureShare_25 ⟨Nat.le_of_ble_eq_true rfl, Nat.le_of_ble_eq_true rfl⟩) hS (fun q _ h => hFc q h) hFc (fun r' u' t H locs ht hvm hw hB hz1 hk1 hS => ?_)
        subst hw
        obtain ⟨hP1, -, hD1⟩ := hB
        rw [ht] at hP1
        obtain ⟨hP, hD⟩ := jJoin (wc := (W_Tree cI (sh a 8) (g_State_second (g_LS_now S)))) (w1 := (W_Tree cI (sh a 8) (g_State_second (g_LS_now S)))) (ws' := (W_LS cI a S)) hP hD [8, 9] [0, 1, 2, 3, 4, 5, 6, 7, 10, 11, 12] [0, 1, 2, 3, 4, 5, 6, 7, 11, 12, 8, 9, 10] rfl rfl (by decide) (by decide) hk1 hFc hP1 hD1 (by decide) rfl
        have e50 := Sum.inr.inj (Option.some.inj hF)
        subst e50
        exact W.dret (v := r7) hx hb hr (fun t ht hW => ⟨⟨r7, (), rfl, rfl, by rw [ht]; exact hP, va_K.moved hW.alike hK, hD⟩, hS.F ht⟩) hS.2.2 dX4_sureShare_28
    · have hF := F_pos c3 hF
      exact nomatch hF
  exact KE _ _ hP hD hS
