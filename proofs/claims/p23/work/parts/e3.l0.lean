theorem i32_rem (x y : Int32) : x - x / y * y = x % y := by
  apply Int32.toInt_inj.mp
  have hm : (x % y).toInt.bmod (2^32) = (x % y).toInt := Int.bmod_eq_of_le (by have := (x % y).le_toInt; omega) (by have := (x % y).toInt_lt; omega)
  rw [← hm, Int32.toInt_sub, Int32.toInt_mul, Int32.toInt_div, Int32.toInt_mod]
  rw [Int.bmod_mul_bmod, Int.sub_bmod_bmod]
  congr 1
  have := Int.tmod_add_mul_tdiv x.toInt y.toInt
  have h2 : Int.tdiv x.toInt y.toInt * y.toInt = y.toInt * Int.tdiv x.toInt y.toInt := Int.mul_comm _ _
  rw [h2]; omega
set_option maxHeartbeats 4000000 in
set_option maxRecDepth 100000 in
theorem c_L_low (l : Launch) (dC : Nat → ClassId) (dI : Nat → Nat → Nat) (cI : ClassId) (sz : Nat)  (v1 : Int32) (v2 : Int32) (rr : Int32) (hF : F_L_low  v1 v2 = some rr) : Met l yL_low wsL_low ({ frames := 0, cells := 0, slots := 0, locals := 0 } : Room) (va_Pc [.int v1, .int v2] (jPre (dC, dI) [(cI, .int)] sz (([] : va_W)))) (va_Qi (fun (r' : Int32) (_ : Unit) => rr = r') (fun _ : Unit => jB (dC, dI) [(cI, .int)] (va_A (([] : va_W)) sz) (([] : va_W))) (va_A (([] : va_W)) sz)) 0 0 (va_A (([] : va_W)) sz) := by
  refine Met.ofW (cc := cL_low) (maxL := 2) (ret := (some .int)) (by decide) rfl ?_
  intro p e s m args below meth c s₁ B hml hv
  obtain ⟨rfl, hsz, hP, hK, hD0, hN⟩ := hv
  have hx := B.exec
  have hb := B.bytes
  have hr := B.returns
  have hts := atoms_spec (ws := wsL_low) B.pre
  have hown : s.vm.findClass RL = some m.cls := findClass_of_methodNamed B.named
  have hlocks := B.notSynchronized
  subst hsz
  have hD := hD0.self (sz := s.heap.size)
  generalize hAe : (va_A (([] : va_W)) s.heap.size) = A at hD ⊢
  have hA : ∀ q : Nat, s.heap.size ≤ q → A q := fun q h => by rw [← hAe]; exact Or.inr h
  have hS : va_S A s.heap s.heap [] := va_S.rf
  have hl := lv_entry ([.int v1, .int v2]) (n := 2) (Nat.le_of_ble_eq_true rfl)
  rw [lg_entry_eq]
  generalize (lg_sl ([.int v1, .int v2]) ++ List.replicate (2 - (lg_sl ([.int v1, .int v2])).length) Slot.unset).toArray = ls at hl ⊢
  have hl : lv_has ls 2 [(0, .int v1), (1, .int v2)] := hl
  have KE : ∀ (H : Heap) (locs : List Loc), va_P (dC, dI) vwCl (([] : va_W)) H → va_D A (([] : va_W)) → va_S A s.heap H locs → W p l e (headSpec wsL_low ({ frames := 0, cells := 0, slots := 0, locals := 0 } : Room)).room s m ([.int v1, .int v2] : List Value).toArray below meth c H locs 0 0 (MQ below (va_Qi (fun (r' : Int32) (_ : Unit) => rr = r') (fun _ : Unit => jB (dC, dI) [(cI, .int)] A (([] : va_W))) A) ([.int v1, .int v2] : List Value).toArray s 0 0 A) (F0 m 0 ls []) := by
    intro H locs hP hD hS
    unfold F_L_low at hF
    refine lv_iload_n hx hb dL_low_0 rfl (lv_at hl 0 rfl) ?_
    refine lv_ldc (v := (2147483647 : Int32)) hx hb hown (hts (Cond.constant RL 7 (2147483647)) (List.mem_of_getElem? (i := 1) rfl)) dL_low_1 ?_
    refine lv_iand hx hb dL_low_3 ?_
    refine lv_iload_n hx hb dL_low_4 rfl (lv_at hl 1 rfl) ?_
    obtain ⟨g1, hF⟩ := og_some hF
    refine lv_irem hx hb dL_low_5 (of_decide_eq_true g1) ?_
    rw [i32_rem (v1 &&& (2147483647 : Int32)) v2]
    have e50 := Option.some.inj hF
    subst e50
    exact W.iret (v := ((v1 &&& (2147483647 : Int32)) % v2)) hx hb hr (fun t ht hW => ⟨⟨((v1 &&& (2147483647 : Int32)) % v2), (), rfl, rfl, by rw [ht]; exact hP, va_K.moved hW.alike hK, hD⟩, hS.F ht⟩) hS.2.2 dL_low_6
  exact KE _ _ hP hD hS
set_option maxHeartbeats 4000000 in
set_option maxRecDepth 100000 in
theorem c_L_cell (l : Launch) (dC : Nat → ClassId) (dI : Nat → Nat → Nat) (cI : ClassId) (bs L : Nat) (xs : Nat → Int32) (sz : Nat)  (v2 : Int32) (rr : Int32) (hF : F_L_cell L xs  v2 = some rr) (hbA0 : ¬ va_A (([] : va_W)) sz bs) : Met l yL_cell wsL_cell ({ frames := 0, cells := 0, slots := 0, locals := 0 } : Room) (va_Pc [.ref bs, .int v2] (jPreY (dC, dI) [(cI, .int)] sz (([] : va_W)) bs L xs)) (va_Qi (fun (r' : Int32) (_ : Unit) => rr = r') (fun _ : Unit => jB (dC, dI) [(cI, .int)] (va_A (([] : va_W)) sz) (([] : va_W))) (va_A (([] : va_W)) sz)) 0 0 (va_A (([] : va_W)) sz) := by
  refine Met.ofW (cc := cL_cell) (maxL := 2) (ret := (some .int)) (by decide) rfl ?_
  intro p e s m args below meth c s₁ B hml hv
  obtain ⟨rfl, ⟨hsz, hP, hK, hD0, hN⟩, hX, hbl⟩ := hv
  have hx := B.exec
  have hb := B.bytes
  have hr := B.returns
  have hts := atoms_spec (ws := wsL_cell) B.pre
  have hown : s.vm.findClass RL = some m.cls := findClass_of_methodNamed B.named
  have hlocks := B.notSynchronized
  subst hsz
  have hD := hD0.self (sz := s.heap.size)
  generalize hAe : (va_A (([] : va_W)) s.heap.size) = A at hD hbA0 ⊢
  have hbA : ¬ A bs := hbA0
  have hA : ∀ q : Nat, s.heap.size ≤ q → A q := fun q h => by rw [← hAe]; exact Or.inr h
  have hS : va_S A s.heap s.heap [] := va_S.rf
  have hl := lv_entry ([.ref bs, .int v2]) (n := 2) (Nat.le_of_ble_eq_true rfl)
  rw [lg_entry_eq]
  generalize (lg_sl ([.ref bs, .int v2]) ++ List.replicate (2 - (lg_sl ([.ref bs, .int v2])).length) Slot.unset).toArray = ls at hl ⊢
  have hl : lv_has ls 2 [(0, .ref bs), (1, .int v2)] := hl
  have KE : ∀ (H : Heap) (locs : List Loc), va_P (dC, dI) vwCl (([] : va_W)) H → va_D A (([] : va_W)) → va_S A s.heap H locs → W p l e (headSpec wsL_cell ({ frames := 0, cells := 0, slots := 0, locals := 0 } : Room)).room s m ([.ref bs, .int v2] : List Value).toArray below meth c H locs 0 0 (MQ below (va_Qi (fun (r' : Int32) (_ : Unit) => rr = r') (fun _ : Unit => jB (dC, dI) [(cI, .int)] A (([] : va_W))) A) ([.ref bs, .int v2] : List Value).toArray s 0 0 A) (F0 m 0 ls []) := by
    intro H locs hP hD hS
    unfold F_L_cell at hF
    refine lv_iload_n hx hb dL_cell_0 rfl (lv_at hl 1 rfl) ?_
    refine lv_aload_n hx hb dL_cell_1 rfl (lv_at hl 0 rfl) ?_
    refine va_slen hx hb hX hbl hbA hS dL_cell_2 ?_
    refine lv_icmp_ge (tgt := 12) hx hb dL_cell_3 (by decide) (fun c1 => ?_) (fun c1 => ?_)
    · have hF := F_pos c1 hF
      refine lv_ldc (v := (40503 : Int32)) hx hb hown (hts (Cond.constant RL 8 (40503)) (List.mem_of_getElem? (i := 1) rfl)) dL_cell_12 ?_
      refine lv_iload_n hx hb dL_cell_14 rfl (lv_at hl 1 rfl) ?_
      refine lv_imul hx hb dL_cell_15 ?_
      refine lv_sipush (v := (977 : Int32)) hx hb dL_cell_16 (by decide) ?_
      refine lv_iadd hx hb dL_cell_19 ?_
      have e50 := Option.some.inj hF
      subst e50
      exact W.iret (v := (((40503 : Int32) * v2) + (977 : Int32))) hx hb hr (fun t ht hW => ⟨⟨(((40503 : Int32) * v2) + (977 : Int32)), (), rfl, rfl, by rw [ht]; exact hP, va_K.moved hW.alike hK, hD⟩, hS.F ht⟩) hS.2.2 dL_cell_20
    · have hF := F_neg c1 hF
      refine lv_aload_n hx hb dL_cell_6 rfl (lv_at hl 0 rfl) ?_
      refine lv_iload_n hx hb dL_cell_7 rfl (lv_at hl 1 rfl) ?_
      obtain ⟨g2, hF⟩ := og_some hF
      refine va_sld hx hb hX hbl hbA hS (inb_in g2) dL_cell_8 ?_
      refine lv_goto (tgt := 20) hx hb dL_cell_9 (by decide) ?_
      have e50 := Option.some.inj hF
      subst e50
      exact W.iret (v := (xs v2.toNatClampNeg)) hx hb hr (fun t ht hW => ⟨⟨(xs v2.toNatClampNeg), (), rfl, rfl, by rw [ht]; exact hP, va_K.moved hW.alike hK, hD⟩, hS.F ht⟩) hS.2.2 dL_cell_20
  exact KE _ _ hP hD hS
set_option maxHeartbeats 4000000 in
set_option maxRecDepth 100000 in
theorem c_L_simple (l : Launch) (dC : Nat → ClassId) (dI : Nat → Nat → Nat) (cI : ClassId) (a : Nat → Nat) (sz : Nat) (S : S_LS) (v2 : Int32) (v3 : Int32) (Y : S_LS) (hF : F_L_simple S v2 v3 = some Y) : Met l yL_simple wsL_simple ({ frames := 7, cells := 0, slots := 0, locals := 111 } : Room) (va_Pc [.ref (a 0), .int v2, .int v3] (jPre (dC, dI) [(cI, .int)] sz ((W_LS cI a S)))) (va_Qv (fun u : S_LS => Y = u) (fun u : S_LS => jB (dC, dI) [(cI, .int)] (va_A ((W_LS cI a S)) sz) ((W_LS cI a u))) (va_A ((W_LS cI a S)) sz)) 0 0 (va_A ((W_LS cI a S)) sz) := by
  refine Met.ofW (cc := cL_simple) (maxL := 3) (ret := none) (by decide) rfl ?_
  intro p e s m args below meth c s₁ B hml hv
  obtain ⟨rfl, hsz, hP, hK, hD0, hN⟩ := hv
  have hx := B.exec
  have hb := B.bytes
  have hr := B.returns
  have hts := atoms_spec (ws := wsL_simple) B.pre
  have hown : s.vm.findClass RL = some m.cls := findClass_of_methodNamed B.named
  have hlocks := B.notSynchronized
  subst hsz
  have hD := hD0.self (sz := s.heap.size)
  generalize hAe : (va_A ((W_LS cI a S)) s.heap.size) = A at hD ⊢
  have hA : ∀ q : Nat, s.heap.size ≤ q → A q := fun q h => by rw [← hAe]; exact Or.inr h
  have hS : va_S A s.heap s.heap [] := va_S.rf
  have hl := lv_entry ([.ref (a 0), .int v2, .int v3]) (n := 3) (Nat.le_of_ble_eq_true rfl)
  rw [lg_entry_eq]
  generalize (lg_sl ([.ref (a 0), .int v2, .int v3]) ++ List.replicate (3 - (lg_sl ([.ref (a 0), .int v2, .int v3])).length) Slot.unset).toArray = ls at hl ⊢
  have hl : lv_has ls 3 [(0, .ref (a 0)), (1, .int v2), (2, .int v3)] := hl
  have K54 : ∀ (S : S_LS) (H : Heap) (locs : List Loc), F_L_simple_54 v2 v3 S = some Y → va_P (dC, dI) vwCl ((W_LS cI a S)) H → va_D A ((W_LS cI a S)) → va_S A s.heap H locs → ∀ ls : Array Slot, lv_has ls 3 [(0, .ref (a 0)), (1, .int v2), (2, .int v3)] → W p l e (headSpec wsL_simple ({ frames := 7, cells := 0, slots := 0, locals := 111 } : Room)).room s m ([.ref (a 0), .int v2, .int v3] : List Value).toArray below meth c H locs 0 0 (MQ below (va_Qv (fun u : S_LS => Y = u) (fun u : S_LS => jB (dC, dI) [(cI, .int)] A ((W_LS cI a u))) A) ([.ref (a 0), .int v2, .int v3] : List Value).toArray s 0 0 A) (F0 m 54 ls []) := by
    intro S H locs hF hP hD hS ls hl
    unfold F_L_simple_54 at hF
    refine lv_aload_n hx hb dL_simple_54 rfl (lv_at hl 0 rfl) ?_
    refine lv_bipush (v := (49 : Int32)) hx hb dL_simple_55 (by decide) ?_
    refine lv_iload_n hx hb dL_simple_57 rfl (lv_at hl 2 rfl) ?_
    refine lv_bipush (v := (9 : Int32)) hx hb dL_simple_58 (by decide) ?_
    obtain ⟨r1, h2, hF⟩ := ob1_some hF
    have hPc : va_P (dC, dI) vwCl ([] : va_W) H := fun k q h => by simp at h
    have hDc : va_D A ([] : va_W) := ⟨fun i j p q h => by simp at h, fun k q h => by simp at h⟩
    have hFc := jFreeW (ws := []) hDc hS hA
    refine va_calli (va_runS (As := [.int v3, .int (9 : Int32)]) (rest := [.int (49 : Int32), .ref (a 0)]) ⟨hx, hb, hml, hown, hts⟩ (c_L_low l dC dI cI  H.size _ _ _ h2) (va_cwS 2 hts gL_simple_L_low rfl rfl rfl (by decide +kernel) ⟨Nat.le_of_ble_eq_true rfl, Nat.le_of_ble_eq_true rfl⟩) (jPreS hK hPc hDc hN) rfl rfl hl.1 rfl (lv_room (Nat.le_of_ble_eq_true rfl)) dL_simple_60 ⟨Nat.le_of_ble_eq_true rfl, Nat.le_of_ble_eq_true rfl⟩) hS (fun q _ h => hFc q h) hFc (fun r' u' t H locs ht hvm hw hB hz1 hk1 hS => ?_)
    subst hw
    obtain ⟨hP1, -, hD1⟩ := hB
    rw [ht] at hP1
    have hP : va_P (dC, dI) vwCl ((W_LS cI a S)) H := jNone hP hk1
    refine lv_iadd hx hb dL_simple_63 ?_
    obtain ⟨r3, u4, h5, hF⟩ := ob2_some hF
    have h5 := okr_some h5
    have hPc : va_P (dC, dI) vwCl ((W_LS cI a S)) H := hP
    have hDc : va_D A ((W_LS cI a S)) := hD
    have hFc := jFreeW (ws := (W_LS cI a S)) hD hS hA
    refine va_calli (va_runV (As := [.int ((49 : Int32) + r1)]) (rest := []) ⟨hx, hb, hml, hown, hts⟩ (c_X4_append_ok l dC dI cI a H.size _ _ _ _ h5) (cwV 1 hts gL_simple_X4_append rfl rfl rfl (by decide +kernel) ⟨Nat.le_of_ble_eq_true rfl, Nat.le_of_ble_eq_true rfl⟩) (jPreV hK hPc hDc hN (ci := 4) rfl rfl) rfl rfl hl.1 rfl (lv_room (Nat.le_of_ble_eq_true rfl)) dL_simple_64 ⟨Nat.le_of_ble_eq_true rfl, Nat.le_of_ble_eq_true rfl⟩) hS (fun q _ h => hFc q h) hFc (fun r' u' t H locs ht hvm hw hB hz1 hk1 hS => ?_)
    obtain ⟨e1, e2⟩ := hw
    subst e1
    subst e2
    obtain ⟨hP1, -, hD1⟩ := hB
    rw [ht] at hP1
    have hP : va_P (dC, dI) vwCl ((W_LS cI a u4)) H := hP1
    have hD : va_D A ((W_LS cI a u4)) := hD1.weaken (fun _ _ _ h => hFc _ h)
    refine lv_pop hx hb dL_simple_67 rfl ?_
    refine lv_iload_n hx hb dL_simple_68 rfl (lv_at hl 1 rfl) ?_
    refine lv_iconst (v := (4 : Int32)) hx hb dL_simple_69 (by decide) ?_
    refine lv_icmp_ne (tgt := 125) hx hb dL_simple_70 (by decide) (fun c6 => ?_) (fun c6 => ?_)
    · have hF := F_neg c6 hF
      have e50 := Option.some.inj hF
      subst e50
      exact W.vret hx hb hr (fun t ht hW => ⟨⟨u4, rfl, rfl, by rw [ht]; exact hP, va_K.moved hW.alike hK, hD⟩, hS.F ht⟩) hS.2.2 dL_simple_125
    · have hF := F_pos c6 hF
      refine lv_aload_n hx hb dL_simple_73 rfl (lv_at hl 0 rfl) ?_
      refine lv_bipush (v := (46 : Int32)) hx hb dL_simple_74 (by decide) ?_
      obtain ⟨r7, u8, h9, hF⟩ := ob2_some hF
      have h9 := okr_some h9
      have hPc : va_P (dC, dI) vwCl ((W_LS cI a u4)) H := hP
      have hDc : va_D A ((W_LS cI a u4)) := hD
      have hFc := jFreeW (ws := (W_LS cI a u4)) hD hS hA
      refine va_calli (va_runV (As := [.int (46 : Int32)]) (rest := []) ⟨hx, hb, hml, hown, hts⟩ (c_X4_append_ok l dC dI cI a H.size _ _ _ _ h9) (cwV 1 hts gL_simple_X4_append rfl rfl rfl (by decide +kernel) ⟨Nat.le_of_ble_eq_true rfl, Nat.le_of_ble_eq_true rfl⟩) (jPreV hK hPc hDc hN (ci := 4) rfl rfl) rfl rfl hl.1 rfl (lv_room (Nat.le_of_ble_eq_true rfl)) dL_simple_76 ⟨Nat.le_of_ble_eq_true rfl, Nat.le_of_ble_eq_true rfl⟩) hS (fun q _ h => hFc q h) hFc (fun r' u' t H locs ht hvm hw hB hz1 hk1 hS => ?_)
      obtain ⟨e1, e2⟩ := hw
      subst e1
      subst e2
      obtain ⟨hP1, -, hD1⟩ := hB
      rw [ht] at hP1
      have hP : va_P (dC, dI) vwCl ((W_LS cI a u8)) H := hP1
      have hD : va_D A ((W_LS cI a u8)) := hD1.weaken (fun _ _ _ h => hFc _ h)
      refine lv_pop hx hb dL_simple_79 rfl ?_
      refine lv_aload_n hx hb dL_simple_80 rfl (lv_at hl 0 rfl) ?_
      refine lv_bipush (v := (48 : Int32)) hx hb dL_simple_81 (by decide) ?_
      refine lv_iload_n hx hb dL_simple_83 rfl (lv_at hl 2 rfl) ?_
      refine lv_bipush (v := (10 : Int32)) hx hb dL_simple_84 (by decide) ?_
      obtain ⟨r10, h11, hF⟩ := ob1_some hF
      have hPc : va_P (dC, dI) vwCl ([] : va_W) H := fun k q h => by simp at h
      have hDc : va_D A ([] : va_W) := ⟨fun i j p q h => by simp at h, fun k q h => by simp at h⟩
      have hFc := jFreeW (ws := []) hDc hS hA
      refine va_calli (va_runS (As := [.int v3, .int (10 : Int32)]) (rest := [.int (48 : Int32), .ref (a 0)]) ⟨hx, hb, hml, hown, hts⟩ (c_L_low l dC dI cI  H.size _ _ _ h11) (va_cwS 2 hts gL_simple_L_low rfl rfl rfl (by decide +kernel) ⟨Nat.le_of_ble_eq_true rfl, Nat.le_of_ble_eq_true rfl⟩) (jPreS hK hPc hDc hN) rfl rfl hl.1 rfl (lv_room (Nat.le_of_ble_eq_true rfl)) dL_simple_86 ⟨Nat.le_of_ble_eq_true rfl, Nat.le_of_ble_eq_true rfl⟩) hS (fun q _ h => hFc q h) hFc (fun r' u' t H locs ht hvm hw hB hz1 hk1 hS => ?_)
      subst hw
      obtain ⟨hP1, -, hD1⟩ := hB
      rw [ht] at hP1
      have hP : va_P (dC, dI) vwCl ((W_LS cI a u8)) H := jNone hP hk1
      refine lv_iadd hx hb dL_simple_89 ?_
      obtain ⟨r12, u13, h14, hF⟩ := ob2_some hF
      have h14 := okr_some h14
      have hPc : va_P (dC, dI) vwCl ((W_LS cI a u8)) H := hP
      have hDc : va_D A ((W_LS cI a u8)) := hD
      have hFc := jFreeW (ws := (W_LS cI a u8)) hD hS hA
      refine va_calli (va_runV (As := [.int ((48 : Int32) + r10)]) (rest := []) ⟨hx, hb, hml, hown, hts⟩ (c_X4_append_ok l dC dI cI a H.size _ _ _ _ h14) (cwV 1 hts gL_simple_X4_append rfl rfl rfl (by decide +kernel) ⟨Nat.le_of_ble_eq_true rfl, Nat.le_of_ble_eq_true rfl⟩) (jPreV hK hPc hDc hN (ci := 4) rfl rfl) rfl rfl hl.1 rfl (lv_room (Nat.le_of_ble_eq_true rfl)) dL_simple_90 ⟨Nat.le_of_ble_eq_true rfl, Nat.le_of_ble_eq_true rfl⟩) hS (fun q _ h => hFc q h) hFc (fun r' u' t H locs ht hvm hw hB hz1 hk1 hS => ?_)
      obtain ⟨e1, e2⟩ := hw
      subst e1
      subst e2
      obtain ⟨hP1, -, hD1⟩ := hB
      rw [ht] at hP1
      have hP : va_P (dC, dI) vwCl ((W_LS cI a u13)) H := hP1
      have hD : va_D A ((W_LS cI a u13)) := hD1.weaken (fun _ _ _ h => hFc _ h)
      refine lv_pop hx hb dL_simple_93 rfl ?_
      refine lv_goto (tgt := 125) hx hb dL_simple_94 (by decide) ?_
      have e50 := Option.some.inj hF
      subst e50
      exact W.vret hx hb hr (fun t ht hW => ⟨⟨u13, rfl, rfl, by rw [ht]; exact hP, va_K.moved hW.alike hK, hD⟩, hS.F ht⟩) hS.2.2 dL_simple_125
  have KE : ∀ (H : Heap) (locs : List Loc), va_P (dC, dI) vwCl ((W_LS cI a S)) H → va_D A ((W_LS cI a S)) → va_S A s.heap H locs → W p l e (headSpec wsL_simple ({ frames := 7, cells := 0, slots := 0, locals := 111 } : Room)).room s m ([.ref (a 0), .int v2, .int v3] : List Value).toArray below meth c H locs 0 0 (MQ below (va_Qv (fun u : S_LS => Y = u) (fun u : S_LS => jB (dC, dI) [(cI, .int)] A ((W_LS cI a u))) A) ([.ref (a 0), .int v2, .int v3] : List Value).toArray s 0 0 A) (F0 m 0 ls []) := by
    intro H locs hP hD hS
    unfold F_L_simple at hF
    refine lv_iload_n hx hb dL_simple_0 rfl (lv_at hl 1 rfl) ?_
    refine lv_iconst (v := (3 : Int32)) hx hb dL_simple_1 (by decide) ?_
    refine lv_icmp_ge (tgt := 34) hx hb dL_simple_2 (by decide) (fun c15 => ?_) (fun c15 => ?_)
    · have hF := F_pos c15 hF
      refine lv_iload_n hx hb dL_simple_34 rfl (lv_at hl 1 rfl) ?_
      refine lv_iconst (v := (5 : Int32)) hx hb dL_simple_35 (by decide) ?_
      refine lv_icmp_ge (tgt := 97) hx hb dL_simple_36 (by decide) (fun c16 => ?_) (fun c16 => ?_)
      · have hF := F_pos c16 hF
        refine lv_aload_n hx hb dL_simple_97 rfl (lv_at hl 0 rfl) ?_
        refine lv_bipush (v := (39 : Int32)) hx hb dL_simple_98 (by decide) ?_
        obtain ⟨r17, u18, h19, hF⟩ := ob2_some hF
        have h19 := okr_some h19
        have hPc : va_P (dC, dI) vwCl ((W_LS cI a S)) H := hP
        have hDc : va_D A ((W_LS cI a S)) := hD
        have hFc := jFreeW (ws := (W_LS cI a S)) hD hS hA
        refine va_calli (va_runV (As := [.int (39 : Int32)]) (rest := []) ⟨hx, hb, hml, hown, hts⟩ (c_X4_append_ok l dC dI cI a H.size _ _ _ _ h19) (cwV 1 hts gL_simple_X4_append rfl rfl rfl (by decide +kernel) ⟨Nat.le_of_ble_eq_true rfl, Nat.le_of_ble_eq_true rfl⟩) (jPreV hK hPc hDc hN (ci := 4) rfl rfl) rfl rfl hl.1 rfl (lv_room (Nat.le_of_ble_eq_true rfl)) dL_simple_100 ⟨Nat.le_of_ble_eq_true rfl, Nat.le_of_ble_eq_true rfl⟩) hS (fun q _ h => hFc q h) hFc (fun r' u' t H locs ht hvm hw hB hz1 hk1 hS => ?_)
        obtain ⟨e1, e2⟩ := hw
        subst e1
        subst e2
        obtain ⟨hP1, -, hD1⟩ := hB
        rw [ht] at hP1
        have hP : va_P (dC, dI) vwCl ((W_LS cI a u18)) H := hP1
        have hD : va_D A ((W_LS cI a u18)) := hD1.weaken (fun _ _ _ h => hFc _ h)
        refine lv_pop hx hb dL_simple_103 rfl ?_
        refine lv_aload_n hx hb dL_simple_104 rfl (lv_at hl 0 rfl) ?_
        refine lv_bipush (v := (97 : Int32)) hx hb dL_simple_105 (by decide) ?_
        refine lv_iload_n hx hb dL_simple_107 rfl (lv_at hl 2 rfl) ?_
        refine lv_bipush (v := (26 : Int32)) hx hb dL_simple_108 (by decide) ?_
        obtain ⟨r20, h21, hF⟩ := ob1_some hF
        have hPc : va_P (dC, dI) vwCl ([] : va_W) H := fun k q h => by simp at h
        have hDc : va_D A ([] : va_W) := ⟨fun i j p q h => by simp at h, fun k q h => by simp at h⟩
        have hFc := jFreeW (ws := []) hDc hS hA
        refine va_calli (va_runS (As := [.int v3, .int (26 : Int32)]) (rest := [.int (97 : Int32), .ref (a 0)]) ⟨hx, hb, hml, hown, hts⟩ (c_L_low l dC dI cI  H.size _ _ _ h21) (va_cwS 2 hts gL_simple_L_low rfl rfl rfl (by decide +kernel) ⟨Nat.le_of_ble_eq_true rfl, Nat.le_of_ble_eq_true rfl⟩) (jPreS hK hPc hDc hN) rfl rfl hl.1 rfl (lv_room (Nat.le_of_ble_eq_true rfl)) dL_simple_110 ⟨Nat.le_of_ble_eq_true rfl, Nat.le_of_ble_eq_true rfl⟩) hS (fun q _ h => hFc q h) hFc (fun r' u' t H locs ht hvm hw hB hz1 hk1 hS => ?_)
        subst hw
        obtain ⟨hP1, -, hD1⟩ := hB
        rw [ht] at hP1
        have hP : va_P (dC, dI) vwCl ((W_LS cI a u18)) H := jNone hP hk1
        refine lv_iadd hx hb dL_simple_113 ?_
        obtain ⟨r22, u23, h24, hF⟩ := ob2_some hF
        have h24 := okr_some h24
        have hPc : va_P (dC, dI) vwCl ((W_LS cI a u18)) H := hP
        have hDc : va_D A ((W_LS cI a u18)) := hD
        have hFc := jFreeW (ws := (W_LS cI a u18)) hD hS hA
        refine va_calli (va_runV (As := [.int ((97 : Int32) + r20)]) (rest := []) ⟨hx, hb, hml, hown, hts⟩ (c_X4_append_ok l dC dI cI a H.size _ _ _ _ h24) (cwV 1 hts gL_simple_X4_append rfl rfl rfl (by decide +kernel) ⟨Nat.le_of_ble_eq_true rfl, Nat.le_of_ble_eq_true rfl⟩) (jPreV hK hPc hDc hN (ci := 4) rfl rfl) rfl rfl hl.1 rfl (lv_room (Nat.le_of_ble_eq_true rfl)) dL_simple_114 ⟨Nat.le_of_ble_eq_true rfl, Nat.le_of_ble_eq_true rfl⟩) hS (fun q _ h => hFc q h) hFc (fun r' u' t H locs ht hvm hw hB hz1 hk1 hS => ?_)
        obtain ⟨e1, e2⟩ := hw
        subst e1
        subst e2
        obtain ⟨hP1, -, hD1⟩ := hB
        rw [ht] at hP1
        have hP : va_P (dC, dI) vwCl ((W_LS cI a u23)) H := hP1
        have hD : va_D A ((W_LS cI a u23)) := hD1.weaken (fun _ _ _ h => hFc _ h)
        refine lv_pop hx hb dL_simple_117 rfl ?_
        refine lv_aload_n hx hb dL_simple_118 rfl (lv_at hl 0 rfl) ?_
        refine lv_bipush (v := (39 : Int32)) hx hb dL_simple_119 (by decide) ?_
        obtain ⟨r25, u26, h27, hF⟩ := ob2_some hF
        have h27 := okr_some h27
        have hPc : va_P (dC, dI) vwCl ((W_LS cI a u23)) H := hP
        have hDc : va_D A ((W_LS cI a u23)) := hD
        have hFc := jFreeW (ws := (W_LS cI a u23)) hD hS hA
        refine va_calli (va_runV (As := [.int (39 : Int32)]) (rest := []) ⟨hx, hb, hml, hown, hts⟩ (c_X4_append_ok l dC dI cI a H.size _ _ _ _ h27) (cwV 1 hts gL_simple_X4_append rfl rfl rfl (by decide +kernel) ⟨Nat.le_of_ble_eq_true rfl, Nat.le_of_ble_eq_true rfl⟩) (jPreV hK hPc hDc hN (ci := 4) rfl rfl) rfl rfl hl.1 rfl (lv_room (Nat.le_of_ble_eq_true rfl)) dL_simple_121 ⟨Nat.le_of_ble_eq_true rfl, Nat.le_of_ble_eq_true rfl⟩) hS (fun q _ h => hFc q h) hFc (fun r' u' t H locs ht hvm hw hB hz1 hk1 hS => ?_)
        obtain ⟨e1, e2⟩ := hw
        subst e1
        subst e2
        obtain ⟨hP1, -, hD1⟩ := hB
        rw [ht] at hP1
        have hP : va_P (dC, dI) vwCl ((W_LS cI a u26)) H := hP1
        have hD : va_D A ((W_LS cI a u26)) := hD1.weaken (fun _ _ _ h => hFc _ h)
        refine lv_pop hx hb dL_simple_124 rfl ?_
        have e50 := Option.some.inj hF
        subst e50
        exact W.vret hx hb hr (fun t ht hW => ⟨⟨u26, rfl, rfl, by rw [ht]; exact hP, va_K.moved hW.alike hK, hD⟩, hS.F ht⟩) hS.2.2 dL_simple_125
      · have hF := F_neg c16 hF
        refine lv_iload_n hx hb dL_simple_39 rfl (lv_at hl 2 rfl) ?_
        refine lv_iconst (v := (2 : Int32)) hx hb dL_simple_40 (by decide) ?_
        obtain ⟨r28, h29, hF⟩ := ob1_some hF
        have hPc : va_P (dC, dI) vwCl ([] : va_W) H := fun k q h => by simp at h
        have hDc : va_D A ([] : va_W) := ⟨fun i j p q h => by simp at h, fun k q h => by simp at h⟩
        have hFc := jFreeW (ws := []) hDc hS hA
        refine va_calli (va_runS (As := [.int v3, .int (2 : Int32)]) (rest := []) ⟨hx, hb, hml, hown, hts⟩ (c_L_low l dC dI cI  H.size _ _ _ h29) (va_cwS 2 hts gL_simple_L_low rfl rfl rfl (by decide +kernel) ⟨Nat.le_of_ble_eq_true rfl, Nat.le_of_ble_eq_true rfl⟩) (jPreS hK hPc hDc hN) rfl rfl hl.1 rfl (lv_room (Nat.le_of_ble_eq_true rfl)) dL_simple_41 ⟨Nat.le_of_ble_eq_true rfl, Nat.le_of_ble_eq_true rfl⟩) hS (fun q _ h => hFc q h) hFc (fun r' u' t H locs ht hvm hw hB hz1 hk1 hS => ?_)
        subst hw
        obtain ⟨hP1, -, hD1⟩ := hB
        rw [ht] at hP1
        have hP : va_P (dC, dI) vwCl ((W_LS cI a S)) H := jNone hP hk1
        refine lv_if_ne (tgt := 54) hx hb dL_simple_44 (by decide) (fun c30 => ?_) (fun c30 => ?_)
        · have hF := F_neg c30 hF
          exact K54 _ _ _ hF hP hD hS _ (lv_sub hl [0, 1, 2] rfl)
        · have hF := F_pos c30 hF
          refine lv_aload_n hx hb dL_simple_47 rfl (lv_at hl 0 rfl) ?_
          refine lv_bipush (v := (45 : Int32)) hx hb dL_simple_48 (by decide) ?_
          obtain ⟨r31, u32, h33, hF⟩ := ob2_some hF
          have h33 := okr_some h33
          have hPc : va_P (dC, dI) vwCl ((W_LS cI a S)) H := hP
          have hDc : va_D A ((W_LS cI a S)) := hD
          have hFc := jFreeW (ws := (W_LS cI a S)) hD hS hA
          refine va_calli (va_runV (As := [.int (45 : Int32)]) (rest := []) ⟨hx, hb, hml, hown, hts⟩ (c_X4_append_ok l dC dI cI a H.size _ _ _ _ h33) (cwV 1 hts gL_simple_X4_append rfl rfl rfl (by decide +kernel) ⟨Nat.le_of_ble_eq_true rfl, Nat.le_of_ble_eq_true rfl⟩) (jPreV hK hPc hDc hN (ci := 4) rfl rfl) rfl rfl hl.1 rfl (lv_room (Nat.le_of_ble_eq_true rfl)) dL_simple_50 ⟨Nat.le_of_ble_eq_true rfl, Nat.le_of_ble_eq_true rfl⟩) hS (fun q _ h => hFc q h) hFc (fun r' u' t H locs ht hvm hw hB hz1 hk1 hS => ?_)
          obtain ⟨e1, e2⟩ := hw
          subst e1
          subst e2
          obtain ⟨hP1, -, hD1⟩ := hB
          rw [ht] at hP1
          have hP : va_P (dC, dI) vwCl ((W_LS cI a u32)) H := hP1
          have hD : va_D A ((W_LS cI a u32)) := hD1.weaken (fun _ _ _ h => hFc _ h)
          refine lv_pop hx hb dL_simple_53 rfl ?_
          exact K54 _ _ _ hF hP hD hS _ (lv_sub hl [0, 1, 2] rfl)
    · have hF := F_neg c15 hF
      refine lv_aload_n hx hb dL_simple_5 rfl (lv_at hl 0 rfl) ?_
      refine lv_iload_n hx hb dL_simple_6 rfl (lv_at hl 1 rfl) ?_
      refine lv_if_ne (tgt := 15) hx hb dL_simple_7 (by decide) (fun c34 => ?_) (fun c34 => ?_)
      · have hF := F_neg c34 hF
        refine lv_iload_n hx hb dL_simple_15 rfl (lv_at hl 1 rfl) ?_
        refine lv_iconst (v := (1 : Int32)) hx hb dL_simple_16 (by decide) ?_
        refine lv_icmp_ne (tgt := 25) hx hb dL_simple_17 (by decide) (fun c35 => ?_) (fun c35 => ?_)
        · have hF := F_neg c35 hF
          refine lv_bipush (v := (102 : Int32)) hx hb dL_simple_25 (by decide) ?_
          obtain ⟨r36, u37, h38, hF⟩ := ob2_some hF
          have h38 := okr_some h38
          have hPc : va_P (dC, dI) vwCl ((W_LS cI a S)) H := hP
          have hDc : va_D A ((W_LS cI a S)) := hD
          have hFc := jFreeW (ws := (W_LS cI a S)) hD hS hA
          refine va_calli (va_runV (As := [.int (102 : Int32)]) (rest := []) ⟨hx, hb, hml, hown, hts⟩ (c_X4_append_ok l dC dI cI a H.size _ _ _ _ h38) (cwV 1 hts gL_simple_X4_append rfl rfl rfl (by decide +kernel) ⟨Nat.le_of_ble_eq_true rfl, Nat.le_of_ble_eq_true rfl⟩) (jPreV hK hPc hDc hN (ci := 4) rfl rfl) rfl rfl hl.1 rfl (lv_room (Nat.le_of_ble_eq_true rfl)) dL_simple_27 ⟨Nat.le_of_ble_eq_true rfl, Nat.le_of_ble_eq_true rfl⟩) hS (fun q _ h => hFc q h) hFc (fun r' u' t H locs ht hvm hw hB hz1 hk1 hS => ?_)
          obtain ⟨e1, e2⟩ := hw
          subst e1
          subst e2
          obtain ⟨hP1, -, hD1⟩ := hB
          rw [ht] at hP1
          have hP : va_P (dC, dI) vwCl ((W_LS cI a u37)) H := hP1
          have hD : va_D A ((W_LS cI a u37)) := hD1.weaken (fun _ _ _ h => hFc _ h)
          refine lv_pop hx hb dL_simple_30 rfl ?_
          refine lv_goto (tgt := 125) hx hb dL_simple_31 (by decide) ?_
          have e50 := Option.some.inj hF
          subst e50
          exact W.vret hx hb hr (fun t ht hW => ⟨⟨u37, rfl, rfl, by rw [ht]; exact hP, va_K.moved hW.alike hK, hD⟩, hS.F ht⟩) hS.2.2 dL_simple_125
        · have hF := F_pos c35 hF
          refine lv_bipush (v := (116 : Int32)) hx hb dL_simple_20 (by decide) ?_
          refine lv_goto (tgt := 27) hx hb dL_simple_22 (by decide) ?_
          obtain ⟨r39, u40, h41, hF⟩ := ob2_some hF
          have h41 := okr_some h41
          have hPc : va_P (dC, dI) vwCl ((W_LS cI a S)) H := hP
          have hDc : va_D A ((W_LS cI a S)) := hD
          have hFc := jFreeW (ws := (W_LS cI a S)) hD hS hA
          refine va_calli (va_runV (As := [.int (116 : Int32)]) (rest := []) ⟨hx, hb, hml, hown, hts⟩ (c_X4_append_ok l dC dI cI a H.size _ _ _ _ h41) (cwV 1 hts gL_simple_X4_append rfl rfl rfl (by decide +kernel) ⟨Nat.le_of_ble_eq_true rfl, Nat.le_of_ble_eq_true rfl⟩) (jPreV hK hPc hDc hN (ci := 4) rfl rfl) rfl rfl hl.1 rfl (lv_room (Nat.le_of_ble_eq_true rfl)) dL_simple_27 ⟨Nat.le_of_ble_eq_true rfl, Nat.le_of_ble_eq_true rfl⟩) hS (fun q _ h => hFc q h) hFc (fun r' u' t H locs ht hvm hw hB hz1 hk1 hS => ?_)
          obtain ⟨e1, e2⟩ := hw
          subst e1
          subst e2
          obtain ⟨hP1, -, hD1⟩ := hB
          rw [ht] at hP1
          have hP : va_P (dC, dI) vwCl ((W_LS cI a u40)) H := hP1
          have hD : va_D A ((W_LS cI a u40)) := hD1.weaken (fun _ _ _ h => hFc _ h)
          refine lv_pop hx hb dL_simple_30 rfl ?_
          refine lv_goto (tgt := 125) hx hb dL_simple_31 (by decide) ?_
          have e50 := Option.some.inj hF
          subst e50
          exact W.vret hx hb hr (fun t ht hW => ⟨⟨u40, rfl, rfl, by rw [ht]; exact hP, va_K.moved hW.alike hK, hD⟩, hS.F ht⟩) hS.2.2 dL_simple_125
      · have hF := F_pos c34 hF
        refine lv_bipush (v := (110 : Int32)) hx hb dL_simple_10 (by decide) ?_
        refine lv_goto (tgt := 27) hx hb dL_simple_12 (by decide) ?_
        obtain ⟨r42, u43, h44, hF⟩ := ob2_some hF
        have h44 := okr_some h44
        have hPc : va_P (dC, dI) vwCl ((W_LS cI a S)) H := hP
        have hDc : va_D A ((W_LS cI a S)) := hD
        have hFc := jFreeW (ws := (W_LS cI a S)) hD hS hA
        refine va_calli (va_runV (As := [.int (110 : Int32)]) (rest := []) ⟨hx, hb, hml, hown, hts⟩ (c_X4_append_ok l dC dI cI a H.size _ _ _ _ h44) (cwV 1 hts gL_simple_X4_append rfl rfl rfl (by decide +kernel) ⟨Nat.le_of_ble_eq_true rfl, Nat.le_of_ble_eq_true rfl⟩) (jPreV hK hPc hDc hN (ci := 4) rfl rfl) rfl rfl hl.1 rfl (lv_room (Nat.le_of_ble_eq_true rfl)) dL_simple_27 ⟨Nat.le_of_ble_eq_true rfl, Nat.le_of_ble_eq_true rfl⟩) hS (fun q _ h => hFc q h) hFc (fun r' u' t H locs ht hvm hw hB hz1 hk1 hS => ?_)
        obtain ⟨e1, e2⟩ := hw
        subst e1
        subst e2
        obtain ⟨hP1, -, hD1⟩ := hB
        rw [ht] at hP1
        have hP : va_P (dC, dI) vwCl ((W_LS cI a u43)) H := hP1
        have hD : va_D A ((W_LS cI a u43)) := hD1.weaken (fun _ _ _ h => hFc _ h)
        refine lv_pop hx hb dL_simple_30 rfl ?_
        refine lv_goto (tgt := 125) hx hb dL_simple_31 (by decide) ?_
        have e50 := Option.some.inj hF
        subst e50
        exact W.vret hx hb hr (fun t ht hW => ⟨⟨u43, rfl, rfl, by rw [ht]; exact hP, va_K.moved hW.alike hK, hD⟩, hS.F ht⟩) hS.2.2 dL_simple_125
  exact KE _ _ hP hD hS
