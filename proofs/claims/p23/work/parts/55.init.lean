def adl (L : List Nat) : Nat → Nat := fun i => L.getD i 0
theorem jCls {D : va_G} {tys : List (ClassId × FieldType)} {s : State} {c0 c1 : ClassId} (hK : va_K D vwCl tys s) (i j : Nat) (h0 : tys[i]? = some (c0, .int)) (h1 : tys[j]? = some (c1, .int)) : c0 = c1 := Option.some.inj (Eq.trans (hK.2 i _ h0).2.symm (hK.2 j _ h1).2)
theorem jClsQ {D : va_G} {tys : List (ClassId × FieldType)} {s : State} {C : String} {c0 c1 : ClassId} (hK : va_K D vwCl tys s) (i j : Nat) (h0 : tys[i]? = some (c0, .object C)) (h1 : tys[j]? = some (c1, .object C)) : c0 = c1 := by
  obtain ⟨_, _, _, _, _, e0⟩ := (hK.2 i _ h0).2
  obtain ⟨_, _, _, _, _, e1⟩ := (hK.2 j _ h1).2
  exact Option.some.inj (e0.symm.trans e1)
/-- a row of references that is being filled -/
def rlN (L : List Nat) : Nat → Option Nat := fun i => L[i]?
theorem rlN_0 (v : Nat) : va_up (fun _ => none) (0 : Int32).toNatClampNeg (some v) = rlN [v] := by
  funext j
  show (if j = 0 then some v else none) = [v][j]?
  cases j with
  | zero => rfl
  | succ j => rfl
theorem rlN_up (L : List Nat) {i : Nat} (v : Nat) (h : i = L.length) : va_up (rlN L) i (some v) = rlN (L ++ [v]) := by
  subst h
  funext j
  unfold va_up rlN
  by_cases e : j = L.length
  · subst e
    rw [if_pos rfl, List.getElem?_append_right (Nat.le_refl _), Nat.sub_self]
    rfl
  · rw [if_neg e]
    rcases Nat.lt_or_ge j L.length with q | q
    · rw [List.getElem?_append_left q]
    · rw [List.getElem?_eq_none q, List.getElem?_append_right q, List.getElem?_eq_none (by simp; omega)]
theorem rlN_full (L : List Nat) : rlN L = rl L := rfl
theorem jTail {A0 : Nat → Prop} {D : va_G} {wa wc w1 : va_W} {H H1 : Heap} (hP : va_P D vwCl (wa ++ wc) H) (hD : va_D A0 (wa ++ wc)) (hk : ∀ q : Nat, q < H.size → ¬ va_A wc H.size q → H1[q]? = H[q]?) (hF : ∀ q, va_A wc H.size q → A0 q) (hP1 : va_P D vwCl w1 H1) (hD1 : va_D (va_A wc H.size) w1) : va_P D vwCl (wa ++ w1) H1 ∧ va_D A0 (wa ++ w1) := by
  have la : ∀ {k : Nat} {q : Nat × va_E}, wa[k]? = some q → (wa ++ wc)[k]? = some q := fun h => by
    rw [List.getElem?_append_left (List.getElem?_eq_some_iff.mp h).1]; exact h
  have lb : ∀ {k : Nat} {q : Nat × va_E}, wc[k]? = some q → (wa ++ wc)[wa.length + k]? = some q := fun h => by
    rw [List.getElem?_append_right (Nat.le_add_right _ _), Nat.add_sub_cancel_left]; exact h
  have hDa : va_D A0 wa := ⟨fun i j x y hx hy e => hD.1 i j x y (la hx) (la hy) e, fun k q h => hD.2 k q (la h)⟩
  have apart : ∀ (k : Nat) (q : Nat × va_E), wa[k]? = some q → q.1 < H.size ∧ ¬ va_A wc H.size q.1 := by
    intro k q hq
    have hl := (hP _ q (la hq)).lt
    refine ⟨hl, fun h => ?_⟩
    rcases h with ⟨k2, e, h⟩ | h
    · have h3 := hD.1 k (wa.length + k2) q (q.1, e) (la hq) (lb h) rfl
      have h4 := (List.getElem?_eq_some_iff.mp hq).1
      omega
    · omega
  refine ⟨va_P.app (fun k q h => ?_) hP1, va_D.app hDa (hD1.weaken (fun k q _ h => hF q.1 h)) (fun i j x y hx hy hxy => ?_)⟩
  · obtain ⟨g1, g2⟩ := apart k q h
    exact (hP _ q (la h)).kept (hk q.1 g1 g2)
  · exact (apart i x hx).2 (by rw [hxy]; exact hD1.2 j y hy)
theorem jLastP {D : va_G} {wa wc : va_W} {H : Heap} (hP : va_P D vwCl (wa ++ wc) H) : va_P D vwCl wc H := fun k q h => hP (wa.length + k) q (by
  rw [List.getElem?_append_right (Nat.le_add_right _ _), Nat.add_sub_cancel_left]; exact h)
theorem jLastD {A : Nat → Prop} {wa wc : va_W} (hD : va_D A (wa ++ wc)) : va_D A wc := ⟨fun i j x y hx hy e => by
  have := hD.1 (wa.length + i) (wa.length + j) x y (by rw [List.getElem?_append_right (Nat.le_add_right _ _), Nat.add_sub_cancel_left]; exact hx) (by rw [List.getElem?_append_right (Nat.le_add_right _ _), Nat.add_sub_cancel_left]; exact hy) e
  omega, fun k q h => hD.2 (wa.length + k) q (by rw [List.getElem?_append_right (Nat.le_add_right _ _), Nat.add_sub_cancel_left]; exact h)⟩
set_option maxHeartbeats 4000000 in
set_option maxRecDepth 100000 in
theorem c_X0_init (l : Launch) (dC : Nat → ClassId) (dI : Nat → Nat → Nat) (cI : ClassId) (h sz : Nat) : Met l yX0_init wsX0_init ({ frames := 1, cells := 0, slots := 0, locals := 12 } : Room) (va_Pc [.ref h] (jPre (dC, dI) [(cI, .int)] sz [(h, .inr (0, [.int 0, .int 0, .int 0]))])) (va_Qv (fun _ : Unit => True) (fun (_ : Unit) (t : State) => ∃ a : Nat → Nat, a 0 = h ∧ jB (dC, dI) [(cI, .int)] (va_A [(h, .inr (0, [.int 0, .int 0, .int 0]))] sz) (W_Misfit cI a Z_Misfit) t) (va_A [(h, .inr (0, [.int 0, .int 0, .int 0]))] sz)) 0 0 (va_A [(h, .inr (0, [.int 0, .int 0, .int 0]))] sz) := by
  refine Met.ofW (cc := cX0_init) (maxL := 1) (ret := none) (by decide) rfl ?_
  intro p e s m args below meth c s₁ B hml hv
  obtain ⟨rfl, hsz, hP, hK, hD0, hN⟩ := hv
  have hx := B.exec
  have hb := B.bytes
  have hr := B.returns
  have hts := atoms_spec (ws := wsX0_init) B.pre
  have hown : s.vm.findClass RX0 = some m.cls := findClass_of_methodNamed B.named
  have hlocks := B.notSynchronized
  have hin : meth.name = "<init>" := (name_of_methodNamed B.named B.method).1
  subst hsz
  have hD := hD0.self (sz := s.heap.size)
  generalize hAe : (va_A [(h, .inr (0, [.int 0, .int 0, .int 0]))] s.heap.size) = A at hD ⊢
  have hA : ∀ q : Nat, s.heap.size ≤ q → A q := fun q h => by rw [← hAe]; exact Or.inr h
  have hS : va_S A s.heap s.heap [] := va_S.rf
  have hl := lv_entry ([.ref h]) (n := 1) (Nat.le_of_ble_eq_true rfl)
  rw [lg_entry_eq]
  generalize (lg_sl ([.ref h]) ++ List.replicate (1 - (lg_sl ([.ref h])).length) Slot.unset).toArray = ls at hl ⊢
  have hl : lv_has ls 1 [(0, .ref h)] := hl
  have KE : ∀ (H : Heap) (locs : List Loc), va_P (dC, dI) vwCl [(h, .inr (0, [.int 0, .int 0, .int 0]))] H → va_D A [(h, .inr (0, [.int 0, .int 0, .int 0]))] → va_S A s.heap H locs → W p l e (headSpec wsX0_init ({ frames := 1, cells := 0, slots := 0, locals := 12 } : Room)).room s m ([.ref h] : List Value).toArray below meth c H locs 0 0 (MQ below (va_Qv (fun _ : Unit => True) (fun (_ : Unit) (t : State) => ∃ a : Nat → Nat, a 0 = h ∧ jB (dC, dI) [(cI, .int)] A (W_Misfit cI a Z_Misfit) t) A) ([.ref h] : List Value).toArray s 0 0 A) (F0 m 0 ls []) := by
    intro H locs hP hD hS
    refine lv_aload_n hx hb dX0_init_0 rfl (lv_at hl 0 rfl) ?_
    refine W.objInit hx hb hown (hts (Cond.methodLink RX0 1 objectInit) (List.mem_of_getElem? (i := 1) rfl)) (hts (Cond.instanceMethod objectInit) (List.mem_of_getElem? (i := 2) rfl)) (hts (Cond.code objectInit ⟨#[0xb1]⟩ 1 none) (List.mem_of_getElem? (i := 3) rfl)) rfl (by rw [hml]; exact hl.1) rfl dX0_init_1 (Nat.le_of_ble_eq_true rfl) (Nat.le_of_ble_eq_true rfl) ?_
    refine W.eq (g2 := F0 m 4 ls []) rfl ?_
    have hP : va_P (dC, dI) vwCl (W_Misfit cI (adl [h]) Z_Misfit) H := hP
    have hD : va_D A (W_Misfit cI (adl [h]) Z_Misfit) := hD
    exact W.vret hx hb hr (fun t ht hW => ⟨⟨(), rfl, trivial, adl [h], rfl, by rw [ht]; exact hP, va_K.moved hW.alike hK, hD⟩, hS.F ht⟩) hS.2.2 dX0_init_4
  exact KE _ _ hP hD hS
set_option maxHeartbeats 4000000 in
set_option maxRecDepth 100000 in
theorem c_X3_init (l : Launch) (dC : Nat → ClassId) (dI : Nat → Nat → Nat) (cI : ClassId) (h sz : Nat) : Met l yX3_init wsX3_init ({ frames := 1, cells := 1, slots := 576, locals := 12 } : Room) (va_Pc [.ref h] (jPre (dC, dI) [(cI, .int)] sz [(h, .inr (3, [.null, .int 0, .int 0]))])) (va_Qv (fun _ : Unit => True) (fun (_ : Unit) (t : State) => ∃ a : Nat → Nat, a 0 = h ∧ jB (dC, dI) [(cI, .int)] (va_A [(h, .inr (3, [.null, .int 0, .int 0]))] sz) (W_Tree cI a Z_Tree) t) (va_A [(h, .inr (3, [.null, .int 0, .int 0]))] sz)) 1 576 (va_A [(h, .inr (3, [.null, .int 0, .int 0]))] sz) := by
  refine Met.ofW (cc := cX3_init) (maxL := 1) (ret := none) (by decide) rfl ?_
  intro p e s m args below meth c s₁ B hml hv
  obtain ⟨rfl, hsz, hP, hK, hD0, hN⟩ := hv
  have hx := B.exec
  have hb := B.bytes
  have hr := B.returns
  have hts := atoms_spec (ws := wsX3_init) B.pre
  have hown : s.vm.findClass RX3 = some m.cls := findClass_of_methodNamed B.named
  have hlocks := B.notSynchronized
  have hin : meth.name = "<init>" := (name_of_methodNamed B.named B.method).1
  have hinX3 : ∀ w ∈ u_ws RX3 TX3 3, w ∈ wsX3_init := by decide +kernel
  subst hsz
  have hD := hD0.self (sz := s.heap.size)
  generalize hAe : (va_A [(h, .inr (3, [.null, .int 0, .int 0]))] s.heap.size) = A at hD ⊢
  have hA : ∀ q : Nat, s.heap.size ≤ q → A q := fun q h => by rw [← hAe]; exact Or.inr h
  have hS : va_S A s.heap s.heap [] := va_S.rf
  have hl := lv_entry ([.ref h]) (n := 1) (Nat.le_of_ble_eq_true rfl)
  rw [lg_entry_eq]
  generalize (lg_sl ([.ref h]) ++ List.replicate (1 - (lg_sl ([.ref h])).length) Slot.unset).toArray = ls at hl ⊢
  have hl : lv_has ls 1 [(0, .ref h)] := hl
  have KE : ∀ (H : Heap) (locs : List Loc), va_P (dC, dI) vwCl [(h, .inr (3, [.null, .int 0, .int 0]))] H → va_D A [(h, .inr (3, [.null, .int 0, .int 0]))] → va_S A s.heap H locs → W p l e (headSpec wsX3_init ({ frames := 1, cells := 1, slots := 576, locals := 12 } : Room)).room s m ([.ref h] : List Value).toArray below meth c H locs 0 0 (MQ below (va_Qv (fun _ : Unit => True) (fun (_ : Unit) (t : State) => ∃ a : Nat → Nat, a 0 = h ∧ jB (dC, dI) [(cI, .int)] A (W_Tree cI a Z_Tree) t) A) ([.ref h] : List Value).toArray s 1 576 A) (F0 m 0 ls []) := by
    intro H locs hP hD hS
    refine lv_aload_n hx hb dX3_init_0 rfl (lv_at hl 0 rfl) ?_
    refine W.objInit hx hb hown (hts (Cond.methodLink RX3 3 objectInit) (List.mem_of_getElem? (i := 1) rfl)) (hts (Cond.instanceMethod objectInit) (List.mem_of_getElem? (i := 2) rfl)) (hts (Cond.code objectInit ⟨#[0xb1]⟩ 1 none) (List.mem_of_getElem? (i := 3) rfl)) rfl (by rw [hml]; exact hl.1) rfl dX3_init_1 (Nat.le_of_ble_eq_true rfl) (Nat.le_of_ble_eq_true rfl) ?_
    refine W.eq (g2 := F0 m 4 ls []) rfl ?_
    refine lv_aload_n hx hb dX3_init_4 rfl (lv_at hl 0 rfl) ?_
    refine lv_sipush (v := (576 : Int32)) hx hb dX3_init_5 (by decide) ?_
    refine va_newa (atype := .int) (ty := .int) (a0 := (576, .inl (fun _ => 0))) (N' := 576) hx hb (hts (Cond.arrayClass .int) (List.mem_of_getElem? (i := 4) rfl)) rfl hK hP hD hS hA (fun cA => rfl) (by decide) (by decide) (Nat.le_of_ble_eq_true rfl) (Nat.le_of_ble_eq_true rfl) (Nat.le_of_ble_eq_true rfl) dX3_init_8 (fun q1 cA H hK2 hP hD hS => ?_)
    have e9 := jCls hK2 0 1 rfl rfl
    subst e9
    have hP : va_P (dC, dI) vwCl (([(h, .inr (3, [.null, .int 0, .int 0]))]) ++ ([(q1, .inl (cI, 576, .inl (fun _ => 0)))])) H := hP
    have hD : va_D A (([(h, .inr (3, [.null, .int 0, .int 0]))]) ++ ([(q1, .inl (cI, 576, .inl (fun _ => 0)))])) := hD
    refine va_putF (D := (dC, dI)) (ci := 3) (v := .ref q1) (ty := .array .int) (C := RX3) (T := TX3) (N := 3) hx hb hts hinX3 tyX3 tyX3_ok nmX3 hown hK hP hD hS 0 rfl rfl 0 (by decide) (hts (Cond.fieldLink RX3 11 "LearnedShapes$Tree" "cells" "[I") (List.mem_of_getElem? (i := 5) rfl)) (fun _ h9 => h9) rfl hin rfl (by decide +kernel) rfl rfl (Nat.le_of_ble_eq_true rfl) dX3_init_10 (fun H locs hP hD hS => ?_)
    have hP : va_P (dC, dI) vwCl (([(h, .inr (3, [.ref q1, .int 0, .int 0]))]) ++ ([(q1, .inl (cI, 576, .inl (fun _ => 0)))])) H := hP
    have hD : va_D A (([(h, .inr (3, [.ref q1, .int 0, .int 0]))]) ++ ([(q1, .inl (cI, 576, .inl (fun _ => 0)))])) := hD
    have hP : va_P (dC, dI) vwCl (W_Tree cI (adl [h, q1]) Z_Tree) H := hP
    have hD : va_D A (W_Tree cI (adl [h, q1]) Z_Tree) := hD
    exact W.vret hx hb hr (fun t ht hW => ⟨⟨(), rfl, trivial, adl [h, q1], rfl, by rw [ht]; exact hP, va_K.moved hW.alike hK, hD⟩, hS.F ht⟩) hS.2.2 dX3_init_13
  exact KE _ _ hP hD hS
set_option maxHeartbeats 4000000 in
set_option maxRecDepth 100000 in
theorem c_X1_init (l : Launch) (dC : Nat → ClassId) (dI : Nat → Nat → Nat) (cI : ClassId) (h sz : Nat) : Met l yX1_init wsX1_init ({ frames := 2, cells := 2, slots := 579, locals := 32 } : Room) (va_Pc [.ref h] (jPre (dC, dI) [(cI, .int)] sz [(h, .inr (1, [.null, .int 0, .int 0, .int 0, .int 0, .int 0, .int 0]))])) (va_Qv (fun _ : Unit => True) (fun (_ : Unit) (t : State) => ∃ a : Nat → Nat, a 0 = h ∧ jB (dC, dI) [(cI, .int)] (va_A [(h, .inr (1, [.null, .int 0, .int 0, .int 0, .int 0, .int 0, .int 0]))] sz) (W_Reader cI a Z_Reader) t) (va_A [(h, .inr (1, [.null, .int 0, .int 0, .int 0, .int 0, .int 0, .int 0]))] sz)) 2 579 (va_A [(h, .inr (1, [.null, .int 0, .int 0, .int 0, .int 0, .int 0, .int 0]))] sz) := by
  refine Met.ofW (cc := cX1_init) (maxL := 1) (ret := none) (by decide) rfl ?_
  intro p e s m args below meth c s₁ B hml hv
  obtain ⟨rfl, hsz, hP, hK, hD0, hN⟩ := hv
  have hx := B.exec
  have hb := B.bytes
  have hr := B.returns
  have hts := atoms_spec (ws := wsX1_init) B.pre
  have hown : s.vm.findClass RX1 = some m.cls := findClass_of_methodNamed B.named
  have hlocks := B.notSynchronized
  have hin : meth.name = "<init>" := (name_of_methodNamed B.named B.method).1
  have hinX1 : ∀ w ∈ u_ws RX1 TX1 7, w ∈ wsX1_init := by decide +kernel
  have hinX3 : ∀ w ∈ u_ws RX3 TX3 3, w ∈ wsX1_init := by decide +kernel
  subst hsz
  have hD := hD0.self (sz := s.heap.size)
  generalize hAe : (va_A [(h, .inr (1, [.null, .int 0, .int 0, .int 0, .int 0, .int 0, .int 0]))] s.heap.size) = A at hD ⊢
  have hA : ∀ q : Nat, s.heap.size ≤ q → A q := fun q h => by rw [← hAe]; exact Or.inr h
  have hS : va_S A s.heap s.heap [] := va_S.rf
  have hl := lv_entry ([.ref h]) (n := 1) (Nat.le_of_ble_eq_true rfl)
  rw [lg_entry_eq]
  generalize (lg_sl ([.ref h]) ++ List.replicate (1 - (lg_sl ([.ref h])).length) Slot.unset).toArray = ls at hl ⊢
  have hl : lv_has ls 1 [(0, .ref h)] := hl
  have KE : ∀ (H : Heap) (locs : List Loc), va_P (dC, dI) vwCl [(h, .inr (1, [.null, .int 0, .int 0, .int 0, .int 0, .int 0, .int 0]))] H → va_D A [(h, .inr (1, [.null, .int 0, .int 0, .int 0, .int 0, .int 0, .int 0]))] → va_S A s.heap H locs → W p l e (headSpec wsX1_init ({ frames := 2, cells := 2, slots := 579, locals := 32 } : Room)).room s m ([.ref h] : List Value).toArray below meth c H locs 0 0 (MQ below (va_Qv (fun _ : Unit => True) (fun (_ : Unit) (t : State) => ∃ a : Nat → Nat, a 0 = h ∧ jB (dC, dI) [(cI, .int)] A (W_Reader cI a Z_Reader) t) A) ([.ref h] : List Value).toArray s 2 579 A) (F0 m 0 ls []) := by
    intro H locs hP hD hS
    refine lv_aload_n hx hb dX1_init_0 rfl (lv_at hl 0 rfl) ?_
    refine W.objInit hx hb hown (hts (Cond.methodLink RX1 3 objectInit) (List.mem_of_getElem? (i := 1) rfl)) (hts (Cond.instanceMethod objectInit) (List.mem_of_getElem? (i := 2) rfl)) (hts (Cond.code objectInit ⟨#[0xb1]⟩ 1 none) (List.mem_of_getElem? (i := 3) rfl)) rfl (by rw [hml]; exact hl.1) rfl dX1_init_1 (Nat.le_of_ble_eq_true rfl) (Nat.le_of_ble_eq_true rfl) ?_
    refine W.eq (g2 := F0 m 4 ls []) rfl ?_
    refine lv_aload_n hx hb dX1_init_4 rfl (lv_at hl 0 rfl) ?_
    refine va_new (ci := 3) (fs := [.null, .int 0, .int 0]) (C := RX3) (T := TX3) (N := 3) hx hb hts hinX3 tyX3 tyX3_ok hown (hts (Cond.classLink RX1 9 RX3) (List.mem_of_getElem? (i := 4) rfl)) (hts (Cond.instantiable RX3 3) (List.mem_of_getElem? (i := 5) rfl)) (hts (Cond.initialized RX3) (List.mem_of_getElem? (i := 6) rfl)) hK hP hD hS hA rfl (fun j hj => by rcases (show j = 0 ∨ j = 1 ∨ j = 2 by omega) with rfl | rfl | rfl <;> rfl) (Nat.le_of_ble_eq_true rfl) (Nat.le_of_ble_eq_true rfl) dX1_init_5 (fun q1 H hP hD hS => ?_)
    have hP : va_P (dC, dI) vwCl (([(h, .inr (1, [.null, .int 0, .int 0, .int 0, .int 0, .int 0, .int 0]))]) ++ ([(q1, .inr (3, [.null, .int 0, .int 0]))])) H := hP
    have hD : va_D A (([(h, .inr (1, [.null, .int 0, .int 0, .int 0, .int 0, .int 0, .int 0]))]) ++ ([(q1, .inr (3, [.null, .int 0, .int 0]))])) := hD
    refine lv_dup hx hb dX1_init_8 rfl ?_
    have hPc := jLastP (wc := [(q1, .inr (3, [.null, .int 0, .int 0]))]) hP
    have hDc := jLastD (wc := [(q1, .inr (3, [.null, .int 0, .int 0]))]) hD
    have hFc := jFreeW (ws := [(q1, .inr (3, [.null, .int 0, .int 0]))]) hDc hS hA
    refine va_callv (va_runIN (As := []) (rest := [.ref q1, .ref h]) ⟨hx, hb, hml, hown, hts⟩ (c_X3_init l dC dI cI q1 H.size) ⟨va_cnB 0 hts gX1_init_X3_init_n11 rfl rfl rfl (hN.1 _ (List.mem_of_getElem? (i := 9) rfl)) (hts (Cond.initialized RX3) (List.mem_of_getElem? (i := 6) rfl)) (by decide +kernel) ⟨Nat.le_of_ble_eq_true rfl, Nat.le_of_ble_eq_true rfl⟩, by decide, (hts (Cond.instanceMethod yX3_init) (List.mem_of_getElem? (i := 8) rfl))⟩ (jPreS (hK.sub [0] rfl) hPc hDc hN) rfl rfl hl.1 rfl (lv_room (Nat.le_of_ble_eq_true rfl)) dX1_init_9 ⟨Nat.le_of_ble_eq_true rfl, Nat.le_of_ble_eq_true rfl⟩) hS (fun q _ h => hFc q h) hFc (fun u9 t H locs ht hvm hw hB hz1 hk1 hS => ?_)
    obtain ⟨a2, e9, hP1, -, hD1⟩ := hB
    subst e9
    rw [ht] at hP1
    obtain ⟨hP, hD⟩ := jTail (wa := ([(h, .inr (1, [.null, .int 0, .int 0, .int 0, .int 0, .int 0, .int 0]))])) (wc := [((a2 0), .inr (3, [.null, .int 0, .int 0]))]) (w1 := W_Tree cI a2 Z_Tree) hP hD hk1 hFc hP1 hD1
    have hP : va_P (dC, dI) vwCl (([(h, .inr (1, [.null, .int 0, .int 0, .int 0, .int 0, .int 0, .int 0]))]) ++ (W_Tree cI a2 Z_Tree)) H := hP
    have hD : va_D A (([(h, .inr (1, [.null, .int 0, .int 0, .int 0, .int 0, .int 0, .int 0]))]) ++ (W_Tree cI a2 Z_Tree)) := hD
    refine va_putF (D := (dC, dI)) (ci := 1) (v := .ref (a2 0)) (ty := .object "LearnedShapes$Tree") (C := RX1) (T := TX1) (N := 7) hx hb hts hinX1 tyX1 tyX1_ok nmX1 hown hK hP hD hS 0 rfl rfl 0 (by decide) (hts (Cond.fieldLink RX1 12 "LearnedShapes$Reader" "values" "LLearnedShapes$Tree;") (List.mem_of_getElem? (i := 7) rfl)) (fun _ h9 => h9) rfl hin rfl (by decide +kernel) rfl rfl (Nat.le_of_ble_eq_true rfl) dX1_init_12 (fun H locs hP hD hS => ?_)
    have hP : va_P (dC, dI) vwCl (([(h, .inr (1, [.ref (a2 0), .int 0, .int 0, .int 0, .int 0, .int 0, .int 0]))]) ++ (W_Tree cI a2 Z_Tree)) H := hP
    have hD : va_D A (([(h, .inr (1, [.ref (a2 0), .int 0, .int 0, .int 0, .int 0, .int 0, .int 0]))]) ++ (W_Tree cI a2 Z_Tree)) := hD
    have hP : va_P (dC, dI) vwCl (W_Reader cI (adl [h, a2 0, a2 1]) Z_Reader) H := hP
    have hD : va_D A (W_Reader cI (adl [h, a2 0, a2 1]) Z_Reader) := hD
    exact W.vret hx hb hr (fun t ht hW => ⟨⟨(), rfl, trivial, adl [h, a2 0, a2 1], rfl, by rw [ht]; exact hP, va_K.moved hW.alike hK, hD⟩, hS.F ht⟩) hS.2.2 dX1_init_15
  exact KE _ _ hP hD hS
set_option maxHeartbeats 4000000 in
set_option maxRecDepth 100000 in
theorem c_X2_init (l : Launch) (dC : Nat → ClassId) (dI : Nat → Nat → Nat) (cI : ClassId) (h sz : Nat) : Met l yX2_init wsX2_init ({ frames := 2, cells := 4, slots := 1158, locals := 32 } : Room) (va_Pc [.ref h] (jPre (dC, dI) [(cI, .int)] sz [(h, .inr (2, [.null, .null, .int 0]))])) (va_Qv (fun _ : Unit => True) (fun (_ : Unit) (t : State) => ∃ a : Nat → Nat, a 0 = h ∧ jB (dC, dI) [(cI, .int)] (va_A [(h, .inr (2, [.null, .null, .int 0]))] sz) (W_State cI a Z_State) t) (va_A [(h, .inr (2, [.null, .null, .int 0]))] sz)) 4 1158 (va_A [(h, .inr (2, [.null, .null, .int 0]))] sz) := by
  refine Met.ofW (cc := cX2_init) (maxL := 1) (ret := none) (by decide) rfl ?_
  intro p e s m args below meth c s₁ B hml hv
  obtain ⟨rfl, hsz, hP, hK, hD0, hN⟩ := hv
  have hx := B.exec
  have hb := B.bytes
  have hr := B.returns
  have hts := atoms_spec (ws := wsX2_init) B.pre
  have hown : s.vm.findClass RX2 = some m.cls := findClass_of_methodNamed B.named
  have hlocks := B.notSynchronized
  have hin : meth.name = "<init>" := (name_of_methodNamed B.named B.method).1
  have hinX2 : ∀ w ∈ u_ws RX2 TX2 3, w ∈ wsX2_init := by decide +kernel
  have hinX3 : ∀ w ∈ u_ws RX3 TX3 3, w ∈ wsX2_init := by decide +kernel
  subst hsz
  have hD := hD0.self (sz := s.heap.size)
  generalize hAe : (va_A [(h, .inr (2, [.null, .null, .int 0]))] s.heap.size) = A at hD ⊢
  have hA : ∀ q : Nat, s.heap.size ≤ q → A q := fun q h => by rw [← hAe]; exact Or.inr h
  have hS : va_S A s.heap s.heap [] := va_S.rf
  have hl := lv_entry ([.ref h]) (n := 1) (Nat.le_of_ble_eq_true rfl)
  rw [lg_entry_eq]
  generalize (lg_sl ([.ref h]) ++ List.replicate (1 - (lg_sl ([.ref h])).length) Slot.unset).toArray = ls at hl ⊢
  have hl : lv_has ls 1 [(0, .ref h)] := hl
  have KE : ∀ (H : Heap) (locs : List Loc), va_P (dC, dI) vwCl [(h, .inr (2, [.null, .null, .int 0]))] H → va_D A [(h, .inr (2, [.null, .null, .int 0]))] → va_S A s.heap H locs → W p l e (headSpec wsX2_init ({ frames := 2, cells := 4, slots := 1158, locals := 32 } : Room)).room s m ([.ref h] : List Value).toArray below meth c H locs 0 0 (MQ below (va_Qv (fun _ : Unit => True) (fun (_ : Unit) (t : State) => ∃ a : Nat → Nat, a 0 = h ∧ jB (dC, dI) [(cI, .int)] A (W_State cI a Z_State) t) A) ([.ref h] : List Value).toArray s 4 1158 A) (F0 m 0 ls []) := by
    intro H locs hP hD hS
    refine lv_aload_n hx hb dX2_init_0 rfl (lv_at hl 0 rfl) ?_
    refine W.objInit hx hb hown (hts (Cond.methodLink RX2 1 objectInit) (List.mem_of_getElem? (i := 1) rfl)) (hts (Cond.instanceMethod objectInit) (List.mem_of_getElem? (i := 2) rfl)) (hts (Cond.code objectInit ⟨#[0xb1]⟩ 1 none) (List.mem_of_getElem? (i := 3) rfl)) rfl (by rw [hml]; exact hl.1) rfl dX2_init_1 (Nat.le_of_ble_eq_true rfl) (Nat.le_of_ble_eq_true rfl) ?_
    refine W.eq (g2 := F0 m 4 ls []) rfl ?_
    refine lv_aload_n hx hb dX2_init_4 rfl (lv_at hl 0 rfl) ?_
    refine va_new (ci := 3) (fs := [.null, .int 0, .int 0]) (C := RX3) (T := TX3) (N := 3) hx hb hts hinX3 tyX3 tyX3_ok hown (hts (Cond.classLink RX2 7 RX3) (List.mem_of_getElem? (i := 4) rfl)) (hts (Cond.instantiable RX3 3) (List.mem_of_getElem? (i := 5) rfl)) (hts (Cond.initialized RX3) (List.mem_of_getElem? (i := 6) rfl)) hK hP hD hS hA rfl (fun j hj => by rcases (show j = 0 ∨ j = 1 ∨ j = 2 by omega) with rfl | rfl | rfl <;> rfl) (Nat.le_of_ble_eq_true rfl) (Nat.le_of_ble_eq_true rfl) dX2_init_5 (fun q1 H hP hD hS => ?_)
    have hP : va_P (dC, dI) vwCl (([(h, .inr (2, [.null, .null, .int 0]))]) ++ ([(q1, .inr (3, [.null, .int 0, .int 0]))])) H := hP
    have hD : va_D A (([(h, .inr (2, [.null, .null, .int 0]))]) ++ ([(q1, .inr (3, [.null, .int 0, .int 0]))])) := hD
    refine lv_dup hx hb dX2_init_8 rfl ?_
    have hPc := jLastP (wc := [(q1, .inr (3, [.null, .int 0, .int 0]))]) hP
    have hDc := jLastD (wc := [(q1, .inr (3, [.null, .int 0, .int 0]))]) hD
    have hFc := jFreeW (ws := [(q1, .inr (3, [.null, .int 0, .int 0]))]) hDc hS hA
    refine va_callv (va_runIN (As := []) (rest := [.ref q1, .ref h]) ⟨hx, hb, hml, hown, hts⟩ (c_X3_init l dC dI cI q1 H.size) ⟨va_cnB 0 hts gX2_init_X3_init_n9 rfl rfl rfl (hN.1 _ (List.mem_of_getElem? (i := 10) rfl)) (hts (Cond.initialized RX3) (List.mem_of_getElem? (i := 6) rfl)) (by decide +kernel) ⟨Nat.le_of_ble_eq_true rfl, Nat.le_of_ble_eq_true rfl⟩, by decide, (hts (Cond.instanceMethod yX3_init) (List.mem_of_getElem? (i := 9) rfl))⟩ (jPreS (hK.sub [0] rfl) hPc hDc hN) rfl rfl hl.1 rfl (lv_room (Nat.le_of_ble_eq_true rfl)) dX2_init_9 ⟨Nat.le_of_ble_eq_true rfl, Nat.le_of_ble_eq_true rfl⟩) hS (fun q _ h => hFc q h) hFc (fun u9 t H locs ht hvm hw hB hz1 hk1 hS => ?_)
    obtain ⟨a2, e9, hP1, -, hD1⟩ := hB
    subst e9
    rw [ht] at hP1
    obtain ⟨hP, hD⟩ := jTail (wa := ([(h, .inr (2, [.null, .null, .int 0]))])) (wc := [((a2 0), .inr (3, [.null, .int 0, .int 0]))]) (w1 := W_Tree cI a2 Z_Tree) hP hD hk1 hFc hP1 hD1
    have hP : va_P (dC, dI) vwCl (([(h, .inr (2, [.null, .null, .int 0]))]) ++ (W_Tree cI a2 Z_Tree)) H := hP
    have hD : va_D A (([(h, .inr (2, [.null, .null, .int 0]))]) ++ (W_Tree cI a2 Z_Tree)) := hD
    refine va_putF (D := (dC, dI)) (ci := 2) (v := .ref (a2 0)) (ty := .object "LearnedShapes$Tree") (C := RX2) (T := TX2) (N := 3) hx hb hts hinX2 tyX2 tyX2_ok nmX2 hown hK hP hD hS 0 rfl rfl 0 (by decide) (hts (Cond.fieldLink RX2 10 "LearnedShapes$State" "first" "LLearnedShapes$Tree;") (List.mem_of_getElem? (i := 7) rfl)) (fun _ h9 => h9) rfl hin rfl (by decide +kernel) rfl rfl (Nat.le_of_ble_eq_true rfl) dX2_init_12 (fun H locs hP hD hS => ?_)
    have hP : va_P (dC, dI) vwCl (([(h, .inr (2, [.ref (a2 0), .null, .int 0]))]) ++ (W_Tree cI a2 Z_Tree)) H := hP
    have hD : va_D A (([(h, .inr (2, [.ref (a2 0), .null, .int 0]))]) ++ (W_Tree cI a2 Z_Tree)) := hD
    refine lv_aload_n hx hb dX2_init_15 rfl (lv_at hl 0 rfl) ?_
    refine va_new (ci := 3) (fs := [.null, .int 0, .int 0]) (C := RX3) (T := TX3) (N := 3) hx hb hts hinX3 tyX3 tyX3_ok hown (hts (Cond.classLink RX2 7 RX3) (List.mem_of_getElem? (i := 4) rfl)) (hts (Cond.instantiable RX3 3) (List.mem_of_getElem? (i := 5) rfl)) (hts (Cond.initialized RX3) (List.mem_of_getElem? (i := 6) rfl)) hK hP hD hS hA rfl (fun j hj => by rcases (show j = 0 ∨ j = 1 ∨ j = 2 by omega) with rfl | rfl | rfl <;> rfl) (Nat.le_of_ble_eq_true rfl) (Nat.le_of_ble_eq_true rfl) dX2_init_16 (fun q3 H hP hD hS => ?_)
    have hP : va_P (dC, dI) vwCl (([(h, .inr (2, [.ref (a2 0), .null, .int 0]))]) ++ (W_Tree cI a2 Z_Tree) ++ ([(q3, .inr (3, [.null, .int 0, .int 0]))])) H := hP
    have hD : va_D A (([(h, .inr (2, [.ref (a2 0), .null, .int 0]))]) ++ (W_Tree cI a2 Z_Tree) ++ ([(q3, .inr (3, [.null, .int 0, .int 0]))])) := hD
    refine lv_dup hx hb dX2_init_19 rfl ?_
    have hPc := jLastP (wc := [(q3, .inr (3, [.null, .int 0, .int 0]))]) hP
    have hDc := jLastD (wc := [(q3, .inr (3, [.null, .int 0, .int 0]))]) hD
    have hFc := jFreeW (ws := [(q3, .inr (3, [.null, .int 0, .int 0]))]) hDc hS hA
    refine va_callv (va_runIN (As := []) (rest := [.ref q3, .ref h]) ⟨hx, hb, hml, hown, hts⟩ (c_X3_init l dC dI cI q3 H.size) ⟨va_cnB 0 hts gX2_init_X3_init_n9 rfl rfl rfl (hN.1 _ (List.mem_of_getElem? (i := 10) rfl)) (hts (Cond.initialized RX3) (List.mem_of_getElem? (i := 6) rfl)) (by decide +kernel) ⟨Nat.le_of_ble_eq_true rfl, Nat.le_of_ble_eq_true rfl⟩, by decide, (hts (Cond.instanceMethod yX3_init) (List.mem_of_getElem? (i := 9) rfl))⟩ (jPreS (hK.sub [0] rfl) hPc hDc hN) rfl rfl hl.1 rfl (lv_room (Nat.le_of_ble_eq_true rfl)) dX2_init_20 ⟨Nat.le_of_ble_eq_true rfl, Nat.le_of_ble_eq_true rfl⟩) hS (fun q _ h => hFc q h) hFc (fun u9 t H locs ht hvm hw hB hz1 hk1 hS => ?_)
    obtain ⟨a4, e9, hP1, -, hD1⟩ := hB
    subst e9
    rw [ht] at hP1
    obtain ⟨hP, hD⟩ := jTail (wa := ([(h, .inr (2, [.ref (a2 0), .null, .int 0]))]) ++ (W_Tree cI a2 Z_Tree)) (wc := [((a4 0), .inr (3, [.null, .int 0, .int 0]))]) (w1 := W_Tree cI a4 Z_Tree) hP hD hk1 hFc hP1 hD1
    have hP : va_P (dC, dI) vwCl (([(h, .inr (2, [.ref (a2 0), .null, .int 0]))]) ++ (W_Tree cI a2 Z_Tree) ++ (W_Tree cI a4 Z_Tree)) H := hP
    have hD : va_D A (([(h, .inr (2, [.ref (a2 0), .null, .int 0]))]) ++ (W_Tree cI a2 Z_Tree) ++ (W_Tree cI a4 Z_Tree)) := hD
    refine va_putF (D := (dC, dI)) (ci := 2) (v := .ref (a4 0)) (ty := .object "LearnedShapes$Tree") (C := RX2) (T := TX2) (N := 3) hx hb hts hinX2 tyX2 tyX2_ok nmX2 hown hK hP hD hS 0 rfl rfl 1 (by decide) (hts (Cond.fieldLink RX2 16 "LearnedShapes$State" "second" "LLearnedShapes$Tree;") (List.mem_of_getElem? (i := 8) rfl)) (fun _ h9 => h9) rfl hin rfl (by decide +kernel) rfl rfl (Nat.le_of_ble_eq_true rfl) dX2_init_23 (fun H locs hP hD hS => ?_)
    have hP : va_P (dC, dI) vwCl (([(h, .inr (2, [.ref (a2 0), .ref (a4 0), .int 0]))]) ++ (W_Tree cI a2 Z_Tree) ++ (W_Tree cI a4 Z_Tree)) H := hP
    have hD : va_D A (([(h, .inr (2, [.ref (a2 0), .ref (a4 0), .int 0]))]) ++ (W_Tree cI a2 Z_Tree) ++ (W_Tree cI a4 Z_Tree)) := hD
    have hP : va_P (dC, dI) vwCl (W_State cI (adl [h, a2 0, a2 1, a4 0, a4 1]) Z_State) H := hP
    have hD : va_D A (W_State cI (adl [h, a2 0, a2 1, a4 0, a4 1]) Z_State) := hD
    exact W.vret hx hb hr (fun t ht hW => ⟨⟨(), rfl, trivial, adl [h, a2 0, a2 1, a4 0, a4 1], rfl, by rw [ht]; exact hP, va_K.moved hW.alike hK, hD⟩, hS.F ht⟩) hS.2.2 dX2_init_26
  exact KE _ _ hP hD hS
