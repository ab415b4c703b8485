set_option maxHeartbeats 4000000 in
set_option maxRecDepth 100000 in
theorem c_X5_learnedOf (l : Launch) (dC : Nat → ClassId) (dI : Nat → Nat → Nat) (cI : ClassId) (a : Nat → Nat) (sz : Nat) (S : S_Model) (v1 : Int32) (v2 : Int32) (rr : Int32) (Y : S_Model) (hF : F_X5_learnedOf S v1 v2 = some (rr, Y)) : Met l yX5_learnedOf wsX5_learnedOf ({ frames := 7, cells := 0, slots := 0, locals := 155 } : Room) (va_Pc [.ref (a 0), .int v1, .int v2] (jPre (dC, dI) [(cI, .int)] sz ((W_Model cI a S)))) (va_Qi (fun (r' : Int32) (u : S_Model) => rr = r' ∧ Y = u) (fun u : S_Model => jB (dC, dI) [(cI, .int)] (va_A ((W_Model cI a S)) sz) ((W_Model cI a u))) (va_A ((W_Model cI a S)) sz)) 0 0 (va_A ((W_Model cI a S)) sz) := by
  refine Met.ofW (cc := cX5_learnedOf) (maxL := 7) (ret := (some .int)) (by decide) rfl ?_
  intro p e s m args below meth c s₁ B hml hv
  obtain ⟨rfl, hsz, hP, hK, hD0, hN⟩ := hv
  have hx := B.exec
  have hb := B.bytes
  have hr := B.returns
  have hts := atoms_spec (ws := wsX5_learnedOf) B.pre
  have hown : s.vm.findClass RX5 = some m.cls := findClass_of_methodNamed B.named
  have hlocks := B.notSynchronized
  have hinX5 : ∀ w ∈ u_ws RX5 TX5 26, w ∈ wsX5_learnedOf := by decide +kernel
  subst hsz
  have hD := hD0.self (sz := s.heap.size)
  generalize hAe : (va_A ((W_Model cI a S)) s.heap.size) = A at hD ⊢
  have hA : ∀ q : Nat, s.heap.size ≤ q → A q := fun q h => by rw [← hAe]; exact Or.inr h
  have hS : va_S A s.heap s.heap [] := va_S.rf
  have hl := lv_entry ([.ref (a 0), .int v1, .int v2]) (n := 7) (Nat.le_of_ble_eq_true rfl)
  rw [lg_entry_eq]
  generalize (lg_sl ([.ref (a 0), .int v1, .int v2]) ++ List.replicate (7 - (lg_sl ([.ref (a 0), .int v1, .int v2])).length) Slot.unset).toArray = ls at hl ⊢
  have hl : lv_has ls 7 [(0, .ref (a 0)), (1, .int v1), (2, .int v2)] := hl
  have K52 : ∀ (n52 : Nat) (S : S_Model) (x3 : Int32) (x4 : Int32) (H : Heap) (locs : List Loc), F_X5_learnedOf_52 v1 v2 n52 S x3 x4 = some (rr, Y) → va_P (dC, dI) vwCl ((W_Model cI a S)) H → va_D A ((W_Model cI a S)) → va_S A s.heap H locs → ∀ ls : Array Slot, lv_has ls 7 [(0, .ref (a 0)), (1, .int v1), (2, .int v2), (3, .int x3), (4, .int x4)] → W p l e (headSpec wsX5_learnedOf ({ frames := 7, cells := 0, slots := 0, locals := 155 } : Room)).room s m ([.ref (a 0), .int v1, .int v2] : List Value).toArray below meth c H locs 0 0 (MQ below (va_Qi (fun (r' : Int32) (u : S_Model) => rr = r' ∧ Y = u) (fun u : S_Model => jB (dC, dI) [(cI, .int)] A ((W_Model cI a u))) A) ([.ref (a 0), .int v1, .int v2] : List Value).toArray s 0 0 A) (F0 m 52 ls []) := by
    intro n52
    induction n52 with
    | zero => intro S x3 x4 H locs hF; exact nomatch hF
    | succ n52 ih52 =>
      intro S x3 x4 H locs hF hP hD hS ls hl
      rw [F_X5_learnedOf_52_s] at hF
      have K101 : ∀ (S : S_Model) (x3 : Int32) (x4 : Int32) (x5 : Int32) (t0 : Bool) (H : Heap) (locs : List Loc), F_X5_learnedOf_101 v1 v2 (F_X5_learnedOf_52 v1 v2 n52) S x3 x4 x5 t0 = some (rr, Y) → va_P (dC, dI) vwCl ((W_Model cI a S)) H → va_D A ((W_Model cI a S)) → va_S A s.heap H locs → ∀ ls : Array Slot, lv_has ls 7 [(0, .ref (a 0)), (1, .int v1), (2, .int v2), (3, .int x3), (4, .int x4), (5, .int x5)] → W p l e (headSpec wsX5_learnedOf ({ frames := 7, cells := 0, slots := 0, locals := 155 } : Room)).room s m ([.ref (a 0), .int v1, .int v2] : List Value).toArray below meth c H locs 0 0 (MQ below (va_Qi (fun (r' : Int32) (u : S_Model) => rr = r' ∧ Y = u) (fun u : S_Model => jB (dC, dI) [(cI, .int)] A ((W_Model cI a u))) A) ([.ref (a 0), .int v1, .int v2] : List Value).toArray s 0 0 A) (F0 m 101 ls [.int (b2i t0)]) := by
        intro S x3 x4 x5 t0 H locs hF hP hD hS ls hl
        unfold F_X5_learnedOf_101 at hF
        refine lv_istore (lv' := [(6, .int (b2i t0)), (0, .ref (a 0)), (1, .int v1), (2, .int v2), (3, .int x3), (4, .int x4), (5, .int x5)]) hx hb dX5_learnedOf_101 hl (by decide) rfl (fun ls hl => ?_)
        refine lv_iload_n hx hb dX5_learnedOf_103 rfl (lv_at hl 4 rfl) ?_
        refine lv_iload_n hx hb dX5_learnedOf_104 rfl (lv_at hl 3 rfl) ?_
        refine lv_iconst (v := (1 : Int32)) hx hb dX5_learnedOf_105 (by decide) ?_
        refine lv_icmp_ne (tgt := 117) hx hb dX5_learnedOf_106 (by decide) (fun c1 => ?_) (fun c1 => ?_)
        · have hF := F_neg c1 hF
          refine lv_iload_n hx hb dX5_learnedOf_117 rfl (lv_at hl 3 rfl) ?_
          refine lv_iconst (v := (2 : Int32)) hx hb dX5_learnedOf_118 (by decide) ?_
          refine lv_icmp_ne (tgt := 137) hx hb dX5_learnedOf_119 (by decide) (fun c2 => ?_) (fun c2 => ?_)
          · have hF := F_neg c2 hF
            refine lv_iload hx hb dX5_learnedOf_137 (lv_at hl 6 rfl) ?_
            refine lv_iconst (v := (-1 : Int32)) hx hb dX5_learnedOf_139 (by decide) ?_
            refine lv_icmp_ne (tgt := 147) hx hb dX5_learnedOf_140 (by decide) (fun c3 => ?_) (fun c3 => ?_)
            · have hF := F_neg c3 hF
              refine lv_iconst (v := (0 : Int32)) hx hb dX5_learnedOf_147 (by decide) ?_
              refine lv_iadd hx hb dX5_learnedOf_148 ?_
              refine lv_istore_n (lv' := [(3, .int (x3 + (0 : Int32))), (6, .int (b2i t0)), (0, .ref (a 0)), (1, .int v1), (2, .int v2), (4, .int x4), (5, .int x5)]) hx hb dX5_learnedOf_149 rfl hl (by decide) rfl (fun ls hl => ?_)
              refine lv_iinc (v := (x4 + (1 : Int32))) (lv' := [(4, .int (x4 + (1 : Int32))), (3, .int (x3 + (0 : Int32))), (6, .int (b2i t0)), (0, .ref (a 0)), (1, .int v1), (2, .int v2), (5, .int x5)]) hx hb dX5_learnedOf_150 hl (k := 5) rfl rfl (by decide) rfl (fun ls hl => ?_)
              refine lv_goto (tgt := 52) hx hb dX5_learnedOf_153 (by decide) ?_
              exact ih52 _ _ _ _ _ hF hP hD hS _ (lv_sub hl [3, 4, 5, 1, 0] rfl)
            · have hF := F_pos c3 hF
              refine lv_iconst (v := (1 : Int32)) hx hb dX5_learnedOf_143 (by decide) ?_
              refine lv_goto (tgt := 148) hx hb dX5_learnedOf_144 (by decide) ?_
              refine lv_iadd hx hb dX5_learnedOf_148 ?_
              refine lv_istore_n (lv' := [(3, .int (x3 + (1 : Int32))), (6, .int (b2i t0)), (0, .ref (a 0)), (1, .int v1), (2, .int v2), (4, .int x4), (5, .int x5)]) hx hb dX5_learnedOf_149 rfl hl (by decide) rfl (fun ls hl => ?_)
              refine lv_iinc (v := (x4 + (1 : Int32))) (lv' := [(4, .int (x4 + (1 : Int32))), (3, .int (x3 + (1 : Int32))), (6, .int (b2i t0)), (0, .ref (a 0)), (1, .int v1), (2, .int v2), (5, .int x5)]) hx hb dX5_learnedOf_150 hl (k := 5) rfl rfl (by decide) rfl (fun ls hl => ?_)
              refine lv_goto (tgt := 52) hx hb dX5_learnedOf_153 (by decide) ?_
              exact ih52 _ _ _ _ _ hF hP hD hS _ (lv_sub hl [3, 4, 5, 1, 0] rfl)
          · have hF := F_pos c2 hF
            refine lv_iload hx hb dX5_learnedOf_122 (lv_at hl 0 rfl) ?_
            refine lv_if_eq (tgt := 147) hx hb dX5_learnedOf_124 (by decide) (fun c4 => ?_) (fun c4 => ?_)
            · have hF := F_pos c4 hF
              refine lv_iconst (v := (0 : Int32)) hx hb dX5_learnedOf_147 (by decide) ?_
              refine lv_iadd hx hb dX5_learnedOf_148 ?_
              refine lv_istore_n (lv' := [(3, .int (x3 + (0 : Int32))), (6, .int (b2i t0)), (0, .ref (a 0)), (1, .int v1), (2, .int v2), (4, .int x4), (5, .int x5)]) hx hb dX5_learnedOf_149 rfl hl (by decide) rfl (fun ls hl => ?_)
              refine lv_iinc (v := (x4 + (1 : Int32))) (lv' := [(4, .int (x4 + (1 : Int32))), (3, .int (x3 + (0 : Int32))), (6, .int (b2i t0)), (0, .ref (a 0)), (1, .int v1), (2, .int v2), (5, .int x5)]) hx hb dX5_learnedOf_150 hl (k := 5) rfl rfl (by decide) rfl (fun ls hl => ?_)
              refine lv_goto (tgt := 52) hx hb dX5_learnedOf_153 (by decide) ?_
              exact ih52 _ _ _ _ _ hF hP hD hS _ (lv_sub hl [3, 4, 5, 1, 0] rfl)
            · have hF := F_neg c4 hF
              refine lv_iload hx hb dX5_learnedOf_127 (lv_at hl 6 rfl) ?_
              refine lv_bipush (v := (7 : Int32)) hx hb dX5_learnedOf_129 (by decide) ?_
              refine lv_icmp_ne (tgt := 147) hx hb dX5_learnedOf_131 (by decide) (fun c5 => ?_) (fun c5 => ?_)
              · have hF := F_neg c5 hF
                refine lv_iconst (v := (0 : Int32)) hx hb dX5_learnedOf_147 (by decide) ?_
                refine lv_iadd hx hb dX5_learnedOf_148 ?_
                refine lv_istore_n (lv' := [(3, .int (x3 + (0 : Int32))), (6, .int (b2i t0)), (0, .ref (a 0)), (1, .int v1), (2, .int v2), (4, .int x4), (5, .int x5)]) hx hb dX5_learnedOf_149 rfl hl (by decide) rfl (fun ls hl => ?_)
                refine lv_iinc (v := (x4 + (1 : Int32))) (lv' := [(4, .int (x4 + (1 : Int32))), (3, .int (x3 + (0 : Int32))), (6, .int (b2i t0)), (0, .ref (a 0)), (1, .int v1), (2, .int v2), (5, .int x5)]) hx hb dX5_learnedOf_150 hl (k := 5) rfl rfl (by decide) rfl (fun ls hl => ?_)
                refine lv_goto (tgt := 52) hx hb dX5_learnedOf_153 (by decide) ?_
                exact ih52 _ _ _ _ _ hF hP hD hS _ (lv_sub hl [3, 4, 5, 1, 0] rfl)
              · have hF := F_pos c5 hF
                refine lv_goto (tgt := 143) hx hb dX5_learnedOf_134 (by decide) ?_
                refine lv_iconst (v := (1 : Int32)) hx hb dX5_learnedOf_143 (by decide) ?_
                refine lv_goto (tgt := 148) hx hb dX5_learnedOf_144 (by decide) ?_
                refine lv_iadd hx hb dX5_learnedOf_148 ?_
                refine lv_istore_n (lv' := [(3, .int (x3 + (1 : Int32))), (6, .int (b2i t0)), (0, .ref (a 0)), (1, .int v1), (2, .int v2), (4, .int x4), (5, .int x5)]) hx hb dX5_learnedOf_149 rfl hl (by decide) rfl (fun ls hl => ?_)
                refine lv_iinc (v := (x4 + (1 : Int32))) (lv' := [(4, .int (x4 + (1 : Int32))), (3, .int (x3 + (1 : Int32))), (6, .int (b2i t0)), (0, .ref (a 0)), (1, .int v1), (2, .int v2), (5, .int x5)]) hx hb dX5_learnedOf_150 hl (k := 5) rfl rfl (by decide) rfl (fun ls hl => ?_)
                refine lv_goto (tgt := 52) hx hb dX5_learnedOf_153 (by decide) ?_
                exact ih52 _ _ _ _ _ hF hP hD hS _ (lv_sub hl [3, 4, 5, 1, 0] rfl)
        · have hF := F_pos c1 hF
          refine lv_iload hx hb dX5_learnedOf_109 (lv_at hl 0 rfl) ?_
          refine lv_if_eq (tgt := 147) hx hb dX5_learnedOf_111 (by decide) (fun c6 => ?_) (fun c6 => ?_)
          · have hF := F_pos c6 hF
            refine lv_iconst (v := (0 : Int32)) hx hb dX5_learnedOf_147 (by decide) ?_
            refine lv_iadd hx hb dX5_learnedOf_148 ?_
            refine lv_istore_n (lv' := [(3, .int (x3 + (0 : Int32))), (6, .int (b2i t0)), (0, .ref (a 0)), (1, .int v1), (2, .int v2), (4, .int x4), (5, .int x5)]) hx hb dX5_learnedOf_149 rfl hl (by decide) rfl (fun ls hl => ?_)
            refine lv_iinc (v := (x4 + (1 : Int32))) (lv' := [(4, .int (x4 + (1 : Int32))), (3, .int (x3 + (0 : Int32))), (6, .int (b2i t0)), (0, .ref (a 0)), (1, .int v1), (2, .int v2), (5, .int x5)]) hx hb dX5_learnedOf_150 hl (k := 5) rfl rfl (by decide) rfl (fun ls hl => ?_)
            refine lv_goto (tgt := 52) hx hb dX5_learnedOf_153 (by decide) ?_
            exact ih52 _ _ _ _ _ hF hP hD hS _ (lv_sub hl [3, 4, 5, 1, 0] rfl)
          · have hF := F_neg c6 hF
            refine lv_goto (tgt := 143) hx hb dX5_learnedOf_114 (by decide) ?_
            refine lv_iconst (v := (1 : Int32)) hx hb dX5_learnedOf_143 (by decide) ?_
            refine lv_goto (tgt := 148) hx hb dX5_learnedOf_144 (by decide) ?_
            refine lv_iadd hx hb dX5_learnedOf_148 ?_
            refine lv_istore_n (lv' := [(3, .int (x3 + (1 : Int32))), (6, .int (b2i t0)), (0, .ref (a 0)), (1, .int v1), (2, .int v2), (4, .int x4), (5, .int x5)]) hx hb dX5_learnedOf_149 rfl hl (by decide) rfl (fun ls hl => ?_)
            refine lv_iinc (v := (x4 + (1 : Int32))) (lv' := [(4, .int (x4 + (1 : Int32))), (3, .int (x3 + (1 : Int32))), (6, .int (b2i t0)), (0, .ref (a 0)), (1, .int v1), (2, .int v2), (5, .int x5)]) hx hb dX5_learnedOf_150 hl (k := 5) rfl rfl (by decide) rfl (fun ls hl => ?_)
            refine lv_goto (tgt := 52) hx hb dX5_learnedOf_153 (by decide) ?_
            exact ih52 _ _ _ _ _ hF hP hD hS _ (lv_sub hl [3, 4, 5, 1, 0] rfl)
      refine lv_iload hx hb dX5_learnedOf_52 (lv_at hl 4 rfl) ?_
      refine lv_aload_n hx hb dX5_learnedOf_54 rfl (lv_at hl 0 rfl) ?_
      refine wg_now (v := .ref (a 1)) hx hb hts hinX5 hown hK hP rfl (hts (Cond.fieldLink RX5 7 "LearnedShapesModel" "now" "[I") (List.mem_of_getElem? (i := 1) rfl)) dX5_learnedOf_55 ?_
      refine lv_iconst (v := (3 : Int32)) hx hb dX5_learnedOf_58 (by decide) ?_
      refine lv_iload_n hx hb dX5_learnedOf_59 rfl (lv_at hl 1 rfl) ?_
      refine lv_iadd hx hb dX5_learnedOf_60 ?_
      obtain ⟨g7, hF⟩ := og_some hF
      refine wl_now (f := (g_Model_now S)) hx hb hK hP rfl (inb_in g7) dX5_learnedOf_61 ?_
      refine lv_icmp_ge (tgt := 156) hx hb dX5_learnedOf_62 (by decide) (fun c8 => ?_) (fun c8 => ?_)
      · have hF := F_pos c8 hF
        refine lv_iload_n hx hb dX5_learnedOf_156 rfl (lv_at hl 3 rfl) ?_
        have e50 := Option.some.inj hF
        obtain ⟨e60, e51⟩ := Prod.mk.inj e50
        subst e60
        subst e51
        exact W.iret (v := x3) hx hb hr (fun t ht hW => ⟨⟨x3, S, rfl, ⟨rfl, rfl⟩, by rw [ht]; exact hP, va_K.moved hW.alike hK, hD⟩, hS.F ht⟩) hS.2.2 dX5_learnedOf_157
      · have hF := F_neg c8 hF
        refine lv_aload_n hx hb dX5_learnedOf_65 rfl (lv_at hl 0 rfl) ?_
        refine wg_tree (v := .ref (a 11)) hx hb hts hinX5 hown hK hP rfl (hts (Cond.fieldLink RX5 40 "LearnedShapesModel" "tree" "[I") (List.mem_of_getElem? (i := 2) rfl)) dX5_learnedOf_66 ?_
        refine lv_bipush (v := (7 : Int32)) hx hb dX5_learnedOf_69 (by decide) ?_
        refine lv_iload hx hb dX5_learnedOf_71 (lv_at hl 4 rfl) ?_
        refine lv_imul hx hb dX5_learnedOf_73 ?_
        obtain ⟨g9, hF⟩ := og_some hF
        refine wl_tree (f := (g_Model_tree S)) hx hb hK hP rfl (inb_in g9) dX5_learnedOf_74 ?_
        refine lv_istore (lv' := [(5, .int ((g_Model_tree S) ((7 : Int32) * x4).toNatClampNeg)), (0, .ref (a 0)), (1, .int v1), (2, .int v2), (3, .int x3), (4, .int x4)]) hx hb dX5_learnedOf_75 hl (by decide) rfl (fun ls hl => ?_)
        refine lv_iload hx hb dX5_learnedOf_77 (lv_at hl 0 rfl) ?_
        refine lv_iconst (v := (-1 : Int32)) hx hb dX5_learnedOf_79 (by decide) ?_
        refine lv_icmp_eq (tgt := 100) hx hb dX5_learnedOf_80 (by decide) (fun c10 => ?_) (fun c10 => ?_)
        · have hF := F_pos c10 hF
          refine lv_iconst (v := (0 : Int32)) hx hb dX5_learnedOf_100 (by decide) ?_
          exact K101 _ _ _ _ _ _ _ hF hP hD hS _ (lv_sub hl [1, 2, 3, 4, 5, 0] rfl)
        · have hF := F_neg c10 hF
          refine lv_iload hx hb dX5_learnedOf_83 (lv_at hl 0 rfl) ?_
          refine lv_aload_n hx hb dX5_learnedOf_85 rfl (lv_at hl 1 rfl) ?_
          refine lv_iload_n hx hb dX5_learnedOf_86 rfl (lv_at hl 2 rfl) ?_
          refine lv_iload hx hb dX5_learnedOf_87 (lv_at hl 5 rfl) ?_
          refine lv_iconst (v := (0 : Int32)) hx hb dX5_learnedOf_89 (by decide) ?_
          obtain ⟨r11, h12, hF⟩ := ob1_some hF
          have hPc : va_P (dC, dI) vwCl ((W_Model cI a S)) H := hP
          have hDc : va_D A ((W_Model cI a S)) := hD
          have hFc := jFreeW (ws := (W_Model cI a S)) hD hS hA
          refine va_calli (va_runV (As := [.int v1, .int x4, .int (0 : Int32)]) (rest := [.int ((g_Model_tree S) ((7 : Int32) * x4).toNatClampNeg)]) ⟨hx, hb, hml, hown, hts⟩ (c_X5_of l dC dI cI a H.size _ _ _ _ _ h12) (cwV 3 hts gX5_learnedOf_X5_of rfl rfl rfl (by decide +kernel) ⟨Nat.le_of_ble_eq_true rfl, Nat.le_of_ble_eq_true rfl⟩) (jPreV hK hPc hDc hN (ci := 5) rfl rfl) rfl rfl hl.1 rfl (lv_room (Nat.le_of_ble_eq_true rfl)) dX5_learnedOf_90 ⟨Nat.le_of_ble_eq_true rfl, Nat.le_of_ble_eq_true rfl⟩) hS (fun q _ h => hFc q h) hFc (fun r' u' t H locs ht hvm hw hB hz1 hk1 hS => ?_)
          subst hw
          obtain ⟨hP1, -, hD1⟩ := hB
          rw [ht] at hP1
          have hP : va_P (dC, dI) vwCl ((W_Model cI a S)) H := hP1
          have hD : va_D A ((W_Model cI a S)) := hD1.weaken (fun _ _ _ h => hFc _ h)
          refine lv_icmp_eq (tgt := 100) hx hb dX5_learnedOf_93 (by decide) (fun c13 => ?_) (fun c13 => ?_)
          · have hF := F_pos c13 hF
            refine lv_iconst (v := (0 : Int32)) hx hb dX5_learnedOf_100 (by decide) ?_
            exact K101 _ _ _ _ _ _ _ hF hP hD hS _ (lv_sub hl [1, 2, 3, 4, 5, 0] rfl)
          · have hF := F_neg c13 hF
            refine lv_iconst (v := (1 : Int32)) hx hb dX5_learnedOf_96 (by decide) ?_
            refine lv_goto (tgt := 101) hx hb dX5_learnedOf_97 (by decide) ?_
            exact K101 _ _ _ _ _ _ _ hF hP hD hS _ (lv_sub hl [1, 2, 3, 4, 5, 0] rfl)
  have KE : ∀ (H : Heap) (locs : List Loc), va_P (dC, dI) vwCl ((W_Model cI a S)) H → va_D A ((W_Model cI a S)) → va_S A s.heap H locs → W p l e (headSpec wsX5_learnedOf ({ frames := 7, cells := 0, slots := 0, locals := 155 } : Room)).room s m ([.ref (a 0), .int v1, .int v2] : List Value).toArray below meth c H locs 0 0 (MQ below (va_Qi (fun (r' : Int32) (u : S_Model) => rr = r' ∧ Y = u) (fun u : S_Model => jB (dC, dI) [(cI, .int)] A ((W_Model cI a u))) A) ([.ref (a 0), .int v1, .int v2] : List Value).toArray s 0 0 A) (F0 m 0 ls []) := by
    intro H locs hP hD hS
    unfold F_X5_learnedOf at hF
    refine lv_aload_n hx hb dX5_learnedOf_0 rfl (lv_at hl 0 rfl) ?_
    obtain ⟨r14, u15, h16, hF⟩ := ob2_some hF
    have hPc : va_P (dC, dI) vwCl ((W_Model cI a S)) H := hP
    have hDc : va_D A ((W_Model cI a S)) := hD
    have hFc := jFreeW (ws := (W_Model cI a S)) hD hS hA
    refine va_calli (va_runV (As := []) (rest := []) ⟨hx, hb, hml, hown, hts⟩ (c_X5_isText l dC dI cI a H.size _ _ _ h16) (cwV 0 hts gX5_learnedOf_X5_isText rfl rfl rfl (by decide +kernel) ⟨Nat.le_of_ble_eq_true rfl, Nat.le_of_ble_eq_true rfl⟩) (jPreV hK hPc hDc hN (ci := 5) rfl rfl) rfl rfl hl.1 rfl (lv_room (Nat.le_of_ble_eq_true rfl)) dX5_learnedOf_1 ⟨Nat.le_of_ble_eq_true rfl, Nat.le_of_ble_eq_true rfl⟩) hS (fun q _ h => hFc q h) hFc (fun r' u' t H locs ht hvm hw hB hz1 hk1 hS => ?_)
    obtain ⟨e1, e2⟩ := hw
    subst e1
    subst e2
    obtain ⟨hP1, -, hD1⟩ := hB
    rw [ht] at hP1
    have hP : va_P (dC, dI) vwCl ((W_Model cI a u15)) H := hP1
    have hD : va_D A ((W_Model cI a u15)) := hD1.weaken (fun _ _ _ h => hFc _ h)
    refine lv_if_ne (tgt := 9) hx hb dX5_learnedOf_4 (by decide) (fun c17 => ?_) (fun c17 => ?_)
    · have hF := F_neg c17 hF
      refine lv_aload_n hx hb dX5_learnedOf_9 rfl (lv_at hl 0 rfl) ?_
      refine lv_iload_n hx hb dX5_learnedOf_10 rfl (lv_at hl 1 rfl) ?_
      obtain ⟨u18, h19, hF⟩ := ob1_some hF
      have hPc : va_P (dC, dI) vwCl ((W_Model cI a u15)) H := hP
      have hDc : va_D A ((W_Model cI a u15)) := hD
      have hFc := jFreeW (ws := (W_Model cI a u15)) hD hS hA
      refine va_callv (va_runV (As := [.int v1]) (rest := []) ⟨hx, hb, hml, hown, hts⟩ (c_X5_shows l dC dI cI a H.size _ _ _ h19) (cwV 1 hts gX5_learnedOf_X5_shows rfl rfl rfl (by decide +kernel) ⟨Nat.le_of_ble_eq_true rfl, Nat.le_of_ble_eq_true rfl⟩) (jPreV hK hPc hDc hN (ci := 5) rfl rfl) rfl rfl hl.1 rfl (lv_room (Nat.le_of_ble_eq_true rfl)) dX5_learnedOf_11 ⟨Nat.le_of_ble_eq_true rfl, Nat.le_of_ble_eq_true rfl⟩) hS (fun q _ h => hFc q h) hFc (fun u' t H locs ht hvm hw hB hz1 hk1 hS => ?_)
      subst hw
      obtain ⟨hP1, -, hD1⟩ := hB
      rw [ht] at hP1
      have hP : va_P (dC, dI) vwCl ((W_Model cI a u18)) H := hP1
      have hD : va_D A ((W_Model cI a u18)) := hD1.weaken (fun _ _ _ h => hFc _ h)
      refine lv_iload_n hx hb dX5_learnedOf_14 rfl (lv_at hl 2 rfl) ?_
      refine lv_if_eq (tgt := 23) hx hb dX5_learnedOf_15 (by decide) (fun c20 => ?_) (fun c20 => ?_)
      · have hF := F_pos c20 hF
        refine lv_iload_n hx hb dX5_learnedOf_23 rfl (lv_at hl 2 rfl) ?_
        refine lv_if_ne (tgt := 34) hx hb dX5_learnedOf_24 (by decide) (fun c21 => ?_) (fun c21 => ?_)
        · have hF := F_neg c21 hF
          refine lv_aload_n hx hb dX5_learnedOf_34 rfl (lv_at hl 0 rfl) ?_
          obtain ⟨r22, h23, hF⟩ := ob1_some hF
          have hPc : va_P (dC, dI) vwCl ((W_Model cI a u18)) H := hP
          have hDc : va_D A ((W_Model cI a u18)) := hD
          have hFc := jFreeW (ws := (W_Model cI a u18)) hD hS hA
          refine va_calli (va_runV (As := []) (rest := []) ⟨hx, hb, hml, hown, hts⟩ (c_X5_isRefused l dC dI cI a H.size _ _ h23) (cwV 0 hts gX5_learnedOf_X5_isRefused rfl rfl rfl (by decide +kernel) ⟨Nat.le_of_ble_eq_true rfl, Nat.le_of_ble_eq_true rfl⟩) (jPreV hK hPc hDc hN (ci := 5) rfl rfl) rfl rfl hl.1 rfl (lv_room (Nat.le_of_ble_eq_true rfl)) dX5_learnedOf_35 ⟨Nat.le_of_ble_eq_true rfl, Nat.le_of_ble_eq_true rfl⟩) hS (fun q _ h => hFc q h) hFc (fun r' u' t H locs ht hvm hw hB hz1 hk1 hS => ?_)
          subst hw
          obtain ⟨hP1, -, hD1⟩ := hB
          rw [ht] at hP1
          have hP : va_P (dC, dI) vwCl ((W_Model cI a u18)) H := hP1
          have hD : va_D A ((W_Model cI a u18)) := hD1.weaken (fun _ _ _ h => hFc _ h)
          refine lv_if_eq (tgt := 45) hx hb dX5_learnedOf_38 (by decide) (fun c24 => ?_) (fun c24 => ?_)
          · have hF := F_pos c24 hF
            refine lv_iconst (v := (0 : Int32)) hx hb dX5_learnedOf_45 (by decide) ?_
            have e50 := Option.some.inj hF
            obtain ⟨e60, e51⟩ := Prod.mk.inj e50
            subst e60
            subst e51
            exact W.iret (v := (0 : Int32)) hx hb hr (fun t ht hW => ⟨⟨(0 : Int32), u18, rfl, ⟨rfl, rfl⟩, by rw [ht]; exact hP, va_K.moved hW.alike hK, hD⟩, hS.F ht⟩) hS.2.2 dX5_learnedOf_46
          · have hF := F_neg c24 hF
            refine lv_iconst (v := (1 : Int32)) hx hb dX5_learnedOf_41 (by decide) ?_
            refine lv_goto (tgt := 46) hx hb dX5_learnedOf_42 (by decide) ?_
            have e50 := Option.some.inj hF
            obtain ⟨e60, e51⟩ := Prod.mk.inj e50
            subst e60
            subst e51
            exact W.iret (v := (1 : Int32)) hx hb hr (fun t ht hW => ⟨⟨(1 : Int32), u18, rfl, ⟨rfl, rfl⟩, by rw [ht]; exact hP, va_K.moved hW.alike hK, hD⟩, hS.F ht⟩) hS.2.2 dX5_learnedOf_46
        · have hF := F_pos c21 hF
          refine lv_aload_n hx hb dX5_learnedOf_27 rfl (lv_at hl 0 rfl) ?_
          obtain ⟨r25, h26, hF⟩ := ob1_some hF
          have hPc : va_P (dC, dI) vwCl ((W_Model cI a u18)) H := hP
          have hDc : va_D A ((W_Model cI a u18)) := hD
          have hFc := jFreeW (ws := (W_Model cI a u18)) hD hS hA
          refine va_calli (va_runV (As := []) (rest := []) ⟨hx, hb, hml, hown, hts⟩ (c_X5_nodes l dC dI cI a H.size _ _ h26) (cwV 0 hts gX5_learnedOf_X5_nodes rfl rfl rfl (by decide +kernel) ⟨Nat.le_of_ble_eq_true rfl, Nat.le_of_ble_eq_true rfl⟩) (jPreV hK hPc hDc hN (ci := 5) rfl rfl) rfl rfl hl.1 rfl (lv_room (Nat.le_of_ble_eq_true rfl)) dX5_learnedOf_28 ⟨Nat.le_of_ble_eq_true rfl, Nat.le_of_ble_eq_true rfl⟩) hS (fun q _ h => hFc q h) hFc (fun r' u' t H locs ht hvm hw hB hz1 hk1 hS => ?_)
          subst hw
          obtain ⟨hP1, -, hD1⟩ := hB
          rw [ht] at hP1
          have hP : va_P (dC, dI) vwCl ((W_Model cI a u18)) H := hP1
          have hD : va_D A ((W_Model cI a u18)) := hD1.weaken (fun _ _ _ h => hFc _ h)
          refine lv_goto (tgt := 46) hx hb dX5_learnedOf_31 (by decide) ?_
          have e50 := Option.some.inj hF
          obtain ⟨e60, e51⟩ := Prod.mk.inj e50
          subst e60
          subst e51
          exact W.iret (v := r25) hx hb hr (fun t ht hW => ⟨⟨r25, u18, rfl, ⟨rfl, rfl⟩, by rw [ht]; exact hP, va_K.moved hW.alike hK, hD⟩, hS.F ht⟩) hS.2.2 dX5_learnedOf_46
      · have hF := F_neg c20 hF
        refine lv_iload_n hx hb dX5_learnedOf_18 rfl (lv_at hl 2 rfl) ?_
        refine lv_iconst (v := (4 : Int32)) hx hb dX5_learnedOf_19 (by decide) ?_
        refine lv_icmp_ne (tgt := 47) hx hb dX5_learnedOf_20 (by decide) (fun c27 => ?_) (fun c27 => ?_)
        · have hF := F_neg c27 hF
          refine lv_iconst (v := (0 : Int32)) hx hb dX5_learnedOf_47 (by decide) ?_
          refine lv_istore_n (lv' := [(3, .int (0 : Int32)), (0, .ref (a 0)), (1, .int v1), (2, .int v2)]) hx hb dX5_learnedOf_48 rfl hl (by decide) rfl (fun ls hl => ?_)
          refine lv_iconst (v := (0 : Int32)) hx hb dX5_learnedOf_49 (by decide) ?_
          refine lv_istore (lv' := [(4, .int (0 : Int32)), (3, .int (0 : Int32)), (0, .ref (a 0)), (1, .int v1), (2, .int v2)]) hx hb dX5_learnedOf_50 hl (by decide) rfl (fun ls hl => ?_)
          exact K52 _ _ _ _ _ _ hF hP hD hS _ (lv_sub hl [2, 3, 4, 1, 0] rfl)
        · have hF := F_pos c27 hF
          refine lv_iload_n hx hb dX5_learnedOf_23 rfl (lv_at hl 2 rfl) ?_
          refine lv_if_ne (tgt := 34) hx hb dX5_learnedOf_24 (by decide) (fun c28 => ?_) (fun c28 => ?_)
          · have hF := F_neg c28 hF
            refine lv_aload_n hx hb dX5_learnedOf_34 rfl (lv_at hl 0 rfl) ?_
            obtain ⟨r29, h30, hF⟩ := ob1_some hF
            have hPc : va_P (dC, dI) vwCl ((W_Model cI a u18)) H := hP
            have hDc : va_D A ((W_Model cI a u18)) := hD
            have hFc := jFreeW (ws := (W_Model cI a u18)) hD hS hA
            refine va_calli (va_runV (As := []) (rest := []) ⟨hx, hb, hml, hown, hts⟩ (c_X5_isRefused l dC dI cI a H.size _ _ h30) (cwV 0 hts gX5_learnedOf_X5_isRefused rfl rfl rfl (by decide +kernel) ⟨Nat.le_of_ble_eq_true rfl, Nat.le_of_ble_eq_true rfl⟩) (jPreV hK hPc hDc hN (ci := 5) rfl rfl) rfl rfl hl.1 rfl (lv_room (Nat.le_of_ble_eq_true rfl)) dX5_learnedOf_35 ⟨Nat.le_of_ble_eq_true rfl, Nat.le_of_ble_eq_true rfl⟩) hS (fun q _ h => hFc q h) hFc (fun r' u' t H locs ht hvm hw hB hz1 hk1 hS => ?_)
            subst hw
            obtain ⟨hP1, -, hD1⟩ := hB
            rw [ht] at hP1
            have hP : va_P (dC, dI) vwCl ((W_Model cI a u18)) H := hP1
            have hD : va_D A ((W_Model cI a u18)) := hD1.weaken (fun _ _ _ h => hFc _ h)
            refine lv_if_eq (tgt := 45) hx hb dX5_learnedOf_38 (by decide) (fun c31 => ?_) (fun c31 => ?_)
            · have hF := F_pos c31 hF
              refine lv_iconst (v := (0 : Int32)) hx hb dX5_learnedOf_45 (by decide) ?_
              have e50 := Option.some.inj hF
              obtain ⟨e60, e51⟩ := Prod.mk.inj e50
              subst e60
              subst e51
              exact W.iret (v := (0 : Int32)) hx hb hr (fun t ht hW => ⟨⟨(0 : Int32), u18, rfl, ⟨rfl, rfl⟩, by rw [ht]; exact hP, va_K.moved hW.alike hK, hD⟩, hS.F ht⟩) hS.2.2 dX5_learnedOf_46
            · have hF := F_neg c31 hF
              refine lv_iconst (v := (1 : Int32)) hx hb dX5_learnedOf_41 (by decide) ?_
              refine lv_goto (tgt := 46) hx hb dX5_learnedOf_42 (by decide) ?_
              have e50 := Option.some.inj hF
              obtain ⟨e60, e51⟩ := Prod.mk.inj e50
              subst e60
              subst e51
              exact W.iret (v := (1 : Int32)) hx hb hr (fun t ht hW => ⟨⟨(1 : Int32), u18, rfl, ⟨rfl, rfl⟩, by rw [ht]; exact hP, va_K.moved hW.alike hK, hD⟩, hS.F ht⟩) hS.2.2 dX5_learnedOf_46
          · have hF := F_pos c28 hF
            refine lv_aload_n hx hb dX5_learnedOf_27 rfl (lv_at hl 0 rfl) ?_
            obtain ⟨r32, h33, hF⟩ := ob1_some hF
            have hPc : va_P (dC, dI) vwCl ((W_Model cI a u18)) H := hP
            have hDc : va_D A ((W_Model cI a u18)) := hD
            have hFc := jFreeW (ws := (W_Model cI a u18)) hD hS hA
            refine va_calli (va_runV (As := []) (rest := []) ⟨hx, hb, hml, hown, hts⟩ (c_X5_nodes l dC dI cI a H.size _ _ h33) (cwV 0 hts gX5_learnedOf_X5_nodes rfl rfl rfl (by decide +kernel) ⟨Nat.le_of_ble_eq_true rfl, Nat.le_of_ble_eq_true rfl⟩) (jPreV hK hPc hDc hN (ci := 5) rfl rfl) rfl rfl hl.1 rfl (lv_room (Nat.le_of_ble_eq_true rfl)) dX5_learnedOf_28 ⟨Nat.le_of_ble_eq_true rfl, Nat.le_of_ble_eq_true rfl⟩) hS (fun q _ h => hFc q h) hFc (fun r' u' t H locs ht hvm hw hB hz1 hk1 hS => ?_)
            subst hw
            obtain ⟨hP1, -, hD1⟩ := hB
            rw [ht] at hP1
            have hP : va_P (dC, dI) vwCl ((W_Model cI a u18)) H := hP1
            have hD : va_D A ((W_Model cI a u18)) := hD1.weaken (fun _ _ _ h => hFc _ h)
            refine lv_goto (tgt := 46) hx hb dX5_learnedOf_31 (by decide) ?_
            have e50 := Option.some.inj hF
            obtain ⟨e60, e51⟩ := Prod.mk.inj e50
            subst e60
            subst e51
            exact W.iret (v := r32) hx hb hr (fun t ht hW => ⟨⟨r32, u18, rfl, ⟨rfl, rfl⟩, by rw [ht]; exact hP, va_K.moved hW.alike hK, hD⟩, hS.F ht⟩) hS.2.2 dX5_learnedOf_46
    · have hF := F_pos c17 hF
      refine lv_iconst (v := (-1 : Int32)) hx hb dX5_learnedOf_7 (by decide) ?_
      have e50 := Option.some.inj hF
      obtain ⟨e60, e51⟩ := Prod.mk.inj e50
      subst e60
      subst e51
      exact W.iret (v := (-1 : Int32)) hx hb hr (fun t ht hW => ⟨⟨(-1 : Int32), u15, rfl, ⟨rfl, rfl⟩, by rw [ht]; exact hP, va_K.moved hW.alike hK, hD⟩, hS.F ht⟩) hS.2.2 dX5_learnedOf_8
  exact KE _ _ hP hD hS
set_option maxHeartbeats 4000000 in
set_option maxRecDepth 100000 in
theorem c_X5_ifLearned (l : Launch) (dC : Nat → ClassId) (dI : Nat → Nat → Nat) (cI : ClassId) (a : Nat → Nat) (sz : Nat) (S : S_Model) (v1 : Int32) (v2 : Int32) (rr : Int32) (Y : S_Model) (hF : F_X5_ifLearned S v1 v2 = some (rr, Y)) : Met l yX5_ifLearned wsX5_ifLearned ({ frames := 8, cells := 0, slots := 0, locals := 181 } : Room) (va_Pc [.ref (a 0), .int v1, .int v2] (jPre (dC, dI) [(cI, .int)] sz ((W_Model cI a S)))) (va_Qi (fun (r' : Int32) (u : S_Model) => rr = r' ∧ Y = u) (fun u : S_Model => jB (dC, dI) [(cI, .int)] (va_A ((W_Model cI a S)) sz) ((W_Model cI a u))) (va_A ((W_Model cI a S)) sz)) 0 0 (va_A ((W_Model cI a S)) sz) := by
  refine Met.ofW (cc := cX5_ifLearned) (maxL := 3) (ret := (some .int)) (by decide) rfl ?_
  intro p e s m args below meth c s₁ B hml hv
  obtain ⟨rfl, hsz, hP, hK, hD0, hN⟩ := hv
  have hx := B.exec
  have hb := B.bytes
  have hr := B.returns
  have hts := atoms_spec (ws := wsX5_ifLearned) B.pre
  have hown : s.vm.findClass RX5 = some m.cls := findClass_of_methodNamed B.named
  have hlocks := B.notSynchronized
  have hinX5 : ∀ w ∈ u_ws RX5 TX5 26, w ∈ wsX5_ifLearned := by decide +kernel
  subst hsz
  have hD := hD0.self (sz := s.heap.size)
  generalize hAe : (va_A ((W_Model cI a S)) s.heap.size) = A at hD ⊢
  have hA : ∀ q : Nat, s.heap.size ≤ q → A q := fun q h => by rw [← hAe]; exact Or.inr h
  have hS : va_S A s.heap s.heap [] := va_S.rf
  have hl := lv_entry ([.ref (a 0), .int v1, .int v2]) (n := 3) (Nat.le_of_ble_eq_true rfl)
  rw [lg_entry_eq]
  generalize (lg_sl ([.ref (a 0), .int v1, .int v2]) ++ List.replicate (3 - (lg_sl ([.ref (a 0), .int v1, .int v2])).length) Slot.unset).toArray = ls at hl ⊢
  have hl : lv_has ls 3 [(0, .ref (a 0)), (1, .int v1), (2, .int v2)] := hl
  have KE : ∀ (H : Heap) (locs : List Loc), va_P (dC, dI) vwCl ((W_Model cI a S)) H → va_D A ((W_Model cI a S)) → va_S A s.heap H locs → W p l e (headSpec wsX5_ifLearned ({ frames := 8, cells := 0, slots := 0, locals := 181 } : Room)).room s m ([.ref (a 0), .int v1, .int v2] : List Value).toArray below meth c H locs 0 0 (MQ below (va_Qi (fun (r' : Int32) (u : S_Model) => rr = r' ∧ Y = u) (fun u : S_Model => jB (dC, dI) [(cI, .int)] A ((W_Model cI a u))) A) ([.ref (a 0), .int v1, .int v2] : List Value).toArray s 0 0 A) (F0 m 0 ls []) := by
    intro H locs hP hD hS
    unfold F_X5_ifLearned at hF
    refine lv_aload_n hx hb dX5_ifLearned_0 rfl (lv_at hl 0 rfl) ?_
    refine lv_iconst (v := (0 : Int32)) hx hb dX5_ifLearned_1 (by decide) ?_
    refine wp_thrown (v := (0 : Int32)) hx hb hts hinX5 hown hK hP hD hS (hts (Cond.fieldLink RX5 49 "LearnedShapesModel" "thrown" "I") (List.mem_of_getElem? (i := 1) rfl)) (rfl) (rfl) dX5_ifLearned_2 (fun H locs hP hD hS => ?_)
    refine lv_iload_n hx hb dX5_ifLearned_5 rfl (lv_at hl 1 rfl) ?_
    obtain ⟨r1, h2, hF⟩ := ob1_some hF
    have hPc : va_P (dC, dI) vwCl ([] : va_W) H := fun k q h => by simp at h
    have hDc : va_D A ([] : va_W) := ⟨fun i j p q h => by simp at h, fun k q h => by simp at h⟩
    have hFc := jFreeW (ws := []) hDc hS hA
    refine va_calli (va_runS (As := [.int v1]) (rest := []) ⟨hx, hb, hml, hown, hts⟩ (c_X5_isShape l dC dI cI  H.size _ _ h2) (va_cwS 1 hts gX5_ifLearned_X5_isShape rfl rfl rfl (by decide +kernel) ⟨Nat.le_of_ble_eq_true rfl, Nat.le_of_ble_eq_true rfl⟩) (jPreS hK hPc hDc hN) rfl rfl hl.1 rfl (lv_room (Nat.le_of_ble_eq_true rfl)) dX5_ifLearned_6 ⟨Nat.le_of_ble_eq_true rfl, Nat.le_of_ble_eq_true rfl⟩) hS (fun q _ h => hFc q h) hFc (fun r' u' t H locs ht hvm hw hB hz1 hk1 hS => ?_)
    subst hw
    obtain ⟨hP1, -, hD1⟩ := hB
    rw [ht] at hP1
    have hP : va_P (dC, dI) vwCl ((W_Model cI a (s_Model_thrown S (0 : Int32)))) H := jNone hP hk1
    refine lv_if_ne (tgt := 18) hx hb dX5_ifLearned_9 (by decide) (fun c3 => ?_) (fun c3 => ?_)
    · have hF := F_neg c3 hF
      refine lv_iload_n hx hb dX5_ifLearned_18 rfl (lv_at hl 2 rfl) ?_
      refine lv_iconst (v := (0 : Int32)) hx hb dX5_ifLearned_19 (by decide) ?_
      refine lv_iconst (v := (4 : Int32)) hx hb dX5_ifLearned_20 (by decide) ?_
      obtain ⟨r4, h5, hF⟩ := ob1_some hF
      have hPc : va_P (dC, dI) vwCl ([] : va_W) H := fun k q h => by simp at h
      have hDc : va_D A ([] : va_W) := ⟨fun i j p q h => by simp at h, fun k q h => by simp at h⟩
      have hFc := jFreeW (ws := []) hDc hS hA
      refine va_calli (va_runS (As := [.int v2, .int (0 : Int32), .int (4 : Int32)]) (rest := []) ⟨hx, hb, hml, hown, hts⟩ (c_X5_in l dC dI cI  H.size _ _ _ _ h5) (va_cwS 3 hts gX5_ifLearned_X5_in rfl rfl rfl (by decide +kernel) ⟨Nat.le_of_ble_eq_true rfl, Nat.le_of_ble_eq_true rfl⟩) (jPreS hK hPc hDc hN) rfl rfl hl.1 rfl (lv_room (Nat.le_of_ble_eq_true rfl)) dX5_ifLearned_21 ⟨Nat.le_of_ble_eq_true rfl, Nat.le_of_ble_eq_true rfl⟩) hS (fun q _ h => hFc q h) hFc (fun r' u' t H locs ht hvm hw hB hz1 hk1 hS => ?_)
      subst hw
      obtain ⟨hP1, -, hD1⟩ := hB
      rw [ht] at hP1
      have hP : va_P (dC, dI) vwCl ((W_Model cI a (s_Model_thrown S (0 : Int32)))) H := jNone hP hk1
      refine lv_if_eq (tgt := 36) hx hb dX5_ifLearned_24 (by decide) (fun c6 => ?_) (fun c6 => ?_)
      · have hF := F_pos c6 hF
        refine lv_aload_n hx hb dX5_ifLearned_36 rfl (lv_at hl 0 rfl) ?_
        refine lv_iconst (v := (2 : Int32)) hx hb dX5_ifLearned_37 (by decide) ?_
        obtain ⟨r7, u8, h9, hF⟩ := ob2_some hF
        have hPc : va_P (dC, dI) vwCl ((W_Model cI a (s_Model_thrown S (0 : Int32)))) H := hP
        have hDc : va_D A ((W_Model cI a (s_Model_thrown S (0 : Int32)))) := hD
        have hFc := jFreeW (ws := (W_Model cI a (s_Model_thrown S (0 : Int32)))) hD hS hA
        refine va_calli (va_runV (As := [.int (2 : Int32)]) (rest := []) ⟨hx, hb, hml, hown, hts⟩ (c_X5_fails l dC dI cI a H.size _ _ _ _ h9) (cwV 1 hts gX5_ifLearned_X5_fails rfl rfl rfl (by decide +kernel) ⟨Nat.le_of_ble_eq_true rfl, Nat.le_of_ble_eq_true rfl⟩) (jPreV hK hPc hDc hN (ci := 5) rfl rfl) rfl rfl hl.1 rfl (lv_room (Nat.le_of_ble_eq_true rfl)) dX5_ifLearned_38 ⟨Nat.le_of_ble_eq_true rfl, Nat.le_of_ble_eq_true rfl⟩) hS (fun q _ h => hFc q h) hFc (fun r' u' t H locs ht hvm hw hB hz1 hk1 hS => ?_)
        obtain ⟨e1, e2⟩ := hw
        subst e1
        subst e2
        obtain ⟨hP1, -, hD1⟩ := hB
        rw [ht] at hP1
        have hP : va_P (dC, dI) vwCl ((W_Model cI a u8)) H := hP1
        have hD : va_D A ((W_Model cI a u8)) := hD1.weaken (fun _ _ _ h => hFc _ h)
        have e50 := Option.some.inj hF
        obtain ⟨e60, e51⟩ := Prod.mk.inj e50
        subst e60
        subst e51
        exact W.iret (v := r7) hx hb hr (fun t ht hW => ⟨⟨r7, u8, rfl, ⟨rfl, rfl⟩, by rw [ht]; exact hP, va_K.moved hW.alike hK, hD⟩, hS.F ht⟩) hS.2.2 dX5_ifLearned_41
      · have hF := F_neg c6 hF
        refine lv_aload_n hx hb dX5_ifLearned_27 rfl (lv_at hl 0 rfl) ?_
        refine lv_iload_n hx hb dX5_ifLearned_28 rfl (lv_at hl 1 rfl) ?_
        refine lv_iload_n hx hb dX5_ifLearned_29 rfl (lv_at hl 2 rfl) ?_
        obtain ⟨r10, u11, h12, hF⟩ := ob2_some hF
        have hPc : va_P (dC, dI) vwCl ((W_Model cI a (s_Model_thrown S (0 : Int32)))) H := hP
        have hDc : va_D A ((W_Model cI a (s_Model_thrown S (0 : Int32)))) := hD
        have hFc := jFreeW (ws := (W_Model cI a (s_Model_thrown S (0 : Int32)))) hD hS hA
        refine va_calli (va_runV (As := [.int v1, .int v2]) (rest := []) ⟨hx, hb, hml, hown, hts⟩ (c_X5_learnedOf l dC dI cI a H.size _ _ _ _ _ h12) (cwV 2 hts gX5_ifLearned_X5_learnedOf rfl rfl rfl (by decide +kernel) ⟨Nat.le_of_ble_eq_true rfl, Nat.le_of_ble_eq_true rfl⟩) (jPreV hK hPc hDc hN (ci := 5) rfl rfl) rfl rfl hl.1 rfl (lv_room (Nat.le_of_ble_eq_true rfl)) dX5_ifLearned_30 ⟨Nat.le_of_ble_eq_true rfl, Nat.le_of_ble_eq_true rfl⟩) hS (fun q _ h => hFc q h) hFc (fun r' u' t H locs ht hvm hw hB hz1 hk1 hS => ?_)
        obtain ⟨e1, e2⟩ := hw
        subst e1
        subst e2
        obtain ⟨hP1, -, hD1⟩ := hB
        rw [ht] at hP1
        have hP : va_P (dC, dI) vwCl ((W_Model cI a u11)) H := hP1
        have hD : va_D A ((W_Model cI a u11)) := hD1.weaken (fun _ _ _ h => hFc _ h)
        refine lv_goto (tgt := 41) hx hb dX5_ifLearned_33 (by decide) ?_
        have e50 := Option.some.inj hF
        obtain ⟨e60, e51⟩ := Prod.mk.inj e50
        subst e60
        subst e51
        exact W.iret (v := r10) hx hb hr (fun t ht hW => ⟨⟨r10, u11, rfl, ⟨rfl, rfl⟩, by rw [ht]; exact hP, va_K.moved hW.alike hK, hD⟩, hS.F ht⟩) hS.2.2 dX5_ifLearned_41
    · have hF := F_pos c3 hF
      refine lv_aload_n hx hb dX5_ifLearned_12 rfl (lv_at hl 0 rfl) ?_
      refine lv_iconst (v := (1 : Int32)) hx hb dX5_ifLearned_13 (by decide) ?_
      obtain ⟨r13, u14, h15, hF⟩ := ob2_some hF
      have hPc : va_P (dC, dI) vwCl ((W_Model cI a (s_Model_thrown S (0 : Int32)))) H := hP
      have hDc : va_D A ((W_Model cI a (s_Model_thrown S (0 : Int32)))) := hD
      have hFc := jFreeW (ws := (W_Model cI a (s_Model_thrown S (0 : Int32)))) hD hS hA
      refine va_calli (va_runV (As := [.int (1 : Int32)]) (rest := []) ⟨hx, hb, hml, hown, hts⟩ (c_X5_fails l dC dI cI a H.size _ _ _ _ h15) (cwV 1 hts gX5_ifLearned_X5_fails rfl rfl rfl (by decide +kernel) ⟨Nat.le_of_ble_eq_true rfl, Nat.le_of_ble_eq_true rfl⟩) (jPreV hK hPc hDc hN (ci := 5) rfl rfl) rfl rfl hl.1 rfl (lv_room (Nat.le_of_ble_eq_true rfl)) dX5_ifLearned_14 ⟨Nat.le_of_ble_eq_true rfl, Nat.le_of_ble_eq_true rfl⟩) hS (fun q _ h => hFc q h) hFc (fun r' u' t H locs ht hvm hw hB hz1 hk1 hS => ?_)
      obtain ⟨e1, e2⟩ := hw
      subst e1
      subst e2
      obtain ⟨hP1, -, hD1⟩ := hB
      rw [ht] at hP1
      have hP : va_P (dC, dI) vwCl ((W_Model cI a u14)) H := hP1
      have hD : va_D A ((W_Model cI a u14)) := hD1.weaken (fun _ _ _ h => hFc _ h)
      have e50 := Option.some.inj hF
      obtain ⟨e60, e51⟩ := Prod.mk.inj e50
      subst e60
      subst e51
      exact W.iret (v := r13) hx hb hr (fun t ht hW => ⟨⟨r13, u14, rfl, ⟨rfl, rfl⟩, by rw [ht]; exact hP, va_K.moved hW.alike hK, hD⟩, hS.F ht⟩) hS.2.2 dX5_ifLearned_17
  exact KE _ _ hP hD hS
set_option maxHeartbeats 4000000 in
set_option maxRecDepth 100000 in
theorem c_X5_coversParts (l : Launch) (dC : Nat → ClassId) (dI : Nat → Nat → Nat) (cI : ClassId) (a : Nat → Nat) (sz : Nat) (S : S_Model) (v1 : Int32) (v2 : Int32) (v3 : Int32) (v4 : Int32) (rr : Bool) (hF : F_X5_coversParts S v1 v2 v3 v4 = some rr) : Met l yX5_coversParts wsX5_coversParts ({ frames := 2, cells := 0, slots := 0, locals := 47 } : Room) (va_Pc [.ref (a 0), .int v1, .int v2, .int v3, .int v4] (jPre (dC, dI) [(cI, .int)] sz ((W_Model cI a S)))) (va_Qi (fun (r' : Int32) (_ : Unit) => b2i rr = r') (fun _ : Unit => jB (dC, dI) [(cI, .int)] (va_A ((W_Model cI a S)) sz) ((W_Model cI a S))) (va_A ((W_Model cI a S)) sz)) 0 0 (va_A ((W_Model cI a S)) sz) := by
  refine Met.ofW (cc := cX5_coversParts) (maxL := 8) (ret := (some .boolean)) (by decide) rfl ?_
  intro p e s m args below meth c s₁ B hml hv
  obtain ⟨rfl, hsz, hP, hK, hD0, hN⟩ := hv
  have hx := B.exec
  have hb := B.bytes
  have hr := B.returns
  have hts := atoms_spec (ws := wsX5_coversParts) B.pre
  have hown : s.vm.findClass RX5 = some m.cls := findClass_of_methodNamed B.named
  have hlocks := B.notSynchronized
  subst hsz
  have hD := hD0.self (sz := s.heap.size)
  generalize hAe : (va_A ((W_Model cI a S)) s.heap.size) = A at hD ⊢
  have hA : ∀ q : Nat, s.heap.size ≤ q → A q := fun q h => by rw [← hAe]; exact Or.inr h
  have hS : va_S A s.heap s.heap [] := va_S.rf
  have hl := lv_entry ([.ref (a 0), .int v1, .int v2, .int v3, .int v4]) (n := 8) (Nat.le_of_ble_eq_true rfl)
  rw [lg_entry_eq]
  generalize (lg_sl ([.ref (a 0), .int v1, .int v2, .int v3, .int v4]) ++ List.replicate (8 - (lg_sl ([.ref (a 0), .int v1, .int v2, .int v3, .int v4])).length) Slot.unset).toArray = ls at hl ⊢
  have hl : lv_has ls 8 [(0, .ref (a 0)), (1, .int v1), (2, .int v2), (3, .int v3), (4, .int v4)] := hl
  have K3 : ∀ (n3 : Nat) (x5 : Int32) (H : Heap) (locs : List Loc), F_X5_coversParts_3 v1 v2 v3 v4 S n3 x5 = some rr → va_P (dC, dI) vwCl ((W_Model cI a S)) H → va_D A ((W_Model cI a S)) → va_S A s.heap H locs → ∀ ls : Array Slot, lv_has ls 8 [(0, .ref (a 0)), (1, .int v1), (2, .int v2), (3, .int v3), (4, .int v4), (5, .int x5)] → W p l e (headSpec wsX5_coversParts ({ frames := 2, cells := 0, slots := 0, locals := 47 } : Room)).room s m ([.ref (a 0), .int v1, .int v2, .int v3, .int v4] : List Value).toArray below meth c H locs 0 0 (MQ below (va_Qi (fun (r' : Int32) (_ : Unit) => b2i rr = r') (fun _ : Unit => jB (dC, dI) [(cI, .int)] A ((W_Model cI a S))) A) ([.ref (a 0), .int v1, .int v2, .int v3, .int v4] : List Value).toArray s 0 0 A) (F0 m 3 ls []) := by
    intro n3
    induction n3 with
    | zero => intro x5 H locs hF; exact nomatch hF
    | succ n3 ih3 =>
      intro x5 H locs hF hP hD hS ls hl
      rw [F_X5_coversParts_3_s] at hF
      refine lv_iload hx hb dX5_coversParts_3 (lv_at hl 5 rfl) ?_
      refine lv_bipush (v := (8 : Int32)) hx hb dX5_coversParts_5 (by decide) ?_
      refine lv_icmp_ge (tgt := 71) hx hb dX5_coversParts_7 (by decide) (fun c1 => ?_) (fun c1 => ?_)
      · have hF := F_pos c1 hF
        refine lv_iconst (v := (1 : Int32)) hx hb dX5_coversParts_71 (by decide) ?_
        have e50 := Option.some.inj hF
        subst e50
        exact W.zret (v := (1 : Int32)) hx hb hr (rfl) (fun t ht hW => ⟨⟨(1 : Int32), (), rfl, rfl, by rw [ht]; exact hP, va_K.moved hW.alike hK, hD⟩, hS.F ht⟩) hS.2.2 dX5_coversParts_72
      · have hF := F_neg c1 hF
        refine lv_aload_n hx hb dX5_coversParts_10 rfl (lv_at hl 0 rfl) ?_
        refine lv_iload_n hx hb dX5_coversParts_11 rfl (lv_at hl 1 rfl) ?_
        refine lv_iload_n hx hb dX5_coversParts_12 rfl (lv_at hl 2 rfl) ?_
        refine lv_iload hx hb dX5_coversParts_13 (lv_at hl 5 rfl) ?_
        obtain ⟨r2, h3, hF⟩ := ob1_some hF
        have hPc : va_P (dC, dI) vwCl ((W_Model cI a S)) H := hP
        have hDc : va_D A ((W_Model cI a S)) := hD
        have hFc := jFreeW (ws := (W_Model cI a S)) hD hS hA
        refine va_calli (va_runV (As := [.int v1, .int v2, .int x5]) (rest := []) ⟨hx, hb, hml, hown, hts⟩ (c_X5_childOf l dC dI cI a H.size _ _ _ _ _ h3) (cwV 3 hts gX5_coversParts_X5_childOf rfl rfl rfl (by decide +kernel) ⟨Nat.le_of_ble_eq_true rfl, Nat.le_of_ble_eq_true rfl⟩) (jPreV hK hPc hDc hN (ci := 5) rfl rfl) rfl rfl hl.1 rfl (lv_room (Nat.le_of_ble_eq_true rfl)) dX5_coversParts_15 ⟨Nat.le_of_ble_eq_true rfl, Nat.le_of_ble_eq_true rfl⟩) hS (fun q _ h => hFc q h) hFc (fun r' u' t H locs ht hvm hw hB hz1 hk1 hS => ?_)
        subst hw
        obtain ⟨hP1, -, hD1⟩ := hB
        rw [ht] at hP1
        have hP : va_P (dC, dI) vwCl ((W_Model cI a S)) H := hP1
        have hD : va_D A ((W_Model cI a S)) := hD1.weaken (fun _ _ _ h => hFc _ h)
        refine lv_istore (lv' := [(6, .int r2), (0, .ref (a 0)), (1, .int v1), (2, .int v2), (3, .int v3), (4, .int v4), (5, .int x5)]) hx hb dX5_coversParts_18 hl (by decide) rfl (fun ls hl => ?_)
        refine lv_aload_n hx hb dX5_coversParts_20 rfl (lv_at hl 1 rfl) ?_
        refine lv_iload_n hx hb dX5_coversParts_21 rfl (lv_at hl 4 rfl) ?_
        refine lv_iload hx hb dX5_coversParts_22 (lv_at hl 5 rfl) ?_
        refine lv_iload hx hb dX5_coversParts_24 (lv_at hl 6 rfl) ?_
        obtain ⟨r4, h5, hF⟩ := ob1_some hF
        have hPc : va_P (dC, dI) vwCl ((W_Model cI a S)) H := hP
        have hDc : va_D A ((W_Model cI a S)) := hD
        have hFc := jFreeW (ws := (W_Model cI a S)) hD hS hA
        refine va_calli (va_runV (As := [.int v3, .int v4, .int x5]) (rest := []) ⟨hx, hb, hml, hown, hts⟩ (c_X5_childOf l dC dI cI a H.size _ _ _ _ _ h5) (cwV 3 hts gX5_coversParts_X5_childOf rfl rfl rfl (by decide +kernel) ⟨Nat.le_of_ble_eq_true rfl, Nat.le_of_ble_eq_true rfl⟩) (jPreV hK hPc hDc hN (ci := 5) rfl rfl) rfl rfl hl.1 rfl (lv_room (Nat.le_of_ble_eq_true rfl)) dX5_coversParts_26 ⟨Nat.le_of_ble_eq_true rfl, Nat.le_of_ble_eq_true rfl⟩) hS (fun q _ h => hFc q h) hFc (fun r' u' t H locs ht hvm hw hB hz1 hk1 hS => ?_)
        subst hw
        obtain ⟨hP1, -, hD1⟩ := hB
        rw [ht] at hP1
        have hP : va_P (dC, dI) vwCl ((W_Model cI a S)) H := hP1
        have hD : va_D A ((W_Model cI a S)) := hD1.weaken (fun _ _ _ h => hFc _ h)
        refine lv_istore (lv' := [(7, .int r4), (6, .int r2), (0, .ref (a 0)), (1, .int v1), (2, .int v2), (3, .int v3), (4, .int v4), (5, .int x5)]) hx hb dX5_coversParts_29 hl (by decide) rfl (fun ls hl => ?_)
        refine lv_iload hx hb dX5_coversParts_31 (lv_at hl 1 rfl) ?_
        refine lv_iconst (v := (-1 : Int32)) hx hb dX5_coversParts_33 (by decide) ?_
        refine lv_icmp_eq (tgt := 65) hx hb dX5_coversParts_34 (by decide) (fun c6 => ?_) (fun c6 => ?_)
        · have hF := F_pos c6 hF
          refine lv_iinc (v := (x5 + (1 : Int32))) (lv' := [(5, .int (x5 + (1 : Int32))), (7, .int r4), (6, .int r2), (0, .ref (a 0)), (1, .int v1), (2, .int v2), (3, .int v3), (4, .int v4)]) hx hb dX5_coversParts_65 hl (k := 7) rfl rfl (by decide) rfl (fun ls hl => ?_)
          refine lv_goto (tgt := 3) hx hb dX5_coversParts_68 (by decide) ?_
          exact ih3 _ _ _ hF hP hD hS _ (lv_sub hl [3, 4, 5, 6, 7, 0] rfl)
        · have hF := F_neg c6 hF
          refine lv_aload_n hx hb dX5_coversParts_37 rfl (lv_at hl 2 rfl) ?_
          refine lv_iload_n hx hb dX5_coversParts_38 rfl (lv_at hl 3 rfl) ?_
          refine lv_iload hx hb dX5_coversParts_39 (lv_at hl 1 rfl) ?_
          obtain ⟨r7, h8, hF⟩ := ob1_some hF
          have hPc : va_P (dC, dI) vwCl ((W_Model cI a S)) H := hP
          have hDc : va_D A ((W_Model cI a S)) := hD
          have hFc := jFreeW (ws := (W_Model cI a S)) hD hS hA
          refine va_calli (va_runV (As := [.int v1, .int r2]) (rest := []) ⟨hx, hb, hml, hown, hts⟩ (c_X5_canMiss l dC dI cI a H.size _ _ _ _ h8) (cwV 2 hts gX5_coversParts_X5_canMiss rfl rfl rfl (by decide +kernel) ⟨Nat.le_of_ble_eq_true rfl, Nat.le_of_ble_eq_true rfl⟩) (jPreV hK hPc hDc hN (ci := 5) rfl rfl) rfl rfl hl.1 rfl (lv_room (Nat.le_of_ble_eq_true rfl)) dX5_coversParts_41 ⟨Nat.le_of_ble_eq_true rfl, Nat.le_of_ble_eq_true rfl⟩) hS (fun q _ h => hFc q h) hFc (fun r' u' t H locs ht hvm hw hB hz1 hk1 hS => ?_)
          subst hw
          obtain ⟨hP1, -, hD1⟩ := hB
          rw [ht] at hP1
          have hP : va_P (dC, dI) vwCl ((W_Model cI a S)) H := hP1
          have hD : va_D A ((W_Model cI a S)) := hD1.weaken (fun _ _ _ h => hFc _ h)
          refine lv_if_ne (tgt := 65) hx hb dX5_coversParts_44 (by decide) (fun c9 => ?_) (fun c9 => ?_)
          · have hF := F_neg c9 hF
            refine lv_iinc (v := (x5 + (1 : Int32))) (lv' := [(5, .int (x5 + (1 : Int32))), (7, .int r4), (6, .int r2), (0, .ref (a 0)), (1, .int v1), (2, .int v2), (3, .int v3), (4, .int v4)]) hx hb dX5_coversParts_65 hl (k := 7) rfl rfl (by decide) rfl (fun ls hl => ?_)
            refine lv_goto (tgt := 3) hx hb dX5_coversParts_68 (by decide) ?_
            exact ih3 _ _ _ hF hP hD hS _ (lv_sub hl [3, 4, 5, 6, 7, 0] rfl)
          · have hF := F_pos c9 hF
            refine lv_iload hx hb dX5_coversParts_47 (lv_at hl 0 rfl) ?_
            refine lv_iconst (v := (-1 : Int32)) hx hb dX5_coversParts_49 (by decide) ?_
            refine lv_icmp_eq (tgt := 63) hx hb dX5_coversParts_50 (by decide) (fun c10 => ?_) (fun c10 => ?_)
            · have hF := F_pos c10 hF
              refine lv_iconst (v := (0 : Int32)) hx hb dX5_coversParts_63 (by decide) ?_
              have e50 := Option.some.inj hF
              subst e50
              exact W.zret (v := (0 : Int32)) hx hb hr (rfl) (fun t ht hW => ⟨⟨(0 : Int32), (), rfl, rfl, by rw [ht]; exact hP, va_K.moved hW.alike hK, hD⟩, hS.F ht⟩) hS.2.2 dX5_coversParts_64
            · have hF := F_neg c10 hF
              refine lv_aload_n hx hb dX5_coversParts_53 rfl (lv_at hl 2 rfl) ?_
              refine lv_iload_n hx hb dX5_coversParts_54 rfl (lv_at hl 5 rfl) ?_
              refine lv_iload hx hb dX5_coversParts_55 (lv_at hl 0 rfl) ?_
              obtain ⟨r11, h12, hF⟩ := ob1_some hF
              have hPc : va_P (dC, dI) vwCl ((W_Model cI a S)) H := hP
              have hDc : va_D A ((W_Model cI a S)) := hD
              have hFc := jFreeW (ws := (W_Model cI a S)) hD hS hA
              refine va_calli (va_runV (As := [.int v3, .int r4]) (rest := []) ⟨hx, hb, hml, hown, hts⟩ (c_X5_canMiss l dC dI cI a H.size _ _ _ _ h12) (cwV 2 hts gX5_coversParts_X5_canMiss rfl rfl rfl (by decide +kernel) ⟨Nat.le_of_ble_eq_true rfl, Nat.le_of_ble_eq_true rfl⟩) (jPreV hK hPc hDc hN (ci := 5) rfl rfl) rfl rfl hl.1 rfl (lv_room (Nat.le_of_ble_eq_true rfl)) dX5_coversParts_57 ⟨Nat.le_of_ble_eq_true rfl, Nat.le_of_ble_eq_true rfl⟩) hS (fun q _ h => hFc q h) hFc (fun r' u' t H locs ht hvm hw hB hz1 hk1 hS => ?_)
              subst hw
              obtain ⟨hP1, -, hD1⟩ := hB
              rw [ht] at hP1
              have hP : va_P (dC, dI) vwCl ((W_Model cI a S)) H := hP1
              have hD : va_D A ((W_Model cI a S)) := hD1.weaken (fun _ _ _ h => hFc _ h)
              refine lv_if_eq (tgt := 65) hx hb dX5_coversParts_60 (by decide) (fun c13 => ?_) (fun c13 => ?_)
              · have hF := F_pos c13 hF
                refine lv_iinc (v := (x5 + (1 : Int32))) (lv' := [(5, .int (x5 + (1 : Int32))), (7, .int r4), (6, .int r2), (0, .ref (a 0)), (1, .int v1), (2, .int v2), (3, .int v3), (4, .int v4)]) hx hb dX5_coversParts_65 hl (k := 7) rfl rfl (by decide) rfl (fun ls hl => ?_)
                refine lv_goto (tgt := 3) hx hb dX5_coversParts_68 (by decide) ?_
                exact ih3 _ _ _ hF hP hD hS _ (lv_sub hl [3, 4, 5, 6, 7, 0] rfl)
              · have hF := F_neg c13 hF
                refine lv_iconst (v := (0 : Int32)) hx hb dX5_coversParts_63 (by decide) ?_
                have e50 := Option.some.inj hF
                subst e50
                exact W.zret (v := (0 : Int32)) hx hb hr (rfl) (fun t ht hW => ⟨⟨(0 : Int32), (), rfl, rfl, by rw [ht]; exact hP, va_K.moved hW.alike hK, hD⟩, hS.F ht⟩) hS.2.2 dX5_coversParts_64
  have KE : ∀ (H : Heap) (locs : List Loc), va_P (dC, dI) vwCl ((W_Model cI a S)) H → va_D A ((W_Model cI a S)) → va_S A s.heap H locs → W p l e (headSpec wsX5_coversParts ({ frames := 2, cells := 0, slots := 0, locals := 47 } : Room)).room s m ([.ref (a 0), .int v1, .int v2, .int v3, .int v4] : List Value).toArray below meth c H locs 0 0 (MQ below (va_Qi (fun (r' : Int32) (_ : Unit) => b2i rr = r') (fun _ : Unit => jB (dC, dI) [(cI, .int)] A ((W_Model cI a S))) A) ([.ref (a 0), .int v1, .int v2, .int v3, .int v4] : List Value).toArray s 0 0 A) (F0 m 0 ls []) := by
    intro H locs hP hD hS
    unfold F_X5_coversParts at hF
    refine lv_iconst (v := (0 : Int32)) hx hb dX5_coversParts_0 (by decide) ?_
    refine lv_istore (lv' := [(5, .int (0 : Int32)), (0, .ref (a 0)), (1, .int v1), (2, .int v2), (3, .int v3), (4, .int v4)]) hx hb dX5_coversParts_1 hl (by decide) rfl (fun ls hl => ?_)
    exact K3 _ _ _ _ hF hP hD hS _ (lv_sub hl [1, 2, 3, 4, 5, 0] rfl)
  exact KE _ _ hP hD hS
set_option maxHeartbeats 4000000 in
set_option maxRecDepth 100000 in
theorem c_X5_coversOf (l : Launch) (dC : Nat → ClassId) (dI : Nat → Nat → Nat) (cI : ClassId) (a : Nat → Nat) (sz : Nat) (S : S_Model) (v1 : Int32) (rr : Int32) (Y : S_Model) (hF : F_X5_coversOf S v1 = some (rr, Y)) : Met l yX5_coversOf wsX5_coversOf ({ frames := 3, cells := 0, slots := 0, locals := 74 } : Room) (va_Pc [.ref (a 0), .int v1] (jPre (dC, dI) [(cI, .int)] sz ((W_Model cI a S)))) (va_Qi (fun (r' : Int32) (u : S_Model) => rr = r' ∧ Y = u) (fun u : S_Model => jB (dC, dI) [(cI, .int)] (va_A ((W_Model cI a S)) sz) ((W_Model cI a u))) (va_A ((W_Model cI a S)) sz)) 0 0 (va_A ((W_Model cI a S)) sz) := by
  refine Met.ofW (cc := cX5_coversOf) (maxL := 7) (ret := (some .int)) (by decide) rfl ?_
  intro p e s m args below meth c s₁ B hml hv
  obtain ⟨rfl, hsz, hP, hK, hD0, hN⟩ := hv
  have hx := B.exec
  have hb := B.bytes
  have hr := B.returns
  have hts := atoms_spec (ws := wsX5_coversOf) B.pre
  have hown : s.vm.findClass RX5 = some m.cls := findClass_of_methodNamed B.named
  have hlocks := B.notSynchronized
  have hinX5 : ∀ w ∈ u_ws RX5 TX5 26, w ∈ wsX5_coversOf := by decide +kernel
  subst hsz
  have hD := hD0.self (sz := s.heap.size)
  generalize hAe : (va_A ((W_Model cI a S)) s.heap.size) = A at hD ⊢
  have hA : ∀ q : Nat, s.heap.size ≤ q → A q := fun q h => by rw [← hAe]; exact Or.inr h
  have hS : va_S A s.heap s.heap [] := va_S.rf
  have hl := lv_entry ([.ref (a 0), .int v1]) (n := 7) (Nat.le_of_ble_eq_true rfl)
  rw [lg_entry_eq]
  generalize (lg_sl ([.ref (a 0), .int v1]) ++ List.replicate (7 - (lg_sl ([.ref (a 0), .int v1])).length) Slot.unset).toArray = ls at hl ⊢
  have hl : lv_has ls 7 [(0, .ref (a 0)), (1, .int v1)] := hl
  have K6 : ∀ (n6 : Nat) (S : S_Model) (x2 : Int32) (x3 : Int32) (H : Heap) (locs : List Loc), F_X5_coversOf_6 v1 n6 S x2 x3 = some (rr, Y) → va_P (dC, dI) vwCl ((W_Model cI a S)) H → va_D A ((W_Model cI a S)) → va_S A s.heap H locs → ∀ ls : Array Slot, lv_has ls 7 [(0, .ref (a 0)), (1, .int v1), (2, .int x2), (3, .int x3)] → W p l e (headSpec wsX5_coversOf ({ frames := 3, cells := 0, slots := 0, locals := 74 } : Room)).room s m ([.ref (a 0), .int v1] : List Value).toArray below meth c H locs 0 0 (MQ below (va_Qi (fun (r' : Int32) (u : S_Model) => rr = r' ∧ Y = u) (fun u : S_Model => jB (dC, dI) [(cI, .int)] A ((W_Model cI a u))) A) ([.ref (a 0), .int v1] : List Value).toArray s 0 0 A) (F0 m 6 ls []) := by
    intro n6
    induction n6 with
    | zero => intro S x2 x3 H locs hF; exact nomatch hF
    | succ n6 ih6 =>
      intro S x2 x3 H locs hF hP hD hS ls hl
      rw [F_X5_coversOf_6_s] at hF
      have K169 : ∀ (S : S_Model) (x2 : Int32) (x3 : Int32) (x5 : Int32) (t0 : Bool) (H : Heap) (locs : List Loc), F_X5_coversOf_169 v1 (F_X5_coversOf_6 v1 n6) S x2 x3 x5 t0 = some (rr, Y) → va_P (dC, dI) vwCl ((W_Model cI a S)) H → va_D A ((W_Model cI a S)) → va_S A s.heap H locs → ∀ ls : Array Slot, lv_has ls 7 [(0, .ref (a 0)), (1, .int v1), (2, .int x2), (3, .int x3), (5, .int x5)] → W p l e (headSpec wsX5_coversOf ({ frames := 3, cells := 0, slots := 0, locals := 74 } : Room)).room s m ([.ref (a 0), .int v1] : List Value).toArray below meth c H locs 0 0 (MQ below (va_Qi (fun (r' : Int32) (u : S_Model) => rr = r' ∧ Y = u) (fun u : S_Model => jB (dC, dI) [(cI, .int)] A ((W_Model cI a u))) A) ([.ref (a 0), .int v1] : List Value).toArray s 0 0 A) (F0 m 169 ls [.int (b2i t0)]) := by
        intro S x2 x3 x5 t0 H locs hF hP hD hS ls hl
        unfold F_X5_coversOf_169 at hF
        refine lv_istore (lv' := [(6, .int (b2i t0)), (0, .ref (a 0)), (1, .int v1), (2, .int x2), (3, .int x3), (5, .int x5)]) hx hb dX5_coversOf_169 hl (by decide) rfl (fun ls hl => ?_)
        refine lv_iload hx hb dX5_coversOf_171 (lv_at hl 0 rfl) ?_
        refine lv_if_ne (tgt := 202) hx hb dX5_coversOf_173 (by decide) (fun c1 => ?_) (fun c1 => ?_)
        · have hF := F_neg c1 hF
          refine lv_aload_n hx hb dX5_coversOf_202 rfl (lv_at hl 1 rfl) ?_
          refine wg_place (v := .ref (a 12)) hx hb hts hinX5 hown hK hP rfl (hts (Cond.fieldLink RX5 43 "LearnedShapesModel" "place" "[I") (List.mem_of_getElem? (i := 2) rfl)) dX5_coversOf_203 ?_
          refine lv_iload_n hx hb dX5_coversOf_206 rfl (lv_at hl 4 rfl) ?_
          refine lv_iload hx hb dX5_coversOf_207 (lv_at hl 0 rfl) ?_
          refine lv_if_eq (tgt := 216) hx hb dX5_coversOf_209 (by decide) (fun c2 => ?_) (fun c2 => ?_)
          · have hF := F_pos c2 hF
            refine lv_iload hx hb dX5_coversOf_216 (lv_at hl 5 rfl) ?_
            obtain ⟨g3, hF⟩ := og_some hF
            refine ws_place (f := (g_Model_place S)) hx hb hK hP hD hS rfl (inb_in g3) dX5_coversOf_218 (fun H locs hP hD hS => ?_)
            refine lv_iinc (v := (x3 + (1 : Int32))) (lv' := [(3, .int (x3 + (1 : Int32))), (6, .int (b2i t0)), (0, .ref (a 0)), (1, .int v1), (2, .int x2), (5, .int x5)]) hx hb dX5_coversOf_219 hl (k := 4) rfl rfl (by decide) rfl (fun ls hl => ?_)
            refine lv_goto (tgt := 6) hx hb dX5_coversOf_222 (by decide) ?_
            exact ih6 _ _ _ _ _ hF hP hD hS _ (lv_sub hl [2, 3, 4, 0] rfl)
          · have hF := F_neg c2 hF
            refine lv_iconst (v := (-1 : Int32)) hx hb dX5_coversOf_212 (by decide) ?_
            refine lv_goto (tgt := 218) hx hb dX5_coversOf_213 (by decide) ?_
            obtain ⟨g4, hF⟩ := og_some hF
            refine ws_place (f := (g_Model_place S)) hx hb hK hP hD hS rfl (inb_in g4) dX5_coversOf_218 (fun H locs hP hD hS => ?_)
            refine lv_iinc (v := (x3 + (1 : Int32))) (lv' := [(3, .int (x3 + (1 : Int32))), (6, .int (b2i t0)), (0, .ref (a 0)), (1, .int v1), (2, .int x2), (5, .int x5)]) hx hb dX5_coversOf_219 hl (k := 4) rfl rfl (by decide) rfl (fun ls hl => ?_)
            refine lv_goto (tgt := 6) hx hb dX5_coversOf_222 (by decide) ?_
            exact ih6 _ _ _ _ _ hF hP hD hS _ (lv_sub hl [2, 3, 4, 0] rfl)
        · have hF := F_pos c1 hF
          refine lv_aload_n hx hb dX5_coversOf_176 rfl (lv_at hl 1 rfl) ?_
          refine lv_iload_n hx hb dX5_coversOf_177 rfl (lv_at hl 3 rfl) ?_
          refine lv_iload_n hx hb dX5_coversOf_178 rfl (lv_at hl 4 rfl) ?_
          refine lv_iconst (v := (0 : Int32)) hx hb dX5_coversOf_179 (by decide) ?_
          obtain ⟨r5, h6, hF⟩ := ob1_some hF
          have hPc : va_P (dC, dI) vwCl ((W_Model cI a S)) H := hP
          have hDc : va_D A ((W_Model cI a S)) := hD
          have hFc := jFreeW (ws := (W_Model cI a S)) hD hS hA
          refine va_calli (va_runV (As := [.int x2, .int x3, .int (0 : Int32)]) (rest := []) ⟨hx, hb, hml, hown, hts⟩ (c_X5_of l dC dI cI a H.size _ _ _ _ _ h6) (cwV 3 hts gX5_coversOf_X5_of rfl rfl rfl (by decide +kernel) ⟨Nat.le_of_ble_eq_true rfl, Nat.le_of_ble_eq_true rfl⟩) (jPreV hK hPc hDc hN (ci := 5) rfl rfl) rfl rfl hl.1 rfl (lv_room (Nat.le_of_ble_eq_true rfl)) dX5_coversOf_180 ⟨Nat.le_of_ble_eq_true rfl, Nat.le_of_ble_eq_true rfl⟩) hS (fun q _ h => hFc q h) hFc (fun r' u' t H locs ht hvm hw hB hz1 hk1 hS => ?_)
          subst hw
          obtain ⟨hP1, -, hD1⟩ := hB
          rw [ht] at hP1
          have hP : va_P (dC, dI) vwCl ((W_Model cI a S)) H := hP1
          have hD : va_D A ((W_Model cI a S)) := hD1.weaken (fun _ _ _ h => hFc _ h)
          refine lv_bipush (v := (6 : Int32)) hx hb dX5_coversOf_183 (by decide) ?_
          refine lv_icmp_ne (tgt := 202) hx hb dX5_coversOf_185 (by decide) (fun c7 => ?_) (fun c7 => ?_)
          · have hF := F_neg c7 hF
            refine lv_aload_n hx hb dX5_coversOf_202 rfl (lv_at hl 1 rfl) ?_
            refine wg_place (v := .ref (a 12)) hx hb hts hinX5 hown hK hP rfl (hts (Cond.fieldLink RX5 43 "LearnedShapesModel" "place" "[I") (List.mem_of_getElem? (i := 2) rfl)) dX5_coversOf_203 ?_
            refine lv_iload_n hx hb dX5_coversOf_206 rfl (lv_at hl 4 rfl) ?_
            refine lv_iload hx hb dX5_coversOf_207 (lv_at hl 0 rfl) ?_
            refine lv_if_eq (tgt := 216) hx hb dX5_coversOf_209 (by decide) (fun c8 => ?_) (fun c8 => ?_)
            · have hF := F_pos c8 hF
              refine lv_iload hx hb dX5_coversOf_216 (lv_at hl 5 rfl) ?_
              obtain ⟨g9, hF⟩ := og_some hF
              refine ws_place (f := (g_Model_place S)) hx hb hK hP hD hS rfl (inb_in g9) dX5_coversOf_218 (fun H locs hP hD hS => ?_)
              refine lv_iinc (v := (x3 + (1 : Int32))) (lv' := [(3, .int (x3 + (1 : Int32))), (6, .int (b2i t0)), (0, .ref (a 0)), (1, .int v1), (2, .int x2), (5, .int x5)]) hx hb dX5_coversOf_219 hl (k := 4) rfl rfl (by decide) rfl (fun ls hl => ?_)
              refine lv_goto (tgt := 6) hx hb dX5_coversOf_222 (by decide) ?_
              exact ih6 _ _ _ _ _ hF hP hD hS _ (lv_sub hl [2, 3, 4, 0] rfl)
            · have hF := F_neg c8 hF
              refine lv_iconst (v := (-1 : Int32)) hx hb dX5_coversOf_212 (by decide) ?_
              refine lv_goto (tgt := 218) hx hb dX5_coversOf_213 (by decide) ?_
              obtain ⟨g10, hF⟩ := og_some hF
              refine ws_place (f := (g_Model_place S)) hx hb hK hP hD hS rfl (inb_in g10) dX5_coversOf_218 (fun H locs hP hD hS => ?_)
              refine lv_iinc (v := (x3 + (1 : Int32))) (lv' := [(3, .int (x3 + (1 : Int32))), (6, .int (b2i t0)), (0, .ref (a 0)), (1, .int v1), (2, .int x2), (5, .int x5)]) hx hb dX5_coversOf_219 hl (k := 4) rfl rfl (by decide) rfl (fun ls hl => ?_)
              refine lv_goto (tgt := 6) hx hb dX5_coversOf_222 (by decide) ?_
              exact ih6 _ _ _ _ _ hF hP hD hS _ (lv_sub hl [2, 3, 4, 0] rfl)
          · have hF := F_pos c7 hF
            refine lv_aload_n hx hb dX5_coversOf_188 rfl (lv_at hl 1 rfl) ?_
            refine lv_iload_n hx hb dX5_coversOf_189 rfl (lv_at hl 2 rfl) ?_
            refine lv_iload hx hb dX5_coversOf_190 (lv_at hl 5 rfl) ?_
            refine lv_iload_n hx hb dX5_coversOf_192 rfl (lv_at hl 3 rfl) ?_
            refine lv_iload_n hx hb dX5_coversOf_193 rfl (lv_at hl 4 rfl) ?_
            obtain ⟨r11, h12, hF⟩ := ob1_some hF
            have hPc : va_P (dC, dI) vwCl ((W_Model cI a S)) H := hP
            have hDc : va_D A ((W_Model cI a S)) := hD
            have hFc := jFreeW (ws := (W_Model cI a S)) hD hS hA
            refine va_calli (va_runV (As := [.int v1, .int x5, .int x2, .int x3]) (rest := []) ⟨hx, hb, hml, hown, hts⟩ (c_X5_coversParts l dC dI cI a H.size _ _ _ _ _ _ h12) (cwV 4 hts gX5_coversOf_X5_coversParts rfl rfl rfl (by decide +kernel) ⟨Nat.le_of_ble_eq_true rfl, Nat.le_of_ble_eq_true rfl⟩) (jPreV hK hPc hDc hN (ci := 5) rfl rfl) rfl rfl hl.1 rfl (lv_room (Nat.le_of_ble_eq_true rfl)) dX5_coversOf_194 ⟨Nat.le_of_ble_eq_true rfl, Nat.le_of_ble_eq_true rfl⟩) hS (fun q _ h => hFc q h) hFc (fun r' u' t H locs ht hvm hw hB hz1 hk1 hS => ?_)
            subst hw
            obtain ⟨hP1, -, hD1⟩ := hB
            rw [ht] at hP1
            have hP : va_P (dC, dI) vwCl ((W_Model cI a S)) H := hP1
            have hD : va_D A ((W_Model cI a S)) := hD1.weaken (fun _ _ _ h => hFc _ h)
            refine lv_if_ne (tgt := 202) hx hb dX5_coversOf_197 (by decide) (fun c13 => ?_) (fun c13 => ?_)
            · have hF := F_neg c13 hF
              refine lv_aload_n hx hb dX5_coversOf_202 rfl (lv_at hl 1 rfl) ?_
              refine wg_place (v := .ref (a 12)) hx hb hts hinX5 hown hK hP rfl (hts (Cond.fieldLink RX5 43 "LearnedShapesModel" "place" "[I") (List.mem_of_getElem? (i := 2) rfl)) dX5_coversOf_203 ?_
              refine lv_iload_n hx hb dX5_coversOf_206 rfl (lv_at hl 4 rfl) ?_
              refine lv_iload hx hb dX5_coversOf_207 (lv_at hl 0 rfl) ?_
              refine lv_if_eq (tgt := 216) hx hb dX5_coversOf_209 (by decide) (fun c14 => ?_) (fun c14 => ?_)
              · have hF := F_pos c14 hF
                refine lv_iload hx hb dX5_coversOf_216 (lv_at hl 5 rfl) ?_
                obtain ⟨g15, hF⟩ := og_some hF
                refine ws_place (f := (g_Model_place S)) hx hb hK hP hD hS rfl (inb_in g15) dX5_coversOf_218 (fun H locs hP hD hS => ?_)
                refine lv_iinc (v := (x3 + (1 : Int32))) (lv' := [(3, .int (x3 + (1 : Int32))), (6, .int (b2i t0)), (0, .ref (a 0)), (1, .int v1), (2, .int x2), (5, .int x5)]) hx hb dX5_coversOf_219 hl (k := 4) rfl rfl (by decide) rfl (fun ls hl => ?_)
                refine lv_goto (tgt := 6) hx hb dX5_coversOf_222 (by decide) ?_
                exact ih6 _ _ _ _ _ hF hP hD hS _ (lv_sub hl [2, 3, 4, 0] rfl)
              · have hF := F_neg c14 hF
                refine lv_iconst (v := (-1 : Int32)) hx hb dX5_coversOf_212 (by decide) ?_
                refine lv_goto (tgt := 218) hx hb dX5_coversOf_213 (by decide) ?_
                obtain ⟨g16, hF⟩ := og_some hF
                refine ws_place (f := (g_Model_place S)) hx hb hK hP hD hS rfl (inb_in g16) dX5_coversOf_218 (fun H locs hP hD hS => ?_)
                refine lv_iinc (v := (x3 + (1 : Int32))) (lv' := [(3, .int (x3 + (1 : Int32))), (6, .int (b2i t0)), (0, .ref (a 0)), (1, .int v1), (2, .int x2), (5, .int x5)]) hx hb dX5_coversOf_219 hl (k := 4) rfl rfl (by decide) rfl (fun ls hl => ?_)
                refine lv_goto (tgt := 6) hx hb dX5_coversOf_222 (by decide) ?_
                exact ih6 _ _ _ _ _ hF hP hD hS _ (lv_sub hl [2, 3, 4, 0] rfl)
            · have hF := F_pos c13 hF
              refine lv_iconst (v := (0 : Int32)) hx hb dX5_coversOf_200 (by decide) ?_
              have e50 := Option.some.inj hF
              obtain ⟨e60, e51⟩ := Prod.mk.inj e50
              subst e60
              subst e51
              exact W.iret (v := (0 : Int32)) hx hb hr (fun t ht hW => ⟨⟨(0 : Int32), S, rfl, ⟨rfl, rfl⟩, by rw [ht]; exact hP, va_K.moved hW.alike hK, hD⟩, hS.F ht⟩) hS.2.2 dX5_coversOf_201
      have K94 : ∀ (S : S_Model) (x2 : Int32) (x3 : Int32) (t0 : Int32) (H : Heap) (locs : List Loc), F_X5_coversOf_94 v1 (F_X5_coversOf_6 v1 n6) S x2 x3 t0 = some (rr, Y) → va_P (dC, dI) vwCl ((W_Model cI a S)) H → va_D A ((W_Model cI a S)) → va_S A s.heap H locs → ∀ ls : Array Slot, lv_has ls 7 [(0, .ref (a 0)), (1, .int v1), (2, .int x2), (3, .int x3)] → W p l e (headSpec wsX5_coversOf ({ frames := 3, cells := 0, slots := 0, locals := 74 } : Room)).room s m ([.ref (a 0), .int v1] : List Value).toArray below meth c H locs 0 0 (MQ below (va_Qi (fun (r' : Int32) (u : S_Model) => rr = r' ∧ Y = u) (fun u : S_Model => jB (dC, dI) [(cI, .int)] A ((W_Model cI a u))) A) ([.ref (a 0), .int v1] : List Value).toArray s 0 0 A) (F0 m 94 ls [.int t0]) := by
        intro S x2 x3 t0 H locs hF hP hD hS ls hl
        unfold F_X5_coversOf_94 at hF
        refine lv_istore (lv' := [(5, .int t0), (0, .ref (a 0)), (1, .int v1), (2, .int x2), (3, .int x3)]) hx hb dX5_coversOf_94 hl (by decide) rfl (fun ls hl => ?_)
        refine lv_iload hx hb dX5_coversOf_96 (lv_at hl 0 rfl) ?_
        refine lv_iconst (v := (-1 : Int32)) hx hb dX5_coversOf_98 (by decide) ?_
        refine lv_icmp_eq (tgt := 149) hx hb dX5_coversOf_99 (by decide) (fun c17 => ?_) (fun c17 => ?_)
        · have hF := F_pos c17 hF
          refine lv_iconst (v := (0 : Int32)) hx hb dX5_coversOf_149 (by decide) ?_
          have e50 := Option.some.inj hF
          obtain ⟨e60, e51⟩ := Prod.mk.inj e50
          subst e60
          subst e51
          exact W.iret (v := (0 : Int32)) hx hb hr (fun t ht hW => ⟨⟨(0 : Int32), S, rfl, ⟨rfl, rfl⟩, by rw [ht]; exact hP, va_K.moved hW.alike hK, hD⟩, hS.F ht⟩) hS.2.2 dX5_coversOf_150
        · have hF := F_neg c17 hF
          refine lv_aload_n hx hb dX5_coversOf_102 rfl (lv_at hl 1 rfl) ?_
          refine lv_iload_n hx hb dX5_coversOf_103 rfl (lv_at hl 2 rfl) ?_
          refine lv_iload hx hb dX5_coversOf_104 (lv_at hl 0 rfl) ?_
          refine lv_iconst (v := (0 : Int32)) hx hb dX5_coversOf_106 (by decide) ?_
          obtain ⟨r18, h19, hF⟩ := ob1_some hF
          have hPc : va_P (dC, dI) vwCl ((W_Model cI a S)) H := hP
          have hDc : va_D A ((W_Model cI a S)) := hD
          have hFc := jFreeW (ws := (W_Model cI a S)) hD hS hA
          refine va_calli (va_runV (As := [.int v1, .int t0, .int (0 : Int32)]) (rest := []) ⟨hx, hb, hml, hown, hts⟩ (c_X5_of l dC dI cI a H.size _ _ _ _ _ h19) (cwV 3 hts gX5_coversOf_X5_of rfl rfl rfl (by decide +kernel) ⟨Nat.le_of_ble_eq_true rfl, Nat.le_of_ble_eq_true rfl⟩) (jPreV hK hPc hDc hN (ci := 5) rfl rfl) rfl rfl hl.1 rfl (lv_room (Nat.le_of_ble_eq_true rfl)) dX5_coversOf_107 ⟨Nat.le_of_ble_eq_true rfl, Nat.le_of_ble_eq_true rfl⟩) hS (fun q _ h => hFc q h) hFc (fun r' u' t H locs ht hvm hw hB hz1 hk1 hS => ?_)
          subst hw
          obtain ⟨hP1, -, hD1⟩ := hB
          rw [ht] at hP1
          have hP : va_P (dC, dI) vwCl ((W_Model cI a S)) H := hP1
          have hD : va_D A ((W_Model cI a S)) := hD1.weaken (fun _ _ _ h => hFc _ h)
          refine lv_aload_n hx hb dX5_coversOf_110 rfl (lv_at hl 1 rfl) ?_
          refine lv_iload_n hx hb dX5_coversOf_111 rfl (lv_at hl 3 rfl) ?_
          refine lv_iload_n hx hb dX5_coversOf_112 rfl (lv_at hl 4 rfl) ?_
          refine lv_iconst (v := (0 : Int32)) hx hb dX5_coversOf_113 (by decide) ?_
          obtain ⟨r20, h21, hF⟩ := ob1_some hF
          have hPc : va_P (dC, dI) vwCl ((W_Model cI a S)) H := hP
          have hDc : va_D A ((W_Model cI a S)) := hD
          have hFc := jFreeW (ws := (W_Model cI a S)) hD hS hA
          refine va_calli (va_runV (As := [.int x2, .int x3, .int (0 : Int32)]) (rest := [.int r18]) ⟨hx, hb, hml, hown, hts⟩ (c_X5_of l dC dI cI a H.size _ _ _ _ _ h21) (cwV 3 hts gX5_coversOf_X5_of rfl rfl rfl (by decide +kernel) ⟨Nat.le_of_ble_eq_true rfl, Nat.le_of_ble_eq_true rfl⟩) (jPreV hK hPc hDc hN (ci := 5) rfl rfl) rfl rfl hl.1 rfl (lv_room (Nat.le_of_ble_eq_true rfl)) dX5_coversOf_114 ⟨Nat.le_of_ble_eq_true rfl, Nat.le_of_ble_eq_true rfl⟩) hS (fun q _ h => hFc q h) hFc (fun r' u' t H locs ht hvm hw hB hz1 hk1 hS => ?_)
          subst hw
          obtain ⟨hP1, -, hD1⟩ := hB
          rw [ht] at hP1
          have hP : va_P (dC, dI) vwCl ((W_Model cI a S)) H := hP1
          have hD : va_D A ((W_Model cI a S)) := hD1.weaken (fun _ _ _ h => hFc _ h)
          obtain ⟨r22, h23, hF⟩ := ob1_some hF
          have hPc : va_P (dC, dI) vwCl ([] : va_W) H := fun k q h => by simp at h
          have hDc : va_D A ([] : va_W) := ⟨fun i j p q h => by simp at h, fun k q h => by simp at h⟩
          have hFc := jFreeW (ws := []) hDc hS hA
          refine va_calli (va_runS (As := [.int r18, .int r20]) (rest := []) ⟨hx, hb, hml, hown, hts⟩ (c_X5_joined l dC dI cI  H.size _ _ _ h23) (va_cwS 2 hts gX5_coversOf_X5_joined rfl rfl rfl (by decide +kernel) ⟨Nat.le_of_ble_eq_true rfl, Nat.le_of_ble_eq_true rfl⟩) (jPreS hK hPc hDc hN) rfl rfl hl.1 rfl (lv_room (Nat.le_of_ble_eq_true rfl)) dX5_coversOf_117 ⟨Nat.le_of_ble_eq_true rfl, Nat.le_of_ble_eq_true rfl⟩) hS (fun q _ h => hFc q h) hFc (fun r' u' t H locs ht hvm hw hB hz1 hk1 hS => ?_)
          subst hw
          obtain ⟨hP1, -, hD1⟩ := hB
          rw [ht] at hP1
          have hP : va_P (dC, dI) vwCl ((W_Model cI a S)) H := jNone hP hk1
          refine lv_aload_n hx hb dX5_coversOf_120 rfl (lv_at hl 1 rfl) ?_
          refine lv_iload_n hx hb dX5_coversOf_121 rfl (lv_at hl 2 rfl) ?_
          refine lv_iload hx hb dX5_coversOf_122 (lv_at hl 0 rfl) ?_
          refine lv_iconst (v := (0 : Int32)) hx hb dX5_coversOf_124 (by decide) ?_
          obtain ⟨r24, h25, hF⟩ := ob1_some hF
          have hPc : va_P (dC, dI) vwCl ((W_Model cI a S)) H := hP
          have hDc : va_D A ((W_Model cI a S)) := hD
          have hFc := jFreeW (ws := (W_Model cI a S)) hD hS hA
          refine va_calli (va_runV (As := [.int v1, .int t0, .int (0 : Int32)]) (rest := [.int r22]) ⟨hx, hb, hml, hown, hts⟩ (c_X5_of l dC dI cI a H.size _ _ _ _ _ h25) (cwV 3 hts gX5_coversOf_X5_of rfl rfl rfl (by decide +kernel) ⟨Nat.le_of_ble_eq_true rfl, Nat.le_of_ble_eq_true rfl⟩) (jPreV hK hPc hDc hN (ci := 5) rfl rfl) rfl rfl hl.1 rfl (lv_room (Nat.le_of_ble_eq_true rfl)) dX5_coversOf_125 ⟨Nat.le_of_ble_eq_true rfl, Nat.le_of_ble_eq_true rfl⟩) hS (fun q _ h => hFc q h) hFc (fun r' u' t H locs ht hvm hw hB hz1 hk1 hS => ?_)
          subst hw
          obtain ⟨hP1, -, hD1⟩ := hB
          rw [ht] at hP1
          have hP : va_P (dC, dI) vwCl ((W_Model cI a S)) H := hP1
          have hD : va_D A ((W_Model cI a S)) := hD1.weaken (fun _ _ _ h => hFc _ h)
          refine lv_icmp_ne (tgt := 149) hx hb dX5_coversOf_128 (by decide) (fun c26 => ?_) (fun c26 => ?_)
          · have hF := F_neg c26 hF
            refine lv_iconst (v := (0 : Int32)) hx hb dX5_coversOf_149 (by decide) ?_
            have e50 := Option.some.inj hF
            obtain ⟨e60, e51⟩ := Prod.mk.inj e50
            subst e60
            subst e51
            exact W.iret (v := (0 : Int32)) hx hb hr (fun t ht hW => ⟨⟨(0 : Int32), S, rfl, ⟨rfl, rfl⟩, by rw [ht]; exact hP, va_K.moved hW.alike hK, hD⟩, hS.F ht⟩) hS.2.2 dX5_coversOf_150
          · have hF := F_pos c26 hF
            refine lv_aload_n hx hb dX5_coversOf_131 rfl (lv_at hl 1 rfl) ?_
            refine lv_iload_n hx hb dX5_coversOf_132 rfl (lv_at hl 2 rfl) ?_
            refine lv_iload hx hb dX5_coversOf_133 (lv_at hl 0 rfl) ?_
            refine lv_iconst (v := (4 : Int32)) hx hb dX5_coversOf_135 (by decide) ?_
            obtain ⟨r27, h28, hF⟩ := ob1_some hF
            have hPc : va_P (dC, dI) vwCl ((W_Model cI a S)) H := hP
            have hDc : va_D A ((W_Model cI a S)) := hD
            have hFc := jFreeW (ws := (W_Model cI a S)) hD hS hA
            refine va_calli (va_runV (As := [.int v1, .int t0, .int (4 : Int32)]) (rest := []) ⟨hx, hb, hml, hown, hts⟩ (c_X5_of l dC dI cI a H.size _ _ _ _ _ h28) (cwV 3 hts gX5_coversOf_X5_of rfl rfl rfl (by decide +kernel) ⟨Nat.le_of_ble_eq_true rfl, Nat.le_of_ble_eq_true rfl⟩) (jPreV hK hPc hDc hN (ci := 5) rfl rfl) rfl rfl hl.1 rfl (lv_room (Nat.le_of_ble_eq_true rfl)) dX5_coversOf_136 ⟨Nat.le_of_ble_eq_true rfl, Nat.le_of_ble_eq_true rfl⟩) hS (fun q _ h => hFc q h) hFc (fun r' u' t H locs ht hvm hw hB hz1 hk1 hS => ?_)
            subst hw
            obtain ⟨hP1, -, hD1⟩ := hB
            rw [ht] at hP1
            have hP : va_P (dC, dI) vwCl ((W_Model cI a S)) H := hP1
            have hD : va_D A ((W_Model cI a S)) := hD1.weaken (fun _ _ _ h => hFc _ h)
            refine lv_aload_n hx hb dX5_coversOf_139 rfl (lv_at hl 1 rfl) ?_
            refine lv_iload_n hx hb dX5_coversOf_140 rfl (lv_at hl 3 rfl) ?_
            refine lv_iload_n hx hb dX5_coversOf_141 rfl (lv_at hl 4 rfl) ?_
            refine lv_iconst (v := (4 : Int32)) hx hb dX5_coversOf_142 (by decide) ?_
            obtain ⟨r29, h30, hF⟩ := ob1_some hF
            have hPc : va_P (dC, dI) vwCl ((W_Model cI a S)) H := hP
            have hDc : va_D A ((W_Model cI a S)) := hD
            have hFc := jFreeW (ws := (W_Model cI a S)) hD hS hA
            refine va_calli (va_runV (As := [.int x2, .int x3, .int (4 : Int32)]) (rest := [.int r27]) ⟨hx, hb, hml, hown, hts⟩ (c_X5_of l dC dI cI a H.size _ _ _ _ _ h30) (cwV 3 hts gX5_coversOf_X5_of rfl rfl rfl (by decide +kernel) ⟨Nat.le_of_ble_eq_true rfl, Nat.le_of_ble_eq_true rfl⟩) (jPreV hK hPc hDc hN (ci := 5) rfl rfl) rfl rfl hl.1 rfl (lv_room (Nat.le_of_ble_eq_true rfl)) dX5_coversOf_143 ⟨Nat.le_of_ble_eq_true rfl, Nat.le_of_ble_eq_true rfl⟩) hS (fun q _ h => hFc q h) hFc (fun r' u' t H locs ht hvm hw hB hz1 hk1 hS => ?_)
            subst hw
            obtain ⟨hP1, -, hD1⟩ := hB
            rw [ht] at hP1
            have hP : va_P (dC, dI) vwCl ((W_Model cI a S)) H := hP1
            have hD : va_D A ((W_Model cI a S)) := hD1.weaken (fun _ _ _ h => hFc _ h)
            refine lv_icmp_ge (tgt := 151) hx hb dX5_coversOf_146 (by decide) (fun c31 => ?_) (fun c31 => ?_)
            · have hF := F_pos c31 hF
              refine lv_aload_n hx hb dX5_coversOf_151 rfl (lv_at hl 1 rfl) ?_
              refine lv_iload_n hx hb dX5_coversOf_152 rfl (lv_at hl 2 rfl) ?_
              refine lv_iload hx hb dX5_coversOf_153 (lv_at hl 0 rfl) ?_
              refine lv_iconst (v := (0 : Int32)) hx hb dX5_coversOf_155 (by decide) ?_
              obtain ⟨r32, h33, hF⟩ := ob1_some hF
              have hPc : va_P (dC, dI) vwCl ((W_Model cI a S)) H := hP
              have hDc : va_D A ((W_Model cI a S)) := hD
              have hFc := jFreeW (ws := (W_Model cI a S)) hD hS hA
              refine va_calli (va_runV (As := [.int v1, .int t0, .int (0 : Int32)]) (rest := []) ⟨hx, hb, hml, hown, hts⟩ (c_X5_of l dC dI cI a H.size _ _ _ _ _ h33) (cwV 3 hts gX5_coversOf_X5_of rfl rfl rfl (by decide +kernel) ⟨Nat.le_of_ble_eq_true rfl, Nat.le_of_ble_eq_true rfl⟩) (jPreV hK hPc hDc hN (ci := 5) rfl rfl) rfl rfl hl.1 rfl (lv_room (Nat.le_of_ble_eq_true rfl)) dX5_coversOf_156 ⟨Nat.le_of_ble_eq_true rfl, Nat.le_of_ble_eq_true rfl⟩) hS (fun q _ h => hFc q h) hFc (fun r' u' t H locs ht hvm hw hB hz1 hk1 hS => ?_)
              subst hw
              obtain ⟨hP1, -, hD1⟩ := hB
              rw [ht] at hP1
              have hP : va_P (dC, dI) vwCl ((W_Model cI a S)) H := hP1
              have hD : va_D A ((W_Model cI a S)) := hD1.weaken (fun _ _ _ h => hFc _ h)
              refine lv_bipush (v := (7 : Int32)) hx hb dX5_coversOf_159 (by decide) ?_
              refine lv_icmp_ne (tgt := 168) hx hb dX5_coversOf_161 (by decide) (fun c34 => ?_) (fun c34 => ?_)
              · have hF := F_neg c34 hF
                refine lv_iconst (v := (0 : Int32)) hx hb dX5_coversOf_168 (by decide) ?_
                exact K169 _ _ _ _ _ _ _ hF hP hD hS _ (lv_sub hl [1, 2, 3, 4, 0] rfl)
              · have hF := F_pos c34 hF
                refine lv_iconst (v := (1 : Int32)) hx hb dX5_coversOf_164 (by decide) ?_
                refine lv_goto (tgt := 169) hx hb dX5_coversOf_165 (by decide) ?_
                exact K169 _ _ _ _ _ _ _ hF hP hD hS _ (lv_sub hl [1, 2, 3, 4, 0] rfl)
            · have hF := F_neg c31 hF
              refine lv_iconst (v := (0 : Int32)) hx hb dX5_coversOf_149 (by decide) ?_
              have e50 := Option.some.inj hF
              obtain ⟨e60, e51⟩ := Prod.mk.inj e50
              subst e60
              subst e51
              exact W.iret (v := (0 : Int32)) hx hb hr (fun t ht hW => ⟨⟨(0 : Int32), S, rfl, ⟨rfl, rfl⟩, by rw [ht]; exact hP, va_K.moved hW.alike hK, hD⟩, hS.F ht⟩) hS.2.2 dX5_coversOf_150
      have K57 : ∀ (S : S_Model) (x2 : Int32) (x3 : Int32) (x4 : Int32) (H : Heap) (locs : List Loc), F_X5_coversOf_57 v1 (F_X5_coversOf_6 v1 n6) S x2 x3 x4 = some (rr, Y) → va_P (dC, dI) vwCl ((W_Model cI a S)) H → va_D A ((W_Model cI a S)) → va_S A s.heap H locs → ∀ ls : Array Slot, lv_has ls 7 [(0, .ref (a 0)), (1, .int v1), (2, .int x2), (3, .int x3), (4, .int x4)] → W p l e (headSpec wsX5_coversOf ({ frames := 3, cells := 0, slots := 0, locals := 74 } : Room)).room s m ([.ref (a 0), .int v1] : List Value).toArray below meth c H locs 0 0 (MQ below (va_Qi (fun (r' : Int32) (u : S_Model) => rr = r' ∧ Y = u) (fun u : S_Model => jB (dC, dI) [(cI, .int)] A ((W_Model cI a u))) A) ([.ref (a 0), .int v1] : List Value).toArray s 0 0 A) (F0 m 57 ls []) := by
        intro S x2 x3 x4 H locs hF hP hD hS ls hl
        unfold F_X5_coversOf_57 at hF
        refine lv_iload_n hx hb dX5_coversOf_57 rfl (lv_at hl 3 rfl) ?_
        refine lv_if_le (tgt := 78) hx hb dX5_coversOf_58 (by decide) (fun c35 => ?_) (fun c35 => ?_)
        · have hF := F_pos c35 hF
          refine lv_aload_n hx hb dX5_coversOf_78 rfl (lv_at hl 0 rfl) ?_
          refine wg_now (v := .ref (a 1)) hx hb hts hinX5 hown hK hP rfl (hts (Cond.fieldLink RX5 7 "LearnedShapesModel" "now" "[I") (List.mem_of_getElem? (i := 1) rfl)) dX5_coversOf_79 ?_
          refine lv_iconst (v := (3 : Int32)) hx hb dX5_coversOf_82 (by decide) ?_
          refine lv_iload_n hx hb dX5_coversOf_83 rfl (lv_at hl 1 rfl) ?_
          refine lv_iadd hx hb dX5_coversOf_84 ?_
          obtain ⟨g36, hF⟩ := og_some hF
          refine wl_now (f := (g_Model_now S)) hx hb hK hP rfl (inb_in g36) dX5_coversOf_85 ?_
          refine lv_if_le (tgt := 93) hx hb dX5_coversOf_86 (by decide) (fun c37 => ?_) (fun c37 => ?_)
          · have hF := F_pos c37 hF
            refine lv_iconst (v := (-1 : Int32)) hx hb dX5_coversOf_93 (by decide) ?_
            exact K94 _ _ _ _ _ _ hF hP hD hS _ (lv_sub hl [0, 1, 2, 3] rfl)
          · have hF := F_neg c37 hF
            refine lv_iconst (v := (0 : Int32)) hx hb dX5_coversOf_89 (by decide) ?_
            refine lv_goto (tgt := 94) hx hb dX5_coversOf_90 (by decide) ?_
            exact K94 _ _ _ _ _ _ hF hP hD hS _ (lv_sub hl [0, 1, 2, 3] rfl)
        · have hF := F_neg c35 hF
          refine lv_aload_n hx hb dX5_coversOf_61 rfl (lv_at hl 0 rfl) ?_
          refine lv_iload_n hx hb dX5_coversOf_62 rfl (lv_at hl 1 rfl) ?_
          refine lv_iload hx hb dX5_coversOf_63 (lv_at hl 4 rfl) ?_
          refine lv_aload_n hx hb dX5_coversOf_65 rfl (lv_at hl 0 rfl) ?_
          refine lv_iload_n hx hb dX5_coversOf_66 rfl (lv_at hl 2 rfl) ?_
          refine lv_iload_n hx hb dX5_coversOf_67 rfl (lv_at hl 3 rfl) ?_
          refine lv_iconst (v := (2 : Int32)) hx hb dX5_coversOf_68 (by decide) ?_
          obtain ⟨r38, h39, hF⟩ := ob1_some hF
          have hPc : va_P (dC, dI) vwCl ((W_Model cI a S)) H := hP
          have hDc : va_D A ((W_Model cI a S)) := hD
          have hFc := jFreeW (ws := (W_Model cI a S)) hD hS hA
          refine va_calli (va_runV (As := [.int x2, .int x3, .int (2 : Int32)]) (rest := [.int x4, .int v1, .ref (a 0)]) ⟨hx, hb, hml, hown, hts⟩ (c_X5_of l dC dI cI a H.size _ _ _ _ _ h39) (cwV 3 hts gX5_coversOf_X5_of rfl rfl rfl (by decide +kernel) ⟨Nat.le_of_ble_eq_true rfl, Nat.le_of_ble_eq_true rfl⟩) (jPreV hK hPc hDc hN (ci := 5) rfl rfl) rfl rfl hl.1 rfl (lv_room (Nat.le_of_ble_eq_true rfl)) dX5_coversOf_69 ⟨Nat.le_of_ble_eq_true rfl, Nat.le_of_ble_eq_true rfl⟩) hS (fun q _ h => hFc q h) hFc (fun r' u' t H locs ht hvm hw hB hz1 hk1 hS => ?_)
          subst hw
          obtain ⟨hP1, -, hD1⟩ := hB
          rw [ht] at hP1
          have hP : va_P (dC, dI) vwCl ((W_Model cI a S)) H := hP1
          have hD : va_D A ((W_Model cI a S)) := hD1.weaken (fun _ _ _ h => hFc _ h)
          obtain ⟨r40, h41, hF⟩ := ob1_some hF
          have hPc : va_P (dC, dI) vwCl ((W_Model cI a S)) H := hP
          have hDc : va_D A ((W_Model cI a S)) := hD
          have hFc := jFreeW (ws := (W_Model cI a S)) hD hS hA
          refine va_calli (va_runV (As := [.int v1, .int x4, .int r38]) (rest := []) ⟨hx, hb, hml, hown, hts⟩ (c_X5_childOf l dC dI cI a H.size _ _ _ _ _ h41) (cwV 3 hts gX5_coversOf_X5_childOf rfl rfl rfl (by decide +kernel) ⟨Nat.le_of_ble_eq_true rfl, Nat.le_of_ble_eq_true rfl⟩) (jPreV hK hPc hDc hN (ci := 5) rfl rfl) rfl rfl hl.1 rfl (lv_room (Nat.le_of_ble_eq_true rfl)) dX5_coversOf_72 ⟨Nat.le_of_ble_eq_true rfl, Nat.le_of_ble_eq_true rfl⟩) hS (fun q _ h => hFc q h) hFc (fun r' u' t H locs ht hvm hw hB hz1 hk1 hS => ?_)
          subst hw
          obtain ⟨hP1, -, hD1⟩ := hB
          rw [ht] at hP1
          have hP : va_P (dC, dI) vwCl ((W_Model cI a S)) H := hP1
          have hD : va_D A ((W_Model cI a S)) := hD1.weaken (fun _ _ _ h => hFc _ h)
          refine lv_goto (tgt := 94) hx hb dX5_coversOf_75 (by decide) ?_
          exact K94 _ _ _ _ _ _ hF hP hD hS _ (lv_sub hl [0, 1, 2, 3] rfl)
      refine lv_iload_n hx hb dX5_coversOf_6 rfl (lv_at hl 3 rfl) ?_
      refine lv_aload_n hx hb dX5_coversOf_7 rfl (lv_at hl 0 rfl) ?_
      refine wg_now (v := .ref (a 1)) hx hb hts hinX5 hown hK hP rfl (hts (Cond.fieldLink RX5 7 "LearnedShapesModel" "now" "[I") (List.mem_of_getElem? (i := 1) rfl)) dX5_coversOf_8 ?_
      refine lv_iconst (v := (3 : Int32)) hx hb dX5_coversOf_11 (by decide) ?_
      refine lv_iload_n hx hb dX5_coversOf_12 rfl (lv_at hl 2 rfl) ?_
      refine lv_iadd hx hb dX5_coversOf_13 ?_
      obtain ⟨g42, hF⟩ := og_some hF
      refine wl_now (f := (g_Model_now S)) hx hb hK hP rfl (inb_in g42) dX5_coversOf_14 ?_
      refine lv_icmp_ge (tgt := 225) hx hb dX5_coversOf_15 (by decide) (fun c43 => ?_) (fun c43 => ?_)
      · have hF := F_pos c43 hF
        refine lv_iconst (v := (1 : Int32)) hx hb dX5_coversOf_225 (by decide) ?_
        have e50 := Option.some.inj hF
        obtain ⟨e60, e51⟩ := Prod.mk.inj e50
        subst e60
        subst e51
        exact W.iret (v := (1 : Int32)) hx hb hr (fun t ht hW => ⟨⟨(1 : Int32), S, rfl, ⟨rfl, rfl⟩, by rw [ht]; exact hP, va_K.moved hW.alike hK, hD⟩, hS.F ht⟩) hS.2.2 dX5_coversOf_226
      · have hF := F_neg c43 hF
        refine lv_iload_n hx hb dX5_coversOf_18 rfl (lv_at hl 3 rfl) ?_
        refine lv_if_ne (tgt := 26) hx hb dX5_coversOf_19 (by decide) (fun c44 => ?_) (fun c44 => ?_)
        · have hF := F_neg c44 hF
          refine lv_aload_n hx hb dX5_coversOf_26 rfl (lv_at hl 0 rfl) ?_
          refine wg_place (v := .ref (a 12)) hx hb hts hinX5 hown hK hP rfl (hts (Cond.fieldLink RX5 43 "LearnedShapesModel" "place" "[I") (List.mem_of_getElem? (i := 2) rfl)) dX5_coversOf_27 ?_
          refine lv_aload_n hx hb dX5_coversOf_30 rfl (lv_at hl 0 rfl) ?_
          refine lv_iload_n hx hb dX5_coversOf_31 rfl (lv_at hl 2 rfl) ?_
          refine lv_iload_n hx hb dX5_coversOf_32 rfl (lv_at hl 3 rfl) ?_
          refine lv_iconst (v := (1 : Int32)) hx hb dX5_coversOf_33 (by decide) ?_
          obtain ⟨r45, h46, hF⟩ := ob1_some hF
          have hPc : va_P (dC, dI) vwCl ((W_Model cI a S)) H := hP
          have hDc : va_D A ((W_Model cI a S)) := hD
          have hFc := jFreeW (ws := (W_Model cI a S)) hD hS hA
          refine va_calli (va_runV (As := [.int x2, .int x3, .int (1 : Int32)]) (rest := [.ref (a 12)]) ⟨hx, hb, hml, hown, hts⟩ (c_X5_of l dC dI cI a H.size _ _ _ _ _ h46) (cwV 3 hts gX5_coversOf_X5_of rfl rfl rfl (by decide +kernel) ⟨Nat.le_of_ble_eq_true rfl, Nat.le_of_ble_eq_true rfl⟩) (jPreV hK hPc hDc hN (ci := 5) rfl rfl) rfl rfl hl.1 rfl (lv_room (Nat.le_of_ble_eq_true rfl)) dX5_coversOf_34 ⟨Nat.le_of_ble_eq_true rfl, Nat.le_of_ble_eq_true rfl⟩) hS (fun q _ h => hFc q h) hFc (fun r' u' t H locs ht hvm hw hB hz1 hk1 hS => ?_)
          subst hw
          obtain ⟨hP1, -, hD1⟩ := hB
          rw [ht] at hP1
          have hP : va_P (dC, dI) vwCl ((W_Model cI a S)) H := hP1
          have hD : va_D A ((W_Model cI a S)) := hD1.weaken (fun _ _ _ h => hFc _ h)
          obtain ⟨g47, hF⟩ := og_some hF
          refine wl_place (f := (g_Model_place S)) hx hb hK hP rfl (inb_in g47) dX5_coversOf_37 ?_
          refine lv_istore (lv' := [(4, .int ((g_Model_place S) r45.toNatClampNeg)), (0, .ref (a 0)), (1, .int v1), (2, .int x2), (3, .int x3)]) hx hb dX5_coversOf_38 hl (by decide) rfl (fun ls hl => ?_)
          refine lv_aload_n hx hb dX5_coversOf_40 rfl (lv_at hl 1 rfl) ?_
          refine wg_place (v := .ref (a 12)) hx hb hts hinX5 hown hK hP rfl (hts (Cond.fieldLink RX5 43 "LearnedShapesModel" "place" "[I") (List.mem_of_getElem? (i := 2) rfl)) dX5_coversOf_41 ?_
          refine lv_iload_n hx hb dX5_coversOf_44 rfl (lv_at hl 4 rfl) ?_
          refine lv_iconst (v := (-1 : Int32)) hx hb dX5_coversOf_45 (by decide) ?_
          obtain ⟨g48, hF⟩ := og_some hF
          refine ws_place (f := (g_Model_place S)) hx hb hK hP hD hS rfl (inb_in g48) dX5_coversOf_46 (fun H locs hP hD hS => ?_)
          refine lv_iload_n hx hb dX5_coversOf_47 rfl (lv_at hl 4 rfl) ?_
          refine lv_if_eq (tgt := 57) hx hb dX5_coversOf_48 (by decide) (fun c49 => ?_) (fun c49 => ?_)
          · have hF := F_pos c49 hF
            exact K57 _ _ _ _ _ _ hF hP hD hS _ (lv_sub hl [1, 2, 3, 4, 0] rfl)
          · have hF := F_neg c49 hF
            refine lv_iload hx hb dX5_coversOf_51 (lv_at hl 0 rfl) ?_
            refine lv_iconst (v := (-1 : Int32)) hx hb dX5_coversOf_53 (by decide) ?_
            refine lv_icmp_eq (tgt := 219) hx hb dX5_coversOf_54 (by decide) (fun c50 => ?_) (fun c50 => ?_)
            · have hF := F_pos c50 hF
              refine lv_iinc (v := (x3 + (1 : Int32))) (lv' := [(3, .int (x3 + (1 : Int32))), (4, .int ((g_Model_place S) r45.toNatClampNeg)), (0, .ref (a 0)), (1, .int v1), (2, .int x2)]) hx hb dX5_coversOf_219 hl (k := 4) rfl rfl (by decide) rfl (fun ls hl => ?_)
              refine lv_goto (tgt := 6) hx hb dX5_coversOf_222 (by decide) ?_
              exact ih6 _ _ _ _ _ hF hP hD hS _ (lv_sub hl [2, 3, 4, 0] rfl)
            · have hF := F_neg c50 hF
              exact K57 _ _ _ _ _ _ hF hP hD hS _ (lv_sub hl [1, 2, 3, 4, 0] rfl)
        · have hF := F_pos c44 hF
          refine lv_iconst (v := (-1 : Int32)) hx hb dX5_coversOf_22 (by decide) ?_
          refine lv_goto (tgt := 38) hx hb dX5_coversOf_23 (by decide) ?_
          refine lv_istore (lv' := [(4, .int (-1 : Int32)), (0, .ref (a 0)), (1, .int v1), (2, .int x2), (3, .int x3)]) hx hb dX5_coversOf_38 hl (by decide) rfl (fun ls hl => ?_)
          refine lv_aload_n hx hb dX5_coversOf_40 rfl (lv_at hl 1 rfl) ?_
          refine wg_place (v := .ref (a 12)) hx hb hts hinX5 hown hK hP rfl (hts (Cond.fieldLink RX5 43 "LearnedShapesModel" "place" "[I") (List.mem_of_getElem? (i := 2) rfl)) dX5_coversOf_41 ?_
          refine lv_iload_n hx hb dX5_coversOf_44 rfl (lv_at hl 4 rfl) ?_
          refine lv_iconst (v := (-1 : Int32)) hx hb dX5_coversOf_45 (by decide) ?_
          obtain ⟨g51, hF⟩ := og_some hF
          refine ws_place (f := (g_Model_place S)) hx hb hK hP hD hS rfl (inb_in g51) dX5_coversOf_46 (fun H locs hP hD hS => ?_)
          refine lv_iload_n hx hb dX5_coversOf_47 rfl (lv_at hl 4 rfl) ?_
          refine lv_if_eq (tgt := 57) hx hb dX5_coversOf_48 (by decide) (fun c52 => ?_) (fun c52 => ?_)
          · have hF := F_pos c52 hF
            exact K57 _ _ _ _ _ _ hF hP hD hS _ (lv_sub hl [1, 2, 3, 4, 0] rfl)
          · have hF := F_neg c52 hF
            refine lv_iload hx hb dX5_coversOf_51 (lv_at hl 0 rfl) ?_
            refine lv_iconst (v := (-1 : Int32)) hx hb dX5_coversOf_53 (by decide) ?_
            refine lv_icmp_eq (tgt := 219) hx hb dX5_coversOf_54 (by decide) (fun _ => ?_) (fun c => absurd c (by decide))
            refine lv_iinc (v := (x3 + (1 : Int32))) (lv' := [(3, .int (x3 + (1 : Int32))), (4, .int (-1 : Int32)), (0, .ref (a 0)), (1, .int v1), (2, .int x2)]) hx hb dX5_coversOf_219 hl (k := 4) rfl rfl (by decide) rfl (fun ls hl => ?_)
            refine lv_goto (tgt := 6) hx hb dX5_coversOf_222 (by decide) ?_
            exact ih6 _ _ _ _ _ hF hP hD hS _ (lv_sub hl [2, 3, 4, 0] rfl)
  have KE : ∀ (H : Heap) (locs : List Loc), va_P (dC, dI) vwCl ((W_Model cI a S)) H → va_D A ((W_Model cI a S)) → va_S A s.heap H locs → W p l e (headSpec wsX5_coversOf ({ frames := 3, cells := 0, slots := 0, locals := 74 } : Room)).room s m ([.ref (a 0), .int v1] : List Value).toArray below meth c H locs 0 0 (MQ below (va_Qi (fun (r' : Int32) (u : S_Model) => rr = r' ∧ Y = u) (fun u : S_Model => jB (dC, dI) [(cI, .int)] A ((W_Model cI a u))) A) ([.ref (a 0), .int v1] : List Value).toArray s 0 0 A) (F0 m 0 ls []) := by
    intro H locs hP hD hS
    unfold F_X5_coversOf at hF
    refine lv_iconst (v := (1 : Int32)) hx hb dX5_coversOf_0 (by decide) ?_
    refine lv_iload_n hx hb dX5_coversOf_1 rfl (lv_at hl 1 rfl) ?_
    refine lv_isub hx hb dX5_coversOf_2 ?_
    refine lv_istore_n (lv' := [(2, .int ((1 : Int32) - v1)), (0, .ref (a 0)), (1, .int v1)]) hx hb dX5_coversOf_3 rfl hl (by decide) rfl (fun ls hl => ?_)
    refine lv_iconst (v := (0 : Int32)) hx hb dX5_coversOf_4 (by decide) ?_
    refine lv_istore_n (lv' := [(3, .int (0 : Int32)), (2, .int ((1 : Int32) - v1)), (0, .ref (a 0)), (1, .int v1)]) hx hb dX5_coversOf_5 rfl hl (by decide) rfl (fun ls hl => ?_)
    exact K6 _ _ _ _ _ _ hF hP hD hS _ (lv_sub hl [2, 3, 1, 0] rfl)
  exact KE _ _ hP hD hS
set_option maxHeartbeats 4000000 in
set_option maxRecDepth 100000 in
theorem c_X5_covers (l : Launch) (dC : Nat → ClassId) (dI : Nat → Nat → Nat) (cI : ClassId) (a : Nat → Nat) (sz : Nat) (S : S_Model) (v1 : Int32) (rr : Int32) (Y : S_Model) (hF : F_X5_covers S v1 = some (rr, Y)) : Met l yX5_covers wsX5_covers ({ frames := 4, cells := 0, slots := 0, locals := 100 } : Room) (va_Pc [.ref (a 0), .int v1] (jPre (dC, dI) [(cI, .int)] sz ((W_Model cI a S)))) (va_Qi (fun (r' : Int32) (u : S_Model) => rr = r' ∧ Y = u) (fun u : S_Model => jB (dC, dI) [(cI, .int)] (va_A ((W_Model cI a S)) sz) ((W_Model cI a u))) (va_A ((W_Model cI a S)) sz)) 0 0 (va_A ((W_Model cI a S)) sz) := by
  refine Met.ofW (cc := cX5_covers) (maxL := 2) (ret := (some .int)) (by decide) rfl ?_
  intro p e s m args below meth c s₁ B hml hv
  obtain ⟨rfl, hsz, hP, hK, hD0, hN⟩ := hv
  have hx := B.exec
  have hb := B.bytes
  have hr := B.returns
  have hts := atoms_spec (ws := wsX5_covers) B.pre
  have hown : s.vm.findClass RX5 = some m.cls := findClass_of_methodNamed B.named
  have hlocks := B.notSynchronized
  have hinX5 : ∀ w ∈ u_ws RX5 TX5 26, w ∈ wsX5_covers := by decide +kernel
  subst hsz
  have hD := hD0.self (sz := s.heap.size)
  generalize hAe : (va_A ((W_Model cI a S)) s.heap.size) = A at hD ⊢
  have hA : ∀ q : Nat, s.heap.size ≤ q → A q := fun q h => by rw [← hAe]; exact Or.inr h
  have hS : va_S A s.heap s.heap [] := va_S.rf
  have hl := lv_entry ([.ref (a 0), .int v1]) (n := 2) (Nat.le_of_ble_eq_true rfl)
  rw [lg_entry_eq]
  generalize (lg_sl ([.ref (a 0), .int v1]) ++ List.replicate (2 - (lg_sl ([.ref (a 0), .int v1])).length) Slot.unset).toArray = ls at hl ⊢
  have hl : lv_has ls 2 [(0, .ref (a 0)), (1, .int v1)] := hl
  have KE : ∀ (H : Heap) (locs : List Loc), va_P (dC, dI) vwCl ((W_Model cI a S)) H → va_D A ((W_Model cI a S)) → va_S A s.heap H locs → W p l e (headSpec wsX5_covers ({ frames := 4, cells := 0, slots := 0, locals := 100 } : Room)).room s m ([.ref (a 0), .int v1] : List Value).toArray below meth c H locs 0 0 (MQ below (va_Qi (fun (r' : Int32) (u : S_Model) => rr = r' ∧ Y = u) (fun u : S_Model => jB (dC, dI) [(cI, .int)] A ((W_Model cI a u))) A) ([.ref (a 0), .int v1] : List Value).toArray s 0 0 A) (F0 m 0 ls []) := by
    intro H locs hP hD hS
    unfold F_X5_covers at hF
    refine lv_aload_n hx hb dX5_covers_0 rfl (lv_at hl 0 rfl) ?_
    refine lv_iconst (v := (0 : Int32)) hx hb dX5_covers_1 (by decide) ?_
    refine wp_thrown (v := (0 : Int32)) hx hb hts hinX5 hown hK hP hD hS (hts (Cond.fieldLink RX5 49 "LearnedShapesModel" "thrown" "I") (List.mem_of_getElem? (i := 1) rfl)) (rfl) (rfl) dX5_covers_2 (fun H locs hP hD hS => ?_)
    refine lv_iload_n hx hb dX5_covers_5 rfl (lv_at hl 1 rfl) ?_
    obtain ⟨r1, h2, hF⟩ := ob1_some hF
    have hPc : va_P (dC, dI) vwCl ([] : va_W) H := fun k q h => by simp at h
    have hDc : va_D A ([] : va_W) := ⟨fun i j p q h => by simp at h, fun k q h => by simp at h⟩
    have hFc := jFreeW (ws := []) hDc hS hA
    refine va_calli (va_runS (As := [.int v1]) (rest := []) ⟨hx, hb, hml, hown, hts⟩ (c_X5_isShape l dC dI cI  H.size _ _ h2) (va_cwS 1 hts gX5_covers_X5_isShape rfl rfl rfl (by decide +kernel) ⟨Nat.le_of_ble_eq_true rfl, Nat.le_of_ble_eq_true rfl⟩) (jPreS hK hPc hDc hN) rfl rfl hl.1 rfl (lv_room (Nat.le_of_ble_eq_true rfl)) dX5_covers_6 ⟨Nat.le_of_ble_eq_true rfl, Nat.le_of_ble_eq_true rfl⟩) hS (fun q _ h => hFc q h) hFc (fun r' u' t H locs ht hvm hw hB hz1 hk1 hS => ?_)
    subst hw
    obtain ⟨hP1, -, hD1⟩ := hB
    rw [ht] at hP1
    have hP : va_P (dC, dI) vwCl ((W_Model cI a (s_Model_thrown S (0 : Int32)))) H := jNone hP hk1
    refine lv_if_eq (tgt := 20) hx hb dX5_covers_9 (by decide) (fun c3 => ?_) (fun c3 => ?_)
    · have hF := F_pos c3 hF
      refine lv_aload_n hx hb dX5_covers_20 rfl (lv_at hl 0 rfl) ?_
      refine lv_iconst (v := (1 : Int32)) hx hb dX5_covers_21 (by decide) ?_
      obtain ⟨r4, u5, h6, hF⟩ := ob2_some hF
      have hPc : va_P (dC, dI) vwCl ((W_Model cI a (s_Model_thrown S (0 : Int32)))) H := hP
      have hDc : va_D A ((W_Model cI a (s_Model_thrown S (0 : Int32)))) := hD
      have hFc := jFreeW (ws := (W_Model cI a (s_Model_thrown S (0 : Int32)))) hD hS hA
      refine va_calli (va_runV (As := [.int (1 : Int32)]) (rest := []) ⟨hx, hb, hml, hown, hts⟩ (c_X5_fails l dC dI cI a H.size _ _ _ _ h6) (cwV 1 hts gX5_covers_X5_fails rfl rfl rfl (by decide +kernel) ⟨Nat.le_of_ble_eq_true rfl, Nat.le_of_ble_eq_true rfl⟩) (jPreV hK hPc hDc hN (ci := 5) rfl rfl) rfl rfl hl.1 rfl (lv_room (Nat.le_of_ble_eq_true rfl)) dX5_covers_22 ⟨Nat.le_of_ble_eq_true rfl, Nat.le_of_ble_eq_true rfl⟩) hS (fun q _ h => hFc q h) hFc (fun r' u' t H locs ht hvm hw hB hz1 hk1 hS => ?_)
      obtain ⟨e1, e2⟩ := hw
      subst e1
      subst e2
      obtain ⟨hP1, -, hD1⟩ := hB
      rw [ht] at hP1
      have hP : va_P (dC, dI) vwCl ((W_Model cI a u5)) H := hP1
      have hD : va_D A ((W_Model cI a u5)) := hD1.weaken (fun _ _ _ h => hFc _ h)
      have e50 := Option.some.inj hF
      obtain ⟨e60, e51⟩ := Prod.mk.inj e50
      subst e60
      subst e51
      exact W.iret (v := r4) hx hb hr (fun t ht hW => ⟨⟨r4, u5, rfl, ⟨rfl, rfl⟩, by rw [ht]; exact hP, va_K.moved hW.alike hK, hD⟩, hS.F ht⟩) hS.2.2 dX5_covers_25
    · have hF := F_neg c3 hF
      refine lv_aload_n hx hb dX5_covers_12 rfl (lv_at hl 0 rfl) ?_
      refine lv_iload_n hx hb dX5_covers_13 rfl (lv_at hl 1 rfl) ?_
      obtain ⟨r7, u8, h9, hF⟩ := ob2_some hF
      have hPc : va_P (dC, dI) vwCl ((W_Model cI a (s_Model_thrown S (0 : Int32)))) H := hP
      have hDc : va_D A ((W_Model cI a (s_Model_thrown S (0 : Int32)))) := hD
      have hFc := jFreeW (ws := (W_Model cI a (s_Model_thrown S (0 : Int32)))) hD hS hA
      refine va_calli (va_runV (As := [.int v1]) (rest := []) ⟨hx, hb, hml, hown, hts⟩ (c_X5_coversOf l dC dI cI a H.size _ _ _ _ h9) (cwV 1 hts gX5_covers_X5_coversOf rfl rfl rfl (by decide +kernel) ⟨Nat.le_of_ble_eq_true rfl, Nat.le_of_ble_eq_true rfl⟩) (jPreV hK hPc hDc hN (ci := 5) rfl rfl) rfl rfl hl.1 rfl (lv_room (Nat.le_of_ble_eq_true rfl)) dX5_covers_14 ⟨Nat.le_of_ble_eq_true rfl, Nat.le_of_ble_eq_true rfl⟩) hS (fun q _ h => hFc q h) hFc (fun r' u' t H locs ht hvm hw hB hz1 hk1 hS => ?_)
      obtain ⟨e1, e2⟩ := hw
      subst e1
      subst e2
      obtain ⟨hP1, -, hD1⟩ := hB
      rw [ht] at hP1
      have hP : va_P (dC, dI) vwCl ((W_Model cI a u8)) H := hP1
      have hD : va_D A ((W_Model cI a u8)) := hD1.weaken (fun _ _ _ h => hFc _ h)
      refine lv_goto (tgt := 25) hx hb dX5_covers_17 (by decide) ?_
      have e50 := Option.some.inj hF
      obtain ⟨e60, e51⟩ := Prod.mk.inj e50
      subst e60
      subst e51
      exact W.iret (v := r7) hx hb hr (fun t ht hW => ⟨⟨r7, u8, rfl, ⟨rfl, rfl⟩, by rw [ht]; exact hP, va_K.moved hW.alike hK, hD⟩, hS.F ht⟩) hS.2.2 dX5_covers_25
  exact KE _ _ hP hD hS
set_option maxHeartbeats 4000000 in
set_option maxRecDepth 100000 in
theorem c_X5_joinedNodes (l : Launch) (dC : Nat → ClassId) (dI : Nat → Nat → Nat) (cI : ClassId) (a : Nat → Nat) (sz : Nat) (S : S_Model)  (rr : Int32) (Y : S_Model) (hF : F_X5_joinedNodes S  = some (rr, Y)) : Met l yX5_joinedNodes wsX5_joinedNodes ({ frames := 3, cells := 0, slots := 0, locals := 76 } : Room) (va_Pc [.ref (a 0)] (jPre (dC, dI) [(cI, .int)] sz ((W_Model cI a S)))) (va_Qi (fun (r' : Int32) (u : S_Model) => rr = r' ∧ Y = u) (fun u : S_Model => jB (dC, dI) [(cI, .int)] (va_A ((W_Model cI a S)) sz) ((W_Model cI a u))) (va_A ((W_Model cI a S)) sz)) 0 0 (va_A ((W_Model cI a S)) sz) := by
  refine Met.ofW (cc := cX5_joinedNodes) (maxL := 1) (ret := (some .int)) (by decide) rfl ?_
  intro p e s m args below meth c s₁ B hml hv
  obtain ⟨rfl, hsz, hP, hK, hD0, hN⟩ := hv
  have hx := B.exec
  have hb := B.bytes
  have hr := B.returns
  have hts := atoms_spec (ws := wsX5_joinedNodes) B.pre
  have hown : s.vm.findClass RX5 = some m.cls := findClass_of_methodNamed B.named
  have hlocks := B.notSynchronized
  subst hsz
  have hD := hD0.self (sz := s.heap.size)
  generalize hAe : (va_A ((W_Model cI a S)) s.heap.size) = A at hD ⊢
  have hA : ∀ q : Nat, s.heap.size ≤ q → A q := fun q h => by rw [← hAe]; exact Or.inr h
  have hS : va_S A s.heap s.heap [] := va_S.rf
  have hl := lv_entry ([.ref (a 0)]) (n := 1) (Nat.le_of_ble_eq_true rfl)
  rw [lg_entry_eq]
  generalize (lg_sl ([.ref (a 0)]) ++ List.replicate (1 - (lg_sl ([.ref (a 0)])).length) Slot.unset).toArray = ls at hl ⊢
  have hl : lv_has ls 1 [(0, .ref (a 0))] := hl
  have KE : ∀ (H : Heap) (locs : List Loc), va_P (dC, dI) vwCl ((W_Model cI a S)) H → va_D A ((W_Model cI a S)) → va_S A s.heap H locs → W p l e (headSpec wsX5_joinedNodes ({ frames := 3, cells := 0, slots := 0, locals := 76 } : Room)).room s m ([.ref (a 0)] : List Value).toArray below meth c H locs 0 0 (MQ below (va_Qi (fun (r' : Int32) (u : S_Model) => rr = r' ∧ Y = u) (fun u : S_Model => jB (dC, dI) [(cI, .int)] A ((W_Model cI a u))) A) ([.ref (a 0)] : List Value).toArray s 0 0 A) (F0 m 0 ls []) := by
    intro H locs hP hD hS
    unfold F_X5_joinedNodes at hF
    refine lv_aload_n hx hb dX5_joinedNodes_0 rfl (lv_at hl 0 rfl) ?_
    refine lv_iconst (v := (0 : Int32)) hx hb dX5_joinedNodes_1 (by decide) ?_
    obtain ⟨u1, h2, hF⟩ := ob1_some hF
    have hPc : va_P (dC, dI) vwCl ((W_Model cI a S)) H := hP
    have hDc : va_D A ((W_Model cI a S)) := hD
    have hFc := jFreeW (ws := (W_Model cI a S)) hD hS hA
    refine va_callv (va_runV (As := [.int (0 : Int32)]) (rest := []) ⟨hx, hb, hml, hown, hts⟩ (c_X5_joins l dC dI cI a H.size _ _ _ h2) (cwV 1 hts gX5_joinedNodes_X5_joins rfl rfl rfl (by decide +kernel) ⟨Nat.le_of_ble_eq_true rfl, Nat.le_of_ble_eq_true rfl⟩) (jPreV hK hPc hDc hN (ci := 5) rfl rfl) rfl rfl hl.1 rfl (lv_room (Nat.le_of_ble_eq_true rfl)) dX5_joinedNodes_2 ⟨Nat.le_of_ble_eq_true rfl, Nat.le_of_ble_eq_true rfl⟩) hS (fun q _ h => hFc q h) hFc (fun u' t H locs ht hvm hw hB hz1 hk1 hS => ?_)
    subst hw
    obtain ⟨hP1, -, hD1⟩ := hB
    rw [ht] at hP1
    have hP : va_P (dC, dI) vwCl ((W_Model cI a u1)) H := hP1
    have hD : va_D A ((W_Model cI a u1)) := hD1.weaken (fun _ _ _ h => hFc _ h)
    refine lv_aload_n hx hb dX5_joinedNodes_5 rfl (lv_at hl 0 rfl) ?_
    obtain ⟨r3, h4, hF⟩ := ob1_some hF
    have hPc : va_P (dC, dI) vwCl ((W_Model cI a u1)) H := hP
    have hDc : va_D A ((W_Model cI a u1)) := hD
    have hFc := jFreeW (ws := (W_Model cI a u1)) hD hS hA
    refine va_calli (va_runV (As := []) (rest := []) ⟨hx, hb, hml, hown, hts⟩ (c_X5_nodes l dC dI cI a H.size _ _ h4) (cwV 0 hts gX5_joinedNodes_X5_nodes rfl rfl rfl (by decide +kernel) ⟨Nat.le_of_ble_eq_true rfl, Nat.le_of_ble_eq_true rfl⟩) (jPreV hK hPc hDc hN (ci := 5) rfl rfl) rfl rfl hl.1 rfl (lv_room (Nat.le_of_ble_eq_true rfl)) dX5_joinedNodes_6 ⟨Nat.le_of_ble_eq_true rfl, Nat.le_of_ble_eq_true rfl⟩) hS (fun q _ h => hFc q h) hFc (fun r' u' t H locs ht hvm hw hB hz1 hk1 hS => ?_)
    subst hw
    obtain ⟨hP1, -, hD1⟩ := hB
    rw [ht] at hP1
    have hP : va_P (dC, dI) vwCl ((W_Model cI a u1)) H := hP1
    have hD : va_D A ((W_Model cI a u1)) := hD1.weaken (fun _ _ _ h => hFc _ h)
    have e50 := Option.some.inj hF
    obtain ⟨e60, e51⟩ := Prod.mk.inj e50
    subst e60
    subst e51
    exact W.iret (v := r3) hx hb hr (fun t ht hW => ⟨⟨r3, u1, rfl, ⟨rfl, rfl⟩, by rw [ht]; exact hP, va_K.moved hW.alike hK, hD⟩, hS.F ht⟩) hS.2.2 dX5_joinedNodes_9
  exact KE _ _ hP hD hS
set_option maxHeartbeats 4000000 in
set_option maxRecDepth 100000 in
theorem c_X5_ifJoined (l : Launch) (dC : Nat → ClassId) (dI : Nat → Nat → Nat) (cI : ClassId) (a : Nat → Nat) (sz : Nat) (S : S_Model)  (rr : Int32) (Y : S_Model) (hF : F_X5_ifJoined S  = some (rr, Y)) : Met l yX5_ifJoined wsX5_ifJoined ({ frames := 4, cells := 0, slots := 0, locals := 96 } : Room) (va_Pc [.ref (a 0)] (jPre (dC, dI) [(cI, .int)] sz ((W_Model cI a S)))) (va_Qi (fun (r' : Int32) (u : S_Model) => rr = r' ∧ Y = u) (fun u : S_Model => jB (dC, dI) [(cI, .int)] (va_A ((W_Model cI a S)) sz) ((W_Model cI a u))) (va_A ((W_Model cI a S)) sz)) 0 0 (va_A ((W_Model cI a S)) sz) := by
  refine Met.ofW (cc := cX5_ifJoined) (maxL := 1) (ret := (some .int)) (by decide) rfl ?_
  intro p e s m args below meth c s₁ B hml hv
  obtain ⟨rfl, hsz, hP, hK, hD0, hN⟩ := hv
  have hx := B.exec
  have hb := B.bytes
  have hr := B.returns
  have hts := atoms_spec (ws := wsX5_ifJoined) B.pre
  have hown : s.vm.findClass RX5 = some m.cls := findClass_of_methodNamed B.named
  have hlocks := B.notSynchronized
  have hinX5 : ∀ w ∈ u_ws RX5 TX5 26, w ∈ wsX5_ifJoined := by decide +kernel
  subst hsz
  have hD := hD0.self (sz := s.heap.size)
  generalize hAe : (va_A ((W_Model cI a S)) s.heap.size) = A at hD ⊢
  have hA : ∀ q : Nat, s.heap.size ≤ q → A q := fun q h => by rw [← hAe]; exact Or.inr h
  have hS : va_S A s.heap s.heap [] := va_S.rf
  have hl := lv_entry ([.ref (a 0)]) (n := 1) (Nat.le_of_ble_eq_true rfl)
  rw [lg_entry_eq]
  generalize (lg_sl ([.ref (a 0)]) ++ List.replicate (1 - (lg_sl ([.ref (a 0)])).length) Slot.unset).toArray = ls at hl ⊢
  have hl : lv_has ls 1 [(0, .ref (a 0))] := hl
  have KE : ∀ (H : Heap) (locs : List Loc), va_P (dC, dI) vwCl ((W_Model cI a S)) H → va_D A ((W_Model cI a S)) → va_S A s.heap H locs → W p l e (headSpec wsX5_ifJoined ({ frames := 4, cells := 0, slots := 0, locals := 96 } : Room)).room s m ([.ref (a 0)] : List Value).toArray below meth c H locs 0 0 (MQ below (va_Qi (fun (r' : Int32) (u : S_Model) => rr = r' ∧ Y = u) (fun u : S_Model => jB (dC, dI) [(cI, .int)] A ((W_Model cI a u))) A) ([.ref (a 0)] : List Value).toArray s 0 0 A) (F0 m 0 ls []) := by
    intro H locs hP hD hS
    unfold F_X5_ifJoined at hF
    refine lv_aload_n hx hb dX5_ifJoined_0 rfl (lv_at hl 0 rfl) ?_
    refine lv_iconst (v := (0 : Int32)) hx hb dX5_ifJoined_1 (by decide) ?_
    refine wp_thrown (v := (0 : Int32)) hx hb hts hinX5 hown hK hP hD hS (hts (Cond.fieldLink RX5 49 "LearnedShapesModel" "thrown" "I") (List.mem_of_getElem? (i := 1) rfl)) (rfl) (rfl) dX5_ifJoined_2 (fun H locs hP hD hS => ?_)
    refine lv_aload_n hx hb dX5_ifJoined_5 rfl (lv_at hl 0 rfl) ?_
    obtain ⟨r1, u2, h3, hF⟩ := ob2_some hF
    have hPc : va_P (dC, dI) vwCl ((W_Model cI a (s_Model_thrown S (0 : Int32)))) H := hP
    have hDc : va_D A ((W_Model cI a (s_Model_thrown S (0 : Int32)))) := hD
    have hFc := jFreeW (ws := (W_Model cI a (s_Model_thrown S (0 : Int32)))) hD hS hA
    refine va_calli (va_runV (As := []) (rest := []) ⟨hx, hb, hml, hown, hts⟩ (c_X5_joinedNodes l dC dI cI a H.size _ _ _ h3) (cwV 0 hts gX5_ifJoined_X5_joinedNodes rfl rfl rfl (by decide +kernel) ⟨Nat.le_of_ble_eq_true rfl, Nat.le_of_ble_eq_true rfl⟩) (jPreV hK hPc hDc hN (ci := 5) rfl rfl) rfl rfl hl.1 rfl (lv_room (Nat.le_of_ble_eq_true rfl)) dX5_ifJoined_6 ⟨Nat.le_of_ble_eq_true rfl, Nat.le_of_ble_eq_true rfl⟩) hS (fun q _ h => hFc q h) hFc (fun r' u' t H locs ht hvm hw hB hz1 hk1 hS => ?_)
    obtain ⟨e1, e2⟩ := hw
    subst e1
    subst e2
    obtain ⟨hP1, -, hD1⟩ := hB
    rw [ht] at hP1
    have hP : va_P (dC, dI) vwCl ((W_Model cI a u2)) H := hP1
    have hD : va_D A ((W_Model cI a u2)) := hD1.weaken (fun _ _ _ h => hFc _ h)
    have e50 := Option.some.inj hF
    obtain ⟨e60, e51⟩ := Prod.mk.inj e50
    subst e60
    subst e51
    exact W.iret (v := r1) hx hb hr (fun t ht hW => ⟨⟨r1, u2, rfl, ⟨rfl, rfl⟩, by rw [ht]; exact hP, va_K.moved hW.alike hK, hD⟩, hS.F ht⟩) hS.2.2 dX5_ifJoined_9
  exact KE _ _ hP hD hS
set_option maxHeartbeats 4000000 in
set_option maxRecDepth 100000 in
theorem c_X5_sure (l : Launch) (dC : Nat → ClassId) (dI : Nat → Nat → Nat) (cI : ClassId) (a : Nat → Nat) (sz : Nat) (S : S_Model) (v1 : Int32) (rr : UInt64) (hF : F_X5_sure S v1 = some rr) : Met l yX5_sure wsX5_sure ({ frames := 2, cells := 0, slots := 0, locals := 45 } : Room) (va_Pc [.ref (a 0), .int v1] (jPre (dC, dI) [(cI, .int)] sz ((W_Model cI a S)))) (va_Qd (fun (r' : UInt64) (_ : Unit) => rr = r') (fun _ : Unit => jB (dC, dI) [(cI, .int)] (va_A ((W_Model cI a S)) sz) ((W_Model cI a S))) (va_A ((W_Model cI a S)) sz)) 0 0 (va_A ((W_Model cI a S)) sz) := by
  refine Met.ofW (cc := cX5_sure) (maxL := 4) (ret := (some .double)) (by decide) rfl ?_
  intro p e s m args below meth c s₁ B hml hv
  obtain ⟨rfl, hsz, hP, hK, hD0, hN⟩ := hv
  have hx := B.exec
  have hb := B.bytes
  have hr := B.returns
  have hts := atoms_spec (ws := wsX5_sure) B.pre
  have hown : s.vm.findClass RX5 = some m.cls := findClass_of_methodNamed B.named
  have hlocks := B.notSynchronized
  have hinX5 : ∀ w ∈ u_ws RX5 TX5 26, w ∈ wsX5_sure := by decide +kernel
  subst hsz
  have hD := hD0.self (sz := s.heap.size)
  generalize hAe : (va_A ((W_Model cI a S)) s.heap.size) = A at hD ⊢
  have hA : ∀ q : Nat, s.heap.size ≤ q → A q := fun q h => by rw [← hAe]; exact Or.inr h
  have hS : va_S A s.heap s.heap [] := va_S.rf
  have hl := lv_entry ([.ref (a 0), .int v1]) (n := 4) (Nat.le_of_ble_eq_true rfl)
  rw [lg_entry_eq]
  generalize (lg_sl ([.ref (a 0), .int v1]) ++ List.replicate (4 - (lg_sl ([.ref (a 0), .int v1])).length) Slot.unset).toArray = ls at hl ⊢
  have hl : lv_has ls 4 [(0, .ref (a 0)), (1, .int v1)] := hl
  have K4 : ∀ (n4 : Nat) (x2 : Int32) (x3 : Int32) (H : Heap) (locs : List Loc), F_X5_sure_4 v1 S n4 x2 x3 = some rr → va_P (dC, dI) vwCl ((W_Model cI a S)) H → va_D A ((W_Model cI a S)) → va_S A s.heap H locs → ∀ ls : Array Slot, lv_has ls 4 [(0, .ref (a 0)), (1, .int v1), (2, .int x2), (3, .int x3)] → W p l e (headSpec wsX5_sure ({ frames := 2, cells := 0, slots := 0, locals := 45 } : Room)).room s m ([.ref (a 0), .int v1] : List Value).toArray below meth c H locs 0 0 (MQ below (va_Qd (fun (r' : UInt64) (_ : Unit) => rr = r') (fun _ : Unit => jB (dC, dI) [(cI, .int)] A ((W_Model cI a S))) A) ([.ref (a 0), .int v1] : List Value).toArray s 0 0 A) (F0 m 4 ls []) := by
    intro n4
    induction n4 with
    | zero => intro x2 x3 H locs hF; exact nomatch hF
    | succ n4 ih4 =>
      intro x2 x3 H locs hF hP hD hS ls hl
      rw [F_X5_sure_4_s] at hF
      refine lv_iload_n hx hb dX5_sure_4 rfl (lv_at hl 3 rfl) ?_
      refine lv_aload_n hx hb dX5_sure_5 rfl (lv_at hl 0 rfl) ?_
      refine wg_now (v := .ref (a 1)) hx hb hts hinX5 hown hK hP rfl (hts (Cond.fieldLink RX5 7 "LearnedShapesModel" "now" "[I") (List.mem_of_getElem? (i := 1) rfl)) dX5_sure_6 ?_
      refine lv_iconst (v := (3 : Int32)) hx hb dX5_sure_9 (by decide) ?_
      refine lv_iload_n hx hb dX5_sure_10 rfl (lv_at hl 1 rfl) ?_
      refine lv_iadd hx hb dX5_sure_11 ?_
      obtain ⟨g1, hF⟩ := og_some hF
      refine wl_now (f := (g_Model_now S)) hx hb hK hP rfl (inb_in g1) dX5_sure_12 ?_
      refine lv_icmp_ge (tgt := 61) hx hb dX5_sure_13 (by decide) (fun c2 => ?_) (fun c2 => ?_)
      · have hF := F_pos c2 hF
        refine lv_aload_n hx hb dX5_sure_61 rfl (lv_at hl 0 rfl) ?_
        refine wg_now (v := .ref (a 1)) hx hb hts hinX5 hown hK hP rfl (hts (Cond.fieldLink RX5 7 "LearnedShapesModel" "now" "[I") (List.mem_of_getElem? (i := 1) rfl)) dX5_sure_62 ?_
        refine lv_iconst (v := (3 : Int32)) hx hb dX5_sure_65 (by decide) ?_
        refine lv_iload_n hx hb dX5_sure_66 rfl (lv_at hl 1 rfl) ?_
        refine lv_iadd hx hb dX5_sure_67 ?_
        obtain ⟨g3, hF⟩ := og_some hF
        refine wl_now (f := (g_Model_now S)) hx hb hK hP rfl (inb_in g3) dX5_sure_68 ?_
        refine lv_if_ne (tgt := 76) hx hb dX5_sure_69 (by decide) (fun c4 => ?_) (fun c4 => ?_)
        · have hF := F_neg c4 hF
          refine lv_iload_n hx hb dX5_sure_76 rfl (lv_at hl 2 rfl) ?_
          refine lv_i2d hx hb dX5_sure_77 ?_
          refine lv_aload_n hx hb dX5_sure_78 rfl (lv_at hl 0 rfl) ?_
          refine wg_now (v := .ref (a 1)) hx hb hts hinX5 hown hK hP rfl (hts (Cond.fieldLink RX5 7 "LearnedShapesModel" "now" "[I") (List.mem_of_getElem? (i := 1) rfl)) dX5_sure_79 ?_
          refine lv_iconst (v := (3 : Int32)) hx hb dX5_sure_82 (by decide) ?_
          refine lv_iload_n hx hb dX5_sure_83 rfl (lv_at hl 1 rfl) ?_
          refine lv_iadd hx hb dX5_sure_84 ?_
          obtain ⟨g5, hF⟩ := og_some hF
          refine wl_now (f := (g_Model_now S)) hx hb hK hP rfl (inb_in g5) dX5_sure_85 ?_
          refine lv_i2d hx hb dX5_sure_86 ?_
          obtain ⟨g6, hF⟩ := og_some hF
          refine lv_ddiv hx hb dX5_sure_87 (n64_of g6) ?_
          have e50 := Option.some.inj hF
          subst e50
          exact W.dret (v := (FP.ddiv (FP.i2d x2) (FP.i2d ((g_Model_now S) ((3 : Int32) + v1).toNatClampNeg)))) hx hb hr (fun t ht hW => ⟨⟨(FP.ddiv (FP.i2d x2) (FP.i2d ((g_Model_now S) ((3 : Int32) + v1).toNatClampNeg))), (), rfl, rfl, by rw [ht]; exact hP, va_K.moved hW.alike hK, hD⟩, hS.F ht⟩) hS.2.2 dX5_sure_88
        · have hF := F_pos c4 hF
          refine lv_dconst1 hx hb dX5_sure_72 ?_
          refine lv_goto (tgt := 88) hx hb dX5_sure_73 (by decide) ?_
          have e50 := Option.some.inj hF
          subst e50
          exact W.dret (v := (4607182418800017408 : UInt64)) hx hb hr (fun t ht hW => ⟨⟨(4607182418800017408 : UInt64), (), rfl, rfl, by rw [ht]; exact hP, va_K.moved hW.alike hK, hD⟩, hS.F ht⟩) hS.2.2 dX5_sure_88
      · have hF := F_neg c2 hF
        refine lv_iload_n hx hb dX5_sure_16 rfl (lv_at hl 2 rfl) ?_
        refine lv_aload_n hx hb dX5_sure_17 rfl (lv_at hl 0 rfl) ?_
        refine lv_iload_n hx hb dX5_sure_18 rfl (lv_at hl 1 rfl) ?_
        refine lv_iload_n hx hb dX5_sure_19 rfl (lv_at hl 3 rfl) ?_
        refine lv_iconst (v := (4 : Int32)) hx hb dX5_sure_20 (by decide) ?_
        obtain ⟨r7, h8, hF⟩ := ob1_some hF
        have hPc : va_P (dC, dI) vwCl ((W_Model cI a S)) H := hP
        have hDc : va_D A ((W_Model cI a S)) := hD
        have hFc := jFreeW (ws := (W_Model cI a S)) hD hS hA
        refine va_calli (va_runV (As := [.int v1, .int x3, .int (4 : Int32)]) (rest := [.int x2]) ⟨hx, hb, hml, hown, hts⟩ (c_X5_of l dC dI cI a H.size _ _ _ _ _ h8) (cwV 3 hts gX5_sure_X5_of rfl rfl rfl (by decide +kernel) ⟨Nat.le_of_ble_eq_true rfl, Nat.le_of_ble_eq_true rfl⟩) (jPreV hK hPc hDc hN (ci := 5) rfl rfl) rfl rfl hl.1 rfl (lv_room (Nat.le_of_ble_eq_true rfl)) dX5_sure_21 ⟨Nat.le_of_ble_eq_true rfl, Nat.le_of_ble_eq_true rfl⟩) hS (fun q _ h => hFc q h) hFc (fun r' u' t H locs ht hvm hw hB hz1 hk1 hS => ?_)
        subst hw
        obtain ⟨hP1, -, hD1⟩ := hB
        rw [ht] at hP1
        have hP : va_P (dC, dI) vwCl ((W_Model cI a S)) H := hP1
        have hD : va_D A ((W_Model cI a S)) := hD1.weaken (fun _ _ _ h => hFc _ h)
        refine lv_if_ne (tgt := 52) hx hb dX5_sure_24 (by decide) (fun c9 => ?_) (fun c9 => ?_)
        · have hF := F_neg c9 hF
          refine lv_iconst (v := (0 : Int32)) hx hb dX5_sure_52 (by decide) ?_
          refine lv_iadd hx hb dX5_sure_53 ?_
          refine lv_istore_n (lv' := [(2, .int (x2 + (0 : Int32))), (0, .ref (a 0)), (1, .int v1), (3, .int x3)]) hx hb dX5_sure_54 rfl hl (by decide) rfl (fun ls hl => ?_)
          refine lv_iinc (v := (x3 + (1 : Int32))) (lv' := [(3, .int (x3 + (1 : Int32))), (2, .int (x2 + (0 : Int32))), (0, .ref (a 0)), (1, .int v1)]) hx hb dX5_sure_55 hl (k := 3) rfl rfl (by decide) rfl (fun ls hl => ?_)
          refine lv_goto (tgt := 4) hx hb dX5_sure_58 (by decide) ?_
          exact ih4 _ _ _ _ hF hP hD hS _ (lv_sub hl [2, 3, 1, 0] rfl)
        · have hF := F_pos c9 hF
          refine lv_aload_n hx hb dX5_sure_27 rfl (lv_at hl 0 rfl) ?_
          refine lv_iload_n hx hb dX5_sure_28 rfl (lv_at hl 1 rfl) ?_
          refine lv_iload_n hx hb dX5_sure_29 rfl (lv_at hl 3 rfl) ?_
          refine lv_iconst (v := (0 : Int32)) hx hb dX5_sure_30 (by decide) ?_
          obtain ⟨r10, h11, hF⟩ := ob1_some hF
          have hPc : va_P (dC, dI) vwCl ((W_Model cI a S)) H := hP
          have hDc : va_D A ((W_Model cI a S)) := hD
          have hFc := jFreeW (ws := (W_Model cI a S)) hD hS hA
          refine va_calli (va_runV (As := [.int v1, .int x3, .int (0 : Int32)]) (rest := [.int x2]) ⟨hx, hb, hml, hown, hts⟩ (c_X5_of l dC dI cI a H.size _ _ _ _ _ h11) (cwV 3 hts gX5_sure_X5_of rfl rfl rfl (by decide +kernel) ⟨Nat.le_of_ble_eq_true rfl, Nat.le_of_ble_eq_true rfl⟩) (jPreV hK hPc hDc hN (ci := 5) rfl rfl) rfl rfl hl.1 rfl (lv_room (Nat.le_of_ble_eq_true rfl)) dX5_sure_31 ⟨Nat.le_of_ble_eq_true rfl, Nat.le_of_ble_eq_true rfl⟩) hS (fun q _ h => hFc q h) hFc (fun r' u' t H locs ht hvm hw hB hz1 hk1 hS => ?_)
          subst hw
          obtain ⟨hP1, -, hD1⟩ := hB
          rw [ht] at hP1
          have hP : va_P (dC, dI) vwCl ((W_Model cI a S)) H := hP1
          have hD : va_D A ((W_Model cI a S)) := hD1.weaken (fun _ _ _ h => hFc _ h)
          refine lv_bipush (v := (7 : Int32)) hx hb dX5_sure_34 (by decide) ?_
          refine lv_icmp_eq (tgt := 52) hx hb dX5_sure_36 (by decide) (fun c12 => ?_) (fun c12 => ?_)
          · have hF := F_pos c12 hF
            refine lv_iconst (v := (0 : Int32)) hx hb dX5_sure_52 (by decide) ?_
            refine lv_iadd hx hb dX5_sure_53 ?_
            refine lv_istore_n (lv' := [(2, .int (x2 + (0 : Int32))), (0, .ref (a 0)), (1, .int v1), (3, .int x3)]) hx hb dX5_sure_54 rfl hl (by decide) rfl (fun ls hl => ?_)
            refine lv_iinc (v := (x3 + (1 : Int32))) (lv' := [(3, .int (x3 + (1 : Int32))), (2, .int (x2 + (0 : Int32))), (0, .ref (a 0)), (1, .int v1)]) hx hb dX5_sure_55 hl (k := 3) rfl rfl (by decide) rfl (fun ls hl => ?_)
            refine lv_goto (tgt := 4) hx hb dX5_sure_58 (by decide) ?_
            exact ih4 _ _ _ _ hF hP hD hS _ (lv_sub hl [2, 3, 1, 0] rfl)
          · have hF := F_neg c12 hF
            refine lv_aload_n hx hb dX5_sure_39 rfl (lv_at hl 0 rfl) ?_
            refine lv_iload_n hx hb dX5_sure_40 rfl (lv_at hl 1 rfl) ?_
            refine lv_iload_n hx hb dX5_sure_41 rfl (lv_at hl 3 rfl) ?_
            obtain ⟨r13, h14, hF⟩ := ob1_some hF
            have hPc : va_P (dC, dI) vwCl ((W_Model cI a S)) H := hP
            have hDc : va_D A ((W_Model cI a S)) := hD
            have hFc := jFreeW (ws := (W_Model cI a S)) hD hS hA
            refine va_calli (va_runV (As := [.int v1, .int x3]) (rest := [.int x2]) ⟨hx, hb, hml, hown, hts⟩ (c_X5_canMiss l dC dI cI a H.size _ _ _ _ h14) (cwV 2 hts gX5_sure_X5_canMiss rfl rfl rfl (by decide +kernel) ⟨Nat.le_of_ble_eq_true rfl, Nat.le_of_ble_eq_true rfl⟩) (jPreV hK hPc hDc hN (ci := 5) rfl rfl) rfl rfl hl.1 rfl (lv_room (Nat.le_of_ble_eq_true rfl)) dX5_sure_42 ⟨Nat.le_of_ble_eq_true rfl, Nat.le_of_ble_eq_true rfl⟩) hS (fun q _ h => hFc q h) hFc (fun r' u' t H locs ht hvm hw hB hz1 hk1 hS => ?_)
            subst hw
            obtain ⟨hP1, -, hD1⟩ := hB
            rw [ht] at hP1
            have hP : va_P (dC, dI) vwCl ((W_Model cI a S)) H := hP1
            have hD : va_D A ((W_Model cI a S)) := hD1.weaken (fun _ _ _ h => hFc _ h)
            refine lv_if_ne (tgt := 52) hx hb dX5_sure_45 (by decide) (fun c15 => ?_) (fun c15 => ?_)
            · have hF := F_neg c15 hF
              refine lv_iconst (v := (0 : Int32)) hx hb dX5_sure_52 (by decide) ?_
              refine lv_iadd hx hb dX5_sure_53 ?_
              refine lv_istore_n (lv' := [(2, .int (x2 + (0 : Int32))), (0, .ref (a 0)), (1, .int v1), (3, .int x3)]) hx hb dX5_sure_54 rfl hl (by decide) rfl (fun ls hl => ?_)
              refine lv_iinc (v := (x3 + (1 : Int32))) (lv' := [(3, .int (x3 + (1 : Int32))), (2, .int (x2 + (0 : Int32))), (0, .ref (a 0)), (1, .int v1)]) hx hb dX5_sure_55 hl (k := 3) rfl rfl (by decide) rfl (fun ls hl => ?_)
              refine lv_goto (tgt := 4) hx hb dX5_sure_58 (by decide) ?_
              exact ih4 _ _ _ _ hF hP hD hS _ (lv_sub hl [2, 3, 1, 0] rfl)
            · have hF := F_pos c15 hF
              refine lv_iconst (v := (1 : Int32)) hx hb dX5_sure_48 (by decide) ?_
              refine lv_goto (tgt := 53) hx hb dX5_sure_49 (by decide) ?_
              refine lv_iadd hx hb dX5_sure_53 ?_
              refine lv_istore_n (lv' := [(2, .int (x2 + (1 : Int32))), (0, .ref (a 0)), (1, .int v1), (3, .int x3)]) hx hb dX5_sure_54 rfl hl (by decide) rfl (fun ls hl => ?_)
              refine lv_iinc (v := (x3 + (1 : Int32))) (lv' := [(3, .int (x3 + (1 : Int32))), (2, .int (x2 + (1 : Int32))), (0, .ref (a 0)), (1, .int v1)]) hx hb dX5_sure_55 hl (k := 3) rfl rfl (by decide) rfl (fun ls hl => ?_)
              refine lv_goto (tgt := 4) hx hb dX5_sure_58 (by decide) ?_
              exact ih4 _ _ _ _ hF hP hD hS _ (lv_sub hl [2, 3, 1, 0] rfl)
  have KE : ∀ (H : Heap) (locs : List Loc), va_P (dC, dI) vwCl ((W_Model cI a S)) H → va_D A ((W_Model cI a S)) → va_S A s.heap H locs → W p l e (headSpec wsX5_sure ({ frames := 2, cells := 0, slots := 0, locals := 45 } : Room)).room s m ([.ref (a 0), .int v1] : List Value).toArray below meth c H locs 0 0 (MQ below (va_Qd (fun (r' : UInt64) (_ : Unit) => rr = r') (fun _ : Unit => jB (dC, dI) [(cI, .int)] A ((W_Model cI a S))) A) ([.ref (a 0), .int v1] : List Value).toArray s 0 0 A) (F0 m 0 ls []) := by
    intro H locs hP hD hS
    unfold F_X5_sure at hF
    refine lv_iconst (v := (0 : Int32)) hx hb dX5_sure_0 (by decide) ?_
    refine lv_istore_n (lv' := [(2, .int (0 : Int32)), (0, .ref (a 0)), (1, .int v1)]) hx hb dX5_sure_1 rfl hl (by decide) rfl (fun ls hl => ?_)
    refine lv_iconst (v := (0 : Int32)) hx hb dX5_sure_2 (by decide) ?_
    refine lv_istore_n (lv' := [(3, .int (0 : Int32)), (2, .int (0 : Int32)), (0, .ref (a 0)), (1, .int v1)]) hx hb dX5_sure_3 rfl hl (by decide) rfl (fun ls hl => ?_)
    exact K4 _ _ _ _ _ hF hP hD hS _ (lv_sub hl [2, 3, 1, 0] rfl)
  exact KE _ _ hP hD hS
set_option maxHeartbeats 4000000 in
set_option maxRecDepth 100000 in
theorem c_X5_sureShare (l : Launch) (dC : Nat → ClassId) (dI : Nat → Nat → Nat) (cI : ClassId) (a : Nat → Nat) (sz : Nat) (S : S_Model) (v1 : Int32) (rr : UInt64) (Y : S_Model) (hF : F_X5_sureShare S v1 = some (rr, Y)) : Met l yX5_sureShare wsX5_sureShare ({ frames := 3, cells := 0, slots := 0, locals := 68 } : Room) (va_Pc [.ref (a 0), .int v1] (jPre (dC, dI) [(cI, .int)] sz ((W_Model cI a S)))) (va_Qd (fun (r' : UInt64) (u : S_Model) => rr = r' ∧ Y = u) (fun u : S_Model => jB (dC, dI) [(cI, .int)] (va_A ((W_Model cI a S)) sz) ((W_Model cI a u))) (va_A ((W_Model cI a S)) sz)) 0 0 (va_A ((W_Model cI a S)) sz) := by
  refine Met.ofW (cc := cX5_sureShare) (maxL := 2) (ret := (some .double)) (by decide) rfl ?_
  intro p e s m args below meth c s₁ B hml hv
  obtain ⟨rfl, hsz, hP, hK, hD0, hN⟩ := hv
  have hx := B.exec
  have hb := B.bytes
  have hr := B.returns
  have hts := atoms_spec (ws := wsX5_sureShare) B.pre
  have hown : s.vm.findClass RX5 = some m.cls := findClass_of_methodNamed B.named
  have hlocks := B.notSynchronized
  have hinX5 : ∀ w ∈ u_ws RX5 TX5 26, w ∈ wsX5_sureShare := by decide +kernel
  subst hsz
  have hD := hD0.self (sz := s.heap.size)
  generalize hAe : (va_A ((W_Model cI a S)) s.heap.size) = A at hD ⊢
  have hA : ∀ q : Nat, s.heap.size ≤ q → A q := fun q h => by rw [← hAe]; exact Or.inr h
  have hS : va_S A s.heap s.heap [] := va_S.rf
  have hl := lv_entry ([.ref (a 0), .int v1]) (n := 2) (Nat.le_of_ble_eq_true rfl)
  rw [lg_entry_eq]
  generalize (lg_sl ([.ref (a 0), .int v1]) ++ List.replicate (2 - (lg_sl ([.ref (a 0), .int v1])).length) Slot.unset).toArray = ls at hl ⊢
  have hl : lv_has ls 2 [(0, .ref (a 0)), (1, .int v1)] := hl
  have KE : ∀ (H : Heap) (locs : List Loc), va_P (dC, dI) vwCl ((W_Model cI a S)) H → va_D A ((W_Model cI a S)) → va_S A s.heap H locs → W p l e (headSpec wsX5_sureShare ({ frames := 3, cells := 0, slots := 0, locals := 68 } : Room)).room s m ([.ref (a 0), .int v1] : List Value).toArray below meth c H locs 0 0 (MQ below (va_Qd (fun (r' : UInt64) (u : S_Model) => rr = r' ∧ Y = u) (fun u : S_Model => jB (dC, dI) [(cI, .int)] A ((W_Model cI a u))) A) ([.ref (a 0), .int v1] : List Value).toArray s 0 0 A) (F0 m 0 ls []) := by
    intro H locs hP hD hS
    unfold F_X5_sureShare at hF
    refine lv_aload_n hx hb dX5_sureShare_0 rfl (lv_at hl 0 rfl) ?_
    refine lv_iconst (v := (0 : Int32)) hx hb dX5_sureShare_1 (by decide) ?_
    refine wp_thrown (v := (0 : Int32)) hx hb hts hinX5 hown hK hP hD hS (hts (Cond.fieldLink RX5 49 "LearnedShapesModel" "thrown" "I") (List.mem_of_getElem? (i := 1) rfl)) (rfl) (rfl) dX5_sureShare_2 (fun H locs hP hD hS => ?_)
    refine lv_iload_n hx hb dX5_sureShare_5 rfl (lv_at hl 1 rfl) ?_
    obtain ⟨r1, h2, hF⟩ := ob1_some hF
    have hPc : va_P (dC, dI) vwCl ([] : va_W) H := fun k q h => by simp at h
    have hDc : va_D A ([] : va_W) := ⟨fun i j p q h => by simp at h, fun k q h => by simp at h⟩
    have hFc := jFreeW (ws := []) hDc hS hA
    refine va_calli (va_runS (As := [.int v1]) (rest := []) ⟨hx, hb, hml, hown, hts⟩ (c_X5_isShape l dC dI cI  H.size _ _ h2) (va_cwS 1 hts gX5_sureShare_X5_isShape rfl rfl rfl (by decide +kernel) ⟨Nat.le_of_ble_eq_true rfl, Nat.le_of_ble_eq_true rfl⟩) (jPreS hK hPc hDc hN) rfl rfl hl.1 rfl (lv_room (Nat.le_of_ble_eq_true rfl)) dX5_sureShare_6 ⟨Nat.le_of_ble_eq_true rfl, Nat.le_of_ble_eq_true rfl⟩) hS (fun q _ h => hFc q h) hFc (fun r' u' t H locs ht hvm hw hB hz1 hk1 hS => ?_)
    subst hw
    obtain ⟨hP1, -, hD1⟩ := hB
    rw [ht] at hP1
    have hP : va_P (dC, dI) vwCl ((W_Model cI a (s_Model_thrown S (0 : Int32)))) H := jNone hP hk1
    refine lv_if_eq (tgt := 20) hx hb dX5_sureShare_9 (by decide) (fun c3 => ?_) (fun c3 => ?_)
    · have hF := F_pos c3 hF
      refine lv_aload_n hx hb dX5_sureShare_20 rfl (lv_at hl 0 rfl) ?_
      refine lv_iconst (v := (1 : Int32)) hx hb dX5_sureShare_21 (by decide) ?_
      obtain ⟨r4, u5, h6, hF⟩ := ob2_some hF
      have hPc : va_P (dC, dI) vwCl ((W_Model cI a (s_Model_thrown S (0 : Int32)))) H := hP
      have hDc : va_D A ((W_Model cI a (s_Model_thrown S (0 : Int32)))) := hD
      have hFc := jFreeW (ws := (W_Model cI a (s_Model_thrown S (0 : Int32)))) hD hS hA
      refine va_calli (va_runV (As := [.int (1 : Int32)]) (rest := []) ⟨hx, hb, hml, hown, hts⟩ (c_X5_fails l dC dI cI a H.size _ _ _ _ h6) (cwV 1 hts gX5_sureShare_X5_fails rfl rfl rfl (by decide +kernel) ⟨Nat.le_of_ble_eq_true rfl, Nat.le_of_ble_eq_true rfl⟩) (jPreV hK hPc hDc hN (ci := 5) rfl rfl) rfl rfl hl.1 rfl (lv_room (Nat.le_of_ble_eq_true rfl)) dX5_sureShare_22 ⟨Nat.le_of_ble_eq_true rfl, Nat.le_of_ble_eq_true rfl⟩) hS (fun q _ h => hFc q h) hFc (fun r' u' t H locs ht hvm hw hB hz1 hk1 hS => ?_)
      obtain ⟨e1, e2⟩ := hw
      subst e1
      subst e2
      obtain ⟨hP1, -, hD1⟩ := hB
      rw [ht] at hP1
      have hP : va_P (dC, dI) vwCl ((W_Model cI a u5)) H := hP1
      have hD : va_D A ((W_Model cI a u5)) := hD1.weaken (fun _ _ _ h => hFc _ h)
      refine lv_i2d hx hb dX5_sureShare_25 ?_
      have e50 := Option.some.inj hF
      obtain ⟨e60, e51⟩ := Prod.mk.inj e50
      subst e60
      subst e51
      exact W.dret (v := (FP.i2d r4)) hx hb hr (fun t ht hW => ⟨⟨(FP.i2d r4), u5, rfl, ⟨rfl, rfl⟩, by rw [ht]; exact hP, va_K.moved hW.alike hK, hD⟩, hS.F ht⟩) hS.2.2 dX5_sureShare_26
    · have hF := F_neg c3 hF
      refine lv_aload_n hx hb dX5_sureShare_12 rfl (lv_at hl 0 rfl) ?_
      refine lv_iload_n hx hb dX5_sureShare_13 rfl (lv_at hl 1 rfl) ?_
      obtain ⟨r7, h8, hF⟩ := ob1_some hF
      have hPc : va_P (dC, dI) vwCl ((W_Model cI a (s_Model_thrown S (0 : Int32)))) H := hP
      have hDc : va_D A ((W_Model cI a (s_Model_thrown S (0 : Int32)))) := hD
      have hFc := jFreeW (ws := (W_Model cI a (s_Model_thrown S (0 : Int32)))) hD hS hA
      refine va_calld (va_runV (As := [.int v1]) (rest := []) ⟨hx, hb, hml, hown, hts⟩ (c_X5_sure l dC dI cI a H.size _ _ _ h8) (cwV 1 hts gX5_sureShare_X5_sure rfl rfl rfl (by decide +kernel) ⟨Nat.le_of_ble_eq_true rfl, Nat.le_of_ble_eq_true rfl⟩) (jPreV hK hPc hDc hN (ci := 5) rfl rfl) rfl rfl hl.1 rfl (lv_room (Nat.le_of_ble_eq_true rfl)) dX5_sureShare_14 ⟨Nat.le_of_ble_eq_true rfl, Nat.le_of_ble_eq_true rfl⟩) hS (fun q _ h => hFc q h) hFc (fun r' u' t H locs ht hvm hw hB hz1 hk1 hS => ?_)
      subst hw
      obtain ⟨hP1, -, hD1⟩ := hB
      rw [ht] at hP1
      have hP : va_P (dC, dI) vwCl ((W_Model cI a (s_Model_thrown S (0 : Int32)))) H := hP1
      have hD : va_D A ((W_Model cI a (s_Model_thrown S (0 : Int32)))) := hD1.weaken (fun _ _ _ h => hFc _ h)
      refine lv_goto (tgt := 26) hx hb dX5_sureShare_17 (by decide) ?_
      have e50 := Option.some.inj hF
      obtain ⟨e60, e51⟩ := Prod.mk.inj e50
      subst e60
      subst e51
      exact W.dret (v := r7) hx hb hr (fun t ht hW => ⟨⟨r7, (s_Model_thrown S (0 : Int32)), rfl, ⟨rfl, rfl⟩, by rw [ht]; exact hP, va_K.moved hW.alike hK, hD⟩, hS.F ht⟩) hS.2.2 dX5_sureShare_26
  exact KE _ _ hP hD hS
set_option maxHeartbeats 4000000 in
set_option maxRecDepth 100000 in
theorem c_X5_digest (l : Launch) (dC : Nat → ClassId) (dI : Nat → Nat → Nat) (cI : ClassId) (a : Nat → Nat) (sz : Nat) (S : S_Model)  (rr : Int64) (Y : S_Model) (hF : F_X5_digest S  = some (rr, Y)) : Met l yX5_digest wsX5_digest ({ frames := 8, cells := 0, slots := 0, locals := 181 } : Room) (va_Pc [.ref (a 0)] (jPre (dC, dI) [(cI, .int)] sz ((W_Model cI a S)))) (va_Ql (fun (r' : Int64) (u : S_Model) => rr = r' ∧ Y = u) (fun u : S_Model => jB (dC, dI) [(cI, .int)] (va_A ((W_Model cI a S)) sz) ((W_Model cI a u))) (va_A ((W_Model cI a S)) sz)) 0 0 (va_A ((W_Model cI a S)) sz) := by
  refine Met.ofW (cc := cX5_digest) (maxL := 6) (ret := (some .long)) (by decide) rfl ?_
  intro p e s m args below meth c s₁ B hml hv
  obtain ⟨rfl, hsz, hP, hK, hD0, hN⟩ := hv
  have hx := B.exec
  have hb := B.bytes
  have hr := B.returns
  have hts := atoms_spec (ws := wsX5_digest) B.pre
  have hown : s.vm.findClass RX5 = some m.cls := findClass_of_methodNamed B.named
  have hlocks := B.notSynchronized
  have hinX5 : ∀ w ∈ u_ws RX5 TX5 26, w ∈ wsX5_digest := by decide +kernel
  subst hsz
  have hD := hD0.self (sz := s.heap.size)
  generalize hAe : (va_A ((W_Model cI a S)) s.heap.size) = A at hD ⊢
  have hA : ∀ q : Nat, s.heap.size ≤ q → A q := fun q h => by rw [← hAe]; exact Or.inr h
  have hS : va_S A s.heap s.heap [] := va_S.rf
  have hl := lv_entry ([.ref (a 0)]) (n := 6) (Nat.le_of_ble_eq_true rfl)
  rw [lg_entry_eq]
  generalize (lg_sl ([.ref (a 0)]) ++ List.replicate (6 - (lg_sl ([.ref (a 0)])).length) Slot.unset).toArray = ls at hl ⊢
  have hl : lv_has ls 6 [(0, .ref (a 0))] := hl
  have K269 : ∀ (n269 : Nat) (S : S_Model) (x1 : Int64) (x3 : Int32) (H : Heap) (locs : List Loc), F_X5_digest_269 n269 S x1 x3 = some (rr, Y) → va_P (dC, dI) vwCl ((W_Model cI a S)) H → va_D A ((W_Model cI a S)) → va_S A s.heap H locs → ∀ ls : Array Slot, lv_has ls 6 [(0, .ref (a 0)), (1, .long x1), (3, .int x3)] → W p l e (headSpec wsX5_digest ({ frames := 8, cells := 0, slots := 0, locals := 181 } : Room)).room s m ([.ref (a 0)] : List Value).toArray below meth c H locs 0 0 (MQ below (va_Ql (fun (r' : Int64) (u : S_Model) => rr = r' ∧ Y = u) (fun u : S_Model => jB (dC, dI) [(cI, .int)] A ((W_Model cI a u))) A) ([.ref (a 0)] : List Value).toArray s 0 0 A) (F0 m 269 ls []) := by
    intro n269
    induction n269 with
    | zero => intro S x1 x3 H locs hF; exact nomatch hF
    | succ n269 ih269 =>
      intro S x1 x3 H locs hF hP hD hS ls hl
      rw [F_X5_digest_269_s] at hF
      refine lv_iload_n hx hb dX5_digest_269 rfl (lv_at hl 2 rfl) ?_
      refine lv_aload_n hx hb dX5_digest_270 rfl (lv_at hl 0 rfl) ?_
      refine wg_typed (v := .int (g_Model_typed S)) hx hb hts hinX5 hown hK hP rfl (hts (Cond.fieldLink RX5 71 "LearnedShapesModel" "typed" "I") (List.mem_of_getElem? (i := 5) rfl)) dX5_digest_271 ?_
      refine lv_icmp_ge (tgt := 297) hx hb dX5_digest_274 (by decide) (fun c1 => ?_) (fun c1 => ?_)
      · have hF := F_pos c1 hF
        refine lv_lload_n hx hb dX5_digest_297 rfl (lv_at hl 1 rfl) ?_
        have e50 := Option.some.inj hF
        obtain ⟨e60, e51⟩ := Prod.mk.inj e50
        subst e60
        subst e51
        exact W.lret (v := x1) hx hb hr (fun t ht hW => ⟨⟨x1, S, rfl, ⟨rfl, rfl⟩, by rw [ht]; exact hP, va_K.moved hW.alike hK, hD⟩, hS.F ht⟩) hS.2.2 dX5_digest_298
      · have hF := F_neg c1 hF
        refine lv_ldc2 hx hb hown (hts (Cond.constantLong RX5 250 (31)) (List.mem_of_getElem? (i := 3) rfl)) dX5_digest_277 ?_
        refine lv_lload_n hx hb dX5_digest_280 rfl (lv_at hl 1 rfl) ?_
        refine lv_lmul hx hb dX5_digest_281 ?_
        refine lv_aload_n hx hb dX5_digest_282 rfl (lv_at hl 0 rfl) ?_
        refine wg_text (v := .ref (a 3)) hx hb hts hinX5 hown hK hP rfl (hts (Cond.fieldLink RX5 16 "LearnedShapesModel" "text" "[I") (List.mem_of_getElem? (i := 7) rfl)) dX5_digest_283 ?_
        refine lv_iload_n hx hb dX5_digest_286 rfl (lv_at hl 2 rfl) ?_
        obtain ⟨g2, hF⟩ := og_some hF
        refine wl_text (f := (g_Model_text S)) hx hb hK hP rfl (inb_in g2) dX5_digest_287 ?_
        refine lv_i2l (v := ((((g_Model_text S) x3.toNatClampNeg)).toInt64)) hx hb dX5_digest_288 rfl ?_
        refine lv_ladd hx hb dX5_digest_289 ?_
        refine lv_lstore_n (lv' := [(1, .long (((31 : Int64) * x1) + ((((g_Model_text S) x3.toNatClampNeg)).toInt64))), (0, .ref (a 0)), (3, .int x3)]) hx hb dX5_digest_290 rfl hl (by decide) rfl (fun ls hl => ?_)
        refine lv_iinc (v := (x3 + (1 : Int32))) (lv' := [(3, .int (x3 + (1 : Int32))), (1, .long (((31 : Int64) * x1) + ((((g_Model_text S) x3.toNatClampNeg)).toInt64))), (0, .ref (a 0))]) hx hb dX5_digest_291 hl (k := 2) rfl rfl (by decide) rfl (fun ls hl => ?_)
        refine lv_goto (tgt := 269) hx hb dX5_digest_294 (by decide) ?_
        exact ih269 _ _ _ _ _ hF hP hD hS _ (lv_sub hl [2, 1, 0] rfl)
  have K242 : ∀ (n242 : Nat) (S : S_Model) (x1 : Int64) (x3 : Int32) (H : Heap) (locs : List Loc), F_X5_digest_242 n242 S x1 x3 = some (rr, Y) → va_P (dC, dI) vwCl ((W_Model cI a S)) H → va_D A ((W_Model cI a S)) → va_S A s.heap H locs → ∀ ls : Array Slot, lv_has ls 6 [(0, .ref (a 0)), (1, .long x1), (3, .int x3)] → W p l e (headSpec wsX5_digest ({ frames := 8, cells := 0, slots := 0, locals := 181 } : Room)).room s m ([.ref (a 0)] : List Value).toArray below meth c H locs 0 0 (MQ below (va_Ql (fun (r' : Int64) (u : S_Model) => rr = r' ∧ Y = u) (fun u : S_Model => jB (dC, dI) [(cI, .int)] A ((W_Model cI a u))) A) ([.ref (a 0)] : List Value).toArray s 0 0 A) (F0 m 242 ls []) := by
    intro n242
    induction n242 with
    | zero => intro S x1 x3 H locs hF; exact nomatch hF
    | succ n242 ih242 =>
      intro S x1 x3 H locs hF hP hD hS ls hl
      rw [F_X5_digest_242_s] at hF
      refine lv_iload_n hx hb dX5_digest_242 rfl (lv_at hl 2 rfl) ?_
      refine lv_bipush (v := (9 : Int32)) hx hb dX5_digest_243 (by decide) ?_
      refine lv_icmp_ge (tgt := 267) hx hb dX5_digest_245 (by decide) (fun c3 => ?_) (fun c3 => ?_)
      · have hF := F_pos c3 hF
        refine lv_iconst (v := (0 : Int32)) hx hb dX5_digest_267 (by decide) ?_
        refine lv_istore_n (lv' := [(3, .int (0 : Int32)), (0, .ref (a 0)), (1, .long x1)]) hx hb dX5_digest_268 rfl hl (by decide) rfl (fun ls hl => ?_)
        exact K269 _ _ _ _ _ _ hF hP hD hS _ (lv_sub hl [1, 2, 0] rfl)
      · have hF := F_neg c3 hF
        refine lv_ldc2 hx hb hown (hts (Cond.constantLong RX5 250 (31)) (List.mem_of_getElem? (i := 3) rfl)) dX5_digest_248 ?_
        refine lv_lload_n hx hb dX5_digest_251 rfl (lv_at hl 1 rfl) ?_
        refine lv_lmul hx hb dX5_digest_252 ?_
        refine lv_aload_n hx hb dX5_digest_253 rfl (lv_at hl 0 rfl) ?_
        refine lv_iload_n hx hb dX5_digest_254 rfl (lv_at hl 2 rfl) ?_
        obtain ⟨r4, u5, h6, hF⟩ := ob2_some hF
        have hPc : va_P (dC, dI) vwCl ((W_Model cI a S)) H := hP
        have hDc : va_D A ((W_Model cI a S)) := hD
        have hFc := jFreeW (ws := (W_Model cI a S)) hD hS hA
        refine va_calli (va_runV (As := [.int x3]) (rest := [.long ((31 : Int64) * x1)]) ⟨hx, hb, hml, hown, hts⟩ (c_X5_ofDocument l dC dI cI a H.size _ _ _ _ h6) (cwV 1 hts gX5_digest_X5_ofDocument rfl rfl rfl (by decide +kernel) ⟨Nat.le_of_ble_eq_true rfl, Nat.le_of_ble_eq_true rfl⟩) (jPreV hK hPc hDc hN (ci := 5) rfl rfl) rfl rfl hl.1 rfl (lv_room (Nat.le_of_ble_eq_true rfl)) dX5_digest_255 ⟨Nat.le_of_ble_eq_true rfl, Nat.le_of_ble_eq_true rfl⟩) hS (fun q _ h => hFc q h) hFc (fun r' u' t H locs ht hvm hw hB hz1 hk1 hS => ?_)
        obtain ⟨e1, e2⟩ := hw
        subst e1
        subst e2
        obtain ⟨hP1, -, hD1⟩ := hB
        rw [ht] at hP1
        have hP : va_P (dC, dI) vwCl ((W_Model cI a u5)) H := hP1
        have hD : va_D A ((W_Model cI a u5)) := hD1.weaken (fun _ _ _ h => hFc _ h)
        refine lv_i2l (v := ((r4).toInt64)) hx hb dX5_digest_258 rfl ?_
        refine lv_ladd hx hb dX5_digest_259 ?_
        refine lv_lstore_n (lv' := [(1, .long (((31 : Int64) * x1) + ((r4).toInt64))), (0, .ref (a 0)), (3, .int x3)]) hx hb dX5_digest_260 rfl hl (by decide) rfl (fun ls hl => ?_)
        refine lv_iinc (v := (x3 + (1 : Int32))) (lv' := [(3, .int (x3 + (1 : Int32))), (1, .long (((31 : Int64) * x1) + ((r4).toInt64))), (0, .ref (a 0))]) hx hb dX5_digest_261 hl (k := 2) rfl rfl (by decide) rfl (fun ls hl => ?_)
        refine lv_goto (tgt := 242) hx hb dX5_digest_264 (by decide) ?_
        exact ih242 _ _ _ _ _ hF hP hD hS _ (lv_sub hl [2, 1, 0] rfl)
  have K45 : ∀ (n45 : Nat) (S : S_Model) (x1 : Int64) (x3 : Int32) (H : Heap) (locs : List Loc), F_X5_digest_45 n45 S x1 x3 = some (rr, Y) → va_P (dC, dI) vwCl ((W_Model cI a S)) H → va_D A ((W_Model cI a S)) → va_S A s.heap H locs → ∀ ls : Array Slot, lv_has ls 6 [(0, .ref (a 0)), (1, .long x1), (3, .int x3)] → W p l e (headSpec wsX5_digest ({ frames := 8, cells := 0, slots := 0, locals := 181 } : Room)).room s m ([.ref (a 0)] : List Value).toArray below meth c H locs 0 0 (MQ below (va_Ql (fun (r' : Int64) (u : S_Model) => rr = r' ∧ Y = u) (fun u : S_Model => jB (dC, dI) [(cI, .int)] A ((W_Model cI a u))) A) ([.ref (a 0)] : List Value).toArray s 0 0 A) (F0 m 45 ls []) := by
    intro n45
    induction n45 with
    | zero => intro S x1 x3 H locs hF; exact nomatch hF
    | succ n45 ih45 =>
      intro S x1 x3 H locs hF hP hD hS ls hl
      rw [F_X5_digest_45_s] at hF
      have K53 : ∀ (n53 : Nat) (S : S_Model) (x1 : Int64) (x3 : Int32) (x4 : Int32) (H : Heap) (locs : List Loc), F_X5_digest_53 (F_X5_digest_45 n45) n53 S x1 x3 x4 = some (rr, Y) → va_P (dC, dI) vwCl ((W_Model cI a S)) H → va_D A ((W_Model cI a S)) → va_S A s.heap H locs → ∀ ls : Array Slot, lv_has ls 6 [(0, .ref (a 0)), (1, .long x1), (3, .int x3), (4, .int x4)] → W p l e (headSpec wsX5_digest ({ frames := 8, cells := 0, slots := 0, locals := 181 } : Room)).room s m ([.ref (a 0)] : List Value).toArray below meth c H locs 0 0 (MQ below (va_Ql (fun (r' : Int64) (u : S_Model) => rr = r' ∧ Y = u) (fun u : S_Model => jB (dC, dI) [(cI, .int)] A ((W_Model cI a u))) A) ([.ref (a 0)] : List Value).toArray s 0 0 A) (F0 m 53 ls []) := by
        intro n53
        induction n53 with
        | zero => intro S x1 x3 x4 H locs hF; exact nomatch hF
        | succ n53 ih53 =>
          intro S x1 x3 x4 H locs hF hP hD hS ls hl
          rw [F_X5_digest_53_s] at hF
          have K84 : ∀ (n84 : Nat) (S : S_Model) (x1 : Int64) (x3 : Int32) (x4 : Int32) (H : Heap) (locs : List Loc), F_X5_digest_84 (F_X5_digest_45 n45) (F_X5_digest_53 (F_X5_digest_45 n45) n53) n84 S x1 x3 x4 = some (rr, Y) → va_P (dC, dI) vwCl ((W_Model cI a S)) H → va_D A ((W_Model cI a S)) → va_S A s.heap H locs → ∀ ls : Array Slot, lv_has ls 6 [(0, .ref (a 0)), (1, .long x1), (3, .int x3), (4, .int x4)] → W p l e (headSpec wsX5_digest ({ frames := 8, cells := 0, slots := 0, locals := 181 } : Room)).room s m ([.ref (a 0)] : List Value).toArray below meth c H locs 0 0 (MQ below (va_Ql (fun (r' : Int64) (u : S_Model) => rr = r' ∧ Y = u) (fun u : S_Model => jB (dC, dI) [(cI, .int)] A ((W_Model cI a u))) A) ([.ref (a 0)] : List Value).toArray s 0 0 A) (F0 m 84 ls []) := by
            intro n84
            induction n84 with
            | zero => intro S x1 x3 x4 H locs hF; exact nomatch hF
            | succ n84 ih84 =>
              intro S x1 x3 x4 H locs hF hP hD hS ls hl
              rw [F_X5_digest_84_s] at hF
              have K139 : ∀ (n139 : Nat) (S : S_Model) (x1 : Int64) (x3 : Int32) (x4 : Int32) (H : Heap) (locs : List Loc), F_X5_digest_139 (F_X5_digest_45 n45) (F_X5_digest_53 (F_X5_digest_45 n45) n53) (F_X5_digest_84 (F_X5_digest_45 n45) (F_X5_digest_53 (F_X5_digest_45 n45) n53) n84) n139 S x1 x3 x4 = some (rr, Y) → va_P (dC, dI) vwCl ((W_Model cI a S)) H → va_D A ((W_Model cI a S)) → va_S A s.heap H locs → ∀ ls : Array Slot, lv_has ls 6 [(0, .ref (a 0)), (1, .long x1), (3, .int x3), (4, .int x4)] → W p l e (headSpec wsX5_digest ({ frames := 8, cells := 0, slots := 0, locals := 181 } : Room)).room s m ([.ref (a 0)] : List Value).toArray below meth c H locs 0 0 (MQ below (va_Ql (fun (r' : Int64) (u : S_Model) => rr = r' ∧ Y = u) (fun u : S_Model => jB (dC, dI) [(cI, .int)] A ((W_Model cI a u))) A) ([.ref (a 0)] : List Value).toArray s 0 0 A) (F0 m 139 ls []) := by
                intro n139
                induction n139 with
                | zero => intro S x1 x3 x4 H locs hF; exact nomatch hF
                | succ n139 ih139 =>
                  intro S x1 x3 x4 H locs hF hP hD hS ls hl
                  rw [F_X5_digest_139_s] at hF
                  have K169 : ∀ (n169 : Nat) (S : S_Model) (x1 : Int64) (x3 : Int32) (x4 : Int32) (H : Heap) (locs : List Loc), F_X5_digest_169 (F_X5_digest_45 n45) (F_X5_digest_53 (F_X5_digest_45 n45) n53) (F_X5_digest_84 (F_X5_digest_45 n45) (F_X5_digest_53 (F_X5_digest_45 n45) n53) n84) (F_X5_digest_139 (F_X5_digest_45 n45) (F_X5_digest_53 (F_X5_digest_45 n45) n53) (F_X5_digest_84 (F_X5_digest_45 n45) (F_X5_digest_53 (F_X5_digest_45 n45) n53) n84) n139) n169 S x1 x3 x4 = some (rr, Y) → va_P (dC, dI) vwCl ((W_Model cI a S)) H → va_D A ((W_Model cI a S)) → va_S A s.heap H locs → ∀ ls : Array Slot, lv_has ls 6 [(0, .ref (a 0)), (1, .long x1), (3, .int x3), (4, .int x4)] → W p l e (headSpec wsX5_digest ({ frames := 8, cells := 0, slots := 0, locals := 181 } : Room)).room s m ([.ref (a 0)] : List Value).toArray below meth c H locs 0 0 (MQ below (va_Ql (fun (r' : Int64) (u : S_Model) => rr = r' ∧ Y = u) (fun u : S_Model => jB (dC, dI) [(cI, .int)] A ((W_Model cI a u))) A) ([.ref (a 0)] : List Value).toArray s 0 0 A) (F0 m 169 ls []) := by
                    intro n169
                    induction n169 with
                    | zero => intro S x1 x3 x4 H locs hF; exact nomatch hF
                    | succ n169 ih169 =>
                      intro S x1 x3 x4 H locs hF hP hD hS ls hl
                      rw [F_X5_digest_169_s] at hF
                      refine lv_iload hx hb dX5_digest_169 (lv_at hl 3 rfl) ?_
                      refine lv_iconst (v := (5 : Int32)) hx hb dX5_digest_171 (by decide) ?_
                      refine lv_icmp_ge (tgt := 196) hx hb dX5_digest_172 (by decide) (fun c7 => ?_) (fun c7 => ?_)
                      · have hF := F_pos c7 hF
                        refine lv_ldc2 hx hb hown (hts (Cond.constantLong RX5 250 (31)) (List.mem_of_getElem? (i := 3) rfl)) dX5_digest_196 ?_
                        refine lv_ldc2 hx hb hown (hts (Cond.constantLong RX5 250 (31)) (List.mem_of_getElem? (i := 3) rfl)) dX5_digest_199 ?_
                        refine lv_lload_n hx hb dX5_digest_202 rfl (lv_at hl 1 rfl) ?_
                        refine lv_lmul hx hb dX5_digest_203 ?_
                        refine lv_aload_n hx hb dX5_digest_204 rfl (lv_at hl 0 rfl) ?_
                        refine lv_iload_n hx hb dX5_digest_205 rfl (lv_at hl 2 rfl) ?_
                        obtain ⟨r8, u9, h10, hF⟩ := ob2_some hF
                        have hPc : va_P (dC, dI) vwCl ((W_Model cI a S)) H := hP
                        have hDc : va_D A ((W_Model cI a S)) := hD
                        have hFc := jFreeW (ws := (W_Model cI a S)) hD hS hA
                        refine va_calli (va_runV (As := [.int x3]) (rest := [.long ((31 : Int64) * x1), .long (31 : Int64)]) ⟨hx, hb, hml, hown, hts⟩ (c_X5_coversOf l dC dI cI a H.size _ _ _ _ h10) (cwV 1 hts gX5_digest_X5_coversOf rfl rfl rfl (by decide +kernel) ⟨Nat.le_of_ble_eq_true rfl, Nat.le_of_ble_eq_true rfl⟩) (jPreV hK hPc hDc hN (ci := 5) rfl rfl) rfl rfl hl.1 rfl (lv_room (Nat.le_of_ble_eq_true rfl)) dX5_digest_206 ⟨Nat.le_of_ble_eq_true rfl, Nat.le_of_ble_eq_true rfl⟩) hS (fun q _ h => hFc q h) hFc (fun r' u' t H locs ht hvm hw hB hz1 hk1 hS => ?_)
                        obtain ⟨e1, e2⟩ := hw
                        subst e1
                        subst e2
                        obtain ⟨hP1, -, hD1⟩ := hB
                        rw [ht] at hP1
                        have hP : va_P (dC, dI) vwCl ((W_Model cI a u9)) H := hP1
                        have hD : va_D A ((W_Model cI a u9)) := hD1.weaken (fun _ _ _ h => hFc _ h)
                        refine lv_i2l (v := ((r8).toInt64)) hx hb dX5_digest_209 rfl ?_
                        refine lv_ladd hx hb dX5_digest_210 ?_
                        refine lv_lmul hx hb dX5_digest_211 ?_
                        refine lv_aload_n hx hb dX5_digest_212 rfl (lv_at hl 0 rfl) ?_
                        refine lv_iload_n hx hb dX5_digest_213 rfl (lv_at hl 2 rfl) ?_
                        obtain ⟨r11, h12, hF⟩ := ob1_some hF
                        have hPc : va_P (dC, dI) vwCl ((W_Model cI a u9)) H := hP
                        have hDc : va_D A ((W_Model cI a u9)) := hD
                        have hFc := jFreeW (ws := (W_Model cI a u9)) hD hS hA
                        refine va_calld (va_runV (As := [.int x3]) (rest := [.long ((31 : Int64) * (((31 : Int64) * x1) + ((r8).toInt64)))]) ⟨hx, hb, hml, hown, hts⟩ (c_X5_sure l dC dI cI a H.size _ _ _ h12) (cwV 1 hts gX5_digest_X5_sure rfl rfl rfl (by decide +kernel) ⟨Nat.le_of_ble_eq_true rfl, Nat.le_of_ble_eq_true rfl⟩) (jPreV hK hPc hDc hN (ci := 5) rfl rfl) rfl rfl hl.1 rfl (lv_room (Nat.le_of_ble_eq_true rfl)) dX5_digest_214 ⟨Nat.le_of_ble_eq_true rfl, Nat.le_of_ble_eq_true rfl⟩) hS (fun q _ h => hFc q h) hFc (fun r' u' t H locs ht hvm hw hB hz1 hk1 hS => ?_)
                        subst hw
                        obtain ⟨hP1, -, hD1⟩ := hB
                        rw [ht] at hP1
                        have hP : va_P (dC, dI) vwCl ((W_Model cI a u9)) H := hP1
                        have hD : va_D A ((W_Model cI a u9)) := hD1.weaken (fun _ _ _ h => hFc _ h)
                        obtain ⟨r13, h14, hF⟩ := ob1_some hF
                        have hPc : va_P (dC, dI) vwCl ([] : va_W) H := fun k q h => by simp at h
                        have hDc : va_D A ([] : va_W) := ⟨fun i j p q h => by simp at h, fun k q h => by simp at h⟩
                        have hFc := jFreeW (ws := []) hDc hS hA
                        refine va_calll (va_runS (As := [.double r11]) (rest := [.long ((31 : Int64) * (((31 : Int64) * x1) + ((r8).toInt64)))]) ⟨hx, hb, hml, hown, hts⟩ (c_Jxe99ae_doubleToLongBits_ccdee l dC dI cI  H.size _ _ h14) (va_cwS 1 hts gX5_digest_Jxe99ae_doubleToLongBits_ccdee rfl rfl rfl (by decide +kernel) ⟨Nat.le_of_ble_eq_true rfl, Nat.le_of_ble_eq_true rfl⟩) (jPreS hK hPc hDc hN) rfl rfl hl.1 rfl (lv_room (Nat.le_of_ble_eq_true rfl)) dX5_digest_217 ⟨Nat.le_of_ble_eq_true rfl, Nat.le_of_ble_eq_true rfl⟩) hS (fun q _ h => hFc q h) hFc (fun r' u' t H locs ht hvm hw hB hz1 hk1 hS => ?_)
                        subst hw
                        obtain ⟨hP1, -, hD1⟩ := hB
                        rw [ht] at hP1
                        have hP : va_P (dC, dI) vwCl ((W_Model cI a u9)) H := jNone hP hk1
                        refine lv_ladd hx hb dX5_digest_220 ?_
                        refine lv_lstore_n (lv' := [(1, .long (((31 : Int64) * (((31 : Int64) * x1) + ((r8).toInt64))) + r13)), (0, .ref (a 0)), (3, .int x3), (4, .int x4)]) hx hb dX5_digest_221 rfl hl (by decide) rfl (fun ls hl => ?_)
                        refine lv_iinc (v := (x3 + (1 : Int32))) (lv' := [(3, .int (x3 + (1 : Int32))), (1, .long (((31 : Int64) * (((31 : Int64) * x1) + ((r8).toInt64))) + r13)), (0, .ref (a 0)), (4, .int x4)]) hx hb dX5_digest_222 hl (k := 2) rfl rfl (by decide) rfl (fun ls hl => ?_)
                        refine lv_goto (tgt := 45) hx hb dX5_digest_225 (by decide) ?_
                        exact ih45 _ _ _ _ _ hF hP hD hS _ (lv_sub hl [2, 1, 0] rfl)
                      · have hF := F_neg c7 hF
                        refine lv_ldc2 hx hb hown (hts (Cond.constantLong RX5 250 (31)) (List.mem_of_getElem? (i := 3) rfl)) dX5_digest_175 ?_
                        refine lv_lload_n hx hb dX5_digest_178 rfl (lv_at hl 1 rfl) ?_
                        refine lv_lmul hx hb dX5_digest_179 ?_
                        refine lv_aload_n hx hb dX5_digest_180 rfl (lv_at hl 0 rfl) ?_
                        refine lv_iload_n hx hb dX5_digest_181 rfl (lv_at hl 2 rfl) ?_
                        refine lv_iload hx hb dX5_digest_182 (lv_at hl 3 rfl) ?_
                        obtain ⟨r15, u16, h17, hF⟩ := ob2_some hF
                        have hPc : va_P (dC, dI) vwCl ((W_Model cI a S)) H := hP
                        have hDc : va_D A ((W_Model cI a S)) := hD
                        have hFc := jFreeW (ws := (W_Model cI a S)) hD hS hA
                        refine va_calli (va_runV (As := [.int x3, .int x4]) (rest := [.long ((31 : Int64) * x1)]) ⟨hx, hb, hml, hown, hts⟩ (c_X5_learnedOf l dC dI cI a H.size _ _ _ _ _ h17) (cwV 2 hts gX5_digest_X5_learnedOf rfl rfl rfl (by decide +kernel) ⟨Nat.le_of_ble_eq_true rfl, Nat.le_of_ble_eq_true rfl⟩) (jPreV hK hPc hDc hN (ci := 5) rfl rfl) rfl rfl hl.1 rfl (lv_room (Nat.le_of_ble_eq_true rfl)) dX5_digest_184 ⟨Nat.le_of_ble_eq_true rfl, Nat.le_of_ble_eq_true rfl⟩) hS (fun q _ h => hFc q h) hFc (fun r' u' t H locs ht hvm hw hB hz1 hk1 hS => ?_)
                        obtain ⟨e1, e2⟩ := hw
                        subst e1
                        subst e2
                        obtain ⟨hP1, -, hD1⟩ := hB
                        rw [ht] at hP1
                        have hP : va_P (dC, dI) vwCl ((W_Model cI a u16)) H := hP1
                        have hD : va_D A ((W_Model cI a u16)) := hD1.weaken (fun _ _ _ h => hFc _ h)
                        refine lv_i2l (v := ((r15).toInt64)) hx hb dX5_digest_187 rfl ?_
                        refine lv_ladd hx hb dX5_digest_188 ?_
                        refine lv_lstore_n (lv' := [(1, .long (((31 : Int64) * x1) + ((r15).toInt64))), (0, .ref (a 0)), (3, .int x3), (4, .int x4)]) hx hb dX5_digest_189 rfl hl (by decide) rfl (fun ls hl => ?_)
                        refine lv_iinc (v := (x4 + (1 : Int32))) (lv' := [(4, .int (x4 + (1 : Int32))), (1, .long (((31 : Int64) * x1) + ((r15).toInt64))), (0, .ref (a 0)), (3, .int x3)]) hx hb dX5_digest_190 hl (k := 3) rfl rfl (by decide) rfl (fun ls hl => ?_)
                        refine lv_goto (tgt := 169) hx hb dX5_digest_193 (by decide) ?_
                        exact ih169 _ _ _ _ _ _ hF hP hD hS _ (lv_sub hl [2, 1, 3, 0] rfl)
                  refine lv_iload hx hb dX5_digest_139 (lv_at hl 3 rfl) ?_
                  refine lv_iconst (v := (3 : Int32)) hx hb dX5_digest_141 (by decide) ?_
                  refine lv_icmp_ge (tgt := 166) hx hb dX5_digest_142 (by decide) (fun c18 => ?_) (fun c18 => ?_)
                  · have hF := F_pos c18 hF
                    refine lv_iconst (v := (0 : Int32)) hx hb dX5_digest_166 (by decide) ?_
                    refine lv_istore (lv' := [(4, .int (0 : Int32)), (0, .ref (a 0)), (1, .long x1), (3, .int x3)]) hx hb dX5_digest_167 hl (by decide) rfl (fun ls hl => ?_)
                    exact K169 _ _ _ _ _ _ _ hF hP hD hS _ (lv_sub hl [1, 2, 3, 0] rfl)
                  · have hF := F_neg c18 hF
                    refine lv_ldc2 hx hb hown (hts (Cond.constantLong RX5 250 (31)) (List.mem_of_getElem? (i := 3) rfl)) dX5_digest_145 ?_
                    refine lv_lload_n hx hb dX5_digest_148 rfl (lv_at hl 1 rfl) ?_
                    refine lv_lmul hx hb dX5_digest_149 ?_
                    refine lv_aload_n hx hb dX5_digest_150 rfl (lv_at hl 0 rfl) ?_
                    refine lv_iload_n hx hb dX5_digest_151 rfl (lv_at hl 2 rfl) ?_
                    refine lv_iload hx hb dX5_digest_152 (lv_at hl 3 rfl) ?_
                    obtain ⟨r19, u20, h21, hF⟩ := ob2_some hF
                    have hPc : va_P (dC, dI) vwCl ((W_Model cI a S)) H := hP
                    have hDc : va_D A ((W_Model cI a S)) := hD
                    have hFc := jFreeW (ws := (W_Model cI a S)) hD hS hA
                    refine va_calli (va_runV (As := [.int x3, .int x4]) (rest := [.long ((31 : Int64) * x1)]) ⟨hx, hb, hml, hown, hts⟩ (c_X5_fitOf l dC dI cI a H.size _ _ _ _ _ h21) (cwV 2 hts gX5_digest_X5_fitOf rfl rfl rfl (by decide +kernel) ⟨Nat.le_of_ble_eq_true rfl, Nat.le_of_ble_eq_true rfl⟩) (jPreV hK hPc hDc hN (ci := 5) rfl rfl) rfl rfl hl.1 rfl (lv_room (Nat.le_of_ble_eq_true rfl)) dX5_digest_154 ⟨Nat.le_of_ble_eq_true rfl, Nat.le_of_ble_eq_true rfl⟩) hS (fun q _ h => hFc q h) hFc (fun r' u' t H locs ht hvm hw hB hz1 hk1 hS => ?_)
                    obtain ⟨e1, e2⟩ := hw
                    subst e1
                    subst e2
                    obtain ⟨hP1, -, hD1⟩ := hB
                    rw [ht] at hP1
                    have hP : va_P (dC, dI) vwCl ((W_Model cI a u20)) H := hP1
                    have hD : va_D A ((W_Model cI a u20)) := hD1.weaken (fun _ _ _ h => hFc _ h)
                    refine lv_i2l (v := ((r19).toInt64)) hx hb dX5_digest_157 rfl ?_
                    refine lv_ladd hx hb dX5_digest_158 ?_
                    refine lv_lstore_n (lv' := [(1, .long (((31 : Int64) * x1) + ((r19).toInt64))), (0, .ref (a 0)), (3, .int x3), (4, .int x4)]) hx hb dX5_digest_159 rfl hl (by decide) rfl (fun ls hl => ?_)
                    refine lv_iinc (v := (x4 + (1 : Int32))) (lv' := [(4, .int (x4 + (1 : Int32))), (1, .long (((31 : Int64) * x1) + ((r19).toInt64))), (0, .ref (a 0)), (3, .int x3)]) hx hb dX5_digest_160 hl (k := 3) rfl rfl (by decide) rfl (fun ls hl => ?_)
                    refine lv_goto (tgt := 139) hx hb dX5_digest_163 (by decide) ?_
                    exact ih139 _ _ _ _ _ _ hF hP hD hS _ (lv_sub hl [2, 1, 3, 0] rfl)
              have K100 : ∀ (n100 : Nat) (S : S_Model) (x1 : Int64) (x3 : Int32) (x4 : Int32) (x5 : Int32) (H : Heap) (locs : List Loc), F_X5_digest_100 (F_X5_digest_45 n45) (F_X5_digest_53 (F_X5_digest_45 n45) n53) (F_X5_digest_84 (F_X5_digest_45 n45) (F_X5_digest_53 (F_X5_digest_45 n45) n53) n84) n100 S x1 x3 x4 x5 = some (rr, Y) → va_P (dC, dI) vwCl ((W_Model cI a S)) H → va_D A ((W_Model cI a S)) → va_S A s.heap H locs → ∀ ls : Array Slot, lv_has ls 6 [(0, .ref (a 0)), (1, .long x1), (3, .int x3), (4, .int x4), (5, .int x5)] → W p l e (headSpec wsX5_digest ({ frames := 8, cells := 0, slots := 0, locals := 181 } : Room)).room s m ([.ref (a 0)] : List Value).toArray below meth c H locs 0 0 (MQ below (va_Ql (fun (r' : Int64) (u : S_Model) => rr = r' ∧ Y = u) (fun u : S_Model => jB (dC, dI) [(cI, .int)] A ((W_Model cI a u))) A) ([.ref (a 0)] : List Value).toArray s 0 0 A) (F0 m 100 ls []) := by
                intro n100
                induction n100 with
                | zero => intro S x1 x3 x4 x5 H locs hF; exact nomatch hF
                | succ n100 ih100 =>
                  intro S x1 x3 x4 x5 H locs hF hP hD hS ls hl
                  rw [F_X5_digest_100_s] at hF
                  refine lv_iload hx hb dX5_digest_100 (lv_at hl 4 rfl) ?_
                  refine lv_bipush (v := (10 : Int32)) hx hb dX5_digest_102 (by decide) ?_
                  refine lv_icmp_ge (tgt := 130) hx hb dX5_digest_104 (by decide) (fun c22 => ?_) (fun c22 => ?_)
                  · have hF := F_pos c22 hF
                    refine lv_iinc (v := (x4 + (1 : Int32))) (lv' := [(4, .int (x4 + (1 : Int32))), (0, .ref (a 0)), (1, .long x1), (3, .int x3), (5, .int x5)]) hx hb dX5_digest_130 hl (k := 3) rfl rfl (by decide) rfl (fun ls hl => ?_)
                    refine lv_goto (tgt := 84) hx hb dX5_digest_133 (by decide) ?_
                    exact ih84 _ _ _ _ _ _ hF hP hD hS _ (lv_sub hl [1, 2, 3, 0] rfl)
                  · have hF := F_neg c22 hF
                    refine lv_ldc2 hx hb hown (hts (Cond.constantLong RX5 250 (31)) (List.mem_of_getElem? (i := 3) rfl)) dX5_digest_107 ?_
                    refine lv_lload_n hx hb dX5_digest_110 rfl (lv_at hl 1 rfl) ?_
                    refine lv_lmul hx hb dX5_digest_111 ?_
                    refine lv_aload_n hx hb dX5_digest_112 rfl (lv_at hl 0 rfl) ?_
                    refine lv_iload_n hx hb dX5_digest_113 rfl (lv_at hl 2 rfl) ?_
                    refine lv_iload hx hb dX5_digest_114 (lv_at hl 3 rfl) ?_
                    refine lv_iload hx hb dX5_digest_116 (lv_at hl 4 rfl) ?_
                    obtain ⟨r23, h24, hF⟩ := ob1_some hF
                    have hPc : va_P (dC, dI) vwCl ((W_Model cI a S)) H := hP
                    have hDc : va_D A ((W_Model cI a S)) := hD
                    have hFc := jFreeW (ws := (W_Model cI a S)) hD hS hA
                    refine va_calli (va_runV (As := [.int x3, .int x4, .int x5]) (rest := [.long ((31 : Int64) * x1)]) ⟨hx, hb, hml, hown, hts⟩ (c_X5_ofNode l dC dI cI a H.size _ _ _ _ _ h24) (cwV 3 hts gX5_digest_X5_ofNode rfl rfl rfl (by decide +kernel) ⟨Nat.le_of_ble_eq_true rfl, Nat.le_of_ble_eq_true rfl⟩) (jPreV hK hPc hDc hN (ci := 5) rfl rfl) rfl rfl hl.1 rfl (lv_room (Nat.le_of_ble_eq_true rfl)) dX5_digest_118 ⟨Nat.le_of_ble_eq_true rfl, Nat.le_of_ble_eq_true rfl⟩) hS (fun q _ h => hFc q h) hFc (fun r' u' t H locs ht hvm hw hB hz1 hk1 hS => ?_)
                    subst hw
                    obtain ⟨hP1, -, hD1⟩ := hB
                    rw [ht] at hP1
                    have hP : va_P (dC, dI) vwCl ((W_Model cI a S)) H := hP1
                    have hD : va_D A ((W_Model cI a S)) := hD1.weaken (fun _ _ _ h => hFc _ h)
                    refine lv_i2l (v := ((r23).toInt64)) hx hb dX5_digest_121 rfl ?_
                    refine lv_ladd hx hb dX5_digest_122 ?_
                    refine lv_lstore_n (lv' := [(1, .long (((31 : Int64) * x1) + ((r23).toInt64))), (0, .ref (a 0)), (3, .int x3), (4, .int x4), (5, .int x5)]) hx hb dX5_digest_123 rfl hl (by decide) rfl (fun ls hl => ?_)
                    refine lv_iinc (v := (x5 + (1 : Int32))) (lv' := [(5, .int (x5 + (1 : Int32))), (1, .long (((31 : Int64) * x1) + ((r23).toInt64))), (0, .ref (a 0)), (3, .int x3), (4, .int x4)]) hx hb dX5_digest_124 hl (k := 4) rfl rfl (by decide) rfl (fun ls hl => ?_)
                    refine lv_goto (tgt := 100) hx hb dX5_digest_127 (by decide) ?_
                    exact ih100 _ _ _ _ _ _ _ hF hP hD hS _ (lv_sub hl [2, 1, 3, 4, 0] rfl)
              refine lv_iload hx hb dX5_digest_84 (lv_at hl 3 rfl) ?_
              refine lv_aload_n hx hb dX5_digest_86 rfl (lv_at hl 0 rfl) ?_
              refine wg_now (v := .ref (a 1)) hx hb hts hinX5 hown hK hP rfl (hts (Cond.fieldLink RX5 7 "LearnedShapesModel" "now" "[I") (List.mem_of_getElem? (i := 4) rfl)) dX5_digest_87 ?_
              refine lv_iconst (v := (3 : Int32)) hx hb dX5_digest_90 (by decide) ?_
              refine lv_iload_n hx hb dX5_digest_91 rfl (lv_at hl 2 rfl) ?_
              refine lv_iadd hx hb dX5_digest_92 ?_
              obtain ⟨g25, hF⟩ := og_some hF
              refine wl_now (f := (g_Model_now S)) hx hb hK hP rfl (inb_in g25) dX5_digest_93 ?_
              refine lv_icmp_ge (tgt := 136) hx hb dX5_digest_94 (by decide) (fun c26 => ?_) (fun c26 => ?_)
              · have hF := F_pos c26 hF
                refine lv_iconst (v := (0 : Int32)) hx hb dX5_digest_136 (by decide) ?_
                refine lv_istore (lv' := [(4, .int (0 : Int32)), (0, .ref (a 0)), (1, .long x1), (3, .int x3)]) hx hb dX5_digest_137 hl (by decide) rfl (fun ls hl => ?_)
                exact K139 _ _ _ _ _ _ _ hF hP hD hS _ (lv_sub hl [1, 2, 3, 0] rfl)
              · have hF := F_neg c26 hF
                refine lv_iconst (v := (0 : Int32)) hx hb dX5_digest_97 (by decide) ?_
                refine lv_istore (lv' := [(5, .int (0 : Int32)), (0, .ref (a 0)), (1, .long x1), (3, .int x3), (4, .int x4)]) hx hb dX5_digest_98 hl (by decide) rfl (fun ls hl => ?_)
                exact K100 _ _ _ _ _ _ _ _ hF hP hD hS _ (lv_sub hl [1, 2, 3, 4, 0] rfl)
          refine lv_iload hx hb dX5_digest_53 (lv_at hl 3 rfl) ?_
          refine lv_bipush (v := (6 : Int32)) hx hb dX5_digest_55 (by decide) ?_
          refine lv_icmp_ge (tgt := 81) hx hb dX5_digest_57 (by decide) (fun c27 => ?_) (fun c27 => ?_)
          · have hF := F_pos c27 hF
            refine lv_iconst (v := (0 : Int32)) hx hb dX5_digest_81 (by decide) ?_
            refine lv_istore (lv' := [(4, .int (0 : Int32)), (0, .ref (a 0)), (1, .long x1), (3, .int x3)]) hx hb dX5_digest_82 hl (by decide) rfl (fun ls hl => ?_)
            exact K84 _ _ _ _ _ _ _ hF hP hD hS _ (lv_sub hl [1, 2, 3, 0] rfl)
          · have hF := F_neg c27 hF
            refine lv_ldc2 hx hb hown (hts (Cond.constantLong RX5 250 (31)) (List.mem_of_getElem? (i := 3) rfl)) dX5_digest_60 ?_
            refine lv_lload_n hx hb dX5_digest_63 rfl (lv_at hl 1 rfl) ?_
            refine lv_lmul hx hb dX5_digest_64 ?_
            refine lv_aload_n hx hb dX5_digest_65 rfl (lv_at hl 0 rfl) ?_
            refine lv_iload_n hx hb dX5_digest_66 rfl (lv_at hl 2 rfl) ?_
            refine lv_iload hx hb dX5_digest_67 (lv_at hl 3 rfl) ?_
            obtain ⟨r28, h29, hF⟩ := ob1_some hF
            have hPc : va_P (dC, dI) vwCl ((W_Model cI a S)) H := hP
            have hDc : va_D A ((W_Model cI a S)) := hD
            have hFc := jFreeW (ws := (W_Model cI a S)) hD hS hA
            refine va_calli (va_runV (As := [.int x3, .int x4]) (rest := [.long ((31 : Int64) * x1)]) ⟨hx, hb, hml, hown, hts⟩ (c_X5_ofShape l dC dI cI a H.size _ _ _ _ h29) (cwV 2 hts gX5_digest_X5_ofShape rfl rfl rfl (by decide +kernel) ⟨Nat.le_of_ble_eq_true rfl, Nat.le_of_ble_eq_true rfl⟩) (jPreV hK hPc hDc hN (ci := 5) rfl rfl) rfl rfl hl.1 rfl (lv_room (Nat.le_of_ble_eq_true rfl)) dX5_digest_69 ⟨Nat.le_of_ble_eq_true rfl, Nat.le_of_ble_eq_true rfl⟩) hS (fun q _ h => hFc q h) hFc (fun r' u' t H locs ht hvm hw hB hz1 hk1 hS => ?_)
            subst hw
            obtain ⟨hP1, -, hD1⟩ := hB
            rw [ht] at hP1
            have hP : va_P (dC, dI) vwCl ((W_Model cI a S)) H := hP1
            have hD : va_D A ((W_Model cI a S)) := hD1.weaken (fun _ _ _ h => hFc _ h)
            refine lv_i2l (v := ((r28).toInt64)) hx hb dX5_digest_72 rfl ?_
            refine lv_ladd hx hb dX5_digest_73 ?_
            refine lv_lstore_n (lv' := [(1, .long (((31 : Int64) * x1) + ((r28).toInt64))), (0, .ref (a 0)), (3, .int x3), (4, .int x4)]) hx hb dX5_digest_74 rfl hl (by decide) rfl (fun ls hl => ?_)
            refine lv_iinc (v := (x4 + (1 : Int32))) (lv' := [(4, .int (x4 + (1 : Int32))), (1, .long (((31 : Int64) * x1) + ((r28).toInt64))), (0, .ref (a 0)), (3, .int x3)]) hx hb dX5_digest_75 hl (k := 3) rfl rfl (by decide) rfl (fun ls hl => ?_)
            refine lv_goto (tgt := 53) hx hb dX5_digest_78 (by decide) ?_
            exact ih53 _ _ _ _ _ _ hF hP hD hS _ (lv_sub hl [2, 1, 3, 0] rfl)
      refine lv_iload_n hx hb dX5_digest_45 rfl (lv_at hl 2 rfl) ?_
      refine lv_iconst (v := (2 : Int32)) hx hb dX5_digest_46 (by decide) ?_
      refine lv_icmp_ge (tgt := 228) hx hb dX5_digest_47 (by decide) (fun c30 => ?_) (fun c30 => ?_)
      · have hF := F_pos c30 hF
        refine lv_ldc2 hx hb hown (hts (Cond.constantLong RX5 250 (31)) (List.mem_of_getElem? (i := 3) rfl)) dX5_digest_228 ?_
        refine lv_lload_n hx hb dX5_digest_231 rfl (lv_at hl 1 rfl) ?_
        refine lv_lmul hx hb dX5_digest_232 ?_
        refine lv_aload_n hx hb dX5_digest_233 rfl (lv_at hl 0 rfl) ?_
        obtain ⟨r31, u32, h33, hF⟩ := ob2_some hF
        have hPc : va_P (dC, dI) vwCl ((W_Model cI a S)) H := hP
        have hDc : va_D A ((W_Model cI a S)) := hD
        have hFc := jFreeW (ws := (W_Model cI a S)) hD hS hA
        refine va_calli (va_runV (As := []) (rest := [.long ((31 : Int64) * x1)]) ⟨hx, hb, hml, hown, hts⟩ (c_X5_joinedNodes l dC dI cI a H.size _ _ _ h33) (cwV 0 hts gX5_digest_X5_joinedNodes rfl rfl rfl (by decide +kernel) ⟨Nat.le_of_ble_eq_true rfl, Nat.le_of_ble_eq_true rfl⟩) (jPreV hK hPc hDc hN (ci := 5) rfl rfl) rfl rfl hl.1 rfl (lv_room (Nat.le_of_ble_eq_true rfl)) dX5_digest_234 ⟨Nat.le_of_ble_eq_true rfl, Nat.le_of_ble_eq_true rfl⟩) hS (fun q _ h => hFc q h) hFc (fun r' u' t H locs ht hvm hw hB hz1 hk1 hS => ?_)
        obtain ⟨e1, e2⟩ := hw
        subst e1
        subst e2
        obtain ⟨hP1, -, hD1⟩ := hB
        rw [ht] at hP1
        have hP : va_P (dC, dI) vwCl ((W_Model cI a u32)) H := hP1
        have hD : va_D A ((W_Model cI a u32)) := hD1.weaken (fun _ _ _ h => hFc _ h)
        refine lv_i2l (v := ((r31).toInt64)) hx hb dX5_digest_237 rfl ?_
        refine lv_ladd hx hb dX5_digest_238 ?_
        refine lv_lstore_n (lv' := [(1, .long (((31 : Int64) * x1) + ((r31).toInt64))), (0, .ref (a 0)), (3, .int x3)]) hx hb dX5_digest_239 rfl hl (by decide) rfl (fun ls hl => ?_)
        refine lv_iconst (v := (0 : Int32)) hx hb dX5_digest_240 (by decide) ?_
        refine lv_istore_n (lv' := [(3, .int (0 : Int32)), (1, .long (((31 : Int64) * x1) + ((r31).toInt64))), (0, .ref (a 0))]) hx hb dX5_digest_241 rfl hl (by decide) rfl (fun ls hl => ?_)
        exact K242 _ _ _ _ _ _ hF hP hD hS _ (lv_sub hl [2, 1, 0] rfl)
      · have hF := F_neg c30 hF
        refine lv_iconst (v := (0 : Int32)) hx hb dX5_digest_50 (by decide) ?_
        refine lv_istore (lv' := [(4, .int (0 : Int32)), (0, .ref (a 0)), (1, .long x1), (3, .int x3)]) hx hb dX5_digest_51 hl (by decide) rfl (fun ls hl => ?_)
        exact K53 _ _ _ _ _ _ _ hF hP hD hS _ (lv_sub hl [1, 2, 3, 0] rfl)
  have KE : ∀ (H : Heap) (locs : List Loc), va_P (dC, dI) vwCl ((W_Model cI a S)) H → va_D A ((W_Model cI a S)) → va_S A s.heap H locs → W p l e (headSpec wsX5_digest ({ frames := 8, cells := 0, slots := 0, locals := 181 } : Room)).room s m ([.ref (a 0)] : List Value).toArray below meth c H locs 0 0 (MQ below (va_Ql (fun (r' : Int64) (u : S_Model) => rr = r' ∧ Y = u) (fun u : S_Model => jB (dC, dI) [(cI, .int)] A ((W_Model cI a u))) A) ([.ref (a 0)] : List Value).toArray s 0 0 A) (F0 m 0 ls []) := by
    intro H locs hP hD hS
    unfold F_X5_digest at hF
    refine lv_aload_n hx hb dX5_digest_0 rfl (lv_at hl 0 rfl) ?_
    refine lv_iconst (v := (0 : Int32)) hx hb dX5_digest_1 (by decide) ?_
    refine wp_thrown (v := (0 : Int32)) hx hb hts hinX5 hown hK hP hD hS (hts (Cond.fieldLink RX5 49 "LearnedShapesModel" "thrown" "I") (List.mem_of_getElem? (i := 1) rfl)) (rfl) (rfl) dX5_digest_2 (fun H locs hP hD hS => ?_)
    refine lv_ldc2 hx hb hown (hts (Cond.constantLong RX5 248 (2707)) (List.mem_of_getElem? (i := 2) rfl)) dX5_digest_5 ?_
    refine lv_lstore_n (lv' := [(1, .long (2707 : Int64)), (0, .ref (a 0))]) hx hb dX5_digest_8 rfl hl (by decide) rfl (fun ls hl => ?_)
    refine lv_ldc2 hx hb hown (hts (Cond.constantLong RX5 250 (31)) (List.mem_of_getElem? (i := 3) rfl)) dX5_digest_9 ?_
    refine lv_ldc2 hx hb hown (hts (Cond.constantLong RX5 250 (31)) (List.mem_of_getElem? (i := 3) rfl)) dX5_digest_12 ?_
    refine lv_ldc2 hx hb hown (hts (Cond.constantLong RX5 250 (31)) (List.mem_of_getElem? (i := 3) rfl)) dX5_digest_15 ?_
    refine lv_lload_n hx hb dX5_digest_18 rfl (lv_at hl 0 rfl) ?_
    refine lv_lmul hx hb dX5_digest_19 ?_
    refine lv_aload_n hx hb dX5_digest_20 rfl (lv_at hl 1 rfl) ?_
    refine wg_now (v := .ref (a 1)) hx hb hts hinX5 hown hK hP rfl (hts (Cond.fieldLink RX5 7 "LearnedShapesModel" "now" "[I") (List.mem_of_getElem? (i := 4) rfl)) dX5_digest_21 ?_
    refine lv_iconst (v := (0 : Int32)) hx hb dX5_digest_24 (by decide) ?_
    obtain ⟨g34, hF⟩ := og_some hF
    refine wl_now (f := (g_Model_now S)) hx hb hK hP rfl (inb_in g34) dX5_digest_25 ?_
    refine lv_i2l (v := ((((g_Model_now S) (0 : Int32).toNatClampNeg)).toInt64)) hx hb dX5_digest_26 rfl ?_
    refine lv_ladd hx hb dX5_digest_27 ?_
    refine lv_lmul hx hb dX5_digest_28 ?_
    refine lv_aload_n hx hb dX5_digest_29 rfl (lv_at hl 1 rfl) ?_
    refine wg_typed (v := .int (g_Model_typed S)) hx hb hts hinX5 hown hK hP rfl (hts (Cond.fieldLink RX5 71 "LearnedShapesModel" "typed" "I") (List.mem_of_getElem? (i := 5) rfl)) dX5_digest_30 ?_
    refine lv_i2l (v := (((g_Model_typed S)).toInt64)) hx hb dX5_digest_33 rfl ?_
    refine lv_ladd hx hb dX5_digest_34 ?_
    refine lv_lmul hx hb dX5_digest_35 ?_
    refine lv_aload_n hx hb dX5_digest_36 rfl (lv_at hl 1 rfl) ?_
    refine wg_kept (v := .int (g_Model_kept S)) hx hb hts hinX5 hown hK hP rfl (hts (Cond.fieldLink RX5 61 "LearnedShapesModel" "kept" "I") (List.mem_of_getElem? (i := 6) rfl)) dX5_digest_37 ?_
    refine lv_i2l (v := (((g_Model_kept S)).toInt64)) hx hb dX5_digest_40 rfl ?_
    refine lv_ladd hx hb dX5_digest_41 ?_
    refine lv_lstore_n (lv' := [(1, .long (((31 : Int64) * (((31 : Int64) * (((31 : Int64) * (2707 : Int64)) + ((((g_Model_now S) (0 : Int32).toNatClampNeg)).toInt64))) + (((g_Model_typed S)).toInt64))) + (((g_Model_kept S)).toInt64))), (0, .ref (a 0))]) hx hb dX5_digest_42 rfl hl (by decide) rfl (fun ls hl => ?_)
    refine lv_iconst (v := (0 : Int32)) hx hb dX5_digest_43 (by decide) ?_
    refine lv_istore_n (lv' := [(3, .int (0 : Int32)), (1, .long (((31 : Int64) * (((31 : Int64) * (((31 : Int64) * (2707 : Int64)) + ((((g_Model_now S) (0 : Int32).toNatClampNeg)).toInt64))) + (((g_Model_typed S)).toInt64))) + (((g_Model_kept S)).toInt64))), (0, .ref (a 0))]) hx hb dX5_digest_44 rfl hl (by decide) rfl (fun ls hl => ?_)
    exact K45 _ _ _ _ _ _ hF hP hD hS _ (lv_sub hl [2, 1, 0] rfl)
  exact KE _ _ hP hD hS
