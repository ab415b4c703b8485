/-! ===== the law: what its walk stands on ===== -/
def LCX (p : Program) (l : Launch) (s : State) (m : MethodId) (c : Code) (dC : Nat → ClassId) (dI : Nat → Nat → Nat) (cI cS : ClassId) (b L : Nat) (xs : Nat → Int32) : Prop :=
  p.tables.exec = Jvm.exec ∧ c.code = code ∧ c.maxLocals = 14 ∧ s.vm.findClass RL = some m.cls ∧ (∀ w ∈ wsL_law, w.before #[Value.ref b] s = true) ∧ va_X b L xs s s.heap ∧ b < s.heap.size ∧ va_K (dC, dI) vwCl [(cI, .int), (cS, .object "LearnedShapes$State")] s ∧ EN s ∧ vx_Zq Bundle.tN "UNASSIGNED_STACK" Bundle.steD (fun q : Nat => s.heap.size ≤ q) s s.heap ∧ vx_Zq Bundle.tN "SUPPRESSED_SENTINEL" Bundle.listD (fun q : Nat => s.heap.size ≤ q) s s.heap ∧ l.stackTraces = false
set_option maxHeartbeats 8000000 in
set_option maxRecDepth 100000 in
theorem law_walk {p : Program} {l : Launch} {e : Env} {s : State} {m : MethodId} {below : List Frame} {meth : Method} {c : Code} {dC : Nat → ClassId} {dI : Nat → Nat → Nat} {cI cS : ClassId} {bs L : Nat} {xs : Nat → Int32} (C0 : LCX p l s m c dC dI cI cS bs L xs) {a : Nat → Nat} {Q : State → Prop} (KR : ∀ (H : Heap) (locs : List Loc) (n k : Nat) (ls : Array Slot), va_S (fun q : Nat => s.heap.size ≤ q) s.heap H locs → n ≤ 600130 → k ≤ 7301080 → W p l e room_1 s m #[Value.ref bs] below meth c H locs n k Q (F0 m 505 ls [.int 1])) (S : S_LS) (Z : Nat → S_State) (hF : F_L_law L xs S Z = some true) (q : Nat → Nat → Nat) (H : Heap) (locs : List Loc) (n0 k0 : Nat) (hn0 : n0 ≤ 500000) (hk0 : k0 ≤ 7000000) (hP : va_P (dC, dI) vwCl (W_Full cI cS a q S Z) H) (hD : va_D (fun q : Nat => s.heap.size ≤ q) (W_Full cI cS a q S Z)) (hS : va_S (fun q : Nat => s.heap.size ≤ q) s.heap H locs) (ls : Array Slot) (hl : lv_has ls 14 [(1, .ref (a 0)), (0, .ref bs)]) : W p l e room_1 s m #[Value.ref bs] below meth c H locs n0 k0 Q (F0 m 8 ls []) := by
  obtain ⟨hx, hb, hml, hown, hts, hX, hbl, hK, hN, hU, hSN, hl0⟩ := C0
  have hKi : va_K (dC, dI) vwCl [(cI, .int)] s := hK.sub [0] rfl
  have hbA : ¬ (fun q : Nat => s.heap.size ≤ q) bs := Nat.not_le.mpr hbl
  have hA : ∀ q : Nat, s.heap.size ≤ q → (fun q : Nat => s.heap.size ≤ q) q := fun _ h => h
  generalize hAe : (fun q : Nat => s.heap.size ≤ q) = A at hD hU hSN hS hA hbA KR
  have K34 : ∀ (n34 : Nat) (q : Nat → Nat → Nat) (n0 k0 : Nat) (S : S_LS) (Z : Nat → S_State) (x2 : Bool) (x3 : Int32) (x4 : Int32) (H : Heap) (locs : List Loc), n0 + n34 ≤ 600100 → k0 + 6 * n34 ≤ 7301000 → F_L_law_34 L xs n34 S Z x2 x3 x4 = some true → va_P (dC, dI) vwCl (List.flatten [W_LS cI a S, W_Sav cS (a 13) [((q 0) 0), ((q 1) 0), ((q 2) 0), ((q 3) 0), ((q 4) 0), ((q 5) 0)], W_State cI (q 0) (Z 0), W_State cI (q 1) (Z 1), W_State cI (q 2) (Z 2), W_State cI (q 3) (Z 3), W_State cI (q 4) (Z 4), W_State cI (q 5) (Z 5)]) H → va_D A (List.flatten [W_LS cI a S, W_Sav cS (a 13) [((q 0) 0), ((q 1) 0), ((q 2) 0), ((q 3) 0), ((q 4) 0), ((q 5) 0)], W_State cI (q 0) (Z 0), W_State cI (q 1) (Z 1), W_State cI (q 2) (Z 2), W_State cI (q 3) (Z 3), W_State cI (q 4) (Z 4), W_State cI (q 5) (Z 5)]) → va_S A s.heap H locs → ∀ ls : Array Slot, lv_has ls 14 [(0, .ref bs), (1, .ref (a 0)), (2, .int (b2i x2)), (3, .int x3), (4, .int x4)] → W p l e room_1 s m #[Value.ref bs] below meth c H locs n0 k0 Q (F0 m 34 ls []) := by
    intro n34
    induction n34 with
    | zero => intro q n0 k0 S Z x2 x3 x4 H locs _ _ hF; exact nomatch hF
    | succ n34 ih34 =>
      have K474 : ∀ (q : Nat → Nat → Nat) (n0 k0 : Nat) (S : S_LS) (Z : Nat → S_State) (x3 : Int32) (x4 : Int32) (H : Heap) (locs : List Loc), n0 + n34 ≤ 600100 → k0 + 6 * n34 ≤ 7301000 → F_L_law_474 L xs (F_L_law_34 L xs n34) S Z x3 x4 = some true → va_P (dC, dI) vwCl (List.flatten [W_LS cI a S, W_Sav cS (a 13) [((q 0) 0), ((q 1) 0), ((q 2) 0), ((q 3) 0), ((q 4) 0), ((q 5) 0)], W_State cI (q 0) (Z 0), W_State cI (q 1) (Z 1), W_State cI (q 2) (Z 2), W_State cI (q 3) (Z 3), W_State cI (q 4) (Z 4), W_State cI (q 5) (Z 5)]) H → va_D A (List.flatten [W_LS cI a S, W_Sav cS (a 13) [((q 0) 0), ((q 1) 0), ((q 2) 0), ((q 3) 0), ((q 4) 0), ((q 5) 0)], W_State cI (q 0) (Z 0), W_State cI (q 1) (Z 1), W_State cI (q 2) (Z 2), W_State cI (q 3) (Z 3), W_State cI (q 4) (Z 4), W_State cI (q 5) (Z 5)]) → va_S A s.heap H locs → ∀ ls : Array Slot, lv_has ls 14 [(0, .ref bs), (1, .ref (a 0)), (3, .int x3), (4, .int x4)] → W p l e room_1 s m #[Value.ref bs] below meth c H locs n0 k0 Q (F0 m 474 ls []) := by
        intro q n0 k0 S Z x3 x4 H locs hn0 hk0 hF hP hD hS ls hl
        have hn : n0 ≤ 600130 := by omega
        have hk : k0 ≤ 7301080 := by omega
        have hn9 : n0 + 1 ≤ 600130 := by omega
        have hk9 : k0 + 6 ≤ 7301080 := by omega
        unfold F_L_law_474 at hF
        refine lv_aload_n hx hb dL_law_474 rfl (lv_at hl 1 rfl) ?_
        refine lv_iconst (v := (1 : Int32)) hx hb dL_law_475 (by decide) ?_
        refine lv_iconst (v := (1 : Int32)) hx hb dL_law_476 (by decide) ?_
        obtain ⟨r1, h2, hF⟩ := ob1_some hF
        have h2 := okr_some h2
        have hPc := hP.sub (ws' := (W_LS cI a S)) [0, 1, 2, 3, 4, 5, 6, 7, 8, 9, 10, 11, 12] rfl
        have hDc := hD.sub (ws' := (W_LS cI a S)) [0, 1, 2, 3, 4, 5, 6, 7, 8, 9, 10, 11, 12] (by decide) rfl
        have hFc := va_free (wc := (W_LS cI a S)) hD hS hA [0, 1, 2, 3, 4, 5, 6, 7, 8, 9, 10, 11, 12] rfl
        refine va_calli (va_runV (As := [.int (1 : Int32), .int (1 : Int32)]) (rest := []) ⟨hx, hb, hml, hown, hts⟩ (c_X4_shape_ok l dC dI cI a H.size _ _ _ _ h2) (cwV 2 hts gL_law_X4_shape rfl rfl rfl (by decide +kernel) ⟨Nat.le_of_ble_eq_true rfl, Nat.le_of_ble_eq_true rfl⟩) (jPreV hKi hPc hDc hN (ci := 4) rfl rfl) rfl rfl hl.1 rfl (lv_room (Nat.le_of_ble_eq_true rfl)) dL_law_477 ⟨hn, hk⟩) hS (fun q _ h => hFc q h) hFc (fun r' u' t H locs ht hvm hw hB hz1 hk1 hS => ?_)
        subst hw
        obtain ⟨hP1, -, hD1⟩ := hB
        rw [ht] at hP1
        obtain ⟨hP, hD⟩ := jJoinF (wa := (W_LS cI a S)) (wb := List.flatten [W_Sav cS (a 13) [((q 0) 0), ((q 1) 0), ((q 2) 0), ((q 3) 0), ((q 4) 0), ((q 5) 0)], W_State cI (q 0) (Z 0), W_State cI (q 1) (Z 1), W_State cI (q 2) (Z 2), W_State cI (q 3) (Z 3), W_State cI (q 4) (Z 4), W_State cI (q 5) (Z 5)]) (wc := (W_LS cI a S)) (w1 := (W_LS cI a S)) (ws' := (W_LS cI a S)) hP hD [0, 1, 2, 3, 4, 5, 6, 7, 8, 9, 10, 11, 12] [] [0, 1, 2, 3, 4, 5, 6, 7, 8, 9, 10, 11, 12] rfl rfl (by decide) (by decide) hk1 hFc hP1 hD1 (by decide) rfl
        have hP : va_P (dC, dI) vwCl (List.flatten [W_LS cI a S, W_Sav cS (a 13) [((q 0) 0), ((q 1) 0), ((q 2) 0), ((q 3) 0), ((q 4) 0), ((q 5) 0)], W_State cI (q 0) (Z 0), W_State cI (q 1) (Z 1), W_State cI (q 2) (Z 2), W_State cI (q 3) (Z 3), W_State cI (q 4) (Z 4), W_State cI (q 5) (Z 5)]) H := hP
        have hD : va_D A (List.flatten [W_LS cI a S, W_Sav cS (a 13) [((q 0) 0), ((q 1) 0), ((q 2) 0), ((q 3) 0), ((q 4) 0), ((q 5) 0)], W_State cI (q 0) (Z 0), W_State cI (q 1) (Z 1), W_State cI (q 2) (Z 2), W_State cI (q 3) (Z 3), W_State cI (q 4) (Z 4), W_State cI (q 5) (Z 5)]) := hD
        refine lv_if_gt (tgt := 492) hx hb dL_law_480 (by decide) (fun c3 => ?_) (fun c3 => ?_)
        · have hF := F_pos c3 hF
          refine lv_iconst (v := (1 : Int32)) hx hb dL_law_492 (by decide) ?_
          refine lv_goto (tgt := 497) hx hb dL_law_493 (by decide) ?_
          refine lv_istore_n (lv' := [(2, .int (1 : Int32)), (0, .ref bs), (1, .ref (a 0)), (3, .int x3), (4, .int x4)]) hx hb dL_law_497 rfl hl (by decide) rfl (fun ls hl => ?_)
          refine lv_iinc (v := (x4 + (1 : Int32))) (lv' := [(4, .int (x4 + (1 : Int32))), (2, .int (1 : Int32)), (0, .ref bs), (1, .ref (a 0)), (3, .int x3)]) hx hb dL_law_498 hl (k := 4) rfl rfl (by decide) rfl (fun ls hl => ?_)
          refine lv_goto (tgt := 34) hx hb dL_law_501 (by decide) ?_
          exact ih34 _ _ _ _ _ _ _ _ _ _ (by omega) (by omega) hF hP hD hS _ (lv_sub hl [2, 3, 1, 4, 0] rfl)
        · have hF := F_neg c3 hF
          refine lv_aload_n hx hb dL_law_483 rfl (lv_at hl 1 rfl) ?_
          refine lv_iconst (v := (0 : Int32)) hx hb dL_law_484 (by decide) ?_
          obtain ⟨r4, h5, hF⟩ := ob1_some hF
          have h5 := okr_some h5
          have hPc := hP.sub (ws' := (W_LS cI a S)) [0, 1, 2, 3, 4, 5, 6, 7, 8, 9, 10, 11, 12] rfl
          have hDc := hD.sub (ws' := (W_LS cI a S)) [0, 1, 2, 3, 4, 5, 6, 7, 8, 9, 10, 11, 12] (by decide) rfl
          have hFc := va_free (wc := (W_LS cI a S)) hD hS hA [0, 1, 2, 3, 4, 5, 6, 7, 8, 9, 10, 11, 12] rfl
          refine va_calli (va_runV (As := [.int (0 : Int32)]) (rest := []) ⟨hx, hb, hml, hown, hts⟩ (c_X4_covers_ok l dC dI cI a H.size _ _ _ h5) (cwV 1 hts gL_law_X4_covers rfl rfl rfl (by decide +kernel) ⟨Nat.le_of_ble_eq_true rfl, Nat.le_of_ble_eq_true rfl⟩) (jPreV hKi hPc hDc hN (ci := 4) rfl rfl) rfl rfl hl.1 rfl (lv_room (Nat.le_of_ble_eq_true rfl)) dL_law_485 ⟨hn, hk⟩) hS (fun q _ h => hFc q h) hFc (fun r' u' t H locs ht hvm hw hB hz1 hk1 hS => ?_)
          subst hw
          obtain ⟨hP1, -, hD1⟩ := hB
          rw [ht] at hP1
          obtain ⟨hP, hD⟩ := jJoinF (wa := (W_LS cI a S)) (wb := List.flatten [W_Sav cS (a 13) [((q 0) 0), ((q 1) 0), ((q 2) 0), ((q 3) 0), ((q 4) 0), ((q 5) 0)], W_State cI (q 0) (Z 0), W_State cI (q 1) (Z 1), W_State cI (q 2) (Z 2), W_State cI (q 3) (Z 3), W_State cI (q 4) (Z 4), W_State cI (q 5) (Z 5)]) (wc := (W_LS cI a S)) (w1 := (W_LS cI a S)) (ws' := (W_LS cI a S)) hP hD [0, 1, 2, 3, 4, 5, 6, 7, 8, 9, 10, 11, 12] [] [0, 1, 2, 3, 4, 5, 6, 7, 8, 9, 10, 11, 12] rfl rfl (by decide) (by decide) hk1 hFc hP1 hD1 (by decide) rfl
          have hP : va_P (dC, dI) vwCl (List.flatten [W_LS cI a S, W_Sav cS (a 13) [((q 0) 0), ((q 1) 0), ((q 2) 0), ((q 3) 0), ((q 4) 0), ((q 5) 0)], W_State cI (q 0) (Z 0), W_State cI (q 1) (Z 1), W_State cI (q 2) (Z 2), W_State cI (q 3) (Z 3), W_State cI (q 4) (Z 4), W_State cI (q 5) (Z 5)]) H := hP
          have hD : va_D A (List.flatten [W_LS cI a S, W_Sav cS (a 13) [((q 0) 0), ((q 1) 0), ((q 2) 0), ((q 3) 0), ((q 4) 0), ((q 5) 0)], W_State cI (q 0) (Z 0), W_State cI (q 1) (Z 1), W_State cI (q 2) (Z 2), W_State cI (q 3) (Z 3), W_State cI (q 4) (Z 4), W_State cI (q 5) (Z 5)]) := hD
          refine lv_iconst (v := (1 : Int32)) hx hb dL_law_488 (by decide) ?_
          refine lv_icmp_ne (tgt := 496) hx hb dL_law_489 (by decide) (fun c6 => ?_) (fun c6 => ?_)
          · have hF := F_neg c6 hF
            refine lv_iconst (v := (0 : Int32)) hx hb dL_law_496 (by decide) ?_
            refine lv_istore_n (lv' := [(2, .int (0 : Int32)), (0, .ref bs), (1, .ref (a 0)), (3, .int x3), (4, .int x4)]) hx hb dL_law_497 rfl hl (by decide) rfl (fun ls hl => ?_)
            refine lv_iinc (v := (x4 + (1 : Int32))) (lv' := [(4, .int (x4 + (1 : Int32))), (2, .int (0 : Int32)), (0, .ref bs), (1, .ref (a 0)), (3, .int x3)]) hx hb dL_law_498 hl (k := 4) rfl rfl (by decide) rfl (fun ls hl => ?_)
            refine lv_goto (tgt := 34) hx hb dL_law_501 (by decide) ?_
            exact ih34 _ _ _ _ _ _ _ _ _ _ (by omega) (by omega) hF hP hD hS _ (lv_sub hl [2, 3, 1, 4, 0] rfl)
          · have hF := F_pos c6 hF
            refine lv_iconst (v := (1 : Int32)) hx hb dL_law_492 (by decide) ?_
            refine lv_goto (tgt := 497) hx hb dL_law_493 (by decide) ?_
            refine lv_istore_n (lv' := [(2, .int (1 : Int32)), (0, .ref bs), (1, .ref (a 0)), (3, .int x3), (4, .int x4)]) hx hb dL_law_497 rfl hl (by decide) rfl (fun ls hl => ?_)
            refine lv_iinc (v := (x4 + (1 : Int32))) (lv' := [(4, .int (x4 + (1 : Int32))), (2, .int (1 : Int32)), (0, .ref bs), (1, .ref (a 0)), (3, .int x3)]) hx hb dL_law_498 hl (k := 4) rfl rfl (by decide) rfl (fun ls hl => ?_)
            refine lv_goto (tgt := 34) hx hb dL_law_501 (by decide) ?_
            exact ih34 _ _ _ _ _ _ _ _ _ _ (by omega) (by omega) hF hP hD hS _ (lv_sub hl [2, 3, 1, 4, 0] rfl)
      have K451 : ∀ (q : Nat → Nat → Nat) (n0 k0 : Nat) (S : S_LS) (Z : Nat → S_State) (x3 : Int32) (x4 : Int32) (t0 : Bool) (H : Heap) (locs : List Loc), n0 + n34 ≤ 600100 → k0 + 6 * n34 ≤ 7301000 → F_L_law_451 L xs (F_L_law_34 L xs n34) S Z x3 x4 t0 = some true → va_P (dC, dI) vwCl (List.flatten [W_LS cI a S, W_Sav cS (a 13) [((q 0) 0), ((q 1) 0), ((q 2) 0), ((q 3) 0), ((q 4) 0), ((q 5) 0)], W_State cI (q 0) (Z 0), W_State cI (q 1) (Z 1), W_State cI (q 2) (Z 2), W_State cI (q 3) (Z 3), W_State cI (q 4) (Z 4), W_State cI (q 5) (Z 5)]) H → va_D A (List.flatten [W_LS cI a S, W_Sav cS (a 13) [((q 0) 0), ((q 1) 0), ((q 2) 0), ((q 3) 0), ((q 4) 0), ((q 5) 0)], W_State cI (q 0) (Z 0), W_State cI (q 1) (Z 1), W_State cI (q 2) (Z 2), W_State cI (q 3) (Z 3), W_State cI (q 4) (Z 4), W_State cI (q 5) (Z 5)]) → va_S A s.heap H locs → ∀ ls : Array Slot, lv_has ls 14 [(0, .ref bs), (1, .ref (a 0)), (3, .int x3), (4, .int x4)] → W p l e room_1 s m #[Value.ref bs] below meth c H locs n0 k0 Q (F0 m 451 ls [.int (b2i t0)]) := by
        intro q n0 k0 S Z x3 x4 t0 H locs hn0 hk0 hF hP hD hS ls hl
        have hn : n0 ≤ 600130 := by omega
        have hk : k0 ≤ 7301080 := by omega
        have hn9 : n0 + 1 ≤ 600130 := by omega
        have hk9 : k0 + 6 ≤ 7301080 := by omega
        unfold F_L_law_451 at hF
        refine lv_istore_n (lv' := [(2, .int (b2i t0)), (0, .ref bs), (1, .ref (a 0)), (3, .int x3), (4, .int x4)]) hx hb dL_law_451 rfl hl (by decide) rfl (fun ls hl => ?_)
        refine lv_iload_n hx hb dL_law_452 rfl (lv_at hl 0 rfl) ?_
        refine lv_if_eq (tgt := 496) hx hb dL_law_453 (by decide) (fun c7 => ?_) (fun c7 => ?_)
        · have hF := F_pos c7 hF
          refine lv_iconst (v := (0 : Int32)) hx hb dL_law_496 (by decide) ?_
          refine lv_istore_n (lv' := [(2, .int (0 : Int32)), (0, .ref bs), (1, .ref (a 0)), (3, .int x3), (4, .int x4)]) hx hb dL_law_497 rfl hl (by decide) rfl (fun ls hl => ?_)
          refine lv_iinc (v := (x4 + (1 : Int32))) (lv' := [(4, .int (x4 + (1 : Int32))), (2, .int (0 : Int32)), (0, .ref bs), (1, .ref (a 0)), (3, .int x3)]) hx hb dL_law_498 hl (k := 4) rfl rfl (by decide) rfl (fun ls hl => ?_)
          refine lv_goto (tgt := 34) hx hb dL_law_501 (by decide) ?_
          exact ih34 _ _ _ _ _ _ _ _ _ _ (by omega) (by omega) hF hP hD hS _ (lv_sub hl [2, 3, 1, 4, 0] rfl)
        · have hF := F_neg c7 hF
          refine lv_aload_n hx hb dL_law_456 rfl (lv_at hl 2 rfl) ?_
          refine lv_iconst (v := (0 : Int32)) hx hb dL_law_457 (by decide) ?_
          refine lv_iconst (v := (1 : Int32)) hx hb dL_law_458 (by decide) ?_
          obtain ⟨r8, h9, hF⟩ := ob1_some hF
          have h9 := okr_some h9
          have hPc := hP.sub (ws' := (W_LS cI a S)) [0, 1, 2, 3, 4, 5, 6, 7, 8, 9, 10, 11, 12] rfl
          have hDc := hD.sub (ws' := (W_LS cI a S)) [0, 1, 2, 3, 4, 5, 6, 7, 8, 9, 10, 11, 12] (by decide) rfl
          have hFc := va_free (wc := (W_LS cI a S)) hD hS hA [0, 1, 2, 3, 4, 5, 6, 7, 8, 9, 10, 11, 12] rfl
          refine va_calli (va_runV (As := [.int (0 : Int32), .int (1 : Int32)]) (rest := []) ⟨hx, hb, hml, hown, hts⟩ (c_X4_shape_ok l dC dI cI a H.size _ _ _ _ h9) (cwV 2 hts gL_law_X4_shape rfl rfl rfl (by decide +kernel) ⟨Nat.le_of_ble_eq_true rfl, Nat.le_of_ble_eq_true rfl⟩) (jPreV hKi hPc hDc hN (ci := 4) rfl rfl) rfl rfl hl.1 rfl (lv_room (Nat.le_of_ble_eq_true rfl)) dL_law_459 ⟨hn, hk⟩) hS (fun q _ h => hFc q h) hFc (fun r' u' t H locs ht hvm hw hB hz1 hk1 hS => ?_)
          subst hw
          obtain ⟨hP1, -, hD1⟩ := hB
          rw [ht] at hP1
          obtain ⟨hP, hD⟩ := jJoinF (wa := (W_LS cI a S)) (wb := List.flatten [W_Sav cS (a 13) [((q 0) 0), ((q 1) 0), ((q 2) 0), ((q 3) 0), ((q 4) 0), ((q 5) 0)], W_State cI (q 0) (Z 0), W_State cI (q 1) (Z 1), W_State cI (q 2) (Z 2), W_State cI (q 3) (Z 3), W_State cI (q 4) (Z 4), W_State cI (q 5) (Z 5)]) (wc := (W_LS cI a S)) (w1 := (W_LS cI a S)) (ws' := (W_LS cI a S)) hP hD [0, 1, 2, 3, 4, 5, 6, 7, 8, 9, 10, 11, 12] [] [0, 1, 2, 3, 4, 5, 6, 7, 8, 9, 10, 11, 12] rfl rfl (by decide) (by decide) hk1 hFc hP1 hD1 (by decide) rfl
          have hP : va_P (dC, dI) vwCl (List.flatten [W_LS cI a S, W_Sav cS (a 13) [((q 0) 0), ((q 1) 0), ((q 2) 0), ((q 3) 0), ((q 4) 0), ((q 5) 0)], W_State cI (q 0) (Z 0), W_State cI (q 1) (Z 1), W_State cI (q 2) (Z 2), W_State cI (q 3) (Z 3), W_State cI (q 4) (Z 4), W_State cI (q 5) (Z 5)]) H := hP
          have hD : va_D A (List.flatten [W_LS cI a S, W_Sav cS (a 13) [((q 0) 0), ((q 1) 0), ((q 2) 0), ((q 3) 0), ((q 4) 0), ((q 5) 0)], W_State cI (q 0) (Z 0), W_State cI (q 1) (Z 1), W_State cI (q 2) (Z 2), W_State cI (q 3) (Z 3), W_State cI (q 4) (Z 4), W_State cI (q 5) (Z 5)]) := hD
          refine lv_if_gt (tgt := 474) hx hb dL_law_462 (by decide) (fun c10 => ?_) (fun c10 => ?_)
          · have hF := F_pos c10 hF
            exact K474 _ _ _ _ _ _ _ _ _ (by omega) (by omega) hF hP hD hS _ (lv_sub hl [1, 2, 3, 4] rfl)
          · have hF := F_neg c10 hF
            refine lv_aload_n hx hb dL_law_465 rfl (lv_at hl 2 rfl) ?_
            refine lv_iconst (v := (1 : Int32)) hx hb dL_law_466 (by decide) ?_
            obtain ⟨r11, h12, hF⟩ := ob1_some hF
            have h12 := okr_some h12
            have hPc := hP.sub (ws' := (W_LS cI a S)) [0, 1, 2, 3, 4, 5, 6, 7, 8, 9, 10, 11, 12] rfl
            have hDc := hD.sub (ws' := (W_LS cI a S)) [0, 1, 2, 3, 4, 5, 6, 7, 8, 9, 10, 11, 12] (by decide) rfl
            have hFc := va_free (wc := (W_LS cI a S)) hD hS hA [0, 1, 2, 3, 4, 5, 6, 7, 8, 9, 10, 11, 12] rfl
            refine va_calli (va_runV (As := [.int (1 : Int32)]) (rest := []) ⟨hx, hb, hml, hown, hts⟩ (c_X4_covers_ok l dC dI cI a H.size _ _ _ h12) (cwV 1 hts gL_law_X4_covers rfl rfl rfl (by decide +kernel) ⟨Nat.le_of_ble_eq_true rfl, Nat.le_of_ble_eq_true rfl⟩) (jPreV hKi hPc hDc hN (ci := 4) rfl rfl) rfl rfl hl.1 rfl (lv_room (Nat.le_of_ble_eq_true rfl)) dL_law_467 ⟨hn, hk⟩) hS (fun q _ h => hFc q h) hFc (fun r' u' t H locs ht hvm hw hB hz1 hk1 hS => ?_)
            subst hw
            obtain ⟨hP1, -, hD1⟩ := hB
            rw [ht] at hP1
            obtain ⟨hP, hD⟩ := jJoinF (wa := (W_LS cI a S)) (wb := List.flatten [W_Sav cS (a 13) [((q 0) 0), ((q 1) 0), ((q 2) 0), ((q 3) 0), ((q 4) 0), ((q 5) 0)], W_State cI (q 0) (Z 0), W_State cI (q 1) (Z 1), W_State cI (q 2) (Z 2), W_State cI (q 3) (Z 3), W_State cI (q 4) (Z 4), W_State cI (q 5) (Z 5)]) (wc := (W_LS cI a S)) (w1 := (W_LS cI a S)) (ws' := (W_LS cI a S)) hP hD [0, 1, 2, 3, 4, 5, 6, 7, 8, 9, 10, 11, 12] [] [0, 1, 2, 3, 4, 5, 6, 7, 8, 9, 10, 11, 12] rfl rfl (by decide) (by decide) hk1 hFc hP1 hD1 (by decide) rfl
            have hP : va_P (dC, dI) vwCl (List.flatten [W_LS cI a S, W_Sav cS (a 13) [((q 0) 0), ((q 1) 0), ((q 2) 0), ((q 3) 0), ((q 4) 0), ((q 5) 0)], W_State cI (q 0) (Z 0), W_State cI (q 1) (Z 1), W_State cI (q 2) (Z 2), W_State cI (q 3) (Z 3), W_State cI (q 4) (Z 4), W_State cI (q 5) (Z 5)]) H := hP
            have hD : va_D A (List.flatten [W_LS cI a S, W_Sav cS (a 13) [((q 0) 0), ((q 1) 0), ((q 2) 0), ((q 3) 0), ((q 4) 0), ((q 5) 0)], W_State cI (q 0) (Z 0), W_State cI (q 1) (Z 1), W_State cI (q 2) (Z 2), W_State cI (q 3) (Z 3), W_State cI (q 4) (Z 4), W_State cI (q 5) (Z 5)]) := hD
            refine lv_iconst (v := (1 : Int32)) hx hb dL_law_470 (by decide) ?_
            refine lv_icmp_ne (tgt := 496) hx hb dL_law_471 (by decide) (fun c13 => ?_) (fun c13 => ?_)
            · have hF := F_neg c13 hF
              refine lv_iconst (v := (0 : Int32)) hx hb dL_law_496 (by decide) ?_
              refine lv_istore_n (lv' := [(2, .int (0 : Int32)), (0, .ref bs), (1, .ref (a 0)), (3, .int x3), (4, .int x4)]) hx hb dL_law_497 rfl hl (by decide) rfl (fun ls hl => ?_)
              refine lv_iinc (v := (x4 + (1 : Int32))) (lv' := [(4, .int (x4 + (1 : Int32))), (2, .int (0 : Int32)), (0, .ref bs), (1, .ref (a 0)), (3, .int x3)]) hx hb dL_law_498 hl (k := 4) rfl rfl (by decide) rfl (fun ls hl => ?_)
              refine lv_goto (tgt := 34) hx hb dL_law_501 (by decide) ?_
              exact ih34 _ _ _ _ _ _ _ _ _ _ (by omega) (by omega) hF hP hD hS _ (lv_sub hl [2, 3, 1, 4, 0] rfl)
            · have hF := F_pos c13 hF
              exact K474 _ _ _ _ _ _ _ _ _ (by omega) (by omega) hF hP hD hS _ (lv_sub hl [1, 2, 3, 4] rfl)
      have K393 : ∀ (q : Nat → Nat → Nat) (n0 k0 : Nat) (S : S_LS) (Z : Nat → S_State) (x2 : Bool) (x3 : Int32) (x4 : Int32) (x7 : Int32) (x8 : Int32) (x9 : Int32) (H : Heap) (locs : List Loc), n0 + n34 ≤ 600100 → k0 + 6 * n34 ≤ 7301000 → F_L_law_393 L xs (F_L_law_34 L xs n34) S Z x2 x3 x4 x7 x8 x9 = some true → va_P (dC, dI) vwCl (List.flatten [W_LS cI a S, W_Sav cS (a 13) [((q 0) 0), ((q 1) 0), ((q 2) 0), ((q 3) 0), ((q 4) 0), ((q 5) 0)], W_State cI (q 0) (Z 0), W_State cI (q 1) (Z 1), W_State cI (q 2) (Z 2), W_State cI (q 3) (Z 3), W_State cI (q 4) (Z 4), W_State cI (q 5) (Z 5)]) H → va_D A (List.flatten [W_LS cI a S, W_Sav cS (a 13) [((q 0) 0), ((q 1) 0), ((q 2) 0), ((q 3) 0), ((q 4) 0), ((q 5) 0)], W_State cI (q 0) (Z 0), W_State cI (q 1) (Z 1), W_State cI (q 2) (Z 2), W_State cI (q 3) (Z 3), W_State cI (q 4) (Z 4), W_State cI (q 5) (Z 5)]) → va_S A s.heap H locs → ∀ ls : Array Slot, lv_has ls 14 [(0, .ref bs), (1, .ref (a 0)), (2, .int (b2i x2)), (3, .int x3), (4, .int x4), (7, .int x7), (8, .int x8), (9, .int x9)] → W p l e room_1 s m #[Value.ref bs] below meth c H locs n0 k0 Q (F0 m 393 ls []) := by
        intro q n0 k0 S Z x2 x3 x4 x7 x8 x9 H locs hn0 hk0 hF hP hD hS ls hl
        have hn : n0 ≤ 600130 := by omega
        have hk : k0 ≤ 7301080 := by omega
        have hn9 : n0 + 1 ≤ 600130 := by omega
        have hk9 : k0 + 6 ≤ 7301080 := by omega
        unfold F_L_law_393 at hF
        refine lv_iload_n hx hb dL_law_393 rfl (lv_at hl 2 rfl) ?_
        refine lv_if_eq (tgt := 450) hx hb dL_law_394 (by decide) (fun c14 => ?_) (fun c14 => ?_)
        · have hF := F_pos c14 hF
          refine lv_iconst (v := (0 : Int32)) hx hb dL_law_450 (by decide) ?_
          exact K451 _ _ _ _ _ _ _ _ _ _ (by omega) (by omega) hF hP hD hS _ (lv_sub hl [0, 1, 3, 4] rfl)
        · have hF := F_neg c14 hF
          refine lv_iload hx hb dL_law_397 (lv_at hl 7 rfl) ?_
          refine lv_if_ge (tgt := 430) hx hb dL_law_399 (by decide) (fun c15 => ?_) (fun c15 => ?_)
          · have hF := F_pos c15 hF
            refine lv_aload_n hx hb dL_law_430 rfl (lv_at hl 1 rfl) ?_
            refine lv_iconst (v := (0 : Int32)) hx hb dL_law_431 (by decide) ?_
            obtain ⟨r16, h17, hF⟩ := ob1_some hF
            have hPc := hP.sub (ws' := (W_LS cI a S)) [0, 1, 2, 3, 4, 5, 6, 7, 8, 9, 10, 11, 12] rfl
            have hDc := hD.sub (ws' := (W_LS cI a S)) [0, 1, 2, 3, 4, 5, 6, 7, 8, 9, 10, 11, 12] (by decide) rfl
            have hFc := va_free (wc := (W_LS cI a S)) hD hS hA [0, 1, 2, 3, 4, 5, 6, 7, 8, 9, 10, 11, 12] rfl
            refine va_calli (va_runS (As := [.ref (a 0), .int (0 : Int32)]) (rest := []) ⟨hx, hb, hml, hown, hts⟩ (c_L_shape l dC dI cI a H.size _ _ _ h17) (va_cwS 2 hts gL_law_L_shape rfl rfl rfl (by decide +kernel) ⟨Nat.le_of_ble_eq_true rfl, Nat.le_of_ble_eq_true rfl⟩) (jPreS hKi hPc hDc hN) rfl rfl hl.1 rfl (lv_room (Nat.le_of_ble_eq_true rfl)) dL_law_432 ⟨hn, hk⟩) hS (fun q _ h => hFc q h) hFc (fun r' u' t H locs ht hvm hw hB hz1 hk1 hS => ?_)
            subst hw
            obtain ⟨hP1, -, hD1⟩ := hB
            rw [ht] at hP1
            obtain ⟨hP, hD⟩ := jJoinF (wa := (W_LS cI a S)) (wb := List.flatten [W_Sav cS (a 13) [((q 0) 0), ((q 1) 0), ((q 2) 0), ((q 3) 0), ((q 4) 0), ((q 5) 0)], W_State cI (q 0) (Z 0), W_State cI (q 1) (Z 1), W_State cI (q 2) (Z 2), W_State cI (q 3) (Z 3), W_State cI (q 4) (Z 4), W_State cI (q 5) (Z 5)]) (wc := (W_LS cI a S)) (w1 := (W_LS cI a S)) (ws' := (W_LS cI a S)) hP hD [0, 1, 2, 3, 4, 5, 6, 7, 8, 9, 10, 11, 12] [] [0, 1, 2, 3, 4, 5, 6, 7, 8, 9, 10, 11, 12] rfl rfl (by decide) (by decide) hk1 hFc hP1 hD1 (by decide) rfl
            have hP : va_P (dC, dI) vwCl (List.flatten [W_LS cI a S, W_Sav cS (a 13) [((q 0) 0), ((q 1) 0), ((q 2) 0), ((q 3) 0), ((q 4) 0), ((q 5) 0)], W_State cI (q 0) (Z 0), W_State cI (q 1) (Z 1), W_State cI (q 2) (Z 2), W_State cI (q 3) (Z 3), W_State cI (q 4) (Z 4), W_State cI (q 5) (Z 5)]) H := hP
            have hD : va_D A (List.flatten [W_LS cI a S, W_Sav cS (a 13) [((q 0) 0), ((q 1) 0), ((q 2) 0), ((q 3) 0), ((q 4) 0), ((q 5) 0)], W_State cI (q 0) (Z 0), W_State cI (q 1) (Z 1), W_State cI (q 2) (Z 2), W_State cI (q 3) (Z 3), W_State cI (q 4) (Z 4), W_State cI (q 5) (Z 5)]) := hD
            refine lv_if_eq (tgt := 450) hx hb dL_law_435 (by decide) (fun c18 => ?_) (fun c18 => ?_)
            · have hF := F_pos c18 hF
              refine lv_iconst (v := (0 : Int32)) hx hb dL_law_450 (by decide) ?_
              exact K451 _ _ _ _ _ _ _ _ _ _ (by omega) (by omega) hF hP hD hS _ (lv_sub hl [0, 1, 3, 4] rfl)
            · have hF := F_neg c18 hF
              refine lv_aload_n hx hb dL_law_438 rfl (lv_at hl 1 rfl) ?_
              refine lv_iconst (v := (1 : Int32)) hx hb dL_law_439 (by decide) ?_
              obtain ⟨r19, h20, hF⟩ := ob1_some hF
              have hPc := hP.sub (ws' := (W_LS cI a S)) [0, 1, 2, 3, 4, 5, 6, 7, 8, 9, 10, 11, 12] rfl
              have hDc := hD.sub (ws' := (W_LS cI a S)) [0, 1, 2, 3, 4, 5, 6, 7, 8, 9, 10, 11, 12] (by decide) rfl
              have hFc := va_free (wc := (W_LS cI a S)) hD hS hA [0, 1, 2, 3, 4, 5, 6, 7, 8, 9, 10, 11, 12] rfl
              refine va_calli (va_runS (As := [.ref (a 0), .int (1 : Int32)]) (rest := []) ⟨hx, hb, hml, hown, hts⟩ (c_L_shape l dC dI cI a H.size _ _ _ h20) (va_cwS 2 hts gL_law_L_shape rfl rfl rfl (by decide +kernel) ⟨Nat.le_of_ble_eq_true rfl, Nat.le_of_ble_eq_true rfl⟩) (jPreS hKi hPc hDc hN) rfl rfl hl.1 rfl (lv_room (Nat.le_of_ble_eq_true rfl)) dL_law_440 ⟨hn, hk⟩) hS (fun q _ h => hFc q h) hFc (fun r' u' t H locs ht hvm hw hB hz1 hk1 hS => ?_)
              subst hw
              obtain ⟨hP1, -, hD1⟩ := hB
              rw [ht] at hP1
              obtain ⟨hP, hD⟩ := jJoinF (wa := (W_LS cI a S)) (wb := List.flatten [W_Sav cS (a 13) [((q 0) 0), ((q 1) 0), ((q 2) 0), ((q 3) 0), ((q 4) 0), ((q 5) 0)], W_State cI (q 0) (Z 0), W_State cI (q 1) (Z 1), W_State cI (q 2) (Z 2), W_State cI (q 3) (Z 3), W_State cI (q 4) (Z 4), W_State cI (q 5) (Z 5)]) (wc := (W_LS cI a S)) (w1 := (W_LS cI a S)) (ws' := (W_LS cI a S)) hP hD [0, 1, 2, 3, 4, 5, 6, 7, 8, 9, 10, 11, 12] [] [0, 1, 2, 3, 4, 5, 6, 7, 8, 9, 10, 11, 12] rfl rfl (by decide) (by decide) hk1 hFc hP1 hD1 (by decide) rfl
              have hP : va_P (dC, dI) vwCl (List.flatten [W_LS cI a S, W_Sav cS (a 13) [((q 0) 0), ((q 1) 0), ((q 2) 0), ((q 3) 0), ((q 4) 0), ((q 5) 0)], W_State cI (q 0) (Z 0), W_State cI (q 1) (Z 1), W_State cI (q 2) (Z 2), W_State cI (q 3) (Z 3), W_State cI (q 4) (Z 4), W_State cI (q 5) (Z 5)]) H := hP
              have hD : va_D A (List.flatten [W_LS cI a S, W_Sav cS (a 13) [((q 0) 0), ((q 1) 0), ((q 2) 0), ((q 3) 0), ((q 4) 0), ((q 5) 0)], W_State cI (q 0) (Z 0), W_State cI (q 1) (Z 1), W_State cI (q 2) (Z 2), W_State cI (q 3) (Z 3), W_State cI (q 4) (Z 4), W_State cI (q 5) (Z 5)]) := hD
              refine lv_if_eq (tgt := 450) hx hb dL_law_443 (by decide) (fun c21 => ?_) (fun c21 => ?_)
              · have hF := F_pos c21 hF
                refine lv_iconst (v := (0 : Int32)) hx hb dL_law_450 (by decide) ?_
                exact K451 _ _ _ _ _ _ _ _ _ _ (by omega) (by omega) hF hP hD hS _ (lv_sub hl [0, 1, 3, 4] rfl)
              · have hF := F_neg c21 hF
                refine lv_iconst (v := (1 : Int32)) hx hb dL_law_446 (by decide) ?_
                refine lv_goto (tgt := 451) hx hb dL_law_447 (by decide) ?_
                exact K451 _ _ _ _ _ _ _ _ _ _ (by omega) (by omega) hF hP hD hS _ (lv_sub hl [0, 1, 3, 4] rfl)
          · have hF := F_neg c15 hF
            refine lv_aload_n hx hb dL_law_402 rfl (lv_at hl 1 rfl) ?_
            refine lv_iconst (v := (2 : Int32)) hx hb dL_law_403 (by decide) ?_
            obtain ⟨r22, h23, hF⟩ := ob1_some hF
            have h23 := okr_some h23
            have hPc := hP.sub (ws' := (W_LS cI a S)) [0, 1, 2, 3, 4, 5, 6, 7, 8, 9, 10, 11, 12] rfl
            have hDc := hD.sub (ws' := (W_LS cI a S)) [0, 1, 2, 3, 4, 5, 6, 7, 8, 9, 10, 11, 12] (by decide) rfl
            have hFc := va_free (wc := (W_LS cI a S)) hD hS hA [0, 1, 2, 3, 4, 5, 6, 7, 8, 9, 10, 11, 12] rfl
            refine va_calli (va_runV (As := [.int (2 : Int32)]) (rest := []) ⟨hx, hb, hml, hown, hts⟩ (c_X4_count_ok l dC dI cI a H.size _ _ _ h23) (cwV 1 hts gL_law_X4_count rfl rfl rfl (by decide +kernel) ⟨Nat.le_of_ble_eq_true rfl, Nat.le_of_ble_eq_true rfl⟩) (jPreV hKi hPc hDc hN (ci := 4) rfl rfl) rfl rfl hl.1 rfl (lv_room (Nat.le_of_ble_eq_true rfl)) dL_law_404 ⟨hn, hk⟩) hS (fun q _ h => hFc q h) hFc (fun r' u' t H locs ht hvm hw hB hz1 hk1 hS => ?_)
            subst hw
            obtain ⟨hP1, -, hD1⟩ := hB
            rw [ht] at hP1
            obtain ⟨hP, hD⟩ := jJoinF (wa := (W_LS cI a S)) (wb := List.flatten [W_Sav cS (a 13) [((q 0) 0), ((q 1) 0), ((q 2) 0), ((q 3) 0), ((q 4) 0), ((q 5) 0)], W_State cI (q 0) (Z 0), W_State cI (q 1) (Z 1), W_State cI (q 2) (Z 2), W_State cI (q 3) (Z 3), W_State cI (q 4) (Z 4), W_State cI (q 5) (Z 5)]) (wc := (W_LS cI a S)) (w1 := (W_LS cI a S)) (ws' := (W_LS cI a S)) hP hD [0, 1, 2, 3, 4, 5, 6, 7, 8, 9, 10, 11, 12] [] [0, 1, 2, 3, 4, 5, 6, 7, 8, 9, 10, 11, 12] rfl rfl (by decide) (by decide) hk1 hFc hP1 hD1 (by decide) rfl
            have hP : va_P (dC, dI) vwCl (List.flatten [W_LS cI a S, W_Sav cS (a 13) [((q 0) 0), ((q 1) 0), ((q 2) 0), ((q 3) 0), ((q 4) 0), ((q 5) 0)], W_State cI (q 0) (Z 0), W_State cI (q 1) (Z 1), W_State cI (q 2) (Z 2), W_State cI (q 3) (Z 3), W_State cI (q 4) (Z 4), W_State cI (q 5) (Z 5)]) H := hP
            have hD : va_D A (List.flatten [W_LS cI a S, W_Sav cS (a 13) [((q 0) 0), ((q 1) 0), ((q 2) 0), ((q 3) 0), ((q 4) 0), ((q 5) 0)], W_State cI (q 0) (Z 0), W_State cI (q 1) (Z 1), W_State cI (q 2) (Z 2), W_State cI (q 3) (Z 3), W_State cI (q 4) (Z 4), W_State cI (q 5) (Z 5)]) := hD
            refine lv_iload hx hb dL_law_407 (lv_at hl 5 rfl) ?_
            refine lv_icmp_ne (tgt := 450) hx hb dL_law_409 (by decide) (fun c24 => ?_) (fun c24 => ?_)
            · have hF := F_neg c24 hF
              refine lv_iconst (v := (0 : Int32)) hx hb dL_law_450 (by decide) ?_
              exact K451 _ _ _ _ _ _ _ _ _ _ (by omega) (by omega) hF hP hD hS _ (lv_sub hl [0, 1, 3, 4] rfl)
            · have hF := F_pos c24 hF
              refine lv_aload_n hx hb dL_law_412 rfl (lv_at hl 1 rfl) ?_
              refine lv_iconst (v := (0 : Int32)) hx hb dL_law_413 (by decide) ?_
              refine lv_iconst (v := (0 : Int32)) hx hb dL_law_414 (by decide) ?_
              obtain ⟨r25, h26, hF⟩ := ob1_some hF
              have h26 := okr_some h26
              have hPc := hP.sub (ws' := (W_LS cI a S)) [0, 1, 2, 3, 4, 5, 6, 7, 8, 9, 10, 11, 12] rfl
              have hDc := hD.sub (ws' := (W_LS cI a S)) [0, 1, 2, 3, 4, 5, 6, 7, 8, 9, 10, 11, 12] (by decide) rfl
              have hFc := va_free (wc := (W_LS cI a S)) hD hS hA [0, 1, 2, 3, 4, 5, 6, 7, 8, 9, 10, 11, 12] rfl
              refine va_calli (va_runV (As := [.int (0 : Int32), .int (0 : Int32)]) (rest := []) ⟨hx, hb, hml, hown, hts⟩ (c_X4_shape_ok l dC dI cI a H.size _ _ _ _ h26) (cwV 2 hts gL_law_X4_shape rfl rfl rfl (by decide +kernel) ⟨Nat.le_of_ble_eq_true rfl, Nat.le_of_ble_eq_true rfl⟩) (jPreV hKi hPc hDc hN (ci := 4) rfl rfl) rfl rfl hl.1 rfl (lv_room (Nat.le_of_ble_eq_true rfl)) dL_law_415 ⟨hn, hk⟩) hS (fun q _ h => hFc q h) hFc (fun r' u' t H locs ht hvm hw hB hz1 hk1 hS => ?_)
              subst hw
              obtain ⟨hP1, -, hD1⟩ := hB
              rw [ht] at hP1
              obtain ⟨hP, hD⟩ := jJoinF (wa := (W_LS cI a S)) (wb := List.flatten [W_Sav cS (a 13) [((q 0) 0), ((q 1) 0), ((q 2) 0), ((q 3) 0), ((q 4) 0), ((q 5) 0)], W_State cI (q 0) (Z 0), W_State cI (q 1) (Z 1), W_State cI (q 2) (Z 2), W_State cI (q 3) (Z 3), W_State cI (q 4) (Z 4), W_State cI (q 5) (Z 5)]) (wc := (W_LS cI a S)) (w1 := (W_LS cI a S)) (ws' := (W_LS cI a S)) hP hD [0, 1, 2, 3, 4, 5, 6, 7, 8, 9, 10, 11, 12] [] [0, 1, 2, 3, 4, 5, 6, 7, 8, 9, 10, 11, 12] rfl rfl (by decide) (by decide) hk1 hFc hP1 hD1 (by decide) rfl
              have hP : va_P (dC, dI) vwCl (List.flatten [W_LS cI a S, W_Sav cS (a 13) [((q 0) 0), ((q 1) 0), ((q 2) 0), ((q 3) 0), ((q 4) 0), ((q 5) 0)], W_State cI (q 0) (Z 0), W_State cI (q 1) (Z 1), W_State cI (q 2) (Z 2), W_State cI (q 3) (Z 3), W_State cI (q 4) (Z 4), W_State cI (q 5) (Z 5)]) H := hP
              have hD : va_D A (List.flatten [W_LS cI a S, W_Sav cS (a 13) [((q 0) 0), ((q 1) 0), ((q 2) 0), ((q 3) 0), ((q 4) 0), ((q 5) 0)], W_State cI (q 0) (Z 0), W_State cI (q 1) (Z 1), W_State cI (q 2) (Z 2), W_State cI (q 3) (Z 3), W_State cI (q 4) (Z 4), W_State cI (q 5) (Z 5)]) := hD
              refine lv_aload_n hx hb dL_law_418 rfl (lv_at hl 1 rfl) ?_
              refine lv_iconst (v := (1 : Int32)) hx hb dL_law_419 (by decide) ?_
              refine lv_iconst (v := (0 : Int32)) hx hb dL_law_420 (by decide) ?_
              obtain ⟨r27, h28, hF⟩ := ob1_some hF
              have h28 := okr_some h28
              have hPc := hP.sub (ws' := (W_LS cI a S)) [0, 1, 2, 3, 4, 5, 6, 7, 8, 9, 10, 11, 12] rfl
              have hDc := hD.sub (ws' := (W_LS cI a S)) [0, 1, 2, 3, 4, 5, 6, 7, 8, 9, 10, 11, 12] (by decide) rfl
              have hFc := va_free (wc := (W_LS cI a S)) hD hS hA [0, 1, 2, 3, 4, 5, 6, 7, 8, 9, 10, 11, 12] rfl
              refine va_calli (va_runV (As := [.int (1 : Int32), .int (0 : Int32)]) (rest := [.int r25]) ⟨hx, hb, hml, hown, hts⟩ (c_X4_shape_ok l dC dI cI a H.size _ _ _ _ h28) (cwV 2 hts gL_law_X4_shape rfl rfl rfl (by decide +kernel) ⟨Nat.le_of_ble_eq_true rfl, Nat.le_of_ble_eq_true rfl⟩) (jPreV hKi hPc hDc hN (ci := 4) rfl rfl) rfl rfl hl.1 rfl (lv_room (Nat.le_of_ble_eq_true rfl)) dL_law_421 ⟨hn, hk⟩) hS (fun q _ h => hFc q h) hFc (fun r' u' t H locs ht hvm hw hB hz1 hk1 hS => ?_)
              subst hw
              obtain ⟨hP1, -, hD1⟩ := hB
              rw [ht] at hP1
              obtain ⟨hP, hD⟩ := jJoinF (wa := (W_LS cI a S)) (wb := List.flatten [W_Sav cS (a 13) [((q 0) 0), ((q 1) 0), ((q 2) 0), ((q 3) 0), ((q 4) 0), ((q 5) 0)], W_State cI (q 0) (Z 0), W_State cI (q 1) (Z 1), W_State cI (q 2) (Z 2), W_State cI (q 3) (Z 3), W_State cI (q 4) (Z 4), W_State cI (q 5) (Z 5)]) (wc := (W_LS cI a S)) (w1 := (W_LS cI a S)) (ws' := (W_LS cI a S)) hP hD [0, 1, 2, 3, 4, 5, 6, 7, 8, 9, 10, 11, 12] [] [0, 1, 2, 3, 4, 5, 6, 7, 8, 9, 10, 11, 12] rfl rfl (by decide) (by decide) hk1 hFc hP1 hD1 (by decide) rfl
              have hP : va_P (dC, dI) vwCl (List.flatten [W_LS cI a S, W_Sav cS (a 13) [((q 0) 0), ((q 1) 0), ((q 2) 0), ((q 3) 0), ((q 4) 0), ((q 5) 0)], W_State cI (q 0) (Z 0), W_State cI (q 1) (Z 1), W_State cI (q 2) (Z 2), W_State cI (q 3) (Z 3), W_State cI (q 4) (Z 4), W_State cI (q 5) (Z 5)]) H := hP
              have hD : va_D A (List.flatten [W_LS cI a S, W_Sav cS (a 13) [((q 0) 0), ((q 1) 0), ((q 2) 0), ((q 3) 0), ((q 4) 0), ((q 5) 0)], W_State cI (q 0) (Z 0), W_State cI (q 1) (Z 1), W_State cI (q 2) (Z 2), W_State cI (q 3) (Z 3), W_State cI (q 4) (Z 4), W_State cI (q 5) (Z 5)]) := hD
              refine lv_iadd hx hb dL_law_424 ?_
              refine lv_iload hx hb dL_law_425 (lv_at hl 6 rfl) ?_
              refine lv_icmp_ne (tgt := 450) hx hb dL_law_427 (by decide) (fun c29 => ?_) (fun c29 => ?_)
              · have hF := F_neg c29 hF
                refine lv_iconst (v := (0 : Int32)) hx hb dL_law_450 (by decide) ?_
                exact K451 _ _ _ _ _ _ _ _ _ _ (by omega) (by omega) hF hP hD hS _ (lv_sub hl [0, 1, 3, 4] rfl)
              · have hF := F_pos c29 hF
                refine lv_aload_n hx hb dL_law_430 rfl (lv_at hl 1 rfl) ?_
                refine lv_iconst (v := (0 : Int32)) hx hb dL_law_431 (by decide) ?_
                obtain ⟨r30, h31, hF⟩ := ob1_some hF
                have hPc := hP.sub (ws' := (W_LS cI a S)) [0, 1, 2, 3, 4, 5, 6, 7, 8, 9, 10, 11, 12] rfl
                have hDc := hD.sub (ws' := (W_LS cI a S)) [0, 1, 2, 3, 4, 5, 6, 7, 8, 9, 10, 11, 12] (by decide) rfl
                have hFc := va_free (wc := (W_LS cI a S)) hD hS hA [0, 1, 2, 3, 4, 5, 6, 7, 8, 9, 10, 11, 12] rfl
                refine va_calli (va_runS (As := [.ref (a 0), .int (0 : Int32)]) (rest := []) ⟨hx, hb, hml, hown, hts⟩ (c_L_shape l dC dI cI a H.size _ _ _ h31) (va_cwS 2 hts gL_law_L_shape rfl rfl rfl (by decide +kernel) ⟨Nat.le_of_ble_eq_true rfl, Nat.le_of_ble_eq_true rfl⟩) (jPreS hKi hPc hDc hN) rfl rfl hl.1 rfl (lv_room (Nat.le_of_ble_eq_true rfl)) dL_law_432 ⟨hn, hk⟩) hS (fun q _ h => hFc q h) hFc (fun r' u' t H locs ht hvm hw hB hz1 hk1 hS => ?_)
                subst hw
                obtain ⟨hP1, -, hD1⟩ := hB
                rw [ht] at hP1
                obtain ⟨hP, hD⟩ := jJoinF (wa := (W_LS cI a S)) (wb := List.flatten [W_Sav cS (a 13) [((q 0) 0), ((q 1) 0), ((q 2) 0), ((q 3) 0), ((q 4) 0), ((q 5) 0)], W_State cI (q 0) (Z 0), W_State cI (q 1) (Z 1), W_State cI (q 2) (Z 2), W_State cI (q 3) (Z 3), W_State cI (q 4) (Z 4), W_State cI (q 5) (Z 5)]) (wc := (W_LS cI a S)) (w1 := (W_LS cI a S)) (ws' := (W_LS cI a S)) hP hD [0, 1, 2, 3, 4, 5, 6, 7, 8, 9, 10, 11, 12] [] [0, 1, 2, 3, 4, 5, 6, 7, 8, 9, 10, 11, 12] rfl rfl (by decide) (by decide) hk1 hFc hP1 hD1 (by decide) rfl
                have hP : va_P (dC, dI) vwCl (List.flatten [W_LS cI a S, W_Sav cS (a 13) [((q 0) 0), ((q 1) 0), ((q 2) 0), ((q 3) 0), ((q 4) 0), ((q 5) 0)], W_State cI (q 0) (Z 0), W_State cI (q 1) (Z 1), W_State cI (q 2) (Z 2), W_State cI (q 3) (Z 3), W_State cI (q 4) (Z 4), W_State cI (q 5) (Z 5)]) H := hP
                have hD : va_D A (List.flatten [W_LS cI a S, W_Sav cS (a 13) [((q 0) 0), ((q 1) 0), ((q 2) 0), ((q 3) 0), ((q 4) 0), ((q 5) 0)], W_State cI (q 0) (Z 0), W_State cI (q 1) (Z 1), W_State cI (q 2) (Z 2), W_State cI (q 3) (Z 3), W_State cI (q 4) (Z 4), W_State cI (q 5) (Z 5)]) := hD
                refine lv_if_eq (tgt := 450) hx hb dL_law_435 (by decide) (fun c32 => ?_) (fun c32 => ?_)
                · have hF := F_pos c32 hF
                  refine lv_iconst (v := (0 : Int32)) hx hb dL_law_450 (by decide) ?_
                  exact K451 _ _ _ _ _ _ _ _ _ _ (by omega) (by omega) hF hP hD hS _ (lv_sub hl [0, 1, 3, 4] rfl)
                · have hF := F_neg c32 hF
                  refine lv_aload_n hx hb dL_law_438 rfl (lv_at hl 1 rfl) ?_
                  refine lv_iconst (v := (1 : Int32)) hx hb dL_law_439 (by decide) ?_
                  obtain ⟨r33, h34, hF⟩ := ob1_some hF
                  have hPc := hP.sub (ws' := (W_LS cI a S)) [0, 1, 2, 3, 4, 5, 6, 7, 8, 9, 10, 11, 12] rfl
                  have hDc := hD.sub (ws' := (W_LS cI a S)) [0, 1, 2, 3, 4, 5, 6, 7, 8, 9, 10, 11, 12] (by decide) rfl
                  have hFc := va_free (wc := (W_LS cI a S)) hD hS hA [0, 1, 2, 3, 4, 5, 6, 7, 8, 9, 10, 11, 12] rfl
                  refine va_calli (va_runS (As := [.ref (a 0), .int (1 : Int32)]) (rest := []) ⟨hx, hb, hml, hown, hts⟩ (c_L_shape l dC dI cI a H.size _ _ _ h34) (va_cwS 2 hts gL_law_L_shape rfl rfl rfl (by decide +kernel) ⟨Nat.le_of_ble_eq_true rfl, Nat.le_of_ble_eq_true rfl⟩) (jPreS hKi hPc hDc hN) rfl rfl hl.1 rfl (lv_room (Nat.le_of_ble_eq_true rfl)) dL_law_440 ⟨hn, hk⟩) hS (fun q _ h => hFc q h) hFc (fun r' u' t H locs ht hvm hw hB hz1 hk1 hS => ?_)
                  subst hw
                  obtain ⟨hP1, -, hD1⟩ := hB
                  rw [ht] at hP1
                  obtain ⟨hP, hD⟩ := jJoinF (wa := (W_LS cI a S)) (wb := List.flatten [W_Sav cS (a 13) [((q 0) 0), ((q 1) 0), ((q 2) 0), ((q 3) 0), ((q 4) 0), ((q 5) 0)], W_State cI (q 0) (Z 0), W_State cI (q 1) (Z 1), W_State cI (q 2) (Z 2), W_State cI (q 3) (Z 3), W_State cI (q 4) (Z 4), W_State cI (q 5) (Z 5)]) (wc := (W_LS cI a S)) (w1 := (W_LS cI a S)) (ws' := (W_LS cI a S)) hP hD [0, 1, 2, 3, 4, 5, 6, 7, 8, 9, 10, 11, 12] [] [0, 1, 2, 3, 4, 5, 6, 7, 8, 9, 10, 11, 12] rfl rfl (by decide) (by decide) hk1 hFc hP1 hD1 (by decide) rfl
                  have hP : va_P (dC, dI) vwCl (List.flatten [W_LS cI a S, W_Sav cS (a 13) [((q 0) 0), ((q 1) 0), ((q 2) 0), ((q 3) 0), ((q 4) 0), ((q 5) 0)], W_State cI (q 0) (Z 0), W_State cI (q 1) (Z 1), W_State cI (q 2) (Z 2), W_State cI (q 3) (Z 3), W_State cI (q 4) (Z 4), W_State cI (q 5) (Z 5)]) H := hP
                  have hD : va_D A (List.flatten [W_LS cI a S, W_Sav cS (a 13) [((q 0) 0), ((q 1) 0), ((q 2) 0), ((q 3) 0), ((q 4) 0), ((q 5) 0)], W_State cI (q 0) (Z 0), W_State cI (q 1) (Z 1), W_State cI (q 2) (Z 2), W_State cI (q 3) (Z 3), W_State cI (q 4) (Z 4), W_State cI (q 5) (Z 5)]) := hD
                  refine lv_if_eq (tgt := 450) hx hb dL_law_443 (by decide) (fun c35 => ?_) (fun c35 => ?_)
                  · have hF := F_pos c35 hF
                    refine lv_iconst (v := (0 : Int32)) hx hb dL_law_450 (by decide) ?_
                    exact K451 _ _ _ _ _ _ _ _ _ _ (by omega) (by omega) hF hP hD hS _ (lv_sub hl [0, 1, 3, 4] rfl)
                  · have hF := F_neg c35 hF
                    refine lv_iconst (v := (1 : Int32)) hx hb dL_law_446 (by decide) ?_
                    refine lv_goto (tgt := 451) hx hb dL_law_447 (by decide) ?_
                    exact K451 _ _ _ _ _ _ _ _ _ _ (by omega) (by omega) hF hP hD hS _ (lv_sub hl [0, 1, 3, 4] rfl)
      have K174 : ∀ (q : Nat → Nat → Nat) (n0 k0 : Nat) (S : S_LS) (Z : Nat → S_State) (x3 : Int32) (x4 : Int32) (x7 : Int32) (x8 : Int32) (x9 : Int32) (x10 : Bool) (x11 : Int32) (t0 : Bool) (H : Heap) (locs : List Loc), n0 + n34 ≤ 600100 → k0 + 6 * n34 ≤ 7301000 → F_L_law_174 L xs (F_L_law_34 L xs n34) S Z x3 x4 x7 x8 x9 x10 x11 t0 = some true → va_P (dC, dI) vwCl (List.flatten [W_LS cI a S, W_Sav cS (a 13) [((q 0) 0), ((q 1) 0), ((q 2) 0), ((q 3) 0), ((q 4) 0), ((q 5) 0)], W_State cI (q 0) (Z 0), W_State cI (q 1) (Z 1), W_State cI (q 2) (Z 2), W_State cI (q 3) (Z 3), W_State cI (q 4) (Z 4), W_State cI (q 5) (Z 5)]) H → va_D A (List.flatten [W_LS cI a S, W_Sav cS (a 13) [((q 0) 0), ((q 1) 0), ((q 2) 0), ((q 3) 0), ((q 4) 0), ((q 5) 0)], W_State cI (q 0) (Z 0), W_State cI (q 1) (Z 1), W_State cI (q 2) (Z 2), W_State cI (q 3) (Z 3), W_State cI (q 4) (Z 4), W_State cI (q 5) (Z 5)]) → va_S A s.heap H locs → ∀ ls : Array Slot, lv_has ls 14 [(0, .ref bs), (1, .ref (a 0)), (3, .int x3), (4, .int x4), (7, .int x7), (8, .int x8), (9, .int x9), (10, .int (b2i x10)), (11, .int x11)] → W p l e room_1 s m #[Value.ref bs] below meth c H locs n0 k0 Q (F0 m 174 ls [.int (b2i t0)]) := by
        intro q n0 k0 S Z x3 x4 x7 x8 x9 x10 x11 t0 H locs hn0 hk0 hF hP hD hS ls hl
        have hn : n0 ≤ 600130 := by omega
        have hk : k0 ≤ 7301080 := by omega
        have hn9 : n0 + 1 ≤ 600130 := by omega
        have hk9 : k0 + 6 ≤ 7301080 := by omega
        unfold F_L_law_174 at hF
        refine lv_iload hx hb dL_law_174 (lv_at hl 7 rfl) ?_
        refine lv_icmp_ne (tgt := 215) hx hb dL_law_176 (by decide) (fun c36 => ?_) (fun c36 => ?_)
        · have hF := F_neg c36 hF
          refine lv_iconst (v := (0 : Int32)) hx hb dL_law_215 (by decide) ?_
          refine lv_istore_n (lv' := [(2, .int (0 : Int32)), (0, .ref bs), (1, .ref (a 0)), (3, .int x3), (4, .int x4), (7, .int x7), (8, .int x8), (9, .int x9), (10, .int (b2i x10)), (11, .int x11)]) hx hb dL_law_216 rfl hl (by decide) rfl (fun ls hl => ?_)
          refine lv_goto (tgt := 393) hx hb dL_law_217 (by decide) ?_
          exact K393 _ _ _ _ _ _ _ _ _ _ _ _ _ (by omega) (by omega) hF hP hD hS _ (lv_sub hl [1, 2, 0, 3, 4, 5, 6, 7] rfl)
        · have hF := F_pos c36 hF
          refine lv_iload hx hb dL_law_179 (lv_at hl 7 rfl) ?_
          refine lv_if_ne (tgt := 211) hx hb dL_law_181 (by decide) (fun c37 => ?_) (fun c37 => ?_)
          · have hF := F_neg c37 hF
            refine lv_iconst (v := (1 : Int32)) hx hb dL_law_211 (by decide) ?_
            refine lv_goto (tgt := 216) hx hb dL_law_212 (by decide) ?_
            refine lv_istore_n (lv' := [(2, .int (1 : Int32)), (0, .ref bs), (1, .ref (a 0)), (3, .int x3), (4, .int x4), (7, .int x7), (8, .int x8), (9, .int x9), (10, .int (b2i x10)), (11, .int x11)]) hx hb dL_law_216 rfl hl (by decide) rfl (fun ls hl => ?_)
            refine lv_goto (tgt := 393) hx hb dL_law_217 (by decide) ?_
            exact K393 _ _ _ _ _ _ _ _ _ _ _ _ _ (by omega) (by omega) hF hP hD hS _ (lv_sub hl [1, 2, 0, 3, 4, 5, 6, 7] rfl)
          · have hF := F_pos c37 hF
            refine lv_iload hx hb dL_law_184 (lv_at hl 6 rfl) ?_
            refine lv_iload hx hb dL_law_186 (lv_at hl 8 rfl) ?_
            refine lv_icmp_ne (tgt := 215) hx hb dL_law_188 (by decide) (fun c38 => ?_) (fun c38 => ?_)
            · have hF := F_neg c38 hF
              refine lv_iconst (v := (0 : Int32)) hx hb dL_law_215 (by decide) ?_
              refine lv_istore_n (lv' := [(2, .int (0 : Int32)), (0, .ref bs), (1, .ref (a 0)), (3, .int x3), (4, .int x4), (7, .int x7), (8, .int x8), (9, .int x9), (10, .int (b2i x10)), (11, .int x11)]) hx hb dL_law_216 rfl hl (by decide) rfl (fun ls hl => ?_)
              refine lv_goto (tgt := 393) hx hb dL_law_217 (by decide) ?_
              exact K393 _ _ _ _ _ _ _ _ _ _ _ _ _ (by omega) (by omega) hF hP hD hS _ (lv_sub hl [1, 2, 0, 3, 4, 5, 6, 7] rfl)
            · have hF := F_pos c38 hF
              refine lv_aload_n hx hb dL_law_191 rfl (lv_at hl 1 rfl) ?_
              refine lv_iconst (v := (0 : Int32)) hx hb dL_law_192 (by decide) ?_
              refine lv_iconst (v := (0 : Int32)) hx hb dL_law_193 (by decide) ?_
              obtain ⟨r39, h40, hF⟩ := ob1_some hF
              have h40 := okr_some h40
              have hPc := hP.sub (ws' := (W_LS cI a S)) [0, 1, 2, 3, 4, 5, 6, 7, 8, 9, 10, 11, 12] rfl
              have hDc := hD.sub (ws' := (W_LS cI a S)) [0, 1, 2, 3, 4, 5, 6, 7, 8, 9, 10, 11, 12] (by decide) rfl
              have hFc := va_free (wc := (W_LS cI a S)) hD hS hA [0, 1, 2, 3, 4, 5, 6, 7, 8, 9, 10, 11, 12] rfl
              refine va_calli (va_runV (As := [.int (0 : Int32), .int (0 : Int32)]) (rest := []) ⟨hx, hb, hml, hown, hts⟩ (c_X4_shape_ok l dC dI cI a H.size _ _ _ _ h40) (cwV 2 hts gL_law_X4_shape rfl rfl rfl (by decide +kernel) ⟨Nat.le_of_ble_eq_true rfl, Nat.le_of_ble_eq_true rfl⟩) (jPreV hKi hPc hDc hN (ci := 4) rfl rfl) rfl rfl hl.1 rfl (lv_room (Nat.le_of_ble_eq_true rfl)) dL_law_194 ⟨hn, hk⟩) hS (fun q _ h => hFc q h) hFc (fun r' u' t H locs ht hvm hw hB hz1 hk1 hS => ?_)
              subst hw
              obtain ⟨hP1, -, hD1⟩ := hB
              rw [ht] at hP1
              obtain ⟨hP, hD⟩ := jJoinF (wa := (W_LS cI a S)) (wb := List.flatten [W_Sav cS (a 13) [((q 0) 0), ((q 1) 0), ((q 2) 0), ((q 3) 0), ((q 4) 0), ((q 5) 0)], W_State cI (q 0) (Z 0), W_State cI (q 1) (Z 1), W_State cI (q 2) (Z 2), W_State cI (q 3) (Z 3), W_State cI (q 4) (Z 4), W_State cI (q 5) (Z 5)]) (wc := (W_LS cI a S)) (w1 := (W_LS cI a S)) (ws' := (W_LS cI a S)) hP hD [0, 1, 2, 3, 4, 5, 6, 7, 8, 9, 10, 11, 12] [] [0, 1, 2, 3, 4, 5, 6, 7, 8, 9, 10, 11, 12] rfl rfl (by decide) (by decide) hk1 hFc hP1 hD1 (by decide) rfl
              have hP : va_P (dC, dI) vwCl (List.flatten [W_LS cI a S, W_Sav cS (a 13) [((q 0) 0), ((q 1) 0), ((q 2) 0), ((q 3) 0), ((q 4) 0), ((q 5) 0)], W_State cI (q 0) (Z 0), W_State cI (q 1) (Z 1), W_State cI (q 2) (Z 2), W_State cI (q 3) (Z 3), W_State cI (q 4) (Z 4), W_State cI (q 5) (Z 5)]) H := hP
              have hD : va_D A (List.flatten [W_LS cI a S, W_Sav cS (a 13) [((q 0) 0), ((q 1) 0), ((q 2) 0), ((q 3) 0), ((q 4) 0), ((q 5) 0)], W_State cI (q 0) (Z 0), W_State cI (q 1) (Z 1), W_State cI (q 2) (Z 2), W_State cI (q 3) (Z 3), W_State cI (q 4) (Z 4), W_State cI (q 5) (Z 5)]) := hD
              refine lv_aload_n hx hb dL_law_197 rfl (lv_at hl 1 rfl) ?_
              refine lv_iconst (v := (1 : Int32)) hx hb dL_law_198 (by decide) ?_
              refine lv_iconst (v := (0 : Int32)) hx hb dL_law_199 (by decide) ?_
              obtain ⟨r41, h42, hF⟩ := ob1_some hF
              have h42 := okr_some h42
              have hPc := hP.sub (ws' := (W_LS cI a S)) [0, 1, 2, 3, 4, 5, 6, 7, 8, 9, 10, 11, 12] rfl
              have hDc := hD.sub (ws' := (W_LS cI a S)) [0, 1, 2, 3, 4, 5, 6, 7, 8, 9, 10, 11, 12] (by decide) rfl
              have hFc := va_free (wc := (W_LS cI a S)) hD hS hA [0, 1, 2, 3, 4, 5, 6, 7, 8, 9, 10, 11, 12] rfl
              refine va_calli (va_runV (As := [.int (1 : Int32), .int (0 : Int32)]) (rest := [.int r39]) ⟨hx, hb, hml, hown, hts⟩ (c_X4_shape_ok l dC dI cI a H.size _ _ _ _ h42) (cwV 2 hts gL_law_X4_shape rfl rfl rfl (by decide +kernel) ⟨Nat.le_of_ble_eq_true rfl, Nat.le_of_ble_eq_true rfl⟩) (jPreV hKi hPc hDc hN (ci := 4) rfl rfl) rfl rfl hl.1 rfl (lv_room (Nat.le_of_ble_eq_true rfl)) dL_law_200 ⟨hn, hk⟩) hS (fun q _ h => hFc q h) hFc (fun r' u' t H locs ht hvm hw hB hz1 hk1 hS => ?_)
              subst hw
              obtain ⟨hP1, -, hD1⟩ := hB
              rw [ht] at hP1
              obtain ⟨hP, hD⟩ := jJoinF (wa := (W_LS cI a S)) (wb := List.flatten [W_Sav cS (a 13) [((q 0) 0), ((q 1) 0), ((q 2) 0), ((q 3) 0), ((q 4) 0), ((q 5) 0)], W_State cI (q 0) (Z 0), W_State cI (q 1) (Z 1), W_State cI (q 2) (Z 2), W_State cI (q 3) (Z 3), W_State cI (q 4) (Z 4), W_State cI (q 5) (Z 5)]) (wc := (W_LS cI a S)) (w1 := (W_LS cI a S)) (ws' := (W_LS cI a S)) hP hD [0, 1, 2, 3, 4, 5, 6, 7, 8, 9, 10, 11, 12] [] [0, 1, 2, 3, 4, 5, 6, 7, 8, 9, 10, 11, 12] rfl rfl (by decide) (by decide) hk1 hFc hP1 hD1 (by decide) rfl
              have hP : va_P (dC, dI) vwCl (List.flatten [W_LS cI a S, W_Sav cS (a 13) [((q 0) 0), ((q 1) 0), ((q 2) 0), ((q 3) 0), ((q 4) 0), ((q 5) 0)], W_State cI (q 0) (Z 0), W_State cI (q 1) (Z 1), W_State cI (q 2) (Z 2), W_State cI (q 3) (Z 3), W_State cI (q 4) (Z 4), W_State cI (q 5) (Z 5)]) H := hP
              have hD : va_D A (List.flatten [W_LS cI a S, W_Sav cS (a 13) [((q 0) 0), ((q 1) 0), ((q 2) 0), ((q 3) 0), ((q 4) 0), ((q 5) 0)], W_State cI (q 0) (Z 0), W_State cI (q 1) (Z 1), W_State cI (q 2) (Z 2), W_State cI (q 3) (Z 3), W_State cI (q 4) (Z 4), W_State cI (q 5) (Z 5)]) := hD
              refine lv_iadd hx hb dL_law_203 ?_
              refine lv_iload hx hb dL_law_204 (lv_at hl 5 rfl) ?_
              refine lv_iconst (v := (1 : Int32)) hx hb dL_law_206 (by decide) ?_
              refine lv_iadd hx hb dL_law_207 ?_
              refine lv_icmp_ne (tgt := 215) hx hb dL_law_208 (by decide) (fun c43 => ?_) (fun c43 => ?_)
              · have hF := F_neg c43 hF
                refine lv_iconst (v := (0 : Int32)) hx hb dL_law_215 (by decide) ?_
                refine lv_istore_n (lv' := [(2, .int (0 : Int32)), (0, .ref bs), (1, .ref (a 0)), (3, .int x3), (4, .int x4), (7, .int x7), (8, .int x8), (9, .int x9), (10, .int (b2i x10)), (11, .int x11)]) hx hb dL_law_216 rfl hl (by decide) rfl (fun ls hl => ?_)
                refine lv_goto (tgt := 393) hx hb dL_law_217 (by decide) ?_
                exact K393 _ _ _ _ _ _ _ _ _ _ _ _ _ (by omega) (by omega) hF hP hD hS _ (lv_sub hl [1, 2, 0, 3, 4, 5, 6, 7] rfl)
              · have hF := F_pos c43 hF
                refine lv_iconst (v := (1 : Int32)) hx hb dL_law_211 (by decide) ?_
                refine lv_goto (tgt := 216) hx hb dL_law_212 (by decide) ?_
                refine lv_istore_n (lv' := [(2, .int (1 : Int32)), (0, .ref bs), (1, .ref (a 0)), (3, .int x3), (4, .int x4), (7, .int x7), (8, .int x8), (9, .int x9), (10, .int (b2i x10)), (11, .int x11)]) hx hb dL_law_216 rfl hl (by decide) rfl (fun ls hl => ?_)
                refine lv_goto (tgt := 393) hx hb dL_law_217 (by decide) ?_
                exact K393 _ _ _ _ _ _ _ _ _ _ _ _ _ (by omega) (by omega) hF hP hD hS _ (lv_sub hl [1, 2, 0, 3, 4, 5, 6, 7] rfl)
      have K136 : ∀ (q : Nat → Nat → Nat) (n0 k0 : Nat) (S : S_LS) (Z : Nat → S_State) (x2 : Bool) (x3 : Int32) (x4 : Int32) (x5 : Int32) (x6 : Int32) (x7 : Int32) (x8 : Int32) (t0 : Bool) (H : Heap) (locs : List Loc), n0 + (n34 + 1) ≤ 600100 → k0 + 6 * (n34 + 1) ≤ 7301000 → F_L_law_136 L xs (F_L_law_34 L xs n34) S Z x2 x3 x4 x5 x6 x7 x8 t0 = some true → va_P (dC, dI) vwCl (List.flatten [W_LS cI a S, W_Sav cS (a 13) [((q 0) 0), ((q 1) 0), ((q 2) 0), ((q 3) 0), ((q 4) 0), ((q 5) 0)], W_State cI (q 0) (Z 0), W_State cI (q 1) (Z 1), W_State cI (q 2) (Z 2), W_State cI (q 3) (Z 3), W_State cI (q 4) (Z 4), W_State cI (q 5) (Z 5)]) H → va_D A (List.flatten [W_LS cI a S, W_Sav cS (a 13) [((q 0) 0), ((q 1) 0), ((q 2) 0), ((q 3) 0), ((q 4) 0), ((q 5) 0)], W_State cI (q 0) (Z 0), W_State cI (q 1) (Z 1), W_State cI (q 2) (Z 2), W_State cI (q 3) (Z 3), W_State cI (q 4) (Z 4), W_State cI (q 5) (Z 5)]) → va_S A s.heap H locs → ∀ ls : Array Slot, lv_has ls 14 [(0, .ref bs), (1, .ref (a 0)), (2, .int (b2i x2)), (3, .int x3), (4, .int x4), (5, .int x5), (6, .int x6), (7, .int x7), (8, .int x8)] → W p l e room_1 s m #[Value.ref bs] below meth c H locs n0 k0 Q (F0 m 136 ls [.int (b2i t0)]) := by
        intro q n0 k0 S Z x2 x3 x4 x5 x6 x7 x8 t0 H locs hn0 hk0 hF hP hD hS ls hl
        have hn : n0 ≤ 600130 := by omega
        have hk : k0 ≤ 7301080 := by omega
        have hn9 : n0 + 1 ≤ 600130 := by omega
        have hk9 : k0 + 6 ≤ 7301080 := by omega
        unfold F_L_law_136 at hF
        refine lv_istore (lv' := [(10, .int (b2i t0)), (0, .ref bs), (1, .ref (a 0)), (2, .int (b2i x2)), (3, .int x3), (4, .int x4), (5, .int x5), (6, .int x6), (7, .int x7), (8, .int x8)]) hx hb dL_law_136 hl (by decide) rfl (fun ls hl => ?_)
        refine lv_aload_n hx hb dL_law_138 rfl (lv_at hl 2 rfl) ?_
        refine lv_iload hx hb dL_law_139 (lv_at hl 7 rfl) ?_
        refine lv_iconst (v := (0 : Int32)) hx hb dL_law_141 (by decide) ?_
        obtain ⟨r44, u45, h46, hF⟩ := ob2_some hF
        have h46 := okr_some h46
        have hPc := hP.sub (ws' := (W_LS cI a S)) [0, 1, 2, 3, 4, 5, 6, 7, 8, 9, 10, 11, 12] rfl
        have hDc := hD.sub (ws' := (W_LS cI a S)) [0, 1, 2, 3, 4, 5, 6, 7, 8, 9, 10, 11, 12] (by decide) rfl
        have hFc := va_free (wc := (W_LS cI a S)) hD hS hA [0, 1, 2, 3, 4, 5, 6, 7, 8, 9, 10, 11, 12] rfl
        refine va_calli (va_runV (As := [.int x6, .int (0 : Int32)]) (rest := []) ⟨hx, hb, hml, hown, hts⟩ (c_X4_ifLearned_ok l dC dI cI a H.size _ _ _ _ _ h46) (cwV 2 hts gL_law_X4_ifLearned rfl rfl rfl (by decide +kernel) ⟨Nat.le_of_ble_eq_true rfl, Nat.le_of_ble_eq_true rfl⟩) (jPreV hKi hPc hDc hN (ci := 4) rfl rfl) rfl rfl hl.1 rfl (lv_room (Nat.le_of_ble_eq_true rfl)) dL_law_142 ⟨hn, hk⟩) hS (fun q _ h => hFc q h) hFc (fun r' u' t H locs ht hvm hw hB hz1 hk1 hS => ?_)
        obtain ⟨e1, e2⟩ := hw
        subst e1
        subst e2
        obtain ⟨hP1, -, hD1⟩ := hB
        rw [ht] at hP1
        obtain ⟨hP, hD⟩ := jJoinF (wa := (W_LS cI a S)) (wb := List.flatten [W_Sav cS (a 13) [((q 0) 0), ((q 1) 0), ((q 2) 0), ((q 3) 0), ((q 4) 0), ((q 5) 0)], W_State cI (q 0) (Z 0), W_State cI (q 1) (Z 1), W_State cI (q 2) (Z 2), W_State cI (q 3) (Z 3), W_State cI (q 4) (Z 4), W_State cI (q 5) (Z 5)]) (wc := (W_LS cI a S)) (w1 := (W_LS cI a u45)) (ws' := (W_LS cI a u45)) hP hD [0, 1, 2, 3, 4, 5, 6, 7, 8, 9, 10, 11, 12] [] [0, 1, 2, 3, 4, 5, 6, 7, 8, 9, 10, 11, 12] rfl rfl (by decide) (by decide) hk1 hFc hP1 hD1 (by decide) rfl
        have hP : va_P (dC, dI) vwCl (List.flatten [W_LS cI a u45, W_Sav cS (a 13) [((q 0) 0), ((q 1) 0), ((q 2) 0), ((q 3) 0), ((q 4) 0), ((q 5) 0)], W_State cI (q 0) (Z 0), W_State cI (q 1) (Z 1), W_State cI (q 2) (Z 2), W_State cI (q 3) (Z 3), W_State cI (q 4) (Z 4), W_State cI (q 5) (Z 5)]) H := hP
        have hD : va_D A (List.flatten [W_LS cI a u45, W_Sav cS (a 13) [((q 0) 0), ((q 1) 0), ((q 2) 0), ((q 3) 0), ((q 4) 0), ((q 5) 0)], W_State cI (q 0) (Z 0), W_State cI (q 1) (Z 1), W_State cI (q 2) (Z 2), W_State cI (q 3) (Z 3), W_State cI (q 4) (Z 4), W_State cI (q 5) (Z 5)]) := hD
        refine lv_istore (lv' := [(11, .int r44), (10, .int (b2i t0)), (0, .ref bs), (1, .ref (a 0)), (2, .int (b2i x2)), (3, .int x3), (4, .int x4), (5, .int x5), (6, .int x6), (7, .int x7), (8, .int x8)]) hx hb dL_law_145 hl (by decide) rfl (fun ls hl => ?_)
        refine lv_iload hx hb dL_law_147 (lv_at hl 7 rfl) ?_
        refine lv_bipush (v := (7 : Int32)) hx hb dL_law_149 (by decide) ?_
        refine lv_icmp_ge (tgt := 220) hx hb dL_law_151 (by decide) (fun c47 => ?_) (fun c47 => ?_)
        · have hF := F_pos c47 hF
          refine lv_iload hx hb dL_law_220 (lv_at hl 7 rfl) ?_
          refine lv_bipush (v := (9 : Int32)) hx hb dL_law_222 (by decide) ?_
          refine lv_icmp_ge (tgt := 310) hx hb dL_law_224 (by decide) (fun c48 => ?_) (fun c48 => ?_)
          · have hF := F_pos c48 hF
            refine lv_iload hx hb dL_law_310 (lv_at hl 7 rfl) ?_
            refine lv_bipush (v := (9 : Int32)) hx hb dL_law_312 (by decide) ?_
            refine lv_icmp_ne (tgt := 344) hx hb dL_law_314 (by decide) (fun c49 => ?_) (fun c49 => ?_)
            · have hF := F_neg c49 hF
              refine lv_iload hx hb dL_law_344 (lv_at hl 7 rfl) ?_
              refine lv_bipush (v := (10 : Int32)) hx hb dL_law_346 (by decide) ?_
              refine lv_icmp_ne (tgt := 387) hx hb dL_law_348 (by decide) (fun c50 => ?_) (fun c50 => ?_)
              · have hF := F_neg c50 hF
                refine lv_aload_n hx hb dL_law_387 rfl (lv_at hl 3 rfl) ?_
                obtain ⟨r51, u52, h53, hF⟩ := ob2_some hF
                have hP : va_P (dC, dI) vwCl (W_Full cI cS a q u45 Z) H := hP
                have hD : va_D A (W_Full cI cS a q u45 Z) := hD
                have hFc := jFreeW (ws := (W_Full cI cS a q u45 Z)) hD hS hA
                refine va_calli (vx_runSW (As := [.ref (a 0)]) (rest := []) ⟨hx, hb, hml, hown, hts⟩ (c_L_undo l dC dI cI cS hl0 a q H.size _ _ _ _ h53) (vx_cwSW 1 hts gL_law_L_undo rfl rfl rfl (by decide +kernel) ⟨Nat.le_of_ble_eq_true rfl, Nat.le_of_ble_eq_true rfl⟩) (jPreSX hK hP hD hN hU hSN hS hFc) rfl rfl hl.1 rfl (lv_room (Nat.le_of_ble_eq_true rfl)) dL_law_388 ⟨hn9, hk9⟩) hS (fun q _ h => hFc q h) hFc (fun r' u' t H locs ht hvm hw hB hz1 hk1 hS => ?_)
                obtain ⟨e1, e2⟩ := hw
                subst e1
                subst e2
                obtain ⟨q, hP1, -, hD1⟩ := hB
                rw [ht] at hP1
                have hP : va_P (dC, dI) vwCl (W_Full cI cS a q u52 Z) H := hP1
                have hD : va_D A (W_Full cI cS a q u52 Z) := hD1.weaken (fun _ _ _ h => hFc _ h)
                have hP : va_P (dC, dI) vwCl (List.flatten [W_LS cI a u52, W_Sav cS (a 13) [((q 0) 0), ((q 1) 0), ((q 2) 0), ((q 3) 0), ((q 4) 0), ((q 5) 0)], W_State cI (q 0) (Z 0), W_State cI (q 1) (Z 1), W_State cI (q 2) (Z 2), W_State cI (q 3) (Z 3), W_State cI (q 4) (Z 4), W_State cI (q 5) (Z 5)]) H := hP
                have hD : va_D A (List.flatten [W_LS cI a u52, W_Sav cS (a 13) [((q 0) 0), ((q 1) 0), ((q 2) 0), ((q 3) 0), ((q 4) 0), ((q 5) 0)], W_State cI (q 0) (Z 0), W_State cI (q 1) (Z 1), W_State cI (q 2) (Z 2), W_State cI (q 3) (Z 3), W_State cI (q 4) (Z 4), W_State cI (q 5) (Z 5)]) := hD
                refine lv_istore (lv' := [(9, .int r51), (11, .int r44), (10, .int (b2i t0)), (0, .ref bs), (1, .ref (a 0)), (2, .int (b2i x2)), (3, .int x3), (4, .int x4), (5, .int x5), (6, .int x6), (7, .int x7), (8, .int x8)]) hx hb dL_law_391 hl (by decide) rfl (fun ls hl => ?_)
                exact K393 _ _ _ _ _ _ _ _ _ _ _ _ _ (by omega) (by omega) hF hP hD hS _ (lv_sub hl [3, 4, 5, 6, 7, 10, 11, 0] rfl)
              · have hF := F_pos c50 hF
                refine lv_aload_n hx hb dL_law_351 rfl (lv_at hl 2 rfl) ?_
                refine lv_bipush (v := (19 : Int32)) hx hb dL_law_352 (by decide) ?_
                refine lv_iload hx hb dL_law_354 (lv_at hl 6 rfl) ?_
                refine lv_imul hx hb dL_law_356 ?_
                refine lv_iconst (v := (2 : Int32)) hx hb dL_law_357 (by decide) ?_
                refine lv_iadd hx hb dL_law_358 ?_
                obtain ⟨r54, h55, hF⟩ := ob1_some hF
                have hPc : va_P (dC, dI) vwCl ([] : va_W) H := fun k q h => by simp at h
                have hDc : va_D A ([] : va_W) := ⟨fun i j p q h => by simp at h, fun k q h => by simp at h⟩
                have hFc := jFreeW (ws := []) hDc hS hA
                refine va_calli (va_runS (As := [.ref bs, .int (((19 : Int32) * x4) + (2 : Int32))]) (rest := []) ⟨hx, hb, hml, hown, hts⟩ (c_L_cell l dC dI cI bs L xs H.size _ _ h55 (fun z => hbA (hFc _ z))) (va_cwS 2 hts gL_law_L_cell rfl rfl rfl (by decide +kernel) ⟨Nat.le_of_ble_eq_true rfl, Nat.le_of_ble_eq_true rfl⟩) (jPreYS hKi hPc hDc hN hX hbl hbA hS) rfl rfl hl.1 rfl (lv_room (Nat.le_of_ble_eq_true rfl)) dL_law_359 ⟨hn, hk⟩) hS (fun q _ h => hFc q h) hFc (fun r' u' t H locs ht hvm hw hB hz1 hk1 hS => ?_)
                subst hw
                have hP : va_P (dC, dI) vwCl (List.flatten [W_LS cI a u45, W_Sav cS (a 13) [((q 0) 0), ((q 1) 0), ((q 2) 0), ((q 3) 0), ((q 4) 0), ((q 5) 0)], W_State cI (q 0) (Z 0), W_State cI (q 1) (Z 1), W_State cI (q 2) (Z 2), W_State cI (q 3) (Z 3), W_State cI (q 4) (Z 4), W_State cI (q 5) (Z 5)]) H := jNone hP hk1
                refine lv_iconst (v := (2 : Int32)) hx hb dL_law_362 (by decide) ?_
                obtain ⟨r56, h57, hF⟩ := ob1_some hF
                have hPc : va_P (dC, dI) vwCl ([] : va_W) H := fun k q h => by simp at h
                have hDc : va_D A ([] : va_W) := ⟨fun i j p q h => by simp at h, fun k q h => by simp at h⟩
                have hFc := jFreeW (ws := []) hDc hS hA
                refine va_calli (va_runS (As := [.int r54, .int (2 : Int32)]) (rest := []) ⟨hx, hb, hml, hown, hts⟩ (c_L_low l dC dI cI H.size _ _ _ h57) (va_cwS 2 hts gL_law_L_low rfl rfl rfl (by decide +kernel) ⟨Nat.le_of_ble_eq_true rfl, Nat.le_of_ble_eq_true rfl⟩) (jPreS hKi hPc hDc hN) rfl rfl hl.1 rfl (lv_room (Nat.le_of_ble_eq_true rfl)) dL_law_363 ⟨hn, hk⟩) hS (fun q _ h => hFc q h) hFc (fun r' u' t H locs ht hvm hw hB hz1 hk1 hS => ?_)
                subst hw
                have hP : va_P (dC, dI) vwCl (List.flatten [W_LS cI a u45, W_Sav cS (a 13) [((q 0) 0), ((q 1) 0), ((q 2) 0), ((q 3) 0), ((q 4) 0), ((q 5) 0)], W_State cI (q 0) (Z 0), W_State cI (q 1) (Z 1), W_State cI (q 2) (Z 2), W_State cI (q 3) (Z 3), W_State cI (q 4) (Z 4), W_State cI (q 5) (Z 5)]) H := jNone hP hk1
                refine lv_if_ne (tgt := 376) hx hb dL_law_366 (by decide) (fun c58 => ?_) (fun c58 => ?_)
                · have hF := F_neg c58 hF
                  refine lv_aload_n hx hb dL_law_376 rfl (lv_at hl 3 rfl) ?_
                  refine lv_iload hx hb dL_law_377 (lv_at hl 8 rfl) ?_
                  obtain ⟨r59, u60, z61, h62, hF⟩ := ob3_some hF
                  have h62 := okr_some h62
                  have hP : va_P (dC, dI) vwCl (W_Full cI cS a q u45 Z) H := hP
                  have hD : va_D A (W_Full cI cS a q u45 Z) := hD
                  have hFc := jFreeW (ws := (W_Full cI cS a q u45 Z)) hD hS hA
                  refine va_calli (va_runV (As := [.int x6]) (rest := []) ⟨hx, hb, hml, hown, hts⟩ (c_X4_set_ok l dC dI cI cS a q H.size _ _ _ _ _ _ h62) (cwV 1 hts gL_law_X4_set rfl rfl rfl (by decide +kernel) ⟨Nat.le_of_ble_eq_true rfl, Nat.le_of_ble_eq_true rfl⟩) (jPreV hK hP hD hN (ci := 4) rfl rfl) rfl rfl hl.1 rfl (lv_room (Nat.le_of_ble_eq_true rfl)) dL_law_379 ⟨hn, hk⟩) hS (fun q _ h => hFc q h) hFc (fun r' u' t H locs ht hvm hw hB hz1 hk1 hS => ?_)
                  obtain ⟨e1, e2⟩ := hw
                  subst e1
                  subst e2
                  obtain ⟨q, hP1, -, hD1⟩ := hB
                  rw [ht] at hP1
                  have hP : va_P (dC, dI) vwCl (W_Full cI cS a q u60 z61) H := hP1
                  have hD : va_D A (W_Full cI cS a q u60 z61) := hD1.weaken (fun _ _ _ h => hFc _ h)
                  have hP : va_P (dC, dI) vwCl (List.flatten [W_LS cI a u60, W_Sav cS (a 13) [((q 0) 0), ((q 1) 0), ((q 2) 0), ((q 3) 0), ((q 4) 0), ((q 5) 0)], W_State cI (q 0) (z61 0), W_State cI (q 1) (z61 1), W_State cI (q 2) (z61 2), W_State cI (q 3) (z61 3), W_State cI (q 4) (z61 4), W_State cI (q 5) (z61 5)]) H := hP
                  have hD : va_D A (List.flatten [W_LS cI a u60, W_Sav cS (a 13) [((q 0) 0), ((q 1) 0), ((q 2) 0), ((q 3) 0), ((q 4) 0), ((q 5) 0)], W_State cI (q 0) (z61 0), W_State cI (q 1) (z61 1), W_State cI (q 2) (z61 2), W_State cI (q 3) (z61 3), W_State cI (q 4) (z61 4), W_State cI (q 5) (z61 5)]) := hD
                  refine lv_istore (lv' := [(9, .int r59), (11, .int r44), (10, .int (b2i t0)), (0, .ref bs), (1, .ref (a 0)), (2, .int (b2i x2)), (3, .int x3), (4, .int x4), (5, .int x5), (6, .int x6), (7, .int x7), (8, .int x8)]) hx hb dL_law_382 hl (by decide) rfl (fun ls hl => ?_)
                  refine lv_goto (tgt := 393) hx hb dL_law_384 (by decide) ?_
                  exact K393 _ _ _ _ _ _ _ _ _ _ _ _ _ (by omega) (by omega) hF hP hD hS _ (lv_sub hl [3, 4, 5, 6, 7, 10, 11, 0] rfl)
                · have hF := F_pos c58 hF
                  refine lv_aload_n hx hb dL_law_369 rfl (lv_at hl 3 rfl) ?_
                  obtain ⟨r63, u64, z65, h66, hF⟩ := ob3_some hF
                  have hP : va_P (dC, dI) vwCl (W_Full cI cS a q u45 Z) H := hP
                  have hD : va_D A (W_Full cI cS a q u45 Z) := hD
                  have hFc := jFreeW (ws := (W_Full cI cS a q u45 Z)) hD hS hA
                  refine va_calli (va_runV (As := []) (rest := []) ⟨hx, hb, hml, hown, hts⟩ (c_X4_swap l dC dI cI cS a q H.size _ _ _ _ _ h66) (cwV 0 hts gL_law_X4_swap rfl rfl rfl (by decide +kernel) ⟨Nat.le_of_ble_eq_true rfl, Nat.le_of_ble_eq_true rfl⟩) (jPreV hK hP hD hN (ci := 4) rfl rfl) rfl rfl hl.1 rfl (lv_room (Nat.le_of_ble_eq_true rfl)) dL_law_370 ⟨hn, hk⟩) hS (fun q _ h => hFc q h) hFc (fun r' u' t H locs ht hvm hw hB hz1 hk1 hS => ?_)
                  obtain ⟨e1, e2⟩ := hw
                  subst e1
                  subst e2
                  obtain ⟨q, hP1, -, hD1⟩ := hB
                  rw [ht] at hP1
                  have hP : va_P (dC, dI) vwCl (W_Full cI cS a q u64 z65) H := hP1
                  have hD : va_D A (W_Full cI cS a q u64 z65) := hD1.weaken (fun _ _ _ h => hFc _ h)
                  have hP : va_P (dC, dI) vwCl (List.flatten [W_LS cI a u64, W_Sav cS (a 13) [((q 0) 0), ((q 1) 0), ((q 2) 0), ((q 3) 0), ((q 4) 0), ((q 5) 0)], W_State cI (q 0) (z65 0), W_State cI (q 1) (z65 1), W_State cI (q 2) (z65 2), W_State cI (q 3) (z65 3), W_State cI (q 4) (z65 4), W_State cI (q 5) (z65 5)]) H := hP
                  have hD : va_D A (List.flatten [W_LS cI a u64, W_Sav cS (a 13) [((q 0) 0), ((q 1) 0), ((q 2) 0), ((q 3) 0), ((q 4) 0), ((q 5) 0)], W_State cI (q 0) (z65 0), W_State cI (q 1) (z65 1), W_State cI (q 2) (z65 2), W_State cI (q 3) (z65 3), W_State cI (q 4) (z65 4), W_State cI (q 5) (z65 5)]) := hD
                  refine lv_goto (tgt := 382) hx hb dL_law_373 (by decide) ?_
                  refine lv_istore (lv' := [(9, .int r63), (11, .int r44), (10, .int (b2i t0)), (0, .ref bs), (1, .ref (a 0)), (2, .int (b2i x2)), (3, .int x3), (4, .int x4), (5, .int x5), (6, .int x6), (7, .int x7), (8, .int x8)]) hx hb dL_law_382 hl (by decide) rfl (fun ls hl => ?_)
                  refine lv_goto (tgt := 393) hx hb dL_law_384 (by decide) ?_
                  exact K393 _ _ _ _ _ _ _ _ _ _ _ _ _ (by omega) (by omega) hF hP hD hS _ (lv_sub hl [3, 4, 5, 6, 7, 10, 11, 0] rfl)
            · have hF := F_pos c49 hF
              refine lv_aload_n hx hb dL_law_317 rfl (lv_at hl 3 rfl) ?_
              refine lv_iload hx hb dL_law_318 (lv_at hl 8 rfl) ?_
              obtain ⟨r67, u68, z69, h70, hF⟩ := ob3_some hF
              have h70 := okr_some h70
              have hP : va_P (dC, dI) vwCl (W_Full cI cS a q u45 Z) H := hP
              have hD : va_D A (W_Full cI cS a q u45 Z) := hD
              have hFc := jFreeW (ws := (W_Full cI cS a q u45 Z)) hD hS hA
              refine va_calli (va_runV (As := [.int x6]) (rest := []) ⟨hx, hb, hml, hown, hts⟩ (c_X4_forget_ok l dC dI cI cS a q H.size _ _ _ _ _ _ h70) (cwV 1 hts gL_law_X4_forget rfl rfl rfl (by decide +kernel) ⟨Nat.le_of_ble_eq_true rfl, Nat.le_of_ble_eq_true rfl⟩) (jPreV hK hP hD hN (ci := 4) rfl rfl) rfl rfl hl.1 rfl (lv_room (Nat.le_of_ble_eq_true rfl)) dL_law_320 ⟨hn, hk⟩) hS (fun q _ h => hFc q h) hFc (fun r' u' t H locs ht hvm hw hB hz1 hk1 hS => ?_)
              obtain ⟨e1, e2⟩ := hw
              subst e1
              subst e2
              obtain ⟨q, hP1, -, hD1⟩ := hB
              rw [ht] at hP1
              have hP : va_P (dC, dI) vwCl (W_Full cI cS a q u68 z69) H := hP1
              have hD : va_D A (W_Full cI cS a q u68 z69) := hD1.weaken (fun _ _ _ h => hFc _ h)
              have hP : va_P (dC, dI) vwCl (List.flatten [W_LS cI a u68, W_Sav cS (a 13) [((q 0) 0), ((q 1) 0), ((q 2) 0), ((q 3) 0), ((q 4) 0), ((q 5) 0)], W_State cI (q 0) (z69 0), W_State cI (q 1) (z69 1), W_State cI (q 2) (z69 2), W_State cI (q 3) (z69 3), W_State cI (q 4) (z69 4), W_State cI (q 5) (z69 5)]) H := hP
              have hD : va_D A (List.flatten [W_LS cI a u68, W_Sav cS (a 13) [((q 0) 0), ((q 1) 0), ((q 2) 0), ((q 3) 0), ((q 4) 0), ((q 5) 0)], W_State cI (q 0) (z69 0), W_State cI (q 1) (z69 1), W_State cI (q 2) (z69 2), W_State cI (q 3) (z69 3), W_State cI (q 4) (z69 4), W_State cI (q 5) (z69 5)]) := hD
              refine lv_istore (lv' := [(9, .int r67), (11, .int r44), (10, .int (b2i t0)), (0, .ref bs), (1, .ref (a 0)), (2, .int (b2i x2)), (3, .int x3), (4, .int x4), (5, .int x5), (6, .int x6), (7, .int x7), (8, .int x8)]) hx hb dL_law_323 hl (by decide) rfl (fun ls hl => ?_)
              refine lv_aload_n hx hb dL_law_325 rfl (lv_at hl 4 rfl) ?_
              refine lv_iload hx hb dL_law_326 (lv_at hl 9 rfl) ?_
              refine lv_iconst (v := (1 : Int32)) hx hb dL_law_328 (by decide) ?_
              obtain ⟨r71, h72, hF⟩ := ob1_some hF
              have h72 := okr_some h72
              have hPc := hP.sub (ws' := (W_LS cI a u68)) [0, 1, 2, 3, 4, 5, 6, 7, 8, 9, 10, 11, 12] rfl
              have hDc := hD.sub (ws' := (W_LS cI a u68)) [0, 1, 2, 3, 4, 5, 6, 7, 8, 9, 10, 11, 12] (by decide) rfl
              have hFc := va_free (wc := (W_LS cI a u68)) hD hS hA [0, 1, 2, 3, 4, 5, 6, 7, 8, 9, 10, 11, 12] rfl
              refine va_calli (va_runV (As := [.int x6, .int (1 : Int32)]) (rest := []) ⟨hx, hb, hml, hown, hts⟩ (c_X4_shape_ok l dC dI cI a H.size _ _ _ _ h72) (cwV 2 hts gL_law_X4_shape rfl rfl rfl (by decide +kernel) ⟨Nat.le_of_ble_eq_true rfl, Nat.le_of_ble_eq_true rfl⟩) (jPreV hKi hPc hDc hN (ci := 4) rfl rfl) rfl rfl hl.1 rfl (lv_room (Nat.le_of_ble_eq_true rfl)) dL_law_329 ⟨hn, hk⟩) hS (fun q _ h => hFc q h) hFc (fun r' u' t H locs ht hvm hw hB hz1 hk1 hS => ?_)
              subst hw
              obtain ⟨hP1, -, hD1⟩ := hB
              rw [ht] at hP1
              obtain ⟨hP, hD⟩ := jJoinF (wa := (W_LS cI a u68)) (wb := List.flatten [W_Sav cS (a 13) [((q 0) 0), ((q 1) 0), ((q 2) 0), ((q 3) 0), ((q 4) 0), ((q 5) 0)], W_State cI (q 0) (z69 0), W_State cI (q 1) (z69 1), W_State cI (q 2) (z69 2), W_State cI (q 3) (z69 3), W_State cI (q 4) (z69 4), W_State cI (q 5) (z69 5)]) (wc := (W_LS cI a u68)) (w1 := (W_LS cI a u68)) (ws' := (W_LS cI a u68)) hP hD [0, 1, 2, 3, 4, 5, 6, 7, 8, 9, 10, 11, 12] [] [0, 1, 2, 3, 4, 5, 6, 7, 8, 9, 10, 11, 12] rfl rfl (by decide) (by decide) hk1 hFc hP1 hD1 (by decide) rfl
              have hP : va_P (dC, dI) vwCl (List.flatten [W_LS cI a u68, W_Sav cS (a 13) [((q 0) 0), ((q 1) 0), ((q 2) 0), ((q 3) 0), ((q 4) 0), ((q 5) 0)], W_State cI (q 0) (z69 0), W_State cI (q 1) (z69 1), W_State cI (q 2) (z69 2), W_State cI (q 3) (z69 3), W_State cI (q 4) (z69 4), W_State cI (q 5) (z69 5)]) H := hP
              have hD : va_D A (List.flatten [W_LS cI a u68, W_Sav cS (a 13) [((q 0) 0), ((q 1) 0), ((q 2) 0), ((q 3) 0), ((q 4) 0), ((q 5) 0)], W_State cI (q 0) (z69 0), W_State cI (q 1) (z69 1), W_State cI (q 2) (z69 2), W_State cI (q 3) (z69 3), W_State cI (q 4) (z69 4), W_State cI (q 5) (z69 5)]) := hD
              refine lv_if_ne (tgt := 339) hx hb dL_law_332 (by decide) (fun c73 => ?_) (fun c73 => ?_)
              · have hF := F_neg c73 hF
                refine lv_iconst (v := (0 : Int32)) hx hb dL_law_339 (by decide) ?_
                refine lv_istore_n (lv' := [(2, .int (0 : Int32)), (9, .int r67), (11, .int r44), (10, .int (b2i t0)), (0, .ref bs), (1, .ref (a 0)), (3, .int x3), (4, .int x4), (5, .int x5), (6, .int x6), (7, .int x7), (8, .int x8)]) hx hb dL_law_340 rfl hl (by decide) rfl (fun ls hl => ?_)
                refine lv_goto (tgt := 393) hx hb dL_law_341 (by decide) ?_
                exact K393 _ _ _ _ _ _ _ _ _ _ _ _ _ (by omega) (by omega) hF hP hD hS _ (lv_sub hl [4, 5, 0, 6, 7, 10, 11, 1] rfl)
              · have hF := F_pos c73 hF
                refine lv_iconst (v := (1 : Int32)) hx hb dL_law_335 (by decide) ?_
                refine lv_goto (tgt := 340) hx hb dL_law_336 (by decide) ?_
                refine lv_istore_n (lv' := [(2, .int (1 : Int32)), (9, .int r67), (11, .int r44), (10, .int (b2i t0)), (0, .ref bs), (1, .ref (a 0)), (3, .int x3), (4, .int x4), (5, .int x5), (6, .int x6), (7, .int x7), (8, .int x8)]) hx hb dL_law_340 rfl hl (by decide) rfl (fun ls hl => ?_)
                refine lv_goto (tgt := 393) hx hb dL_law_341 (by decide) ?_
                exact K393 _ _ _ _ _ _ _ _ _ _ _ _ _ (by omega) (by omega) hF hP hD hS _ (lv_sub hl [4, 5, 0, 6, 7, 10, 11, 1] rfl)
          · have hF := F_neg c48 hF
            refine lv_aload_n hx hb dL_law_227 rfl (lv_at hl 3 rfl) ?_
            refine lv_iconst (v := (1 : Int32)) hx hb dL_law_228 (by decide) ?_
            refine lv_iload hx hb dL_law_229 (lv_at hl 8 rfl) ?_
            refine lv_isub hx hb dL_law_231 ?_
            refine lv_iconst (v := (0 : Int32)) hx hb dL_law_232 (by decide) ?_
            obtain ⟨r74, h75, hF⟩ := ob1_some hF
            have h75 := okr_some h75
            have hPc := hP.sub (ws' := (W_LS cI a u45)) [0, 1, 2, 3, 4, 5, 6, 7, 8, 9, 10, 11, 12] rfl
            have hDc := hD.sub (ws' := (W_LS cI a u45)) [0, 1, 2, 3, 4, 5, 6, 7, 8, 9, 10, 11, 12] (by decide) rfl
            have hFc := va_free (wc := (W_LS cI a u45)) hD hS hA [0, 1, 2, 3, 4, 5, 6, 7, 8, 9, 10, 11, 12] rfl
            refine va_calli (va_runV (As := [.int ((1 : Int32) - x6), .int (0 : Int32)]) (rest := []) ⟨hx, hb, hml, hown, hts⟩ (c_X4_shape_ok l dC dI cI a H.size _ _ _ _ h75) (cwV 2 hts gL_law_X4_shape rfl rfl rfl (by decide +kernel) ⟨Nat.le_of_ble_eq_true rfl, Nat.le_of_ble_eq_true rfl⟩) (jPreV hKi hPc hDc hN (ci := 4) rfl rfl) rfl rfl hl.1 rfl (lv_room (Nat.le_of_ble_eq_true rfl)) dL_law_233 ⟨hn, hk⟩) hS (fun q _ h => hFc q h) hFc (fun r' u' t H locs ht hvm hw hB hz1 hk1 hS => ?_)
            subst hw
            obtain ⟨hP1, -, hD1⟩ := hB
            rw [ht] at hP1
            obtain ⟨hP, hD⟩ := jJoinF (wa := (W_LS cI a u45)) (wb := List.flatten [W_Sav cS (a 13) [((q 0) 0), ((q 1) 0), ((q 2) 0), ((q 3) 0), ((q 4) 0), ((q 5) 0)], W_State cI (q 0) (Z 0), W_State cI (q 1) (Z 1), W_State cI (q 2) (Z 2), W_State cI (q 3) (Z 3), W_State cI (q 4) (Z 4), W_State cI (q 5) (Z 5)]) (wc := (W_LS cI a u45)) (w1 := (W_LS cI a u45)) (ws' := (W_LS cI a u45)) hP hD [0, 1, 2, 3, 4, 5, 6, 7, 8, 9, 10, 11, 12] [] [0, 1, 2, 3, 4, 5, 6, 7, 8, 9, 10, 11, 12] rfl rfl (by decide) (by decide) hk1 hFc hP1 hD1 (by decide) rfl
            have hP : va_P (dC, dI) vwCl (List.flatten [W_LS cI a u45, W_Sav cS (a 13) [((q 0) 0), ((q 1) 0), ((q 2) 0), ((q 3) 0), ((q 4) 0), ((q 5) 0)], W_State cI (q 0) (Z 0), W_State cI (q 1) (Z 1), W_State cI (q 2) (Z 2), W_State cI (q 3) (Z 3), W_State cI (q 4) (Z 4), W_State cI (q 5) (Z 5)]) H := hP
            have hD : va_D A (List.flatten [W_LS cI a u45, W_Sav cS (a 13) [((q 0) 0), ((q 1) 0), ((q 2) 0), ((q 3) 0), ((q 4) 0), ((q 5) 0)], W_State cI (q 0) (Z 0), W_State cI (q 1) (Z 1), W_State cI (q 2) (Z 2), W_State cI (q 3) (Z 3), W_State cI (q 4) (Z 4), W_State cI (q 5) (Z 5)]) := hD
            refine lv_istore (lv' := [(12, .int r74), (11, .int r44), (10, .int (b2i t0)), (0, .ref bs), (1, .ref (a 0)), (2, .int (b2i x2)), (3, .int x3), (4, .int x4), (5, .int x5), (6, .int x6), (7, .int x7), (8, .int x8)]) hx hb dL_law_236 hl (by decide) rfl (fun ls hl => ?_)
            refine lv_aload_n hx hb dL_law_238 rfl (lv_at hl 4 rfl) ?_
            refine lv_iload hx hb dL_law_239 (lv_at hl 9 rfl) ?_
            refine lv_iconst (v := (0 : Int32)) hx hb dL_law_241 (by decide) ?_
            obtain ⟨r76, h77, hF⟩ := ob1_some hF
            have h77 := okr_some h77
            have hPc := hP.sub (ws' := (W_LS cI a u45)) [0, 1, 2, 3, 4, 5, 6, 7, 8, 9, 10, 11, 12] rfl
            have hDc := hD.sub (ws' := (W_LS cI a u45)) [0, 1, 2, 3, 4, 5, 6, 7, 8, 9, 10, 11, 12] (by decide) rfl
            have hFc := va_free (wc := (W_LS cI a u45)) hD hS hA [0, 1, 2, 3, 4, 5, 6, 7, 8, 9, 10, 11, 12] rfl
            refine va_calli (va_runV (As := [.int x6, .int (0 : Int32)]) (rest := []) ⟨hx, hb, hml, hown, hts⟩ (c_X4_shape_ok l dC dI cI a H.size _ _ _ _ h77) (cwV 2 hts gL_law_X4_shape rfl rfl rfl (by decide +kernel) ⟨Nat.le_of_ble_eq_true rfl, Nat.le_of_ble_eq_true rfl⟩) (jPreV hKi hPc hDc hN (ci := 4) rfl rfl) rfl rfl hl.1 rfl (lv_room (Nat.le_of_ble_eq_true rfl)) dL_law_242 ⟨hn, hk⟩) hS (fun q _ h => hFc q h) hFc (fun r' u' t H locs ht hvm hw hB hz1 hk1 hS => ?_)
            subst hw
            obtain ⟨hP1, -, hD1⟩ := hB
            rw [ht] at hP1
            obtain ⟨hP, hD⟩ := jJoinF (wa := (W_LS cI a u45)) (wb := List.flatten [W_Sav cS (a 13) [((q 0) 0), ((q 1) 0), ((q 2) 0), ((q 3) 0), ((q 4) 0), ((q 5) 0)], W_State cI (q 0) (Z 0), W_State cI (q 1) (Z 1), W_State cI (q 2) (Z 2), W_State cI (q 3) (Z 3), W_State cI (q 4) (Z 4), W_State cI (q 5) (Z 5)]) (wc := (W_LS cI a u45)) (w1 := (W_LS cI a u45)) (ws' := (W_LS cI a u45)) hP hD [0, 1, 2, 3, 4, 5, 6, 7, 8, 9, 10, 11, 12] [] [0, 1, 2, 3, 4, 5, 6, 7, 8, 9, 10, 11, 12] rfl rfl (by decide) (by decide) hk1 hFc hP1 hD1 (by decide) rfl
            have hP : va_P (dC, dI) vwCl (List.flatten [W_LS cI a u45, W_Sav cS (a 13) [((q 0) 0), ((q 1) 0), ((q 2) 0), ((q 3) 0), ((q 4) 0), ((q 5) 0)], W_State cI (q 0) (Z 0), W_State cI (q 1) (Z 1), W_State cI (q 2) (Z 2), W_State cI (q 3) (Z 3), W_State cI (q 4) (Z 4), W_State cI (q 5) (Z 5)]) H := hP
            have hD : va_D A (List.flatten [W_LS cI a u45, W_Sav cS (a 13) [((q 0) 0), ((q 1) 0), ((q 2) 0), ((q 3) 0), ((q 4) 0), ((q 5) 0)], W_State cI (q 0) (Z 0), W_State cI (q 1) (Z 1), W_State cI (q 2) (Z 2), W_State cI (q 3) (Z 3), W_State cI (q 4) (Z 4), W_State cI (q 5) (Z 5)]) := hD
            refine lv_istore (lv' := [(13, .int r76), (12, .int r74), (11, .int r44), (10, .int (b2i t0)), (0, .ref bs), (1, .ref (a 0)), (2, .int (b2i x2)), (3, .int x3), (4, .int x4), (5, .int x5), (6, .int x6), (7, .int x7), (8, .int x8)]) hx hb dL_law_245 hl (by decide) rfl (fun ls hl => ?_)
            refine lv_aload_n hx hb dL_law_247 rfl (lv_at hl 5 rfl) ?_
            refine lv_iload hx hb dL_law_248 (lv_at hl 10 rfl) ?_
            obtain ⟨r78, u79, z80, h81, hF⟩ := ob3_some hF
            have hP : va_P (dC, dI) vwCl (W_Full cI cS a q u45 Z) H := hP
            have hD : va_D A (W_Full cI cS a q u45 Z) := hD
            have hFc := jFreeW (ws := (W_Full cI cS a q u45 Z)) hD hS hA
            refine va_calli (vx_runSW (As := [.ref (a 0), .int x6]) (rest := []) ⟨hx, hb, hml, hown, hts⟩ (c_L_join l dC dI cI cS hl0 a q H.size _ _ _ _ _ _ h81) (vx_cwSW 2 hts gL_law_L_join rfl rfl rfl (by decide +kernel) ⟨Nat.le_of_ble_eq_true rfl, Nat.le_of_ble_eq_true rfl⟩) (jPreSX hK hP hD hN hU hSN hS hFc) rfl rfl hl.1 rfl (lv_room (Nat.le_of_ble_eq_true rfl)) dL_law_250 ⟨hn9, hk9⟩) hS (fun q _ h => hFc q h) hFc (fun r' u' t H locs ht hvm hw hB hz1 hk1 hS => ?_)
            obtain ⟨e1, e2⟩ := hw
            subst e1
            subst e2
            obtain ⟨q, hP1, -, hD1⟩ := hB
            rw [ht] at hP1
            have hP : va_P (dC, dI) vwCl (W_Full cI cS a q u79 z80) H := hP1
            have hD : va_D A (W_Full cI cS a q u79 z80) := hD1.weaken (fun _ _ _ h => hFc _ h)
            have hP : va_P (dC, dI) vwCl (List.flatten [W_LS cI a u79, W_Sav cS (a 13) [((q 0) 0), ((q 1) 0), ((q 2) 0), ((q 3) 0), ((q 4) 0), ((q 5) 0)], W_State cI (q 0) (z80 0), W_State cI (q 1) (z80 1), W_State cI (q 2) (z80 2), W_State cI (q 3) (z80 3), W_State cI (q 4) (z80 4), W_State cI (q 5) (z80 5)]) H := hP
            have hD : va_D A (List.flatten [W_LS cI a u79, W_Sav cS (a 13) [((q 0) 0), ((q 1) 0), ((q 2) 0), ((q 3) 0), ((q 4) 0), ((q 5) 0)], W_State cI (q 0) (z80 0), W_State cI (q 1) (z80 1), W_State cI (q 2) (z80 2), W_State cI (q 3) (z80 3), W_State cI (q 4) (z80 4), W_State cI (q 5) (z80 5)]) := hD
            refine lv_istore (lv' := [(9, .int r78), (13, .int r76), (12, .int r74), (11, .int r44), (10, .int (b2i t0)), (0, .ref bs), (1, .ref (a 0)), (2, .int (b2i x2)), (3, .int x3), (4, .int x4), (5, .int x5), (6, .int x6), (7, .int x7), (8, .int x8)]) hx hb dL_law_253 hl (by decide) rfl (fun ls hl => ?_)
            refine lv_iload hx hb dL_law_255 (lv_at hl 0 rfl) ?_
            refine lv_bipush (v := (-3 : Int32)) hx hb dL_law_257 (by decide) ?_
            refine lv_icmp_eq (tgt := 301) hx hb dL_law_259 (by decide) (fun c82 => ?_) (fun c82 => ?_)
            · have hF := F_pos c82 hF
              refine lv_iconst (v := (1 : Int32)) hx hb dL_law_301 (by decide) ?_
              refine lv_goto (tgt := 306) hx hb dL_law_302 (by decide) ?_
              refine lv_istore_n (lv' := [(2, .int (1 : Int32)), (9, .int r78), (13, .int r76), (12, .int r74), (11, .int r44), (10, .int (b2i t0)), (0, .ref bs), (1, .ref (a 0)), (3, .int x3), (4, .int x4), (5, .int x5), (6, .int x6), (7, .int x7), (8, .int x8)]) hx hb dL_law_306 rfl hl (by decide) rfl (fun ls hl => ?_)
              refine lv_goto (tgt := 393) hx hb dL_law_307 (by decide) ?_
              exact K393 _ _ _ _ _ _ _ _ _ _ _ _ _ (by omega) (by omega) hF hP hD hS _ (lv_sub hl [6, 7, 0, 8, 9, 12, 13, 1] rfl)
            · have hF := F_neg c82 hF
              refine lv_aload_n hx hb dL_law_262 rfl (lv_at hl 6 rfl) ?_
              refine lv_iload hx hb dL_law_263 (lv_at hl 11 rfl) ?_
              obtain ⟨r83, h84, hF⟩ := ob1_some hF
              have h84 := okr_some h84
              have hPc := hP.sub (ws' := (W_LS cI a u79)) [0, 1, 2, 3, 4, 5, 6, 7, 8, 9, 10, 11, 12] rfl
              have hDc := hD.sub (ws' := (W_LS cI a u79)) [0, 1, 2, 3, 4, 5, 6, 7, 8, 9, 10, 11, 12] (by decide) rfl
              have hFc := va_free (wc := (W_LS cI a u79)) hD hS hA [0, 1, 2, 3, 4, 5, 6, 7, 8, 9, 10, 11, 12] rfl
              refine va_calli (va_runV (As := [.int x6]) (rest := []) ⟨hx, hb, hml, hown, hts⟩ (c_X4_covers_ok l dC dI cI a H.size _ _ _ h84) (cwV 1 hts gL_law_X4_covers rfl rfl rfl (by decide +kernel) ⟨Nat.le_of_ble_eq_true rfl, Nat.le_of_ble_eq_true rfl⟩) (jPreV hKi hPc hDc hN (ci := 4) rfl rfl) rfl rfl hl.1 rfl (lv_room (Nat.le_of_ble_eq_true rfl)) dL_law_265 ⟨hn9, hk9⟩) hS (fun q _ h => hFc q h) hFc (fun r' u' t H locs ht hvm hw hB hz1 hk1 hS => ?_)
              subst hw
              obtain ⟨hP1, -, hD1⟩ := hB
              rw [ht] at hP1
              obtain ⟨hP, hD⟩ := jJoinF (wa := (W_LS cI a u79)) (wb := List.flatten [W_Sav cS (a 13) [((q 0) 0), ((q 1) 0), ((q 2) 0), ((q 3) 0), ((q 4) 0), ((q 5) 0)], W_State cI (q 0) (z80 0), W_State cI (q 1) (z80 1), W_State cI (q 2) (z80 2), W_State cI (q 3) (z80 3), W_State cI (q 4) (z80 4), W_State cI (q 5) (z80 5)]) (wc := (W_LS cI a u79)) (w1 := (W_LS cI a u79)) (ws' := (W_LS cI a u79)) hP hD [0, 1, 2, 3, 4, 5, 6, 7, 8, 9, 10, 11, 12] [] [0, 1, 2, 3, 4, 5, 6, 7, 8, 9, 10, 11, 12] rfl rfl (by decide) (by decide) hk1 hFc hP1 hD1 (by decide) rfl
              have hP : va_P (dC, dI) vwCl (List.flatten [W_LS cI a u79, W_Sav cS (a 13) [((q 0) 0), ((q 1) 0), ((q 2) 0), ((q 3) 0), ((q 4) 0), ((q 5) 0)], W_State cI (q 0) (z80 0), W_State cI (q 1) (z80 1), W_State cI (q 2) (z80 2), W_State cI (q 3) (z80 3), W_State cI (q 4) (z80 4), W_State cI (q 5) (z80 5)]) H := hP
              have hD : va_D A (List.flatten [W_LS cI a u79, W_Sav cS (a 13) [((q 0) 0), ((q 1) 0), ((q 2) 0), ((q 3) 0), ((q 4) 0), ((q 5) 0)], W_State cI (q 0) (z80 0), W_State cI (q 1) (z80 1), W_State cI (q 2) (z80 2), W_State cI (q 3) (z80 3), W_State cI (q 4) (z80 4), W_State cI (q 5) (z80 5)]) := hD
              refine lv_iconst (v := (1 : Int32)) hx hb dL_law_268 (by decide) ?_
              refine lv_icmp_ne (tgt := 305) hx hb dL_law_269 (by decide) (fun c85 => ?_) (fun c85 => ?_)
              · have hF := F_neg c85 hF
                refine lv_iconst (v := (0 : Int32)) hx hb dL_law_305 (by decide) ?_
                refine lv_istore_n (lv' := [(2, .int (0 : Int32)), (9, .int r78), (13, .int r76), (12, .int r74), (11, .int r44), (10, .int (b2i t0)), (0, .ref bs), (1, .ref (a 0)), (3, .int x3), (4, .int x4), (5, .int x5), (6, .int x6), (7, .int x7), (8, .int x8)]) hx hb dL_law_306 rfl hl (by decide) rfl (fun ls hl => ?_)
                refine lv_goto (tgt := 393) hx hb dL_law_307 (by decide) ?_
                exact K393 _ _ _ _ _ _ _ _ _ _ _ _ _ (by omega) (by omega) hF hP hD hS _ (lv_sub hl [6, 7, 0, 8, 9, 12, 13, 1] rfl)
              · have hF := F_pos c85 hF
                refine lv_aload_n hx hb dL_law_272 rfl (lv_at hl 6 rfl) ?_
                refine lv_iload hx hb dL_law_273 (lv_at hl 11 rfl) ?_
                refine lv_iconst (v := (0 : Int32)) hx hb dL_law_275 (by decide) ?_
                obtain ⟨r86, h87, hF⟩ := ob1_some hF
                have h87 := okr_some h87
                have hPc := hP.sub (ws' := (W_LS cI a u79)) [0, 1, 2, 3, 4, 5, 6, 7, 8, 9, 10, 11, 12] rfl
                have hDc := hD.sub (ws' := (W_LS cI a u79)) [0, 1, 2, 3, 4, 5, 6, 7, 8, 9, 10, 11, 12] (by decide) rfl
                have hFc := va_free (wc := (W_LS cI a u79)) hD hS hA [0, 1, 2, 3, 4, 5, 6, 7, 8, 9, 10, 11, 12] rfl
                refine va_calli (va_runV (As := [.int x6, .int (0 : Int32)]) (rest := []) ⟨hx, hb, hml, hown, hts⟩ (c_X4_shape_ok l dC dI cI a H.size _ _ _ _ h87) (cwV 2 hts gL_law_X4_shape rfl rfl rfl (by decide +kernel) ⟨Nat.le_of_ble_eq_true rfl, Nat.le_of_ble_eq_true rfl⟩) (jPreV hKi hPc hDc hN (ci := 4) rfl rfl) rfl rfl hl.1 rfl (lv_room (Nat.le_of_ble_eq_true rfl)) dL_law_276 ⟨hn9, hk9⟩) hS (fun q _ h => hFc q h) hFc (fun r' u' t H locs ht hvm hw hB hz1 hk1 hS => ?_)
                subst hw
                obtain ⟨hP1, -, hD1⟩ := hB
                rw [ht] at hP1
                obtain ⟨hP, hD⟩ := jJoinF (wa := (W_LS cI a u79)) (wb := List.flatten [W_Sav cS (a 13) [((q 0) 0), ((q 1) 0), ((q 2) 0), ((q 3) 0), ((q 4) 0), ((q 5) 0)], W_State cI (q 0) (z80 0), W_State cI (q 1) (z80 1), W_State cI (q 2) (z80 2), W_State cI (q 3) (z80 3), W_State cI (q 4) (z80 4), W_State cI (q 5) (z80 5)]) (wc := (W_LS cI a u79)) (w1 := (W_LS cI a u79)) (ws' := (W_LS cI a u79)) hP hD [0, 1, 2, 3, 4, 5, 6, 7, 8, 9, 10, 11, 12] [] [0, 1, 2, 3, 4, 5, 6, 7, 8, 9, 10, 11, 12] rfl rfl (by decide) (by decide) hk1 hFc hP1 hD1 (by decide) rfl
                have hP : va_P (dC, dI) vwCl (List.flatten [W_LS cI a u79, W_Sav cS (a 13) [((q 0) 0), ((q 1) 0), ((q 2) 0), ((q 3) 0), ((q 4) 0), ((q 5) 0)], W_State cI (q 0) (z80 0), W_State cI (q 1) (z80 1), W_State cI (q 2) (z80 2), W_State cI (q 3) (z80 3), W_State cI (q 4) (z80 4), W_State cI (q 5) (z80 5)]) H := hP
                have hD : va_D A (List.flatten [W_LS cI a u79, W_Sav cS (a 13) [((q 0) 0), ((q 1) 0), ((q 2) 0), ((q 3) 0), ((q 4) 0), ((q 5) 0)], W_State cI (q 0) (z80 0), W_State cI (q 1) (z80 1), W_State cI (q 2) (z80 2), W_State cI (q 3) (z80 3), W_State cI (q 4) (z80 4), W_State cI (q 5) (z80 5)]) := hD
                refine lv_iload hx hb dL_law_279 (lv_at hl 1 rfl) ?_
                refine lv_iload hx hb dL_law_281 (lv_at hl 2 rfl) ?_
                refine lv_iadd hx hb dL_law_283 ?_
                refine lv_icmp_ne (tgt := 305) hx hb dL_law_284 (by decide) (fun c88 => ?_) (fun c88 => ?_)
                · have hF := F_neg c88 hF
                  refine lv_iconst (v := (0 : Int32)) hx hb dL_law_305 (by decide) ?_
                  refine lv_istore_n (lv' := [(2, .int (0 : Int32)), (9, .int r78), (13, .int r76), (12, .int r74), (11, .int r44), (10, .int (b2i t0)), (0, .ref bs), (1, .ref (a 0)), (3, .int x3), (4, .int x4), (5, .int x5), (6, .int x6), (7, .int x7), (8, .int x8)]) hx hb dL_law_306 rfl hl (by decide) rfl (fun ls hl => ?_)
                  refine lv_goto (tgt := 393) hx hb dL_law_307 (by decide) ?_
                  exact K393 _ _ _ _ _ _ _ _ _ _ _ _ _ (by omega) (by omega) hF hP hD hS _ (lv_sub hl [6, 7, 0, 8, 9, 12, 13, 1] rfl)
                · have hF := F_pos c88 hF
                  refine lv_aload_n hx hb dL_law_287 rfl (lv_at hl 6 rfl) ?_
                  refine lv_iconst (v := (1 : Int32)) hx hb dL_law_288 (by decide) ?_
                  refine lv_iload hx hb dL_law_289 (lv_at hl 11 rfl) ?_
                  refine lv_isub hx hb dL_law_291 ?_
                  refine lv_iconst (v := (0 : Int32)) hx hb dL_law_292 (by decide) ?_
                  obtain ⟨r89, h90, hF⟩ := ob1_some hF
                  have h90 := okr_some h90
                  have hPc := hP.sub (ws' := (W_LS cI a u79)) [0, 1, 2, 3, 4, 5, 6, 7, 8, 9, 10, 11, 12] rfl
                  have hDc := hD.sub (ws' := (W_LS cI a u79)) [0, 1, 2, 3, 4, 5, 6, 7, 8, 9, 10, 11, 12] (by decide) rfl
                  have hFc := va_free (wc := (W_LS cI a u79)) hD hS hA [0, 1, 2, 3, 4, 5, 6, 7, 8, 9, 10, 11, 12] rfl
                  refine va_calli (va_runV (As := [.int ((1 : Int32) - x6), .int (0 : Int32)]) (rest := []) ⟨hx, hb, hml, hown, hts⟩ (c_X4_shape_ok l dC dI cI a H.size _ _ _ _ h90) (cwV 2 hts gL_law_X4_shape rfl rfl rfl (by decide +kernel) ⟨Nat.le_of_ble_eq_true rfl, Nat.le_of_ble_eq_true rfl⟩) (jPreV hKi hPc hDc hN (ci := 4) rfl rfl) rfl rfl hl.1 rfl (lv_room (Nat.le_of_ble_eq_true rfl)) dL_law_293 ⟨hn9, hk9⟩) hS (fun q _ h => hFc q h) hFc (fun r' u' t H locs ht hvm hw hB hz1 hk1 hS => ?_)
                  subst hw
                  obtain ⟨hP1, -, hD1⟩ := hB
                  rw [ht] at hP1
                  obtain ⟨hP, hD⟩ := jJoinF (wa := (W_LS cI a u79)) (wb := List.flatten [W_Sav cS (a 13) [((q 0) 0), ((q 1) 0), ((q 2) 0), ((q 3) 0), ((q 4) 0), ((q 5) 0)], W_State cI (q 0) (z80 0), W_State cI (q 1) (z80 1), W_State cI (q 2) (z80 2), W_State cI (q 3) (z80 3), W_State cI (q 4) (z80 4), W_State cI (q 5) (z80 5)]) (wc := (W_LS cI a u79)) (w1 := (W_LS cI a u79)) (ws' := (W_LS cI a u79)) hP hD [0, 1, 2, 3, 4, 5, 6, 7, 8, 9, 10, 11, 12] [] [0, 1, 2, 3, 4, 5, 6, 7, 8, 9, 10, 11, 12] rfl rfl (by decide) (by decide) hk1 hFc hP1 hD1 (by decide) rfl
                  have hP : va_P (dC, dI) vwCl (List.flatten [W_LS cI a u79, W_Sav cS (a 13) [((q 0) 0), ((q 1) 0), ((q 2) 0), ((q 3) 0), ((q 4) 0), ((q 5) 0)], W_State cI (q 0) (z80 0), W_State cI (q 1) (z80 1), W_State cI (q 2) (z80 2), W_State cI (q 3) (z80 3), W_State cI (q 4) (z80 4), W_State cI (q 5) (z80 5)]) H := hP
                  have hD : va_D A (List.flatten [W_LS cI a u79, W_Sav cS (a 13) [((q 0) 0), ((q 1) 0), ((q 2) 0), ((q 3) 0), ((q 4) 0), ((q 5) 0)], W_State cI (q 0) (z80 0), W_State cI (q 1) (z80 1), W_State cI (q 2) (z80 2), W_State cI (q 3) (z80 3), W_State cI (q 4) (z80 4), W_State cI (q 5) (z80 5)]) := hD
                  refine lv_iload hx hb dL_law_296 (lv_at hl 2 rfl) ?_
                  refine lv_icmp_ne (tgt := 305) hx hb dL_law_298 (by decide) (fun c91 => ?_) (fun c91 => ?_)
                  · have hF := F_neg c91 hF
                    refine lv_iconst (v := (0 : Int32)) hx hb dL_law_305 (by decide) ?_
                    refine lv_istore_n (lv' := [(2, .int (0 : Int32)), (9, .int r78), (13, .int r76), (12, .int r74), (11, .int r44), (10, .int (b2i t0)), (0, .ref bs), (1, .ref (a 0)), (3, .int x3), (4, .int x4), (5, .int x5), (6, .int x6), (7, .int x7), (8, .int x8)]) hx hb dL_law_306 rfl hl (by decide) rfl (fun ls hl => ?_)
                    refine lv_goto (tgt := 393) hx hb dL_law_307 (by decide) ?_
                    exact K393 _ _ _ _ _ _ _ _ _ _ _ _ _ (by omega) (by omega) hF hP hD hS _ (lv_sub hl [6, 7, 0, 8, 9, 12, 13, 1] rfl)
                  · have hF := F_pos c91 hF
                    refine lv_iconst (v := (1 : Int32)) hx hb dL_law_301 (by decide) ?_
                    refine lv_goto (tgt := 306) hx hb dL_law_302 (by decide) ?_
                    refine lv_istore_n (lv' := [(2, .int (1 : Int32)), (9, .int r78), (13, .int r76), (12, .int r74), (11, .int r44), (10, .int (b2i t0)), (0, .ref bs), (1, .ref (a 0)), (3, .int x3), (4, .int x4), (5, .int x5), (6, .int x6), (7, .int x7), (8, .int x8)]) hx hb dL_law_306 rfl hl (by decide) rfl (fun ls hl => ?_)
                    refine lv_goto (tgt := 393) hx hb dL_law_307 (by decide) ?_
                    exact K393 _ _ _ _ _ _ _ _ _ _ _ _ _ (by omega) (by omega) hF hP hD hS _ (lv_sub hl [6, 7, 0, 8, 9, 12, 13, 1] rfl)
        · have hF := F_neg c47 hF
          refine lv_aload_n hx hb dL_law_154 rfl (lv_at hl 3 rfl) ?_
          refine lv_iload hx hb dL_law_155 (lv_at hl 8 rfl) ?_
          obtain ⟨r92, u93, z94, h95, hF⟩ := ob3_some hF
          have hP : va_P (dC, dI) vwCl (W_Full cI cS a q u45 Z) H := hP
          have hD : va_D A (W_Full cI cS a q u45 Z) := hD
          have hFc := jFreeW (ws := (W_Full cI cS a q u45 Z)) hD hS hA
          refine va_calli (vx_runSW (As := [.ref (a 0), .int x6]) (rest := []) ⟨hx, hb, hml, hown, hts⟩ (c_L_learn l dC dI cI cS hl0 a q H.size _ _ _ _ _ _ h95) (vx_cwSW 2 hts gL_law_L_learn rfl rfl rfl (by decide +kernel) ⟨Nat.le_of_ble_eq_true rfl, Nat.le_of_ble_eq_true rfl⟩) (jPreSX hK hP hD hN hU hSN hS hFc) rfl rfl hl.1 rfl (lv_room (Nat.le_of_ble_eq_true rfl)) dL_law_157 ⟨hn9, hk9⟩) hS (fun q _ h => hFc q h) hFc (fun r' u' t H locs ht hvm hw hB hz1 hk1 hS => ?_)
          obtain ⟨e1, e2⟩ := hw
          subst e1
          subst e2
          obtain ⟨q, hP1, -, hD1⟩ := hB
          rw [ht] at hP1
          have hP : va_P (dC, dI) vwCl (W_Full cI cS a q u93 z94) H := hP1
          have hD : va_D A (W_Full cI cS a q u93 z94) := hD1.weaken (fun _ _ _ h => hFc _ h)
          have hP : va_P (dC, dI) vwCl (List.flatten [W_LS cI a u93, W_Sav cS (a 13) [((q 0) 0), ((q 1) 0), ((q 2) 0), ((q 3) 0), ((q 4) 0), ((q 5) 0)], W_State cI (q 0) (z94 0), W_State cI (q 1) (z94 1), W_State cI (q 2) (z94 2), W_State cI (q 3) (z94 3), W_State cI (q 4) (z94 4), W_State cI (q 5) (z94 5)]) H := hP
          have hD : va_D A (List.flatten [W_LS cI a u93, W_Sav cS (a 13) [((q 0) 0), ((q 1) 0), ((q 2) 0), ((q 3) 0), ((q 4) 0), ((q 5) 0)], W_State cI (q 0) (z94 0), W_State cI (q 1) (z94 1), W_State cI (q 2) (z94 2), W_State cI (q 3) (z94 3), W_State cI (q 4) (z94 4), W_State cI (q 5) (z94 5)]) := hD
          refine lv_istore (lv' := [(9, .int r92), (11, .int r44), (10, .int (b2i t0)), (0, .ref bs), (1, .ref (a 0)), (2, .int (b2i x2)), (3, .int x3), (4, .int x4), (5, .int x5), (6, .int x6), (7, .int x7), (8, .int x8)]) hx hb dL_law_160 hl (by decide) rfl (fun ls hl => ?_)
          refine lv_iload hx hb dL_law_162 (lv_at hl 0 rfl) ?_
          refine lv_bipush (v := (-3 : Int32)) hx hb dL_law_164 (by decide) ?_
          refine lv_icmp_ne (tgt := 173) hx hb dL_law_166 (by decide) (fun c96 => ?_) (fun c96 => ?_)
          · have hF := F_neg c96 hF
            refine lv_iconst (v := (0 : Int32)) hx hb dL_law_173 (by decide) ?_
            exact K174 _ _ _ _ _ _ _ _ _ _ _ _ _ _ _ (by omega) (by omega) hF hP hD hS _ (lv_sub hl [3, 4, 6, 7, 10, 11, 0, 2, 1] rfl)
          · have hF := F_pos c96 hF
            refine lv_iconst (v := (1 : Int32)) hx hb dL_law_169 (by decide) ?_
            refine lv_goto (tgt := 174) hx hb dL_law_170 (by decide) ?_
            exact K174 _ _ _ _ _ _ _ _ _ _ _ _ _ _ _ (by omega) (by omega) hF hP hD hS _ (lv_sub hl [3, 4, 6, 7, 10, 11, 0, 2, 1] rfl)
      intro q n0 k0 S Z x2 x3 x4 H locs hn0 hk0 hF hP hD hS ls hl
      have hn : n0 ≤ 600130 := by omega
      have hk : k0 ≤ 7301080 := by omega
      have hn9 : n0 + 1 ≤ 600130 := by omega
      have hk9 : k0 + 6 ≤ 7301080 := by omega
      rw [F_L_law_34_s] at hF
      refine lv_iload hx hb dL_law_34 (lv_at hl 4 rfl) ?_
      refine lv_iload_n hx hb dL_law_36 rfl (lv_at hl 3 rfl) ?_
      refine lv_icmp_ge (tgt := 504) hx hb dL_law_37 (by decide) (fun c97 => ?_) (fun c97 => ?_)
      · have hF := F_pos c97 hF
        refine lv_iload_n hx hb dL_law_504 rfl (lv_at hl 2 rfl) ?_
        have e50 := Option.some.inj hF
        subst e50
        exact KR _ _ _ _ _ hS (by omega) (by omega)
      · have hF := F_neg c97 hF
        refine lv_iload_n hx hb dL_law_40 rfl (lv_at hl 2 rfl) ?_
        refine lv_if_eq (tgt := 504) hx hb dL_law_41 (by decide) (fun c98 => ?_) (fun c98 => ?_)
        · have hF := F_pos c98 hF
          refine lv_iload_n hx hb dL_law_504 rfl (lv_at hl 2 rfl) ?_
          have e50 := Option.some.inj hF
          subst e50
          exact KR _ _ _ _ _ hS (by omega) (by omega)
        · have hF := F_neg c98 hF
          refine lv_aload_n hx hb dL_law_44 rfl (lv_at hl 0 rfl) ?_
          refine lv_bipush (v := (19 : Int32)) hx hb dL_law_45 (by decide) ?_
          refine lv_iload hx hb dL_law_47 (lv_at hl 4 rfl) ?_
          refine lv_imul hx hb dL_law_49 ?_
          obtain ⟨r99, h100, hF⟩ := ob1_some hF
          have hPc : va_P (dC, dI) vwCl ([] : va_W) H := fun k q h => by simp at h
          have hDc : va_D A ([] : va_W) := ⟨fun i j p q h => by simp at h, fun k q h => by simp at h⟩
          have hFc := jFreeW (ws := []) hDc hS hA
          refine va_calli (va_runS (As := [.ref bs, .int ((19 : Int32) * x4)]) (rest := []) ⟨hx, hb, hml, hown, hts⟩ (c_L_cell l dC dI cI bs L xs H.size _ _ h100 (fun z => hbA (hFc _ z))) (va_cwS 2 hts gL_law_L_cell rfl rfl rfl (by decide +kernel) ⟨Nat.le_of_ble_eq_true rfl, Nat.le_of_ble_eq_true rfl⟩) (jPreYS hKi hPc hDc hN hX hbl hbA hS) rfl rfl hl.1 rfl (lv_room (Nat.le_of_ble_eq_true rfl)) dL_law_50 ⟨hn, hk⟩) hS (fun q _ h => hFc q h) hFc (fun r' u' t H locs ht hvm hw hB hz1 hk1 hS => ?_)
          subst hw
          have hP : va_P (dC, dI) vwCl (List.flatten [W_LS cI a S, W_Sav cS (a 13) [((q 0) 0), ((q 1) 0), ((q 2) 0), ((q 3) 0), ((q 4) 0), ((q 5) 0)], W_State cI (q 0) (Z 0), W_State cI (q 1) (Z 1), W_State cI (q 2) (Z 2), W_State cI (q 3) (Z 3), W_State cI (q 4) (Z 4), W_State cI (q 5) (Z 5)]) H := jNone hP hk1
          refine lv_bipush (v := (12 : Int32)) hx hb dL_law_53 (by decide) ?_
          obtain ⟨r101, h102, hF⟩ := ob1_some hF
          have hPc : va_P (dC, dI) vwCl ([] : va_W) H := fun k q h => by simp at h
          have hDc : va_D A ([] : va_W) := ⟨fun i j p q h => by simp at h, fun k q h => by simp at h⟩
          have hFc := jFreeW (ws := []) hDc hS hA
          refine va_calli (va_runS (As := [.int r99, .int (12 : Int32)]) (rest := []) ⟨hx, hb, hml, hown, hts⟩ (c_L_low l dC dI cI H.size _ _ _ h102) (va_cwS 2 hts gL_law_L_low rfl rfl rfl (by decide +kernel) ⟨Nat.le_of_ble_eq_true rfl, Nat.le_of_ble_eq_true rfl⟩) (jPreS hKi hPc hDc hN) rfl rfl hl.1 rfl (lv_room (Nat.le_of_ble_eq_true rfl)) dL_law_55 ⟨hn, hk⟩) hS (fun q _ h => hFc q h) hFc (fun r' u' t H locs ht hvm hw hB hz1 hk1 hS => ?_)
          subst hw
          have hP : va_P (dC, dI) vwCl (List.flatten [W_LS cI a S, W_Sav cS (a 13) [((q 0) 0), ((q 1) 0), ((q 2) 0), ((q 3) 0), ((q 4) 0), ((q 5) 0)], W_State cI (q 0) (Z 0), W_State cI (q 1) (Z 1), W_State cI (q 2) (Z 2), W_State cI (q 3) (Z 3), W_State cI (q 4) (Z 4), W_State cI (q 5) (Z 5)]) H := jNone hP hk1
          refine lv_istore (lv' := [(5, .int r101), (0, .ref bs), (1, .ref (a 0)), (2, .int (b2i x2)), (3, .int x3), (4, .int x4)]) hx hb dL_law_58 hl (by decide) rfl (fun ls hl => ?_)
          refine lv_aload_n hx hb dL_law_60 rfl (lv_at hl 1 rfl) ?_
          refine lv_bipush (v := (19 : Int32)) hx hb dL_law_61 (by decide) ?_
          refine lv_iload hx hb dL_law_63 (lv_at hl 5 rfl) ?_
          refine lv_imul hx hb dL_law_65 ?_
          refine lv_iconst (v := (1 : Int32)) hx hb dL_law_66 (by decide) ?_
          refine lv_iadd hx hb dL_law_67 ?_
          obtain ⟨r103, h104, hF⟩ := ob1_some hF
          have hPc : va_P (dC, dI) vwCl ([] : va_W) H := fun k q h => by simp at h
          have hDc : va_D A ([] : va_W) := ⟨fun i j p q h => by simp at h, fun k q h => by simp at h⟩
          have hFc := jFreeW (ws := []) hDc hS hA
          refine va_calli (va_runS (As := [.ref bs, .int (((19 : Int32) * x4) + (1 : Int32))]) (rest := []) ⟨hx, hb, hml, hown, hts⟩ (c_L_cell l dC dI cI bs L xs H.size _ _ h104 (fun z => hbA (hFc _ z))) (va_cwS 2 hts gL_law_L_cell rfl rfl rfl (by decide +kernel) ⟨Nat.le_of_ble_eq_true rfl, Nat.le_of_ble_eq_true rfl⟩) (jPreYS hKi hPc hDc hN hX hbl hbA hS) rfl rfl hl.1 rfl (lv_room (Nat.le_of_ble_eq_true rfl)) dL_law_68 ⟨hn, hk⟩) hS (fun q _ h => hFc q h) hFc (fun r' u' t H locs ht hvm hw hB hz1 hk1 hS => ?_)
          subst hw
          have hP : va_P (dC, dI) vwCl (List.flatten [W_LS cI a S, W_Sav cS (a 13) [((q 0) 0), ((q 1) 0), ((q 2) 0), ((q 3) 0), ((q 4) 0), ((q 5) 0)], W_State cI (q 0) (Z 0), W_State cI (q 1) (Z 1), W_State cI (q 2) (Z 2), W_State cI (q 3) (Z 3), W_State cI (q 4) (Z 4), W_State cI (q 5) (Z 5)]) H := jNone hP hk1
          refine lv_iconst (v := (2 : Int32)) hx hb dL_law_71 (by decide) ?_
          obtain ⟨r105, h106, hF⟩ := ob1_some hF
          have hPc : va_P (dC, dI) vwCl ([] : va_W) H := fun k q h => by simp at h
          have hDc : va_D A ([] : va_W) := ⟨fun i j p q h => by simp at h, fun k q h => by simp at h⟩
          have hFc := jFreeW (ws := []) hDc hS hA
          refine va_calli (va_runS (As := [.int r103, .int (2 : Int32)]) (rest := []) ⟨hx, hb, hml, hown, hts⟩ (c_L_low l dC dI cI H.size _ _ _ h106) (va_cwS 2 hts gL_law_L_low rfl rfl rfl (by decide +kernel) ⟨Nat.le_of_ble_eq_true rfl, Nat.le_of_ble_eq_true rfl⟩) (jPreS hKi hPc hDc hN) rfl rfl hl.1 rfl (lv_room (Nat.le_of_ble_eq_true rfl)) dL_law_72 ⟨hn, hk⟩) hS (fun q _ h => hFc q h) hFc (fun r' u' t H locs ht hvm hw hB hz1 hk1 hS => ?_)
          subst hw
          have hP : va_P (dC, dI) vwCl (List.flatten [W_LS cI a S, W_Sav cS (a 13) [((q 0) 0), ((q 1) 0), ((q 2) 0), ((q 3) 0), ((q 4) 0), ((q 5) 0)], W_State cI (q 0) (Z 0), W_State cI (q 1) (Z 1), W_State cI (q 2) (Z 2), W_State cI (q 3) (Z 3), W_State cI (q 4) (Z 4), W_State cI (q 5) (Z 5)]) H := jNone hP hk1
          refine lv_istore (lv' := [(6, .int r105), (5, .int r101), (0, .ref bs), (1, .ref (a 0)), (2, .int (b2i x2)), (3, .int x3), (4, .int x4)]) hx hb dL_law_75 hl (by decide) rfl (fun ls hl => ?_)
          refine lv_aload_n hx hb dL_law_77 rfl (lv_at hl 3 rfl) ?_
          refine lv_iconst (v := (2 : Int32)) hx hb dL_law_78 (by decide) ?_
          obtain ⟨r107, h108, hF⟩ := ob1_some hF
          have h108 := okr_some h108
          have hPc := hP.sub (ws' := (W_LS cI a S)) [0, 1, 2, 3, 4, 5, 6, 7, 8, 9, 10, 11, 12] rfl
          have hDc := hD.sub (ws' := (W_LS cI a S)) [0, 1, 2, 3, 4, 5, 6, 7, 8, 9, 10, 11, 12] (by decide) rfl
          have hFc := va_free (wc := (W_LS cI a S)) hD hS hA [0, 1, 2, 3, 4, 5, 6, 7, 8, 9, 10, 11, 12] rfl
          refine va_calli (va_runV (As := [.int (2 : Int32)]) (rest := []) ⟨hx, hb, hml, hown, hts⟩ (c_X4_count_ok l dC dI cI a H.size _ _ _ h108) (cwV 1 hts gL_law_X4_count rfl rfl rfl (by decide +kernel) ⟨Nat.le_of_ble_eq_true rfl, Nat.le_of_ble_eq_true rfl⟩) (jPreV hKi hPc hDc hN (ci := 4) rfl rfl) rfl rfl hl.1 rfl (lv_room (Nat.le_of_ble_eq_true rfl)) dL_law_79 ⟨hn, hk⟩) hS (fun q _ h => hFc q h) hFc (fun r' u' t H locs ht hvm hw hB hz1 hk1 hS => ?_)
          subst hw
          obtain ⟨hP1, -, hD1⟩ := hB
          rw [ht] at hP1
          obtain ⟨hP, hD⟩ := jJoinF (wa := (W_LS cI a S)) (wb := List.flatten [W_Sav cS (a 13) [((q 0) 0), ((q 1) 0), ((q 2) 0), ((q 3) 0), ((q 4) 0), ((q 5) 0)], W_State cI (q 0) (Z 0), W_State cI (q 1) (Z 1), W_State cI (q 2) (Z 2), W_State cI (q 3) (Z 3), W_State cI (q 4) (Z 4), W_State cI (q 5) (Z 5)]) (wc := (W_LS cI a S)) (w1 := (W_LS cI a S)) (ws' := (W_LS cI a S)) hP hD [0, 1, 2, 3, 4, 5, 6, 7, 8, 9, 10, 11, 12] [] [0, 1, 2, 3, 4, 5, 6, 7, 8, 9, 10, 11, 12] rfl rfl (by decide) (by decide) hk1 hFc hP1 hD1 (by decide) rfl
          have hP : va_P (dC, dI) vwCl (List.flatten [W_LS cI a S, W_Sav cS (a 13) [((q 0) 0), ((q 1) 0), ((q 2) 0), ((q 3) 0), ((q 4) 0), ((q 5) 0)], W_State cI (q 0) (Z 0), W_State cI (q 1) (Z 1), W_State cI (q 2) (Z 2), W_State cI (q 3) (Z 3), W_State cI (q 4) (Z 4), W_State cI (q 5) (Z 5)]) H := hP
          have hD : va_D A (List.flatten [W_LS cI a S, W_Sav cS (a 13) [((q 0) 0), ((q 1) 0), ((q 2) 0), ((q 3) 0), ((q 4) 0), ((q 5) 0)], W_State cI (q 0) (Z 0), W_State cI (q 1) (Z 1), W_State cI (q 2) (Z 2), W_State cI (q 3) (Z 3), W_State cI (q 4) (Z 4), W_State cI (q 5) (Z 5)]) := hD
          refine lv_istore (lv' := [(7, .int r107), (6, .int r105), (5, .int r101), (0, .ref bs), (1, .ref (a 0)), (2, .int (b2i x2)), (3, .int x3), (4, .int x4)]) hx hb dL_law_82 hl (by decide) rfl (fun ls hl => ?_)
          refine lv_aload_n hx hb dL_law_84 rfl (lv_at hl 4 rfl) ?_
          refine lv_iconst (v := (0 : Int32)) hx hb dL_law_85 (by decide) ?_
          refine lv_iconst (v := (0 : Int32)) hx hb dL_law_86 (by decide) ?_
          obtain ⟨r109, h110, hF⟩ := ob1_some hF
          have h110 := okr_some h110
          have hPc := hP.sub (ws' := (W_LS cI a S)) [0, 1, 2, 3, 4, 5, 6, 7, 8, 9, 10, 11, 12] rfl
          have hDc := hD.sub (ws' := (W_LS cI a S)) [0, 1, 2, 3, 4, 5, 6, 7, 8, 9, 10, 11, 12] (by decide) rfl
          have hFc := va_free (wc := (W_LS cI a S)) hD hS hA [0, 1, 2, 3, 4, 5, 6, 7, 8, 9, 10, 11, 12] rfl
          refine va_calli (va_runV (As := [.int (0 : Int32), .int (0 : Int32)]) (rest := []) ⟨hx, hb, hml, hown, hts⟩ (c_X4_shape_ok l dC dI cI a H.size _ _ _ _ h110) (cwV 2 hts gL_law_X4_shape rfl rfl rfl (by decide +kernel) ⟨Nat.le_of_ble_eq_true rfl, Nat.le_of_ble_eq_true rfl⟩) (jPreV hKi hPc hDc hN (ci := 4) rfl rfl) rfl rfl hl.1 rfl (lv_room (Nat.le_of_ble_eq_true rfl)) dL_law_87 ⟨hn, hk⟩) hS (fun q _ h => hFc q h) hFc (fun r' u' t H locs ht hvm hw hB hz1 hk1 hS => ?_)
          subst hw
          obtain ⟨hP1, -, hD1⟩ := hB
          rw [ht] at hP1
          obtain ⟨hP, hD⟩ := jJoinF (wa := (W_LS cI a S)) (wb := List.flatten [W_Sav cS (a 13) [((q 0) 0), ((q 1) 0), ((q 2) 0), ((q 3) 0), ((q 4) 0), ((q 5) 0)], W_State cI (q 0) (Z 0), W_State cI (q 1) (Z 1), W_State cI (q 2) (Z 2), W_State cI (q 3) (Z 3), W_State cI (q 4) (Z 4), W_State cI (q 5) (Z 5)]) (wc := (W_LS cI a S)) (w1 := (W_LS cI a S)) (ws' := (W_LS cI a S)) hP hD [0, 1, 2, 3, 4, 5, 6, 7, 8, 9, 10, 11, 12] [] [0, 1, 2, 3, 4, 5, 6, 7, 8, 9, 10, 11, 12] rfl rfl (by decide) (by decide) hk1 hFc hP1 hD1 (by decide) rfl
          have hP : va_P (dC, dI) vwCl (List.flatten [W_LS cI a S, W_Sav cS (a 13) [((q 0) 0), ((q 1) 0), ((q 2) 0), ((q 3) 0), ((q 4) 0), ((q 5) 0)], W_State cI (q 0) (Z 0), W_State cI (q 1) (Z 1), W_State cI (q 2) (Z 2), W_State cI (q 3) (Z 3), W_State cI (q 4) (Z 4), W_State cI (q 5) (Z 5)]) H := hP
          have hD : va_D A (List.flatten [W_LS cI a S, W_Sav cS (a 13) [((q 0) 0), ((q 1) 0), ((q 2) 0), ((q 3) 0), ((q 4) 0), ((q 5) 0)], W_State cI (q 0) (Z 0), W_State cI (q 1) (Z 1), W_State cI (q 2) (Z 2), W_State cI (q 3) (Z 3), W_State cI (q 4) (Z 4), W_State cI (q 5) (Z 5)]) := hD
          refine lv_aload_n hx hb dL_law_90 rfl (lv_at hl 4 rfl) ?_
          refine lv_iconst (v := (1 : Int32)) hx hb dL_law_91 (by decide) ?_
          refine lv_iconst (v := (0 : Int32)) hx hb dL_law_92 (by decide) ?_
          obtain ⟨r111, h112, hF⟩ := ob1_some hF
          have h112 := okr_some h112
          have hPc := hP.sub (ws' := (W_LS cI a S)) [0, 1, 2, 3, 4, 5, 6, 7, 8, 9, 10, 11, 12] rfl
          have hDc := hD.sub (ws' := (W_LS cI a S)) [0, 1, 2, 3, 4, 5, 6, 7, 8, 9, 10, 11, 12] (by decide) rfl
          have hFc := va_free (wc := (W_LS cI a S)) hD hS hA [0, 1, 2, 3, 4, 5, 6, 7, 8, 9, 10, 11, 12] rfl
          refine va_calli (va_runV (As := [.int (1 : Int32), .int (0 : Int32)]) (rest := [.int r109]) ⟨hx, hb, hml, hown, hts⟩ (c_X4_shape_ok l dC dI cI a H.size _ _ _ _ h112) (cwV 2 hts gL_law_X4_shape rfl rfl rfl (by decide +kernel) ⟨Nat.le_of_ble_eq_true rfl, Nat.le_of_ble_eq_true rfl⟩) (jPreV hKi hPc hDc hN (ci := 4) rfl rfl) rfl rfl hl.1 rfl (lv_room (Nat.le_of_ble_eq_true rfl)) dL_law_93 ⟨hn, hk⟩) hS (fun q _ h => hFc q h) hFc (fun r' u' t H locs ht hvm hw hB hz1 hk1 hS => ?_)
          subst hw
          obtain ⟨hP1, -, hD1⟩ := hB
          rw [ht] at hP1
          obtain ⟨hP, hD⟩ := jJoinF (wa := (W_LS cI a S)) (wb := List.flatten [W_Sav cS (a 13) [((q 0) 0), ((q 1) 0), ((q 2) 0), ((q 3) 0), ((q 4) 0), ((q 5) 0)], W_State cI (q 0) (Z 0), W_State cI (q 1) (Z 1), W_State cI (q 2) (Z 2), W_State cI (q 3) (Z 3), W_State cI (q 4) (Z 4), W_State cI (q 5) (Z 5)]) (wc := (W_LS cI a S)) (w1 := (W_LS cI a S)) (ws' := (W_LS cI a S)) hP hD [0, 1, 2, 3, 4, 5, 6, 7, 8, 9, 10, 11, 12] [] [0, 1, 2, 3, 4, 5, 6, 7, 8, 9, 10, 11, 12] rfl rfl (by decide) (by decide) hk1 hFc hP1 hD1 (by decide) rfl
          have hP : va_P (dC, dI) vwCl (List.flatten [W_LS cI a S, W_Sav cS (a 13) [((q 0) 0), ((q 1) 0), ((q 2) 0), ((q 3) 0), ((q 4) 0), ((q 5) 0)], W_State cI (q 0) (Z 0), W_State cI (q 1) (Z 1), W_State cI (q 2) (Z 2), W_State cI (q 3) (Z 3), W_State cI (q 4) (Z 4), W_State cI (q 5) (Z 5)]) H := hP
          have hD : va_D A (List.flatten [W_LS cI a S, W_Sav cS (a 13) [((q 0) 0), ((q 1) 0), ((q 2) 0), ((q 3) 0), ((q 4) 0), ((q 5) 0)], W_State cI (q 0) (Z 0), W_State cI (q 1) (Z 1), W_State cI (q 2) (Z 2), W_State cI (q 3) (Z 3), W_State cI (q 4) (Z 4), W_State cI (q 5) (Z 5)]) := hD
          refine lv_iadd hx hb dL_law_96 ?_
          refine lv_istore (lv' := [(8, .int (r109 + r111)), (7, .int r107), (6, .int r105), (5, .int r101), (0, .ref bs), (1, .ref (a 0)), (2, .int (b2i x2)), (3, .int x3), (4, .int x4)]) hx hb dL_law_97 hl (by decide) rfl (fun ls hl => ?_)
          refine lv_iconst (v := (0 : Int32)) hx hb dL_law_99 (by decide) ?_
          refine lv_istore (lv' := [(9, .int (0 : Int32)), (8, .int (r109 + r111)), (7, .int r107), (6, .int r105), (5, .int r101), (0, .ref bs), (1, .ref (a 0)), (2, .int (b2i x2)), (3, .int x3), (4, .int x4)]) hx hb dL_law_100 hl (by decide) rfl (fun ls hl => ?_)
          refine lv_aload_n hx hb dL_law_102 rfl (lv_at hl 6 rfl) ?_
          obtain ⟨r113, u114, h115, hF⟩ := ob2_some hF
          have hPc := hP.sub (ws' := (W_LS cI a S)) [0, 1, 2, 3, 4, 5, 6, 7, 8, 9, 10, 11, 12] rfl
          have hDc := hD.sub (ws' := (W_LS cI a S)) [0, 1, 2, 3, 4, 5, 6, 7, 8, 9, 10, 11, 12] (by decide) rfl
          have hFc := va_free (wc := (W_LS cI a S)) hD hS hA [0, 1, 2, 3, 4, 5, 6, 7, 8, 9, 10, 11, 12] rfl
          refine va_calli (va_runV (As := []) (rest := []) ⟨hx, hb, hml, hown, hts⟩ (c_X4_clearBuffer l dC dI cI a H.size _ _ _ h115) (cwV 0 hts gL_law_X4_clearBuffer rfl rfl rfl (by decide +kernel) ⟨Nat.le_of_ble_eq_true rfl, Nat.le_of_ble_eq_true rfl⟩) (jPreV hKi hPc hDc hN (ci := 4) rfl rfl) rfl rfl hl.1 rfl (lv_room (Nat.le_of_ble_eq_true rfl)) dL_law_103 ⟨hn, hk⟩) hS (fun q _ h => hFc q h) hFc (fun r' u' t H locs ht hvm hw hB hz1 hk1 hS => ?_)
          obtain ⟨e1, e2⟩ := hw
          subst e1
          subst e2
          obtain ⟨hP1, -, hD1⟩ := hB
          rw [ht] at hP1
          obtain ⟨hP, hD⟩ := jJoinF (wa := (W_LS cI a S)) (wb := List.flatten [W_Sav cS (a 13) [((q 0) 0), ((q 1) 0), ((q 2) 0), ((q 3) 0), ((q 4) 0), ((q 5) 0)], W_State cI (q 0) (Z 0), W_State cI (q 1) (Z 1), W_State cI (q 2) (Z 2), W_State cI (q 3) (Z 3), W_State cI (q 4) (Z 4), W_State cI (q 5) (Z 5)]) (wc := (W_LS cI a S)) (w1 := (W_LS cI a u114)) (ws' := (W_LS cI a u114)) hP hD [0, 1, 2, 3, 4, 5, 6, 7, 8, 9, 10, 11, 12] [] [0, 1, 2, 3, 4, 5, 6, 7, 8, 9, 10, 11, 12] rfl rfl (by decide) (by decide) hk1 hFc hP1 hD1 (by decide) rfl
          have hP : va_P (dC, dI) vwCl (List.flatten [W_LS cI a u114, W_Sav cS (a 13) [((q 0) 0), ((q 1) 0), ((q 2) 0), ((q 3) 0), ((q 4) 0), ((q 5) 0)], W_State cI (q 0) (Z 0), W_State cI (q 1) (Z 1), W_State cI (q 2) (Z 2), W_State cI (q 3) (Z 3), W_State cI (q 4) (Z 4), W_State cI (q 5) (Z 5)]) H := hP
          have hD : va_D A (List.flatten [W_LS cI a u114, W_Sav cS (a 13) [((q 0) 0), ((q 1) 0), ((q 2) 0), ((q 3) 0), ((q 4) 0), ((q 5) 0)], W_State cI (q 0) (Z 0), W_State cI (q 1) (Z 1), W_State cI (q 2) (Z 2), W_State cI (q 3) (Z 3), W_State cI (q 4) (Z 4), W_State cI (q 5) (Z 5)]) := hD
          refine lv_pop hx hb dL_law_106 rfl ?_
          refine lv_aload_n hx hb dL_law_107 rfl (lv_at hl 6 rfl) ?_
          refine lv_aload_n hx hb dL_law_108 rfl (lv_at hl 5 rfl) ?_
          refine lv_bipush (v := (19 : Int32)) hx hb dL_law_109 (by decide) ?_
          refine lv_iload hx hb dL_law_111 (lv_at hl 9 rfl) ?_
          refine lv_imul hx hb dL_law_113 ?_
          refine lv_iconst (v := (1 : Int32)) hx hb dL_law_114 (by decide) ?_
          refine lv_iadd hx hb dL_law_115 ?_
          obtain ⟨r116, u117, h118, hF⟩ := ob2_some hF
          have hPc := hP.sub (ws' := (W_LS cI a u114)) [0, 1, 2, 3, 4, 5, 6, 7, 8, 9, 10, 11, 12] rfl
          have hDc := hD.sub (ws' := (W_LS cI a u114)) [0, 1, 2, 3, 4, 5, 6, 7, 8, 9, 10, 11, 12] (by decide) rfl
          have hFc := va_free (wc := (W_LS cI a u114)) hD hS hA [0, 1, 2, 3, 4, 5, 6, 7, 8, 9, 10, 11, 12] rfl
          refine va_calli (va_runS (As := [.ref (a 0), .ref bs, .int (((19 : Int32) * x4) + (1 : Int32))]) (rest := []) ⟨hx, hb, hml, hown, hts⟩ (c_L_types l dC dI cI bs L xs a H.size _ _ _ _ h118 (fun z => hbA (hFc _ z))) (va_cwS 3 hts gL_law_L_types rfl rfl rfl (by decide +kernel) ⟨Nat.le_of_ble_eq_true rfl, Nat.le_of_ble_eq_true rfl⟩) (jPreYS hKi hPc hDc hN hX hbl hbA hS) rfl rfl hl.1 rfl (lv_room (Nat.le_of_ble_eq_true rfl)) dL_law_116 ⟨hn, hk⟩) hS (fun q _ h => hFc q h) hFc (fun r' u' t H locs ht hvm hw hB hz1 hk1 hS => ?_)
          obtain ⟨e1, e2⟩ := hw
          subst e1
          subst e2
          obtain ⟨hP1, -, hD1⟩ := hB
          rw [ht] at hP1
          obtain ⟨hP, hD⟩ := jJoinF (wa := (W_LS cI a u114)) (wb := List.flatten [W_Sav cS (a 13) [((q 0) 0), ((q 1) 0), ((q 2) 0), ((q 3) 0), ((q 4) 0), ((q 5) 0)], W_State cI (q 0) (Z 0), W_State cI (q 1) (Z 1), W_State cI (q 2) (Z 2), W_State cI (q 3) (Z 3), W_State cI (q 4) (Z 4), W_State cI (q 5) (Z 5)]) (wc := (W_LS cI a u114)) (w1 := (W_LS cI a u117)) (ws' := (W_LS cI a u117)) hP hD [0, 1, 2, 3, 4, 5, 6, 7, 8, 9, 10, 11, 12] [] [0, 1, 2, 3, 4, 5, 6, 7, 8, 9, 10, 11, 12] rfl rfl (by decide) (by decide) hk1 hFc hP1 hD1 (by decide) rfl
          have hP : va_P (dC, dI) vwCl (List.flatten [W_LS cI a u117, W_Sav cS (a 13) [((q 0) 0), ((q 1) 0), ((q 2) 0), ((q 3) 0), ((q 4) 0), ((q 5) 0)], W_State cI (q 0) (Z 0), W_State cI (q 1) (Z 1), W_State cI (q 2) (Z 2), W_State cI (q 3) (Z 3), W_State cI (q 4) (Z 4), W_State cI (q 5) (Z 5)]) H := hP
          have hD : va_D A (List.flatten [W_LS cI a u117, W_Sav cS (a 13) [((q 0) 0), ((q 1) 0), ((q 2) 0), ((q 3) 0), ((q 4) 0), ((q 5) 0)], W_State cI (q 0) (Z 0), W_State cI (q 1) (Z 1), W_State cI (q 2) (Z 2), W_State cI (q 3) (Z 3), W_State cI (q 4) (Z 4), W_State cI (q 5) (Z 5)]) := hD
          refine lv_pop hx hb dL_law_119 rfl ?_
          refine lv_aload_n hx hb dL_law_120 rfl (lv_at hl 6 rfl) ?_
          refine lv_iload hx hb dL_law_121 (lv_at hl 3 rfl) ?_
          refine lv_iconst (v := (4 : Int32)) hx hb dL_law_123 (by decide) ?_
          obtain ⟨r119, u120, h121, hF⟩ := ob2_some hF
          have h121 := okr_some h121
          have hPc := hP.sub (ws' := (W_LS cI a u117)) [0, 1, 2, 3, 4, 5, 6, 7, 8, 9, 10, 11, 12] rfl
          have hDc := hD.sub (ws' := (W_LS cI a u117)) [0, 1, 2, 3, 4, 5, 6, 7, 8, 9, 10, 11, 12] (by decide) rfl
          have hFc := va_free (wc := (W_LS cI a u117)) hD hS hA [0, 1, 2, 3, 4, 5, 6, 7, 8, 9, 10, 11, 12] rfl
          refine va_calli (va_runV (As := [.int r105, .int (4 : Int32)]) (rest := []) ⟨hx, hb, hml, hown, hts⟩ (c_X4_ifLearned_ok l dC dI cI a H.size _ _ _ _ _ h121) (cwV 2 hts gL_law_X4_ifLearned rfl rfl rfl (by decide +kernel) ⟨Nat.le_of_ble_eq_true rfl, Nat.le_of_ble_eq_true rfl⟩) (jPreV hKi hPc hDc hN (ci := 4) rfl rfl) rfl rfl hl.1 rfl (lv_room (Nat.le_of_ble_eq_true rfl)) dL_law_124 ⟨hn, hk⟩) hS (fun q _ h => hFc q h) hFc (fun r' u' t H locs ht hvm hw hB hz1 hk1 hS => ?_)
          obtain ⟨e1, e2⟩ := hw
          subst e1
          subst e2
          obtain ⟨hP1, -, hD1⟩ := hB
          rw [ht] at hP1
          obtain ⟨hP, hD⟩ := jJoinF (wa := (W_LS cI a u117)) (wb := List.flatten [W_Sav cS (a 13) [((q 0) 0), ((q 1) 0), ((q 2) 0), ((q 3) 0), ((q 4) 0), ((q 5) 0)], W_State cI (q 0) (Z 0), W_State cI (q 1) (Z 1), W_State cI (q 2) (Z 2), W_State cI (q 3) (Z 3), W_State cI (q 4) (Z 4), W_State cI (q 5) (Z 5)]) (wc := (W_LS cI a u117)) (w1 := (W_LS cI a u120)) (ws' := (W_LS cI a u120)) hP hD [0, 1, 2, 3, 4, 5, 6, 7, 8, 9, 10, 11, 12] [] [0, 1, 2, 3, 4, 5, 6, 7, 8, 9, 10, 11, 12] rfl rfl (by decide) (by decide) hk1 hFc hP1 hD1 (by decide) rfl
          have hP : va_P (dC, dI) vwCl (List.flatten [W_LS cI a u120, W_Sav cS (a 13) [((q 0) 0), ((q 1) 0), ((q 2) 0), ((q 3) 0), ((q 4) 0), ((q 5) 0)], W_State cI (q 0) (Z 0), W_State cI (q 1) (Z 1), W_State cI (q 2) (Z 2), W_State cI (q 3) (Z 3), W_State cI (q 4) (Z 4), W_State cI (q 5) (Z 5)]) H := hP
          have hD : va_D A (List.flatten [W_LS cI a u120, W_Sav cS (a 13) [((q 0) 0), ((q 1) 0), ((q 2) 0), ((q 3) 0), ((q 4) 0), ((q 5) 0)], W_State cI (q 0) (Z 0), W_State cI (q 1) (Z 1), W_State cI (q 2) (Z 2), W_State cI (q 3) (Z 3), W_State cI (q 4) (Z 4), W_State cI (q 5) (Z 5)]) := hD
          refine lv_iconst (v := (1 : Int32)) hx hb dL_law_127 (by decide) ?_
          refine lv_icmp_ne (tgt := 135) hx hb dL_law_128 (by decide) (fun c122 => ?_) (fun c122 => ?_)
          · have hF := F_neg c122 hF
            refine lv_iconst (v := (0 : Int32)) hx hb dL_law_135 (by decide) ?_
            exact K136 _ _ _ _ _ _ _ _ _ _ _ _ _ _ _ (by omega) (by omega) hF hP hD hS _ (lv_sub hl [5, 6, 7, 8, 9, 4, 3, 2, 1] rfl)
          · have hF := F_pos c122 hF
            refine lv_iconst (v := (1 : Int32)) hx hb dL_law_131 (by decide) ?_
            refine lv_goto (tgt := 136) hx hb dL_law_132 (by decide) ?_
            exact K136 _ _ _ _ _ _ _ _ _ _ _ _ _ _ _ (by omega) (by omega) hF hP hD hS _ (lv_sub hl [5, 6, 7, 8, 9, 4, 3, 2, 1] rfl)
  have hn : n0 ≤ 600130 := by omega
  have hk : k0 ≤ 7301080 := by omega
  have hP : va_P (dC, dI) vwCl (List.flatten [W_LS cI a S, W_Sav cS (a 13) [((q 0) 0), ((q 1) 0), ((q 2) 0), ((q 3) 0), ((q 4) 0), ((q 5) 0)], W_State cI (q 0) (Z 0), W_State cI (q 1) (Z 1), W_State cI (q 2) (Z 2), W_State cI (q 3) (Z 3), W_State cI (q 4) (Z 4), W_State cI (q 5) (Z 5)]) H := hP
  have hD : va_D A (List.flatten [W_LS cI a S, W_Sav cS (a 13) [((q 0) 0), ((q 1) 0), ((q 2) 0), ((q 3) 0), ((q 4) 0), ((q 5) 0)], W_State cI (q 0) (Z 0), W_State cI (q 1) (Z 1), W_State cI (q 2) (Z 2), W_State cI (q 3) (Z 3), W_State cI (q 4) (Z 4), W_State cI (q 5) (Z 5)]) := hD
  unfold F_L_law at hF
  refine lv_iconst (v := (1 : Int32)) hx hb dL_law_8 (by decide) ?_
  refine lv_istore_n (lv' := [(2, .int (1 : Int32)), (1, .ref (a 0)), (0, .ref bs)]) hx hb dL_law_9 rfl hl (by decide) rfl (fun ls hl => ?_)
  refine lv_aload_n hx hb dL_law_10 rfl (lv_at hl 2 rfl) ?_
  refine va_slen hx hb hX hbl hbA hS dL_law_11 ?_
  refine lv_bipush (v := (19 : Int32)) hx hb dL_law_12 (by decide) ?_
  refine lv_idiv hx hb dL_law_14 (by decide) ?_
  refine lv_bipush (v := (14 : Int32)) hx hb dL_law_15 (by decide) ?_
  refine lv_icmp_le (tgt := 25) hx hb dL_law_17 (by decide) (fun c123 => ?_) (fun c123 => ?_)
  · have hF := F_pos c123 hF
    refine lv_aload_n hx hb dL_law_25 rfl (lv_at hl 2 rfl) ?_
    refine va_slen hx hb hX hbl hbA hS dL_law_26 ?_
    refine lv_bipush (v := (19 : Int32)) hx hb dL_law_27 (by decide) ?_
    refine lv_idiv hx hb dL_law_29 (by decide) ?_
    refine lv_istore_n (lv' := [(3, .int ((Int32.ofNat L) / (19 : Int32))), (2, .int (1 : Int32)), (1, .ref (a 0)), (0, .ref bs)]) hx hb dL_law_30 rfl hl (by decide) rfl (fun ls hl => ?_)
    refine lv_iconst (v := (0 : Int32)) hx hb dL_law_31 (by decide) ?_
    refine lv_istore (lv' := [(4, .int (0 : Int32)), (3, .int ((Int32.ofNat L) / (19 : Int32))), (2, .int (1 : Int32)), (1, .ref (a 0)), (0, .ref bs)]) hx hb dL_law_32 hl (by decide) rfl (fun ls hl => ?_)
    exact K34 _ _ _ _ _ _ _ _ _ _ _ (by omega) (by omega) hF hP hD hS _ (lv_sub hl [4, 3, 2, 1, 0] rfl)
  · have hF := F_neg c123 hF
    refine lv_bipush (v := (14 : Int32)) hx hb dL_law_20 (by decide) ?_
    refine lv_goto (tgt := 30) hx hb dL_law_22 (by decide) ?_
    refine lv_istore_n (lv' := [(3, .int (14 : Int32)), (2, .int (1 : Int32)), (1, .ref (a 0)), (0, .ref bs)]) hx hb dL_law_30 rfl hl (by decide) rfl (fun ls hl => ?_)
    refine lv_iconst (v := (0 : Int32)) hx hb dL_law_31 (by decide) ?_
    refine lv_istore (lv' := [(4, .int (0 : Int32)), (3, .int (14 : Int32)), (2, .int (1 : Int32)), (1, .ref (a 0)), (0, .ref bs)]) hx hb dL_law_32 hl (by decide) rfl (fun ls hl => ?_)
    exact K34 _ _ _ _ _ _ _ _ _ _ _ (by omega) (by omega) hF hP hD hS _ (lv_sub hl [4, 3, 2, 1, 0] rfl)
