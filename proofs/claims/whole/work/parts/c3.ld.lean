/-! ===== the law: a turn of its loop, the others ===== -/
set_option maxHeartbeats 4000000 in
set_option maxRecDepth 100000 in
theorem law_child {p : Program} {l : Launch} {e : Env} {s : State} {m : MethodId} {below : List Frame} {meth : Method} {c : Code} {dC : Nat → ClassId} {dI : Nat → Nat → Nat} {cI cS cL cD : ClassId} {b L : Nat} {xs : Nat → Int32} (C0 : LCX p l s m c dC dI cI cS cL cD b L xs) {a am : Nat → Nat} {o o2 : Nat} {f : Nat → Int64} {f2 : Nat → UInt64} {q : Nat → Nat → Nat} {S : S_LS} {Z : Nat → S_State} {M : S_Model} {H : Heap} {locs : List Loc} {n k : Nat} {ls : Array Slot} {x5 : Int32} (hI : INV S Z M) (hW : LWP (dC, dI) cI cS cL cD a am o o2 (fun q : Nat => s.heap.size ≤ q) f f2 q S Z M H) (hS : va_S (fun q : Nat => s.heap.size ≤ q) s.heap H locs) (hl : lv_has ls 9 [(0, .ref b), (1, .ref (a 0)), (2, .ref (am 0)), (3, .ref o), (4, .ref o2), (5, .int x5)]) (hin1 : vp_in (x5 + 1) L) (hin2 : vp_in (x5 + 2) L) (hin3 : vp_in (x5 + 3) L) (hn : n + 1 ≤ 601024) (hk : k + 6 ≤ 7293033) {Q : State → Prop} (KT : ∀ (f : Nat → Int64) (f2 : Nat → UInt64) (q : Nat → Nat → Nat) (S : S_LS) (Z : Nat → S_State) (M : S_Model) (H : Heap) (locs : List Loc) (ls : Array Slot), INV S Z M → LWP (dC, dI) cI cS cL cD a am o o2 (fun q : Nat => s.heap.size ≤ q) f f2 q S Z M H → va_S (fun q : Nat => s.heap.size ≤ q) s.heap H locs → lv_has ls 9 [(0, .ref b), (1, .ref (a 0)), (2, .ref (am 0)), (3, .ref o), (4, .ref o2), (5, .int x5)] → W p l e room_1 s m #[Value.ref b] below meth c H locs (n + 1) (k + 6) Q (F0 m 1139 ls [])) : W p l e room_1 s m #[Value.ref b] below meth c H locs n k Q (F0 m 583 ls []) := by
  obtain ⟨hx, hb, hml, hown, hts, hX, hbl, hK, hN, hU, hSN, hl0⟩ := C0
  have hA : ∀ q : Nat, s.heap.size ≤ q → (fun q : Nat => s.heap.size ≤ q) q := fun _ h => h
  have hbA : ¬ (fun q : Nat => s.heap.size ≤ q) b := Nat.not_le.mpr hbl
  refine lv_aload_n hx hb dL_law_583 rfl (lv_at hl 1 rfl) ?_
  refine lv_aload_n hx hb dL_law_584 rfl (lv_at hl 0 rfl) ?_
  refine lv_iload hx hb dL_law_585 (lv_at hl 5 rfl) ?_
  refine lv_iconst (v := (1 : Int32)) hx hb dL_law_587 (by decide) ?_
  refine lv_iadd hx hb dL_law_588 ?_
  refine va_sld hx hb hX hbl hbA hS hin1 dL_law_589 ?_
  refine lv_aload_n hx hb dL_law_590 rfl (lv_at hl 0 rfl) ?_
  refine lv_iload hx hb dL_law_591 (lv_at hl 5 rfl) ?_
  refine lv_iconst (v := (2 : Int32)) hx hb dL_law_593 (by decide) ?_
  refine lv_iadd hx hb dL_law_594 ?_
  refine va_sld hx hb hX hbl hbA hS hin2 dL_law_595 ?_
  refine lv_aload_n hx hb dL_law_596 rfl (lv_at hl 0 rfl) ?_
  refine lv_iload hx hb dL_law_597 (lv_at hl 5 rfl) ?_
  refine lv_iconst (v := (3 : Int32)) hx hb dL_law_599 (by decide) ?_
  refine lv_iadd hx hb dL_law_600 ?_
  refine va_sld hx hb hX hbl hbA hS hin3 dL_law_601 ?_
  refine lv_aload_n hx hb dL_law_602 rfl (lv_at hl 3 rfl) ?_
  obtain ⟨res, rr, M', r5, hF, hG, hI', hth, hr1, hr2⟩ := child_st hI (xs (x5 + 1).toNatClampNeg) (xs (x5 + 2).toNatClampNeg) (xs (x5 + 3).toNatClampNeg)
  obtain ⟨hPc, hDc, hback⟩ := hW.plain
  have hFc := jFreeW (ws := OL cL o f ++ W_LS cI a S) hDc hS hA
  refine va_calli (vx_runSW (As := [.ref (a 0), .int (xs (x5 + 1).toNatClampNeg), .int (xs (x5 + 2).toNatClampNeg), .int (xs (x5 + 3).toNatClampNeg), .ref o]) (rest := []) ⟨hx, hb, hml, hown, hts⟩ (c_L_child l dC dI cI cL hl0 a o H.size f S (xs (x5 + 1).toNatClampNeg) (xs (x5 + 2).toNatClampNeg) (xs (x5 + 3).toNatClampNeg) res rr hF (fun r0 z => (hr1 r0 z).1) (fun E y z => (hr2 E y z).2)) (vx_cwSW 5 hts gL_law_L_child rfl rfl rfl (by decide +kernel) ⟨Nat.le_of_ble_eq_true rfl, Nat.le_of_ble_eq_true rfl⟩) (jPreSX (hK.sub [0, 2] rfl) hPc hDc hN hU hSN hS hFc) rfl rfl hl.1 rfl (lv_room (Nat.le_of_ble_eq_true rfl)) dL_law_603 ⟨hn, hk⟩) hS (fun q _ h => hFc q h) hFc (fun r' u t H1 locs ht hvm hw hB hz1 hk1 hS => ?_)
  obtain ⟨hrr, hres⟩ := hw
  subst hrr
  obtain ⟨hP1, -, hD1⟩ := hB
  rw [ht] at hP1
  have hu2 : r' = 0 → u 0 = r5.toInt64 := by
    rcases hres with ⟨r0, g1, g2⟩ | ⟨E, g1⟩
    · obtain ⟨-, g3⟩ := hr1 _ g1
      exact fun _ => by rw [g2, g3]
    · obtain ⟨g4, -⟩ := hr2 _ _ g1
      exact fun z => absurd z g4
  have hW1 := hback H1 u S hk1 hFc hP1 hD1
  refine lv_istore (lv' := [(6, .int r'), (0, .ref b), (1, .ref (a 0)), (2, .ref (am 0)), (3, .ref o), (4, .ref o2), (5, .int x5)]) hx hb dL_law_606 hl (by decide) rfl (fun ls hl => ?_)
  refine lv_aload_n hx hb dL_law_608 rfl (lv_at hl 3 rfl) ?_
  refine lv_aload_n hx hb dL_law_609 rfl (lv_at hl 1 rfl) ?_
  refine lv_iload hx hb dL_law_610 (lv_at hl 6 rfl) ?_
  refine lv_iconst (v := (1 : Int32)) hx hb dL_law_612 (by decide) ?_
  refine lv_iadd hx hb dL_law_613 ?_
  refine va_sld hx hb hX hbl hbA hS hin1 dL_law_614 ?_
  refine lv_aload_n hx hb dL_law_615 rfl (lv_at hl 1 rfl) ?_
  refine lv_iload hx hb dL_law_616 (lv_at hl 6 rfl) ?_
  refine lv_iconst (v := (2 : Int32)) hx hb dL_law_618 (by decide) ?_
  refine lv_iadd hx hb dL_law_619 ?_
  refine va_sld hx hb hX hbl hbA hS hin2 dL_law_620 ?_
  refine lv_aload_n hx hb dL_law_621 rfl (lv_at hl 1 rfl) ?_
  refine lv_iload hx hb dL_law_622 (lv_at hl 6 rfl) ?_
  refine lv_iconst (v := (3 : Int32)) hx hb dL_law_624 (by decide) ?_
  refine lv_iadd hx hb dL_law_625 ?_
  refine va_sld hx hb hX hbl hbA hS hin3 dL_law_626 ?_
  obtain ⟨hPm, hDm, hbackm⟩ := hW1.mod
  have hFm := jFreeW (ws := W_Model cI am M) hDm hS hA
  refine va_calli (va_runV (As := [.int (xs (x5 + 1).toNatClampNeg), .int (xs (x5 + 2).toNatClampNeg), .int (xs (x5 + 3).toNatClampNeg)]) (rest := []) ⟨hx, hb, hml, hown, hts⟩ (c_X5_child l dC dI cI am H1.size M (xs (x5 + 1).toNatClampNeg) (xs (x5 + 2).toNatClampNeg) (xs (x5 + 3).toNatClampNeg) r5 M' hG) (cwV 3 hts gL_law_X5_child rfl rfl rfl (by decide +kernel) ⟨Nat.le_of_ble_eq_true rfl, Nat.le_of_ble_eq_true rfl⟩) (jPreV (q := (RX5, TX5, 26)) (ci := 5) (hK.sub [0] rfl) hPm hDm hN rfl rfl) rfl rfl hl.1 rfl (lv_room (Nat.le_of_ble_eq_true rfl)) dL_law_627 ⟨hn, hk⟩) hS (fun q _ h => hFm q h) hFm (fun r2 u2 t2 H2 locs ht2 hvm2 hw2 hB2 hz2 hk2 hS => ?_)
  obtain ⟨hr5, hM5⟩ := hw2
  subst hr5
  subst hM5
  obtain ⟨hP2, -, hD2⟩ := hB2
  rw [ht2] at hP2
  have hW2 := hbackm H2 M' hk2 hFm hP2 hD2
  refine lv_istore (lv' := [(7, .int r5), (6, .int r'), (0, .ref b), (1, .ref (a 0)), (2, .ref (am 0)), (3, .ref o), (4, .ref o2), (5, .int x5)]) hx hb dL_law_630 hl (by decide) rfl (fun ls hl => ?_)
  refine lv_aload_n hx hb dL_law_632 rfl (lv_at hl 4 rfl) ?_
  obtain ⟨hPt, hDt, hbackt⟩ := hW2.mod
  have hFt := jFreeW (ws := W_Model cI am M') hDt hS hA
  refine va_calli (va_runV (As := []) (rest := []) ⟨hx, hb, hml, hown, hts⟩ (c_X5_thrown l dC dI cI am H2.size M' (g_Model_thrown M') rfl) (cwV 0 hts gL_law_X5_thrown rfl rfl rfl (by decide +kernel) ⟨Nat.le_of_ble_eq_true rfl, Nat.le_of_ble_eq_true rfl⟩) (jPreV (q := (RX5, TX5, 26)) (ci := 5) (hK.sub [0] rfl) hPt hDt hN rfl rfl) rfl rfl hl.1 rfl (lv_room (Nat.le_of_ble_eq_true rfl)) dL_law_633 ⟨hn, hk⟩) hS (fun q _ h => hFt q h) hFt (fun r3 u3 t3 H3 locs ht3 hvm3 hw3 hB3 hz3 hk3 hS => ?_)
  subst hw3
  obtain ⟨hP3, -, hD3⟩ := hB3
  rw [ht3] at hP3
  have hW3 := hbackt H3 M' hk3 hFt hP3 hD3
  refine lv_iload hx hb dL_law_636 (lv_at hl 1 rfl) ?_
  refine lv_icmp_eq (tgt := 643) hx hb dL_law_638 (by decide) (fun _ => ?_) (fun c9 => absurd hth c9)
  refine lv_iload hx hb dL_law_643 (lv_at hl 1 rfl) ?_
  refine lv_if_ne (tgt := 660) hx hb dL_law_645 (by decide) (fun _ => ?_) (fun c9 => ?_)
  · refine lv_goto (tgt := 1139) hx hb dL_law_660 (by decide) ?_
    exact KT _ _ _ _ _ _ _ _ _ hI' hW3 hS (lv_sub hl [2, 3, 4, 5, 6, 7] rfl)
  · obtain hu3 := hu2 c9
    refine lv_aload_n hx hb dL_law_648 rfl (lv_at hl 5 rfl) ?_
    refine lv_iconst (v := (0 : Int32)) hx hb dL_law_649 (by decide) ?_
    refine va_lald (D := (dC, dI)) hx hb hK hW3.ol 0 2 rfl rfl (inb_in (show inb 0 1 = true by decide)) dL_law_650 ?_
    refine lv_iload hx hb dL_law_651 (lv_at hl 0 rfl) ?_
    refine lv_i2l (v := r5.toInt64) hx hb dL_law_653 rfl ?_
    refine W.lcmp hx hb dL_law_654 ?_
    refine lv_if_eq (tgt := 660) hx hb dL_law_655 (by decide) (fun _ => ?_) (fun c10 => absurd (by rw [show u (0 : Int32).toNatClampNeg = r5.toInt64 from hu3]; exact lg_cmp_self _) c10)
    refine lv_goto (tgt := 1139) hx hb dL_law_660 (by decide) ?_
    exact KT _ _ _ _ _ _ _ _ _ hI' hW3 hS (lv_sub hl [2, 3, 4, 5, 6, 7] rfl)
set_option maxHeartbeats 4000000 in
set_option maxRecDepth 100000 in
theorem law_shape {p : Program} {l : Launch} {e : Env} {s : State} {m : MethodId} {below : List Frame} {meth : Method} {c : Code} {dC : Nat → ClassId} {dI : Nat → Nat → Nat} {cI cS cL cD : ClassId} {b L : Nat} {xs : Nat → Int32} (C0 : LCX p l s m c dC dI cI cS cL cD b L xs) {a am : Nat → Nat} {o o2 : Nat} {f : Nat → Int64} {f2 : Nat → UInt64} {q : Nat → Nat → Nat} {S : S_LS} {Z : Nat → S_State} {M : S_Model} {H : Heap} {locs : List Loc} {n k : Nat} {ls : Array Slot} {x5 : Int32} (hI : INV S Z M) (hW : LWP (dC, dI) cI cS cL cD a am o o2 (fun q : Nat => s.heap.size ≤ q) f f2 q S Z M H) (hS : va_S (fun q : Nat => s.heap.size ≤ q) s.heap H locs) (hl : lv_has ls 9 [(0, .ref b), (1, .ref (a 0)), (2, .ref (am 0)), (3, .ref o), (4, .ref o2), (5, .int x5)]) (hin1 : vp_in (x5 + 1) L) (hin2 : vp_in (x5 + 2) L) (hin3 : vp_in (x5 + 3) L) (hn : n + 1 ≤ 601024) (hk : k + 6 ≤ 7293033) {Q : State → Prop} (KT : ∀ (f : Nat → Int64) (f2 : Nat → UInt64) (q : Nat → Nat → Nat) (S : S_LS) (Z : Nat → S_State) (M : S_Model) (H : Heap) (locs : List Loc) (ls : Array Slot), INV S Z M → LWP (dC, dI) cI cS cL cD a am o o2 (fun q : Nat => s.heap.size ≤ q) f f2 q S Z M H → va_S (fun q : Nat => s.heap.size ≤ q) s.heap H locs → lv_has ls 9 [(0, .ref b), (1, .ref (a 0)), (2, .ref (am 0)), (3, .ref o), (4, .ref o2), (5, .int x5)] → W p l e room_1 s m #[Value.ref b] below meth c H locs (n + 1) (k + 6) Q (F0 m 1139 ls [])) : W p l e room_1 s m #[Value.ref b] below meth c H locs n k Q (F0 m 663 ls []) := by
  obtain ⟨hx, hb, hml, hown, hts, hX, hbl, hK, hN, hU, hSN, hl0⟩ := C0
  have hA : ∀ q : Nat, s.heap.size ≤ q → (fun q : Nat => s.heap.size ≤ q) q := fun _ h => h
  have hbA : ¬ (fun q : Nat => s.heap.size ≤ q) b := Nat.not_le.mpr hbl
  refine lv_aload_n hx hb dL_law_663 rfl (lv_at hl 1 rfl) ?_
  refine lv_aload_n hx hb dL_law_664 rfl (lv_at hl 0 rfl) ?_
  refine lv_iload hx hb dL_law_665 (lv_at hl 5 rfl) ?_
  refine lv_iconst (v := (1 : Int32)) hx hb dL_law_667 (by decide) ?_
  refine lv_iadd hx hb dL_law_668 ?_
  refine va_sld hx hb hX hbl hbA hS hin1 dL_law_669 ?_
  refine lv_aload_n hx hb dL_law_670 rfl (lv_at hl 0 rfl) ?_
  refine lv_iload hx hb dL_law_671 (lv_at hl 5 rfl) ?_
  refine lv_iconst (v := (2 : Int32)) hx hb dL_law_673 (by decide) ?_
  refine lv_iadd hx hb dL_law_674 ?_
  refine va_sld hx hb hX hbl hbA hS hin2 dL_law_675 ?_
  refine lv_aload_n hx hb dL_law_676 rfl (lv_at hl 3 rfl) ?_
  obtain ⟨res, rr, M', r5, hF, hG, hI', hth, hr1, hr2⟩ := shape_st hI (xs (x5 + 1).toNatClampNeg) (xs (x5 + 2).toNatClampNeg)
  obtain ⟨hPc, hDc, hback⟩ := hW.plain
  have hFc := jFreeW (ws := OL cL o f ++ W_LS cI a S) hDc hS hA
  refine va_calli (vx_runSW (As := [.ref (a 0), .int (xs (x5 + 1).toNatClampNeg), .int (xs (x5 + 2).toNatClampNeg), .ref o]) (rest := []) ⟨hx, hb, hml, hown, hts⟩ (c_L_shape l dC dI cI cL hl0 a o H.size f S (xs (x5 + 1).toNatClampNeg) (xs (x5 + 2).toNatClampNeg) res rr hF (fun r0 z => (hr1 r0 z).1) (fun E y z => (hr2 E y z).2)) (vx_cwSW 4 hts gL_law_L_shape rfl rfl rfl (by decide +kernel) ⟨Nat.le_of_ble_eq_true rfl, Nat.le_of_ble_eq_true rfl⟩) (jPreSX (hK.sub [0, 2] rfl) hPc hDc hN hU hSN hS hFc) rfl rfl hl.1 rfl (lv_room (Nat.le_of_ble_eq_true rfl)) dL_law_677 ⟨hn, hk⟩) hS (fun q _ h => hFc q h) hFc (fun r' u t H1 locs ht hvm hw hB hz1 hk1 hS => ?_)
  obtain ⟨hrr, hres⟩ := hw
  subst hrr
  obtain ⟨hP1, -, hD1⟩ := hB
  rw [ht] at hP1
  have hu2 : r' = 0 → u 0 = r5.toInt64 := by
    rcases hres with ⟨r0, g1, g2⟩ | ⟨E, g1⟩
    · obtain ⟨-, g3⟩ := hr1 _ g1
      exact fun _ => by rw [g2, g3]
    · obtain ⟨g4, -⟩ := hr2 _ _ g1
      exact fun z => absurd z g4
  have hW1 := hback H1 u S hk1 hFc hP1 hD1
  refine lv_istore (lv' := [(6, .int r'), (0, .ref b), (1, .ref (a 0)), (2, .ref (am 0)), (3, .ref o), (4, .ref o2), (5, .int x5)]) hx hb dL_law_680 hl (by decide) rfl (fun ls hl => ?_)
  refine lv_aload_n hx hb dL_law_682 rfl (lv_at hl 3 rfl) ?_
  refine lv_aload_n hx hb dL_law_683 rfl (lv_at hl 1 rfl) ?_
  refine lv_iload hx hb dL_law_684 (lv_at hl 6 rfl) ?_
  refine lv_iconst (v := (1 : Int32)) hx hb dL_law_686 (by decide) ?_
  refine lv_iadd hx hb dL_law_687 ?_
  refine va_sld hx hb hX hbl hbA hS hin1 dL_law_688 ?_
  refine lv_aload_n hx hb dL_law_689 rfl (lv_at hl 1 rfl) ?_
  refine lv_iload hx hb dL_law_690 (lv_at hl 6 rfl) ?_
  refine lv_iconst (v := (2 : Int32)) hx hb dL_law_692 (by decide) ?_
  refine lv_iadd hx hb dL_law_693 ?_
  refine va_sld hx hb hX hbl hbA hS hin2 dL_law_694 ?_
  obtain ⟨hPm, hDm, hbackm⟩ := hW1.mod
  have hFm := jFreeW (ws := W_Model cI am M) hDm hS hA
  refine va_calli (va_runV (As := [.int (xs (x5 + 1).toNatClampNeg), .int (xs (x5 + 2).toNatClampNeg)]) (rest := []) ⟨hx, hb, hml, hown, hts⟩ (c_X5_shape l dC dI cI am H1.size M (xs (x5 + 1).toNatClampNeg) (xs (x5 + 2).toNatClampNeg) r5 M' hG) (cwV 2 hts gL_law_X5_shape rfl rfl rfl (by decide +kernel) ⟨Nat.le_of_ble_eq_true rfl, Nat.le_of_ble_eq_true rfl⟩) (jPreV (q := (RX5, TX5, 26)) (ci := 5) (hK.sub [0] rfl) hPm hDm hN rfl rfl) rfl rfl hl.1 rfl (lv_room (Nat.le_of_ble_eq_true rfl)) dL_law_695 ⟨hn, hk⟩) hS (fun q _ h => hFm q h) hFm (fun r2 u2 t2 H2 locs ht2 hvm2 hw2 hB2 hz2 hk2 hS => ?_)
  obtain ⟨hr5, hM5⟩ := hw2
  subst hr5
  subst hM5
  obtain ⟨hP2, -, hD2⟩ := hB2
  rw [ht2] at hP2
  have hW2 := hbackm H2 M' hk2 hFm hP2 hD2
  refine lv_istore (lv' := [(7, .int r5), (6, .int r'), (0, .ref b), (1, .ref (a 0)), (2, .ref (am 0)), (3, .ref o), (4, .ref o2), (5, .int x5)]) hx hb dL_law_698 hl (by decide) rfl (fun ls hl => ?_)
  refine lv_aload_n hx hb dL_law_700 rfl (lv_at hl 4 rfl) ?_
  obtain ⟨hPt, hDt, hbackt⟩ := hW2.mod
  have hFt := jFreeW (ws := W_Model cI am M') hDt hS hA
  refine va_calli (va_runV (As := []) (rest := []) ⟨hx, hb, hml, hown, hts⟩ (c_X5_thrown l dC dI cI am H2.size M' (g_Model_thrown M') rfl) (cwV 0 hts gL_law_X5_thrown rfl rfl rfl (by decide +kernel) ⟨Nat.le_of_ble_eq_true rfl, Nat.le_of_ble_eq_true rfl⟩) (jPreV (q := (RX5, TX5, 26)) (ci := 5) (hK.sub [0] rfl) hPt hDt hN rfl rfl) rfl rfl hl.1 rfl (lv_room (Nat.le_of_ble_eq_true rfl)) dL_law_701 ⟨hn, hk⟩) hS (fun q _ h => hFt q h) hFt (fun r3 u3 t3 H3 locs ht3 hvm3 hw3 hB3 hz3 hk3 hS => ?_)
  subst hw3
  obtain ⟨hP3, -, hD3⟩ := hB3
  rw [ht3] at hP3
  have hW3 := hbackt H3 M' hk3 hFt hP3 hD3
  refine lv_iload hx hb dL_law_704 (lv_at hl 1 rfl) ?_
  refine lv_icmp_eq (tgt := 711) hx hb dL_law_706 (by decide) (fun _ => ?_) (fun c9 => absurd hth c9)
  refine lv_iload hx hb dL_law_711 (lv_at hl 1 rfl) ?_
  refine lv_if_ne (tgt := 728) hx hb dL_law_713 (by decide) (fun _ => ?_) (fun c9 => ?_)
  · refine lv_goto (tgt := 1139) hx hb dL_law_728 (by decide) ?_
    exact KT _ _ _ _ _ _ _ _ _ hI' hW3 hS (lv_sub hl [2, 3, 4, 5, 6, 7] rfl)
  · obtain hu3 := hu2 c9
    refine lv_aload_n hx hb dL_law_716 rfl (lv_at hl 5 rfl) ?_
    refine lv_iconst (v := (0 : Int32)) hx hb dL_law_717 (by decide) ?_
    refine va_lald (D := (dC, dI)) hx hb hK hW3.ol 0 2 rfl rfl (inb_in (show inb 0 1 = true by decide)) dL_law_718 ?_
    refine lv_iload hx hb dL_law_719 (lv_at hl 0 rfl) ?_
    refine lv_i2l (v := r5.toInt64) hx hb dL_law_721 rfl ?_
    refine W.lcmp hx hb dL_law_722 ?_
    refine lv_if_eq (tgt := 728) hx hb dL_law_723 (by decide) (fun _ => ?_) (fun c10 => absurd (by rw [show u (0 : Int32).toNatClampNeg = r5.toInt64 from hu3]; exact lg_cmp_self _) c10)
    refine lv_goto (tgt := 1139) hx hb dL_law_728 (by decide) ?_
    exact KT _ _ _ _ _ _ _ _ _ hI' hW3 hS (lv_sub hl [2, 3, 4, 5, 6, 7] rfl)
set_option maxHeartbeats 4000000 in
set_option maxRecDepth 100000 in
theorem law_document {p : Program} {l : Launch} {e : Env} {s : State} {m : MethodId} {below : List Frame} {meth : Method} {c : Code} {dC : Nat → ClassId} {dI : Nat → Nat → Nat} {cI cS cL cD : ClassId} {b L : Nat} {xs : Nat → Int32} (C0 : LCX p l s m c dC dI cI cS cL cD b L xs) {a am : Nat → Nat} {o o2 : Nat} {f : Nat → Int64} {f2 : Nat → UInt64} {q : Nat → Nat → Nat} {S : S_LS} {Z : Nat → S_State} {M : S_Model} {H : Heap} {locs : List Loc} {n k : Nat} {ls : Array Slot} {x5 : Int32} (hI : INV S Z M) (hW : LWP (dC, dI) cI cS cL cD a am o o2 (fun q : Nat => s.heap.size ≤ q) f f2 q S Z M H) (hS : va_S (fun q : Nat => s.heap.size ≤ q) s.heap H locs) (hl : lv_has ls 9 [(0, .ref b), (1, .ref (a 0)), (2, .ref (am 0)), (3, .ref o), (4, .ref o2), (5, .int x5)]) (hin1 : vp_in (x5 + 1) L) (hin2 : vp_in (x5 + 2) L) (hin3 : vp_in (x5 + 3) L) (hn : n + 1 ≤ 601024) (hk : k + 6 ≤ 7293033) {Q : State → Prop} (KT : ∀ (f : Nat → Int64) (f2 : Nat → UInt64) (q : Nat → Nat → Nat) (S : S_LS) (Z : Nat → S_State) (M : S_Model) (H : Heap) (locs : List Loc) (ls : Array Slot), INV S Z M → LWP (dC, dI) cI cS cL cD a am o o2 (fun q : Nat => s.heap.size ≤ q) f f2 q S Z M H → va_S (fun q : Nat => s.heap.size ≤ q) s.heap H locs → lv_has ls 9 [(0, .ref b), (1, .ref (a 0)), (2, .ref (am 0)), (3, .ref o), (4, .ref o2), (5, .int x5)] → W p l e room_1 s m #[Value.ref b] below meth c H locs (n + 1) (k + 6) Q (F0 m 1139 ls [])) : W p l e room_1 s m #[Value.ref b] below meth c H locs n k Q (F0 m 731 ls []) := by
  obtain ⟨hx, hb, hml, hown, hts, hX, hbl, hK, hN, hU, hSN, hl0⟩ := C0
  have hA : ∀ q : Nat, s.heap.size ≤ q → (fun q : Nat => s.heap.size ≤ q) q := fun _ h => h
  have hbA : ¬ (fun q : Nat => s.heap.size ≤ q) b := Nat.not_le.mpr hbl
  refine lv_aload_n hx hb dL_law_731 rfl (lv_at hl 1 rfl) ?_
  refine lv_aload_n hx hb dL_law_732 rfl (lv_at hl 0 rfl) ?_
  refine lv_iload hx hb dL_law_733 (lv_at hl 5 rfl) ?_
  refine lv_iconst (v := (1 : Int32)) hx hb dL_law_735 (by decide) ?_
  refine lv_iadd hx hb dL_law_736 ?_
  refine va_sld hx hb hX hbl hbA hS hin1 dL_law_737 ?_
  refine lv_aload_n hx hb dL_law_738 rfl (lv_at hl 3 rfl) ?_
  obtain ⟨res, rr, S', M', r5, hF, hG, hI', hth, hr1, hr2⟩ := document_st hI (xs (x5 + 1).toNatClampNeg)
  obtain ⟨hPc, hDc, hback⟩ := hW.plain
  have hFc := jFreeW (ws := OL cL o f ++ W_LS cI a S) hDc hS hA
  refine va_calli (vx_runSW (As := [.ref (a 0), .int (xs (x5 + 1).toNatClampNeg), .ref o]) (rest := []) ⟨hx, hb, hml, hown, hts⟩ (c_L_document l dC dI cI cL hl0 a o H.size f S (xs (x5 + 1).toNatClampNeg) res rr hF (fun r0 y z => (hr1 r0 y z).1) (fun E y z => (hr2 E y z).2.2)) (vx_cwSW 3 hts gL_law_L_document rfl rfl rfl (by decide +kernel) ⟨Nat.le_of_ble_eq_true rfl, Nat.le_of_ble_eq_true rfl⟩) (jPreSX (hK.sub [0, 2] rfl) hPc hDc hN hU hSN hS hFc) rfl rfl hl.1 rfl (lv_room (Nat.le_of_ble_eq_true rfl)) dL_law_739 ⟨hn, hk⟩) hS (fun q _ h => hFc q h) hFc (fun r' u t H1 locs ht hvm hw hB hz1 hk1 hS => ?_)
  obtain ⟨hrr, hres⟩ := hw
  subst hrr
  obtain ⟨hP1, -, hD1⟩ := hB
  rw [ht] at hP1
  have hu : u.1 = S' ∧ (r' = 0 → u.2 0 = r5.toInt64) := by
    rcases hres with ⟨r0, g1, g2⟩ | ⟨E, g1⟩
    · obtain ⟨-, g3, g4⟩ := hr1 _ _ g1
      exact ⟨g4, fun _ => by rw [g2, g3]⟩
    · obtain ⟨g3, g4, -⟩ := hr2 _ _ g1
      exact ⟨g3, fun z => absurd z g4⟩
  obtain ⟨hu1, hu2⟩ := hu
  have hW1 := hback H1 u.2 u.1 hk1 hFc hP1 hD1
  rw [hu1] at hW1
  have hW1 : LWP (dC, dI) cI cS cL cD a am o o2 (fun q : Nat => s.heap.size ≤ q) u.2 f2 q S' Z M H1 := hW1
  refine lv_istore (lv' := [(6, .int r'), (0, .ref b), (1, .ref (a 0)), (2, .ref (am 0)), (3, .ref o), (4, .ref o2), (5, .int x5)]) hx hb dL_law_742 hl (by decide) rfl (fun ls hl => ?_)
  refine lv_aload_n hx hb dL_law_744 rfl (lv_at hl 3 rfl) ?_
  refine lv_aload_n hx hb dL_law_745 rfl (lv_at hl 1 rfl) ?_
  refine lv_iload hx hb dL_law_746 (lv_at hl 6 rfl) ?_
  refine lv_iconst (v := (1 : Int32)) hx hb dL_law_748 (by decide) ?_
  refine lv_iadd hx hb dL_law_749 ?_
  refine va_sld hx hb hX hbl hbA hS hin1 dL_law_750 ?_
  obtain ⟨hPm, hDm, hbackm⟩ := hW1.mod
  have hFm := jFreeW (ws := W_Model cI am M) hDm hS hA
  refine va_calli (va_runV (As := [.int (xs (x5 + 1).toNatClampNeg)]) (rest := []) ⟨hx, hb, hml, hown, hts⟩ (c_X5_document l dC dI cI am H1.size M (xs (x5 + 1).toNatClampNeg) r5 M' hG) (cwV 1 hts gL_law_X5_document rfl rfl rfl (by decide +kernel) ⟨Nat.le_of_ble_eq_true rfl, Nat.le_of_ble_eq_true rfl⟩) (jPreV (q := (RX5, TX5, 26)) (ci := 5) (hK.sub [0] rfl) hPm hDm hN rfl rfl) rfl rfl hl.1 rfl (lv_room (Nat.le_of_ble_eq_true rfl)) dL_law_751 ⟨hn, hk⟩) hS (fun q _ h => hFm q h) hFm (fun r2 u2 t2 H2 locs ht2 hvm2 hw2 hB2 hz2 hk2 hS => ?_)
  obtain ⟨hr5, hM5⟩ := hw2
  subst hr5
  subst hM5
  obtain ⟨hP2, -, hD2⟩ := hB2
  rw [ht2] at hP2
  have hW2 := hbackm H2 M' hk2 hFm hP2 hD2
  refine lv_istore (lv' := [(7, .int r5), (6, .int r'), (0, .ref b), (1, .ref (a 0)), (2, .ref (am 0)), (3, .ref o), (4, .ref o2), (5, .int x5)]) hx hb dL_law_754 hl (by decide) rfl (fun ls hl => ?_)
  refine lv_aload_n hx hb dL_law_756 rfl (lv_at hl 4 rfl) ?_
  obtain ⟨hPt, hDt, hbackt⟩ := hW2.mod
  have hFt := jFreeW (ws := W_Model cI am M') hDt hS hA
  refine va_calli (va_runV (As := []) (rest := []) ⟨hx, hb, hml, hown, hts⟩ (c_X5_thrown l dC dI cI am H2.size M' (g_Model_thrown M') rfl) (cwV 0 hts gL_law_X5_thrown rfl rfl rfl (by decide +kernel) ⟨Nat.le_of_ble_eq_true rfl, Nat.le_of_ble_eq_true rfl⟩) (jPreV (q := (RX5, TX5, 26)) (ci := 5) (hK.sub [0] rfl) hPt hDt hN rfl rfl) rfl rfl hl.1 rfl (lv_room (Nat.le_of_ble_eq_true rfl)) dL_law_757 ⟨hn, hk⟩) hS (fun q _ h => hFt q h) hFt (fun r3 u3 t3 H3 locs ht3 hvm3 hw3 hB3 hz3 hk3 hS => ?_)
  subst hw3
  obtain ⟨hP3, -, hD3⟩ := hB3
  rw [ht3] at hP3
  have hW3 := hbackt H3 M' hk3 hFt hP3 hD3
  refine lv_iload hx hb dL_law_760 (lv_at hl 1 rfl) ?_
  refine lv_icmp_eq (tgt := 767) hx hb dL_law_762 (by decide) (fun _ => ?_) (fun c9 => absurd hth c9)
  refine lv_iload hx hb dL_law_767 (lv_at hl 1 rfl) ?_
  refine lv_if_ne (tgt := 784) hx hb dL_law_769 (by decide) (fun _ => ?_) (fun c9 => ?_)
  · refine lv_goto (tgt := 1139) hx hb dL_law_784 (by decide) ?_
    exact KT _ _ _ _ _ _ _ _ _ hI' hW3 hS (lv_sub hl [2, 3, 4, 5, 6, 7] rfl)
  · obtain hu3 := hu2 c9
    refine lv_aload_n hx hb dL_law_772 rfl (lv_at hl 5 rfl) ?_
    refine lv_iconst (v := (0 : Int32)) hx hb dL_law_773 (by decide) ?_
    refine va_lald (D := (dC, dI)) hx hb hK hW3.ol 0 2 rfl rfl (inb_in (show inb 0 1 = true by decide)) dL_law_774 ?_
    refine lv_iload hx hb dL_law_775 (lv_at hl 0 rfl) ?_
    refine lv_i2l (v := r5.toInt64) hx hb dL_law_777 rfl ?_
    refine W.lcmp hx hb dL_law_778 ?_
    refine lv_if_eq (tgt := 784) hx hb dL_law_779 (by decide) (fun _ => ?_) (fun c10 => absurd (by rw [show u.2 (0 : Int32).toNatClampNeg = r5.toInt64 from hu3]; exact lg_cmp_self _) c10)
    refine lv_goto (tgt := 1139) hx hb dL_law_784 (by decide) ?_
    exact KT _ _ _ _ _ _ _ _ _ hI' hW3 hS (lv_sub hl [2, 3, 4, 5, 6, 7] rfl)
set_option maxHeartbeats 4000000 in
set_option maxRecDepth 100000 in
theorem law_count {p : Program} {l : Launch} {e : Env} {s : State} {m : MethodId} {below : List Frame} {meth : Method} {c : Code} {dC : Nat → ClassId} {dI : Nat → Nat → Nat} {cI cS cL cD : ClassId} {b L : Nat} {xs : Nat → Int32} (C0 : LCX p l s m c dC dI cI cS cL cD b L xs) {a am : Nat → Nat} {o o2 : Nat} {f : Nat → Int64} {f2 : Nat → UInt64} {q : Nat → Nat → Nat} {S : S_LS} {Z : Nat → S_State} {M : S_Model} {H : Heap} {locs : List Loc} {n k : Nat} {ls : Array Slot} {x5 : Int32} (hI : INV S Z M) (hW : LWP (dC, dI) cI cS cL cD a am o o2 (fun q : Nat => s.heap.size ≤ q) f f2 q S Z M H) (hS : va_S (fun q : Nat => s.heap.size ≤ q) s.heap H locs) (hl : lv_has ls 9 [(0, .ref b), (1, .ref (a 0)), (2, .ref (am 0)), (3, .ref o), (4, .ref o2), (5, .int x5)]) (hin1 : vp_in (x5 + 1) L) (hin2 : vp_in (x5 + 2) L) (hin3 : vp_in (x5 + 3) L) (hn : n + 1 ≤ 601024) (hk : k + 6 ≤ 7293033) {Q : State → Prop} (KT : ∀ (f : Nat → Int64) (f2 : Nat → UInt64) (q : Nat → Nat → Nat) (S : S_LS) (Z : Nat → S_State) (M : S_Model) (H : Heap) (locs : List Loc) (ls : Array Slot), INV S Z M → LWP (dC, dI) cI cS cL cD a am o o2 (fun q : Nat => s.heap.size ≤ q) f f2 q S Z M H → va_S (fun q : Nat => s.heap.size ≤ q) s.heap H locs → lv_has ls 9 [(0, .ref b), (1, .ref (a 0)), (2, .ref (am 0)), (3, .ref o), (4, .ref o2), (5, .int x5)] → W p l e room_1 s m #[Value.ref b] below meth c H locs (n + 1) (k + 6) Q (F0 m 1139 ls [])) : W p l e room_1 s m #[Value.ref b] below meth c H locs n k Q (F0 m 787 ls []) := by
  obtain ⟨hx, hb, hml, hown, hts, hX, hbl, hK, hN, hU, hSN, hl0⟩ := C0
  have hA : ∀ q : Nat, s.heap.size ≤ q → (fun q : Nat => s.heap.size ≤ q) q := fun _ h => h
  have hbA : ¬ (fun q : Nat => s.heap.size ≤ q) b := Nat.not_le.mpr hbl
  refine lv_aload_n hx hb dL_law_787 rfl (lv_at hl 1 rfl) ?_
  refine lv_aload_n hx hb dL_law_788 rfl (lv_at hl 0 rfl) ?_
  refine lv_iload hx hb dL_law_789 (lv_at hl 5 rfl) ?_
  refine lv_iconst (v := (1 : Int32)) hx hb dL_law_791 (by decide) ?_
  refine lv_iadd hx hb dL_law_792 ?_
  refine va_sld hx hb hX hbl hbA hS hin1 dL_law_793 ?_
  refine lv_aload_n hx hb dL_law_794 rfl (lv_at hl 3 rfl) ?_
  obtain ⟨res, rr, M', r5, hF, hG, hI', hth, hr1, hr2⟩ := count_st hI (xs (x5 + 1).toNatClampNeg)
  obtain ⟨hPc, hDc, hback⟩ := hW.plain
  have hFc := jFreeW (ws := OL cL o f ++ W_LS cI a S) hDc hS hA
  refine va_calli (vx_runSW (As := [.ref (a 0), .int (xs (x5 + 1).toNatClampNeg), .ref o]) (rest := []) ⟨hx, hb, hml, hown, hts⟩ (c_L_count l dC dI cI cL hl0 a o H.size f S (xs (x5 + 1).toNatClampNeg) res rr hF (fun r0 z => (hr1 r0 z).1) (fun E y z => (hr2 E y z).2)) (vx_cwSW 3 hts gL_law_L_count rfl rfl rfl (by decide +kernel) ⟨Nat.le_of_ble_eq_true rfl, Nat.le_of_ble_eq_true rfl⟩) (jPreSX (hK.sub [0, 2] rfl) hPc hDc hN hU hSN hS hFc) rfl rfl hl.1 rfl (lv_room (Nat.le_of_ble_eq_true rfl)) dL_law_795 ⟨hn, hk⟩) hS (fun q _ h => hFc q h) hFc (fun r' u t H1 locs ht hvm hw hB hz1 hk1 hS => ?_)
  obtain ⟨hrr, hres⟩ := hw
  subst hrr
  obtain ⟨hP1, -, hD1⟩ := hB
  rw [ht] at hP1
  have hu2 : r' = 0 → u 0 = r5.toInt64 := by
    rcases hres with ⟨r0, g1, g2⟩ | ⟨E, g1⟩
    · obtain ⟨-, g3⟩ := hr1 _ g1
      exact fun _ => by rw [g2, g3]
    · obtain ⟨g4, -⟩ := hr2 _ _ g1
      exact fun z => absurd z g4
  have hW1 := hback H1 u S hk1 hFc hP1 hD1
  refine lv_istore (lv' := [(6, .int r'), (0, .ref b), (1, .ref (a 0)), (2, .ref (am 0)), (3, .ref o), (4, .ref o2), (5, .int x5)]) hx hb dL_law_798 hl (by decide) rfl (fun ls hl => ?_)
  refine lv_aload_n hx hb dL_law_800 rfl (lv_at hl 3 rfl) ?_
  refine lv_aload_n hx hb dL_law_801 rfl (lv_at hl 1 rfl) ?_
  refine lv_iload hx hb dL_law_802 (lv_at hl 6 rfl) ?_
  refine lv_iconst (v := (1 : Int32)) hx hb dL_law_804 (by decide) ?_
  refine lv_iadd hx hb dL_law_805 ?_
  refine va_sld hx hb hX hbl hbA hS hin1 dL_law_806 ?_
  obtain ⟨hPm, hDm, hbackm⟩ := hW1.mod
  have hFm := jFreeW (ws := W_Model cI am M) hDm hS hA
  refine va_calli (va_runV (As := [.int (xs (x5 + 1).toNatClampNeg)]) (rest := []) ⟨hx, hb, hml, hown, hts⟩ (c_X5_count l dC dI cI am H1.size M (xs (x5 + 1).toNatClampNeg) r5 M' hG) (cwV 1 hts gL_law_X5_count rfl rfl rfl (by decide +kernel) ⟨Nat.le_of_ble_eq_true rfl, Nat.le_of_ble_eq_true rfl⟩) (jPreV (q := (RX5, TX5, 26)) (ci := 5) (hK.sub [0] rfl) hPm hDm hN rfl rfl) rfl rfl hl.1 rfl (lv_room (Nat.le_of_ble_eq_true rfl)) dL_law_807 ⟨hn, hk⟩) hS (fun q _ h => hFm q h) hFm (fun r2 u2 t2 H2 locs ht2 hvm2 hw2 hB2 hz2 hk2 hS => ?_)
  obtain ⟨hr5, hM5⟩ := hw2
  subst hr5
  subst hM5
  obtain ⟨hP2, -, hD2⟩ := hB2
  rw [ht2] at hP2
  have hW2 := hbackm H2 M' hk2 hFm hP2 hD2
  refine lv_istore (lv' := [(7, .int r5), (6, .int r'), (0, .ref b), (1, .ref (a 0)), (2, .ref (am 0)), (3, .ref o), (4, .ref o2), (5, .int x5)]) hx hb dL_law_810 hl (by decide) rfl (fun ls hl => ?_)
  refine lv_aload_n hx hb dL_law_812 rfl (lv_at hl 4 rfl) ?_
  obtain ⟨hPt, hDt, hbackt⟩ := hW2.mod
  have hFt := jFreeW (ws := W_Model cI am M') hDt hS hA
  refine va_calli (va_runV (As := []) (rest := []) ⟨hx, hb, hml, hown, hts⟩ (c_X5_thrown l dC dI cI am H2.size M' (g_Model_thrown M') rfl) (cwV 0 hts gL_law_X5_thrown rfl rfl rfl (by decide +kernel) ⟨Nat.le_of_ble_eq_true rfl, Nat.le_of_ble_eq_true rfl⟩) (jPreV (q := (RX5, TX5, 26)) (ci := 5) (hK.sub [0] rfl) hPt hDt hN rfl rfl) rfl rfl hl.1 rfl (lv_room (Nat.le_of_ble_eq_true rfl)) dL_law_813 ⟨hn, hk⟩) hS (fun q _ h => hFt q h) hFt (fun r3 u3 t3 H3 locs ht3 hvm3 hw3 hB3 hz3 hk3 hS => ?_)
  subst hw3
  obtain ⟨hP3, -, hD3⟩ := hB3
  rw [ht3] at hP3
  have hW3 := hbackt H3 M' hk3 hFt hP3 hD3
  refine lv_iload hx hb dL_law_816 (lv_at hl 1 rfl) ?_
  refine lv_icmp_eq (tgt := 823) hx hb dL_law_818 (by decide) (fun _ => ?_) (fun c9 => absurd hth c9)
  refine lv_iload hx hb dL_law_823 (lv_at hl 1 rfl) ?_
  refine lv_if_ne (tgt := 840) hx hb dL_law_825 (by decide) (fun _ => ?_) (fun c9 => ?_)
  · refine lv_goto (tgt := 1139) hx hb dL_law_840 (by decide) ?_
    exact KT _ _ _ _ _ _ _ _ _ hI' hW3 hS (lv_sub hl [2, 3, 4, 5, 6, 7] rfl)
  · obtain hu3 := hu2 c9
    refine lv_aload_n hx hb dL_law_828 rfl (lv_at hl 5 rfl) ?_
    refine lv_iconst (v := (0 : Int32)) hx hb dL_law_829 (by decide) ?_
    refine va_lald (D := (dC, dI)) hx hb hK hW3.ol 0 2 rfl rfl (inb_in (show inb 0 1 = true by decide)) dL_law_830 ?_
    refine lv_iload hx hb dL_law_831 (lv_at hl 0 rfl) ?_
    refine lv_i2l (v := r5.toInt64) hx hb dL_law_833 rfl ?_
    refine W.lcmp hx hb dL_law_834 ?_
    refine lv_if_eq (tgt := 840) hx hb dL_law_835 (by decide) (fun _ => ?_) (fun c10 => absurd (by rw [show u (0 : Int32).toNatClampNeg = r5.toInt64 from hu3]; exact lg_cmp_self _) c10)
    refine lv_goto (tgt := 1139) hx hb dL_law_840 (by decide) ?_
    exact KT _ _ _ _ _ _ _ _ _ hI' hW3 hS (lv_sub hl [2, 3, 4, 5, 6, 7] rfl)
set_option maxHeartbeats 4000000 in
set_option maxRecDepth 100000 in
theorem law_fits {p : Program} {l : Launch} {e : Env} {s : State} {m : MethodId} {below : List Frame} {meth : Method} {c : Code} {dC : Nat → ClassId} {dI : Nat → Nat → Nat} {cI cS cL cD : ClassId} {b L : Nat} {xs : Nat → Int32} (C0 : LCX p l s m c dC dI cI cS cL cD b L xs) {a am : Nat → Nat} {o o2 : Nat} {f : Nat → Int64} {f2 : Nat → UInt64} {q : Nat → Nat → Nat} {S : S_LS} {Z : Nat → S_State} {M : S_Model} {H : Heap} {locs : List Loc} {n k : Nat} {ls : Array Slot} {x5 : Int32} (hI : INV S Z M) (hW : LWP (dC, dI) cI cS cL cD a am o o2 (fun q : Nat => s.heap.size ≤ q) f f2 q S Z M H) (hS : va_S (fun q : Nat => s.heap.size ≤ q) s.heap H locs) (hl : lv_has ls 9 [(0, .ref b), (1, .ref (a 0)), (2, .ref (am 0)), (3, .ref o), (4, .ref o2), (5, .int x5)]) (hin1 : vp_in (x5 + 1) L) (hin2 : vp_in (x5 + 2) L) (hin3 : vp_in (x5 + 3) L) (hn : n + 1 ≤ 601024) (hk : k + 6 ≤ 7293033) {Q : State → Prop} (KT : ∀ (f : Nat → Int64) (f2 : Nat → UInt64) (q : Nat → Nat → Nat) (S : S_LS) (Z : Nat → S_State) (M : S_Model) (H : Heap) (locs : List Loc) (ls : Array Slot), INV S Z M → LWP (dC, dI) cI cS cL cD a am o o2 (fun q : Nat => s.heap.size ≤ q) f f2 q S Z M H → va_S (fun q : Nat => s.heap.size ≤ q) s.heap H locs → lv_has ls 9 [(0, .ref b), (1, .ref (a 0)), (2, .ref (am 0)), (3, .ref o), (4, .ref o2), (5, .int x5)] → W p l e room_1 s m #[Value.ref b] below meth c H locs (n + 1) (k + 6) Q (F0 m 1139 ls [])) : W p l e room_1 s m #[Value.ref b] below meth c H locs n k Q (F0 m 843 ls []) := by
  obtain ⟨hx, hb, hml, hown, hts, hX, hbl, hK, hN, hU, hSN, hl0⟩ := C0
  have hA : ∀ q : Nat, s.heap.size ≤ q → (fun q : Nat => s.heap.size ≤ q) q := fun _ h => h
  have hbA : ¬ (fun q : Nat => s.heap.size ≤ q) b := Nat.not_le.mpr hbl
  refine lv_aload_n hx hb dL_law_843 rfl (lv_at hl 1 rfl) ?_
  refine lv_aload_n hx hb dL_law_844 rfl (lv_at hl 0 rfl) ?_
  refine lv_iload hx hb dL_law_845 (lv_at hl 5 rfl) ?_
  refine lv_iconst (v := (1 : Int32)) hx hb dL_law_847 (by decide) ?_
  refine lv_iadd hx hb dL_law_848 ?_
  refine va_sld hx hb hX hbl hbA hS hin1 dL_law_849 ?_
  refine lv_aload_n hx hb dL_law_850 rfl (lv_at hl 0 rfl) ?_
  refine lv_iload hx hb dL_law_851 (lv_at hl 5 rfl) ?_
  refine lv_iconst (v := (2 : Int32)) hx hb dL_law_853 (by decide) ?_
  refine lv_iadd hx hb dL_law_854 ?_
  refine va_sld hx hb hX hbl hbA hS hin2 dL_law_855 ?_
  refine lv_aload_n hx hb dL_law_856 rfl (lv_at hl 3 rfl) ?_
  obtain ⟨res, rr, S', M', r5, hF, hG, hI', hth, hr1, hr2⟩ := fits_st hI (xs (x5 + 1).toNatClampNeg) (xs (x5 + 2).toNatClampNeg)
  obtain ⟨hPc, hDc, hback⟩ := hW.plain
  have hFc := jFreeW (ws := OL cL o f ++ W_LS cI a S) hDc hS hA
  refine va_calli (vx_runSW (As := [.ref (a 0), .int (xs (x5 + 1).toNatClampNeg), .int (xs (x5 + 2).toNatClampNeg), .ref o]) (rest := []) ⟨hx, hb, hml, hown, hts⟩ (c_L_fits l dC dI cI cL hl0 a o H.size f S (xs (x5 + 1).toNatClampNeg) (xs (x5 + 2).toNatClampNeg) res rr hF (fun r0 y z => (hr1 r0 y z).1) (fun E y z => (hr2 E y z).2.2)) (vx_cwSW 4 hts gL_law_L_fits rfl rfl rfl (by decide +kernel) ⟨Nat.le_of_ble_eq_true rfl, Nat.le_of_ble_eq_true rfl⟩) (jPreSX (hK.sub [0, 2] rfl) hPc hDc hN hU hSN hS hFc) rfl rfl hl.1 rfl (lv_room (Nat.le_of_ble_eq_true rfl)) dL_law_857 ⟨hn, hk⟩) hS (fun q _ h => hFc q h) hFc (fun r' u t H1 locs ht hvm hw hB hz1 hk1 hS => ?_)
  obtain ⟨hrr, hres⟩ := hw
  subst hrr
  obtain ⟨hP1, -, hD1⟩ := hB
  rw [ht] at hP1
  have hu : u.1 = S' ∧ (r' = 0 → u.2 0 = r5.toInt64) := by
    rcases hres with ⟨r0, g1, g2⟩ | ⟨E, g1⟩
    · obtain ⟨-, g3, g4⟩ := hr1 _ _ g1
      exact ⟨g4, fun _ => by rw [g2, g3]⟩
    · obtain ⟨g3, g4, -⟩ := hr2 _ _ g1
      exact ⟨g3, fun z => absurd z g4⟩
  obtain ⟨hu1, hu2⟩ := hu
  have hW1 := hback H1 u.2 u.1 hk1 hFc hP1 hD1
  rw [hu1] at hW1
  have hW1 : LWP (dC, dI) cI cS cL cD a am o o2 (fun q : Nat => s.heap.size ≤ q) u.2 f2 q S' Z M H1 := hW1
  refine lv_istore (lv' := [(6, .int r'), (0, .ref b), (1, .ref (a 0)), (2, .ref (am 0)), (3, .ref o), (4, .ref o2), (5, .int x5)]) hx hb dL_law_860 hl (by decide) rfl (fun ls hl => ?_)
  refine lv_aload_n hx hb dL_law_862 rfl (lv_at hl 3 rfl) ?_
  refine lv_aload_n hx hb dL_law_863 rfl (lv_at hl 1 rfl) ?_
  refine lv_iload hx hb dL_law_864 (lv_at hl 6 rfl) ?_
  refine lv_iconst (v := (1 : Int32)) hx hb dL_law_866 (by decide) ?_
  refine lv_iadd hx hb dL_law_867 ?_
  refine va_sld hx hb hX hbl hbA hS hin1 dL_law_868 ?_
  refine lv_aload_n hx hb dL_law_869 rfl (lv_at hl 1 rfl) ?_
  refine lv_iload hx hb dL_law_870 (lv_at hl 6 rfl) ?_
  refine lv_iconst (v := (2 : Int32)) hx hb dL_law_872 (by decide) ?_
  refine lv_iadd hx hb dL_law_873 ?_
  refine va_sld hx hb hX hbl hbA hS hin2 dL_law_874 ?_
  obtain ⟨hPm, hDm, hbackm⟩ := hW1.mod
  have hFm := jFreeW (ws := W_Model cI am M) hDm hS hA
  refine va_calli (va_runV (As := [.int (xs (x5 + 1).toNatClampNeg), .int (xs (x5 + 2).toNatClampNeg)]) (rest := []) ⟨hx, hb, hml, hown, hts⟩ (c_X5_fits l dC dI cI am H1.size M (xs (x5 + 1).toNatClampNeg) (xs (x5 + 2).toNatClampNeg) r5 M' hG) (cwV 2 hts gL_law_X5_fits rfl rfl rfl (by decide +kernel) ⟨Nat.le_of_ble_eq_true rfl, Nat.le_of_ble_eq_true rfl⟩) (jPreV (q := (RX5, TX5, 26)) (ci := 5) (hK.sub [0] rfl) hPm hDm hN rfl rfl) rfl rfl hl.1 rfl (lv_room (Nat.le_of_ble_eq_true rfl)) dL_law_875 ⟨hn, hk⟩) hS (fun q _ h => hFm q h) hFm (fun r2 u2 t2 H2 locs ht2 hvm2 hw2 hB2 hz2 hk2 hS => ?_)
  obtain ⟨hr5, hM5⟩ := hw2
  subst hr5
  subst hM5
  obtain ⟨hP2, -, hD2⟩ := hB2
  rw [ht2] at hP2
  have hW2 := hbackm H2 M' hk2 hFm hP2 hD2
  refine lv_istore (lv' := [(7, .int r5), (6, .int r'), (0, .ref b), (1, .ref (a 0)), (2, .ref (am 0)), (3, .ref o), (4, .ref o2), (5, .int x5)]) hx hb dL_law_878 hl (by decide) rfl (fun ls hl => ?_)
  refine lv_aload_n hx hb dL_law_880 rfl (lv_at hl 4 rfl) ?_
  obtain ⟨hPt, hDt, hbackt⟩ := hW2.mod
  have hFt := jFreeW (ws := W_Model cI am M') hDt hS hA
  refine va_calli (va_runV (As := []) (rest := []) ⟨hx, hb, hml, hown, hts⟩ (c_X5_thrown l dC dI cI am H2.size M' (g_Model_thrown M') rfl) (cwV 0 hts gL_law_X5_thrown rfl rfl rfl (by decide +kernel) ⟨Nat.le_of_ble_eq_true rfl, Nat.le_of_ble_eq_true rfl⟩) (jPreV (q := (RX5, TX5, 26)) (ci := 5) (hK.sub [0] rfl) hPt hDt hN rfl rfl) rfl rfl hl.1 rfl (lv_room (Nat.le_of_ble_eq_true rfl)) dL_law_881 ⟨hn, hk⟩) hS (fun q _ h => hFt q h) hFt (fun r3 u3 t3 H3 locs ht3 hvm3 hw3 hB3 hz3 hk3 hS => ?_)
  subst hw3
  obtain ⟨hP3, -, hD3⟩ := hB3
  rw [ht3] at hP3
  have hW3 := hbackt H3 M' hk3 hFt hP3 hD3
  refine lv_iload hx hb dL_law_884 (lv_at hl 1 rfl) ?_
  refine lv_icmp_eq (tgt := 891) hx hb dL_law_886 (by decide) (fun _ => ?_) (fun c9 => absurd hth c9)
  refine lv_iload hx hb dL_law_891 (lv_at hl 1 rfl) ?_
  refine lv_if_ne (tgt := 908) hx hb dL_law_893 (by decide) (fun _ => ?_) (fun c9 => ?_)
  · refine lv_goto (tgt := 1139) hx hb dL_law_908 (by decide) ?_
    exact KT _ _ _ _ _ _ _ _ _ hI' hW3 hS (lv_sub hl [2, 3, 4, 5, 6, 7] rfl)
  · obtain hu3 := hu2 c9
    refine lv_aload_n hx hb dL_law_896 rfl (lv_at hl 5 rfl) ?_
    refine lv_iconst (v := (0 : Int32)) hx hb dL_law_897 (by decide) ?_
    refine va_lald (D := (dC, dI)) hx hb hK hW3.ol 0 2 rfl rfl (inb_in (show inb 0 1 = true by decide)) dL_law_898 ?_
    refine lv_iload hx hb dL_law_899 (lv_at hl 0 rfl) ?_
    refine lv_i2l (v := r5.toInt64) hx hb dL_law_901 rfl ?_
    refine W.lcmp hx hb dL_law_902 ?_
    refine lv_if_eq (tgt := 908) hx hb dL_law_903 (by decide) (fun _ => ?_) (fun c10 => absurd (by rw [show u.2 (0 : Int32).toNatClampNeg = r5.toInt64 from hu3]; exact lg_cmp_self _) c10)
    refine lv_goto (tgt := 1139) hx hb dL_law_908 (by decide) ?_
    exact KT _ _ _ _ _ _ _ _ _ hI' hW3 hS (lv_sub hl [2, 3, 4, 5, 6, 7] rfl)
set_option maxHeartbeats 4000000 in
set_option maxRecDepth 100000 in
theorem law_ifLearned {p : Program} {l : Launch} {e : Env} {s : State} {m : MethodId} {below : List Frame} {meth : Method} {c : Code} {dC : Nat → ClassId} {dI : Nat → Nat → Nat} {cI cS cL cD : ClassId} {b L : Nat} {xs : Nat → Int32} (C0 : LCX p l s m c dC dI cI cS cL cD b L xs) {a am : Nat → Nat} {o o2 : Nat} {f : Nat → Int64} {f2 : Nat → UInt64} {q : Nat → Nat → Nat} {S : S_LS} {Z : Nat → S_State} {M : S_Model} {H : Heap} {locs : List Loc} {n k : Nat} {ls : Array Slot} {x5 : Int32} (hI : INV S Z M) (hW : LWP (dC, dI) cI cS cL cD a am o o2 (fun q : Nat => s.heap.size ≤ q) f f2 q S Z M H) (hS : va_S (fun q : Nat => s.heap.size ≤ q) s.heap H locs) (hl : lv_has ls 9 [(0, .ref b), (1, .ref (a 0)), (2, .ref (am 0)), (3, .ref o), (4, .ref o2), (5, .int x5)]) (hin1 : vp_in (x5 + 1) L) (hin2 : vp_in (x5 + 2) L) (hin3 : vp_in (x5 + 3) L) (hn : n + 1 ≤ 601024) (hk : k + 6 ≤ 7293033) {Q : State → Prop} (KT : ∀ (f : Nat → Int64) (f2 : Nat → UInt64) (q : Nat → Nat → Nat) (S : S_LS) (Z : Nat → S_State) (M : S_Model) (H : Heap) (locs : List Loc) (ls : Array Slot), INV S Z M → LWP (dC, dI) cI cS cL cD a am o o2 (fun q : Nat => s.heap.size ≤ q) f f2 q S Z M H → va_S (fun q : Nat => s.heap.size ≤ q) s.heap H locs → lv_has ls 9 [(0, .ref b), (1, .ref (a 0)), (2, .ref (am 0)), (3, .ref o), (4, .ref o2), (5, .int x5)] → W p l e room_1 s m #[Value.ref b] below meth c H locs (n + 1) (k + 6) Q (F0 m 1139 ls [])) : W p l e room_1 s m #[Value.ref b] below meth c H locs n k Q (F0 m 911 ls []) := by
  obtain ⟨hx, hb, hml, hown, hts, hX, hbl, hK, hN, hU, hSN, hl0⟩ := C0
  have hA : ∀ q : Nat, s.heap.size ≤ q → (fun q : Nat => s.heap.size ≤ q) q := fun _ h => h
  have hbA : ¬ (fun q : Nat => s.heap.size ≤ q) b := Nat.not_le.mpr hbl
  refine lv_aload_n hx hb dL_law_911 rfl (lv_at hl 1 rfl) ?_
  refine lv_aload_n hx hb dL_law_912 rfl (lv_at hl 0 rfl) ?_
  refine lv_iload hx hb dL_law_913 (lv_at hl 5 rfl) ?_
  refine lv_iconst (v := (1 : Int32)) hx hb dL_law_915 (by decide) ?_
  refine lv_iadd hx hb dL_law_916 ?_
  refine va_sld hx hb hX hbl hbA hS hin1 dL_law_917 ?_
  refine lv_aload_n hx hb dL_law_918 rfl (lv_at hl 0 rfl) ?_
  refine lv_iload hx hb dL_law_919 (lv_at hl 5 rfl) ?_
  refine lv_iconst (v := (2 : Int32)) hx hb dL_law_921 (by decide) ?_
  refine lv_iadd hx hb dL_law_922 ?_
  refine va_sld hx hb hX hbl hbA hS hin2 dL_law_923 ?_
  refine lv_aload_n hx hb dL_law_924 rfl (lv_at hl 3 rfl) ?_
  obtain ⟨res, rr, S', M', r5, hF, hG, hI', hth, hr1, hr2⟩ := ifLearned_st hI (xs (x5 + 1).toNatClampNeg) (xs (x5 + 2).toNatClampNeg)
  obtain ⟨hPc, hDc, hback⟩ := hW.plain
  have hFc := jFreeW (ws := OL cL o f ++ W_LS cI a S) hDc hS hA
  refine va_calli (vx_runSW (As := [.ref (a 0), .int (xs (x5 + 1).toNatClampNeg), .int (xs (x5 + 2).toNatClampNeg), .ref o]) (rest := []) ⟨hx, hb, hml, hown, hts⟩ (c_L_ifLearned l dC dI cI cL hl0 a o H.size f S (xs (x5 + 1).toNatClampNeg) (xs (x5 + 2).toNatClampNeg) res rr hF (fun r0 y z => (hr1 r0 y z).1) (fun E y z => (hr2 E y z).2.2)) (vx_cwSW 4 hts gL_law_L_ifLearned rfl rfl rfl (by decide +kernel) ⟨Nat.le_of_ble_eq_true rfl, Nat.le_of_ble_eq_true rfl⟩) (jPreSX (hK.sub [0, 2] rfl) hPc hDc hN hU hSN hS hFc) rfl rfl hl.1 rfl (lv_room (Nat.le_of_ble_eq_true rfl)) dL_law_925 ⟨hn, hk⟩) hS (fun q _ h => hFc q h) hFc (fun r' u t H1 locs ht hvm hw hB hz1 hk1 hS => ?_)
  obtain ⟨hrr, hres⟩ := hw
  subst hrr
  obtain ⟨hP1, -, hD1⟩ := hB
  rw [ht] at hP1
  have hu : u.1 = S' ∧ (r' = 0 → u.2 0 = r5.toInt64) := by
    rcases hres with ⟨r0, g1, g2⟩ | ⟨E, g1⟩
    · obtain ⟨-, g3, g4⟩ := hr1 _ _ g1
      exact ⟨g4, fun _ => by rw [g2, g3]⟩
    · obtain ⟨g3, g4, -⟩ := hr2 _ _ g1
      exact ⟨g3, fun z => absurd z g4⟩
  obtain ⟨hu1, hu2⟩ := hu
  have hW1 := hback H1 u.2 u.1 hk1 hFc hP1 hD1
  rw [hu1] at hW1
  have hW1 : LWP (dC, dI) cI cS cL cD a am o o2 (fun q : Nat => s.heap.size ≤ q) u.2 f2 q S' Z M H1 := hW1
  refine lv_istore (lv' := [(6, .int r'), (0, .ref b), (1, .ref (a 0)), (2, .ref (am 0)), (3, .ref o), (4, .ref o2), (5, .int x5)]) hx hb dL_law_928 hl (by decide) rfl (fun ls hl => ?_)
  refine lv_aload_n hx hb dL_law_930 rfl (lv_at hl 3 rfl) ?_
  refine lv_aload_n hx hb dL_law_931 rfl (lv_at hl 1 rfl) ?_
  refine lv_iload hx hb dL_law_932 (lv_at hl 6 rfl) ?_
  refine lv_iconst (v := (1 : Int32)) hx hb dL_law_934 (by decide) ?_
  refine lv_iadd hx hb dL_law_935 ?_
  refine va_sld hx hb hX hbl hbA hS hin1 dL_law_936 ?_
  refine lv_aload_n hx hb dL_law_937 rfl (lv_at hl 1 rfl) ?_
  refine lv_iload hx hb dL_law_938 (lv_at hl 6 rfl) ?_
  refine lv_iconst (v := (2 : Int32)) hx hb dL_law_940 (by decide) ?_
  refine lv_iadd hx hb dL_law_941 ?_
  refine va_sld hx hb hX hbl hbA hS hin2 dL_law_942 ?_
  obtain ⟨hPm, hDm, hbackm⟩ := hW1.mod
  have hFm := jFreeW (ws := W_Model cI am M) hDm hS hA
  refine va_calli (va_runV (As := [.int (xs (x5 + 1).toNatClampNeg), .int (xs (x5 + 2).toNatClampNeg)]) (rest := []) ⟨hx, hb, hml, hown, hts⟩ (c_X5_ifLearned l dC dI cI am H1.size M (xs (x5 + 1).toNatClampNeg) (xs (x5 + 2).toNatClampNeg) r5 M' hG) (cwV 2 hts gL_law_X5_ifLearned rfl rfl rfl (by decide +kernel) ⟨Nat.le_of_ble_eq_true rfl, Nat.le_of_ble_eq_true rfl⟩) (jPreV (q := (RX5, TX5, 26)) (ci := 5) (hK.sub [0] rfl) hPm hDm hN rfl rfl) rfl rfl hl.1 rfl (lv_room (Nat.le_of_ble_eq_true rfl)) dL_law_943 ⟨hn, hk⟩) hS (fun q _ h => hFm q h) hFm (fun r2 u2 t2 H2 locs ht2 hvm2 hw2 hB2 hz2 hk2 hS => ?_)
  obtain ⟨hr5, hM5⟩ := hw2
  subst hr5
  subst hM5
  obtain ⟨hP2, -, hD2⟩ := hB2
  rw [ht2] at hP2
  have hW2 := hbackm H2 M' hk2 hFm hP2 hD2
  refine lv_istore (lv' := [(7, .int r5), (6, .int r'), (0, .ref b), (1, .ref (a 0)), (2, .ref (am 0)), (3, .ref o), (4, .ref o2), (5, .int x5)]) hx hb dL_law_946 hl (by decide) rfl (fun ls hl => ?_)
  refine lv_aload_n hx hb dL_law_948 rfl (lv_at hl 4 rfl) ?_
  obtain ⟨hPt, hDt, hbackt⟩ := hW2.mod
  have hFt := jFreeW (ws := W_Model cI am M') hDt hS hA
  refine va_calli (va_runV (As := []) (rest := []) ⟨hx, hb, hml, hown, hts⟩ (c_X5_thrown l dC dI cI am H2.size M' (g_Model_thrown M') rfl) (cwV 0 hts gL_law_X5_thrown rfl rfl rfl (by decide +kernel) ⟨Nat.le_of_ble_eq_true rfl, Nat.le_of_ble_eq_true rfl⟩) (jPreV (q := (RX5, TX5, 26)) (ci := 5) (hK.sub [0] rfl) hPt hDt hN rfl rfl) rfl rfl hl.1 rfl (lv_room (Nat.le_of_ble_eq_true rfl)) dL_law_949 ⟨hn, hk⟩) hS (fun q _ h => hFt q h) hFt (fun r3 u3 t3 H3 locs ht3 hvm3 hw3 hB3 hz3 hk3 hS => ?_)
  subst hw3
  obtain ⟨hP3, -, hD3⟩ := hB3
  rw [ht3] at hP3
  have hW3 := hbackt H3 M' hk3 hFt hP3 hD3
  refine lv_iload hx hb dL_law_952 (lv_at hl 1 rfl) ?_
  refine lv_icmp_eq (tgt := 959) hx hb dL_law_954 (by decide) (fun _ => ?_) (fun c9 => absurd hth c9)
  refine lv_iload hx hb dL_law_959 (lv_at hl 1 rfl) ?_
  refine lv_if_ne (tgt := 976) hx hb dL_law_961 (by decide) (fun _ => ?_) (fun c9 => ?_)
  · refine lv_goto (tgt := 1139) hx hb dL_law_976 (by decide) ?_
    exact KT _ _ _ _ _ _ _ _ _ hI' hW3 hS (lv_sub hl [2, 3, 4, 5, 6, 7] rfl)
  · obtain hu3 := hu2 c9
    refine lv_aload_n hx hb dL_law_964 rfl (lv_at hl 5 rfl) ?_
    refine lv_iconst (v := (0 : Int32)) hx hb dL_law_965 (by decide) ?_
    refine va_lald (D := (dC, dI)) hx hb hK hW3.ol 0 2 rfl rfl (inb_in (show inb 0 1 = true by decide)) dL_law_966 ?_
    refine lv_iload hx hb dL_law_967 (lv_at hl 0 rfl) ?_
    refine lv_i2l (v := r5.toInt64) hx hb dL_law_969 rfl ?_
    refine W.lcmp hx hb dL_law_970 ?_
    refine lv_if_eq (tgt := 976) hx hb dL_law_971 (by decide) (fun _ => ?_) (fun c10 => absurd (by rw [show u.2 (0 : Int32).toNatClampNeg = r5.toInt64 from hu3]; exact lg_cmp_self _) c10)
    refine lv_goto (tgt := 1139) hx hb dL_law_976 (by decide) ?_
    exact KT _ _ _ _ _ _ _ _ _ hI' hW3 hS (lv_sub hl [2, 3, 4, 5, 6, 7] rfl)
set_option maxHeartbeats 4000000 in
set_option maxRecDepth 100000 in
theorem law_covers {p : Program} {l : Launch} {e : Env} {s : State} {m : MethodId} {below : List Frame} {meth : Method} {c : Code} {dC : Nat → ClassId} {dI : Nat → Nat → Nat} {cI cS cL cD : ClassId} {b L : Nat} {xs : Nat → Int32} (C0 : LCX p l s m c dC dI cI cS cL cD b L xs) {a am : Nat → Nat} {o o2 : Nat} {f : Nat → Int64} {f2 : Nat → UInt64} {q : Nat → Nat → Nat} {S : S_LS} {Z : Nat → S_State} {M : S_Model} {H : Heap} {locs : List Loc} {n k : Nat} {ls : Array Slot} {x5 : Int32} (hI : INV S Z M) (hW : LWP (dC, dI) cI cS cL cD a am o o2 (fun q : Nat => s.heap.size ≤ q) f f2 q S Z M H) (hS : va_S (fun q : Nat => s.heap.size ≤ q) s.heap H locs) (hl : lv_has ls 9 [(0, .ref b), (1, .ref (a 0)), (2, .ref (am 0)), (3, .ref o), (4, .ref o2), (5, .int x5)]) (hin1 : vp_in (x5 + 1) L) (hin2 : vp_in (x5 + 2) L) (hin3 : vp_in (x5 + 3) L) (hn : n + 1 ≤ 601024) (hk : k + 6 ≤ 7293033) {Q : State → Prop} (KT : ∀ (f : Nat → Int64) (f2 : Nat → UInt64) (q : Nat → Nat → Nat) (S : S_LS) (Z : Nat → S_State) (M : S_Model) (H : Heap) (locs : List Loc) (ls : Array Slot), INV S Z M → LWP (dC, dI) cI cS cL cD a am o o2 (fun q : Nat => s.heap.size ≤ q) f f2 q S Z M H → va_S (fun q : Nat => s.heap.size ≤ q) s.heap H locs → lv_has ls 9 [(0, .ref b), (1, .ref (a 0)), (2, .ref (am 0)), (3, .ref o), (4, .ref o2), (5, .int x5)] → W p l e room_1 s m #[Value.ref b] below meth c H locs (n + 1) (k + 6) Q (F0 m 1139 ls [])) : W p l e room_1 s m #[Value.ref b] below meth c H locs n k Q (F0 m 979 ls []) := by
  obtain ⟨hx, hb, hml, hown, hts, hX, hbl, hK, hN, hU, hSN, hl0⟩ := C0
  have hA : ∀ q : Nat, s.heap.size ≤ q → (fun q : Nat => s.heap.size ≤ q) q := fun _ h => h
  have hbA : ¬ (fun q : Nat => s.heap.size ≤ q) b := Nat.not_le.mpr hbl
  refine lv_aload_n hx hb dL_law_979 rfl (lv_at hl 1 rfl) ?_
  refine lv_aload_n hx hb dL_law_980 rfl (lv_at hl 0 rfl) ?_
  refine lv_iload hx hb dL_law_981 (lv_at hl 5 rfl) ?_
  refine lv_iconst (v := (1 : Int32)) hx hb dL_law_983 (by decide) ?_
  refine lv_iadd hx hb dL_law_984 ?_
  refine va_sld hx hb hX hbl hbA hS hin1 dL_law_985 ?_
  refine lv_aload_n hx hb dL_law_986 rfl (lv_at hl 3 rfl) ?_
  obtain ⟨res, rr, M', r5, hF, hG, hI', hth, hr1, hr2⟩ := covers_st hI (xs (x5 + 1).toNatClampNeg)
  obtain ⟨hPc, hDc, hback⟩ := hW.plain
  have hFc := jFreeW (ws := OL cL o f ++ W_LS cI a S) hDc hS hA
  refine va_calli (vx_runSW (As := [.ref (a 0), .int (xs (x5 + 1).toNatClampNeg), .ref o]) (rest := []) ⟨hx, hb, hml, hown, hts⟩ (c_L_covers l dC dI cI cL hl0 a o H.size f S (xs (x5 + 1).toNatClampNeg) res rr hF (fun r0 z => (hr1 r0 z).1) (fun E y z => (hr2 E y z).2)) (vx_cwSW 3 hts gL_law_L_covers rfl rfl rfl (by decide +kernel) ⟨Nat.le_of_ble_eq_true rfl, Nat.le_of_ble_eq_true rfl⟩) (jPreSX (hK.sub [0, 2] rfl) hPc hDc hN hU hSN hS hFc) rfl rfl hl.1 rfl (lv_room (Nat.le_of_ble_eq_true rfl)) dL_law_987 ⟨hn, hk⟩) hS (fun q _ h => hFc q h) hFc (fun r' u t H1 locs ht hvm hw hB hz1 hk1 hS => ?_)
  obtain ⟨hrr, hres⟩ := hw
  subst hrr
  obtain ⟨hP1, -, hD1⟩ := hB
  rw [ht] at hP1
  have hu2 : r' = 0 → u 0 = r5.toInt64 := by
    rcases hres with ⟨r0, g1, g2⟩ | ⟨E, g1⟩
    · obtain ⟨-, g3⟩ := hr1 _ g1
      exact fun _ => by rw [g2, g3]
    · obtain ⟨g4, -⟩ := hr2 _ _ g1
      exact fun z => absurd z g4
  have hW1 := hback H1 u S hk1 hFc hP1 hD1
  refine lv_istore (lv' := [(6, .int r'), (0, .ref b), (1, .ref (a 0)), (2, .ref (am 0)), (3, .ref o), (4, .ref o2), (5, .int x5)]) hx hb dL_law_990 hl (by decide) rfl (fun ls hl => ?_)
  refine lv_aload_n hx hb dL_law_992 rfl (lv_at hl 3 rfl) ?_
  refine lv_aload_n hx hb dL_law_993 rfl (lv_at hl 1 rfl) ?_
  refine lv_iload hx hb dL_law_994 (lv_at hl 6 rfl) ?_
  refine lv_iconst (v := (1 : Int32)) hx hb dL_law_996 (by decide) ?_
  refine lv_iadd hx hb dL_law_997 ?_
  refine va_sld hx hb hX hbl hbA hS hin1 dL_law_998 ?_
  obtain ⟨hPm, hDm, hbackm⟩ := hW1.mod
  have hFm := jFreeW (ws := W_Model cI am M) hDm hS hA
  refine va_calli (va_runV (As := [.int (xs (x5 + 1).toNatClampNeg)]) (rest := []) ⟨hx, hb, hml, hown, hts⟩ (c_X5_covers l dC dI cI am H1.size M (xs (x5 + 1).toNatClampNeg) r5 M' hG) (cwV 1 hts gL_law_X5_covers rfl rfl rfl (by decide +kernel) ⟨Nat.le_of_ble_eq_true rfl, Nat.le_of_ble_eq_true rfl⟩) (jPreV (q := (RX5, TX5, 26)) (ci := 5) (hK.sub [0] rfl) hPm hDm hN rfl rfl) rfl rfl hl.1 rfl (lv_room (Nat.le_of_ble_eq_true rfl)) dL_law_999 ⟨hn, hk⟩) hS (fun q _ h => hFm q h) hFm (fun r2 u2 t2 H2 locs ht2 hvm2 hw2 hB2 hz2 hk2 hS => ?_)
  obtain ⟨hr5, hM5⟩ := hw2
  subst hr5
  subst hM5
  obtain ⟨hP2, -, hD2⟩ := hB2
  rw [ht2] at hP2
  have hW2 := hbackm H2 M' hk2 hFm hP2 hD2
  refine lv_istore (lv' := [(7, .int r5), (6, .int r'), (0, .ref b), (1, .ref (a 0)), (2, .ref (am 0)), (3, .ref o), (4, .ref o2), (5, .int x5)]) hx hb dL_law_1002 hl (by decide) rfl (fun ls hl => ?_)
  refine lv_aload_n hx hb dL_law_1004 rfl (lv_at hl 4 rfl) ?_
  obtain ⟨hPt, hDt, hbackt⟩ := hW2.mod
  have hFt := jFreeW (ws := W_Model cI am M') hDt hS hA
  refine va_calli (va_runV (As := []) (rest := []) ⟨hx, hb, hml, hown, hts⟩ (c_X5_thrown l dC dI cI am H2.size M' (g_Model_thrown M') rfl) (cwV 0 hts gL_law_X5_thrown rfl rfl rfl (by decide +kernel) ⟨Nat.le_of_ble_eq_true rfl, Nat.le_of_ble_eq_true rfl⟩) (jPreV (q := (RX5, TX5, 26)) (ci := 5) (hK.sub [0] rfl) hPt hDt hN rfl rfl) rfl rfl hl.1 rfl (lv_room (Nat.le_of_ble_eq_true rfl)) dL_law_1005 ⟨hn, hk⟩) hS (fun q _ h => hFt q h) hFt (fun r3 u3 t3 H3 locs ht3 hvm3 hw3 hB3 hz3 hk3 hS => ?_)
  subst hw3
  obtain ⟨hP3, -, hD3⟩ := hB3
  rw [ht3] at hP3
  have hW3 := hbackt H3 M' hk3 hFt hP3 hD3
  refine lv_iload hx hb dL_law_1008 (lv_at hl 1 rfl) ?_
  refine lv_icmp_eq (tgt := 1015) hx hb dL_law_1010 (by decide) (fun _ => ?_) (fun c9 => absurd hth c9)
  refine lv_iload hx hb dL_law_1015 (lv_at hl 1 rfl) ?_
  refine lv_if_ne (tgt := 1032) hx hb dL_law_1017 (by decide) (fun _ => ?_) (fun c9 => ?_)
  · refine lv_goto (tgt := 1139) hx hb dL_law_1032 (by decide) ?_
    exact KT _ _ _ _ _ _ _ _ _ hI' hW3 hS (lv_sub hl [2, 3, 4, 5, 6, 7] rfl)
  · obtain hu3 := hu2 c9
    refine lv_aload_n hx hb dL_law_1020 rfl (lv_at hl 5 rfl) ?_
    refine lv_iconst (v := (0 : Int32)) hx hb dL_law_1021 (by decide) ?_
    refine va_lald (D := (dC, dI)) hx hb hK hW3.ol 0 2 rfl rfl (inb_in (show inb 0 1 = true by decide)) dL_law_1022 ?_
    refine lv_iload hx hb dL_law_1023 (lv_at hl 0 rfl) ?_
    refine lv_i2l (v := r5.toInt64) hx hb dL_law_1025 rfl ?_
    refine W.lcmp hx hb dL_law_1026 ?_
    refine lv_if_eq (tgt := 1032) hx hb dL_law_1027 (by decide) (fun _ => ?_) (fun c10 => absurd (by rw [show u (0 : Int32).toNatClampNeg = r5.toInt64 from hu3]; exact lg_cmp_self _) c10)
    refine lv_goto (tgt := 1139) hx hb dL_law_1032 (by decide) ?_
    exact KT _ _ _ _ _ _ _ _ _ hI' hW3 hS (lv_sub hl [2, 3, 4, 5, 6, 7] rfl)
set_option maxHeartbeats 4000000 in
set_option maxRecDepth 100000 in
theorem law_ifJoined {p : Program} {l : Launch} {e : Env} {s : State} {m : MethodId} {below : List Frame} {meth : Method} {c : Code} {dC : Nat → ClassId} {dI : Nat → Nat → Nat} {cI cS cL cD : ClassId} {b L : Nat} {xs : Nat → Int32} (C0 : LCX p l s m c dC dI cI cS cL cD b L xs) {a am : Nat → Nat} {o o2 : Nat} {f : Nat → Int64} {f2 : Nat → UInt64} {q : Nat → Nat → Nat} {S : S_LS} {Z : Nat → S_State} {M : S_Model} {H : Heap} {locs : List Loc} {n k : Nat} {ls : Array Slot} {x5 : Int32} (hI : INV S Z M) (hW : LWP (dC, dI) cI cS cL cD a am o o2 (fun q : Nat => s.heap.size ≤ q) f f2 q S Z M H) (hS : va_S (fun q : Nat => s.heap.size ≤ q) s.heap H locs) (hl : lv_has ls 9 [(0, .ref b), (1, .ref (a 0)), (2, .ref (am 0)), (3, .ref o), (4, .ref o2), (5, .int x5)]) (hin1 : vp_in (x5 + 1) L) (hin2 : vp_in (x5 + 2) L) (hin3 : vp_in (x5 + 3) L) (hn : n + 1 ≤ 601024) (hk : k + 6 ≤ 7293033) {Q : State → Prop} (KT : ∀ (f : Nat → Int64) (f2 : Nat → UInt64) (q : Nat → Nat → Nat) (S : S_LS) (Z : Nat → S_State) (M : S_Model) (H : Heap) (locs : List Loc) (ls : Array Slot), INV S Z M → LWP (dC, dI) cI cS cL cD a am o o2 (fun q : Nat => s.heap.size ≤ q) f f2 q S Z M H → va_S (fun q : Nat => s.heap.size ≤ q) s.heap H locs → lv_has ls 9 [(0, .ref b), (1, .ref (a 0)), (2, .ref (am 0)), (3, .ref o), (4, .ref o2), (5, .int x5)] → W p l e room_1 s m #[Value.ref b] below meth c H locs (n + 1) (k + 6) Q (F0 m 1139 ls [])) : W p l e room_1 s m #[Value.ref b] below meth c H locs n k Q (F0 m 1035 ls []) := by
  obtain ⟨hx, hb, hml, hown, hts, hX, hbl, hK, hN, hU, hSN, hl0⟩ := C0
  have hA : ∀ q : Nat, s.heap.size ≤ q → (fun q : Nat => s.heap.size ≤ q) q := fun _ h => h
  have hbA : ¬ (fun q : Nat => s.heap.size ≤ q) b := Nat.not_le.mpr hbl
  refine lv_aload_n hx hb dL_law_1035 rfl (lv_at hl 1 rfl) ?_
  obtain ⟨r5, S', M', hF, hG, hI', hth⟩ := ifJoined_ok hI
  obtain ⟨hPc, hDc, hback⟩ := hW.ls
  have hFc := jFreeW (ws := W_LS cI a S) hDc hS hA
  refine va_calli (va_runV (As := []) (rest := []) ⟨hx, hb, hml, hown, hts⟩ (c_X4_ifJoined l dC dI cI a H.size S r5 S' hF) (cwV 0 hts gL_law_X4_ifJoined rfl rfl rfl (by decide +kernel) ⟨Nat.le_of_ble_eq_true rfl, Nat.le_of_ble_eq_true rfl⟩) (jPreV (q := (RX4, TX4, 8)) (ci := 4) (hK.sub [0] rfl) hPc hDc hN rfl rfl) rfl rfl hl.1 rfl (lv_room (Nat.le_of_ble_eq_true rfl)) dL_law_1036 ⟨Nat.le_of_succ_le hn, Nat.le_trans (Nat.le_add_right k 6) hk⟩) hS (fun q _ h => hFc q h) hFc (fun r' u t H1 locs ht hvm hw hB hz1 hk1 hS => ?_)
  obtain ⟨hr5, hu⟩ := hw
  subst hr5
  subst hu
  obtain ⟨hP1, -, hD1⟩ := hB
  rw [ht] at hP1
  have hW1 := hback H1 S' hk1 hFc hP1 hD1
  refine lv_aload_n hx hb dL_law_1039 rfl (lv_at hl 2 rfl) ?_
  obtain ⟨hPm, hDm, hbackm⟩ := hW1.mod
  have hFm := jFreeW (ws := W_Model cI am M) hDm hS hA
  refine va_calli (va_runV (As := []) (rest := [.int r5]) ⟨hx, hb, hml, hown, hts⟩ (c_X5_ifJoined l dC dI cI am H1.size M r5 M' hG) (cwV 0 hts gL_law_X5_ifJoined rfl rfl rfl (by decide +kernel) ⟨Nat.le_of_ble_eq_true rfl, Nat.le_of_ble_eq_true rfl⟩) (jPreV (q := (RX5, TX5, 26)) (ci := 5) (hK.sub [0] rfl) hPm hDm hN rfl rfl) rfl rfl hl.1 rfl (lv_room (Nat.le_of_ble_eq_true rfl)) dL_law_1040 ⟨Nat.le_of_succ_le hn, Nat.le_trans (Nat.le_add_right k 6) hk⟩) hS (fun q _ h => hFm q h) hFm (fun r2 u2 t2 H2 locs ht2 hvm2 hw2 hB2 hz2 hk2 hS => ?_)
  obtain ⟨hr6, hM5⟩ := hw2
  subst hr6
  subst hM5
  obtain ⟨hP2, -, hD2⟩ := hB2
  rw [ht2] at hP2
  have hW2 := hbackm H2 M' hk2 hFm hP2 hD2
  refine W.widen (k := n + 1) (n := k + 6) (Nat.le_succ n) (Nat.le_add_right k 6) ?_
  refine lv_icmp_eq (tgt := 1139) hx hb dL_law_1043 (by decide) (fun _ => ?_) (fun c9 => absurd rfl c9)
  exact KT _ _ _ _ _ _ _ _ _ hI' hW2 hS hl
set_option maxHeartbeats 4000000 in
set_option maxRecDepth 100000 in
theorem law_sureShare {p : Program} {l : Launch} {e : Env} {s : State} {m : MethodId} {below : List Frame} {meth : Method} {c : Code} {dC : Nat → ClassId} {dI : Nat → Nat → Nat} {cI cS cL cD : ClassId} {b L : Nat} {xs : Nat → Int32} (C0 : LCX p l s m c dC dI cI cS cL cD b L xs) {a am : Nat → Nat} {o o2 : Nat} {f : Nat → Int64} {f2 : Nat → UInt64} {q : Nat → Nat → Nat} {S : S_LS} {Z : Nat → S_State} {M : S_Model} {H : Heap} {locs : List Loc} {n k : Nat} {ls : Array Slot} {x5 : Int32} (hI : INV S Z M) (hW : LWP (dC, dI) cI cS cL cD a am o o2 (fun q : Nat => s.heap.size ≤ q) f f2 q S Z M H) (hS : va_S (fun q : Nat => s.heap.size ≤ q) s.heap H locs) (hl : lv_has ls 9 [(0, .ref b), (1, .ref (a 0)), (2, .ref (am 0)), (3, .ref o), (4, .ref o2), (5, .int x5)]) (hin1 : vp_in (x5 + 1) L) (hin2 : vp_in (x5 + 2) L) (hin3 : vp_in (x5 + 3) L) (hn : n + 1 ≤ 601024) (hk : k + 6 ≤ 7293033) {Q : State → Prop} (KT : ∀ (f : Nat → Int64) (f2 : Nat → UInt64) (q : Nat → Nat → Nat) (S : S_LS) (Z : Nat → S_State) (M : S_Model) (H : Heap) (locs : List Loc) (ls : Array Slot), INV S Z M → LWP (dC, dI) cI cS cL cD a am o o2 (fun q : Nat => s.heap.size ≤ q) f f2 q S Z M H → va_S (fun q : Nat => s.heap.size ≤ q) s.heap H locs → lv_has ls 9 [(0, .ref b), (1, .ref (a 0)), (2, .ref (am 0)), (3, .ref o), (4, .ref o2), (5, .int x5)] → W p l e room_1 s m #[Value.ref b] below meth c H locs (n + 1) (k + 6) Q (F0 m 1139 ls [])) : W p l e room_1 s m #[Value.ref b] below meth c H locs n k Q (F0 m 1048 ls []) := by
  obtain ⟨hx, hb, hml, hown, hts, hX, hbl, hK, hN, hU, hSN, hl0⟩ := C0
  have hA : ∀ q : Nat, s.heap.size ≤ q → (fun q : Nat => s.heap.size ≤ q) q := fun _ h => h
  have hbA : ¬ (fun q : Nat => s.heap.size ≤ q) b := Nat.not_le.mpr hbl
  refine lv_aload_n hx hb dL_law_1048 rfl (lv_at hl 1 rfl) ?_
  refine lv_aload_n hx hb dL_law_1049 rfl (lv_at hl 0 rfl) ?_
  refine lv_iload hx hb dL_law_1050 (lv_at hl 5 rfl) ?_
  refine lv_iconst (v := (1 : Int32)) hx hb dL_law_1052 (by decide) ?_
  refine lv_iadd hx hb dL_law_1053 ?_
  refine va_sld hx hb hX hbl hbA hS hin1 dL_law_1054 ?_
  refine lv_aload hx hb dL_law_1055 (lv_at hl 4 rfl) ?_
  obtain ⟨res, rr, M', r5, hF, hG, hI', hth, hr1, hr2⟩ := sureShare_st hI (xs (x5 + 1).toNatClampNeg)
  obtain ⟨hPc, hDc, hback⟩ := hW.plainD
  have hFc := jFreeW (ws := OD cD o2 f2 ++ W_LS cI a S) hDc hS hA
  refine va_calli (vx_runSW (As := [.ref (a 0), .int (xs (x5 + 1).toNatClampNeg), .ref o2]) (rest := []) ⟨hx, hb, hml, hown, hts⟩ (c_L_sureShare l dC dI cI cD hl0 a o2 H.size f2 S (xs (x5 + 1).toNatClampNeg) res rr hF (fun r0 z => (hr1 r0 z).1) (fun E y z => (hr2 E y z).2)) (vx_cwSW 3 hts gL_law_L_sureShare rfl rfl rfl (by decide +kernel) ⟨Nat.le_of_ble_eq_true rfl, Nat.le_of_ble_eq_true rfl⟩) (jPreSX (hK.sub [0, 3] rfl) hPc hDc hN hU hSN hS hFc) rfl rfl hl.1 rfl (lv_room (Nat.le_of_ble_eq_true rfl)) dL_law_1057 ⟨hn, hk⟩) hS (fun q _ h => hFc q h) hFc (fun r' u t H1 locs ht hvm hw hB hz1 hk1 hS => ?_)
  obtain ⟨hrr, hres⟩ := hw
  subst hrr
  obtain ⟨hP1, -, hD1⟩ := hB
  rw [ht] at hP1
  have hu2 : r' = 0 → u 0 = r5 ∧ ∃ a n, a ≤ n ∧ n ≤ 30 ∧ r5 = shr a n := by
    rcases hres with ⟨r0, g1, g2⟩ | ⟨E, g1⟩
    · obtain ⟨-, g3, g4⟩ := hr1 _ g1
      exact fun _ => ⟨by rw [g2, g3], by rw [← g3]; exact g4⟩
    · obtain ⟨g4, -⟩ := hr2 _ _ g1
      exact fun z => absurd z g4
  have hW1 := hback H1 u S hk1 hFc hP1 hD1
  refine lv_istore (lv' := [(6, .int r'), (0, .ref b), (1, .ref (a 0)), (2, .ref (am 0)), (3, .ref o), (4, .ref o2), (5, .int x5)]) hx hb dL_law_1060 hl (by decide) rfl (fun ls hl => ?_)
  refine lv_aload_n hx hb dL_law_1062 rfl (lv_at hl 3 rfl) ?_
  refine lv_aload_n hx hb dL_law_1063 rfl (lv_at hl 1 rfl) ?_
  refine lv_iload hx hb dL_law_1064 (lv_at hl 6 rfl) ?_
  refine lv_iconst (v := (1 : Int32)) hx hb dL_law_1066 (by decide) ?_
  refine lv_iadd hx hb dL_law_1067 ?_
  refine va_sld hx hb hX hbl hbA hS hin1 dL_law_1068 ?_
  obtain ⟨hPm, hDm, hbackm⟩ := hW1.mod
  have hFm := jFreeW (ws := W_Model cI am M) hDm hS hA
  refine va_calld (va_runV (As := [.int (xs (x5 + 1).toNatClampNeg)]) (rest := []) ⟨hx, hb, hml, hown, hts⟩ (c_X5_sureShare l dC dI cI am H1.size M (xs (x5 + 1).toNatClampNeg) r5 M' hG) (cwV 1 hts gL_law_X5_sureShare rfl rfl rfl (by decide +kernel) ⟨Nat.le_of_ble_eq_true rfl, Nat.le_of_ble_eq_true rfl⟩) (jPreV (q := (RX5, TX5, 26)) (ci := 5) (hK.sub [0] rfl) hPm hDm hN rfl rfl) rfl rfl hl.1 rfl (lv_room (Nat.le_of_ble_eq_true rfl)) dL_law_1069 ⟨hn, hk⟩) hS (fun q _ h => hFm q h) hFm (fun r2 u2 t2 H2 locs ht2 hvm2 hw2 hB2 hz2 hk2 hS => ?_)
  obtain ⟨hr5, hM5⟩ := hw2
  subst hr5
  subst hM5
  obtain ⟨hP2, -, hD2⟩ := hB2
  rw [ht2] at hP2
  have hW2 := hbackm H2 M' hk2 hFm hP2 hD2
  refine lv_dstore (lv' := [(7, .double r5), (6, .int r'), (0, .ref b), (1, .ref (a 0)), (2, .ref (am 0)), (3, .ref o), (4, .ref o2), (5, .int x5)]) hx hb dL_law_1072 hl (by decide) rfl (fun ls hl => ?_)
  refine lv_aload_n hx hb dL_law_1074 rfl (lv_at hl 4 rfl) ?_
  obtain ⟨hPt, hDt, hbackt⟩ := hW2.mod
  have hFt := jFreeW (ws := W_Model cI am M') hDt hS hA
  refine va_calli (va_runV (As := []) (rest := []) ⟨hx, hb, hml, hown, hts⟩ (c_X5_thrown l dC dI cI am H2.size M' (g_Model_thrown M') rfl) (cwV 0 hts gL_law_X5_thrown rfl rfl rfl (by decide +kernel) ⟨Nat.le_of_ble_eq_true rfl, Nat.le_of_ble_eq_true rfl⟩) (jPreV (q := (RX5, TX5, 26)) (ci := 5) (hK.sub [0] rfl) hPt hDt hN rfl rfl) rfl rfl hl.1 rfl (lv_room (Nat.le_of_ble_eq_true rfl)) dL_law_1075 ⟨hn, hk⟩) hS (fun q _ h => hFt q h) hFt (fun r3 u3 t3 H3 locs ht3 hvm3 hw3 hB3 hz3 hk3 hS => ?_)
  subst hw3
  obtain ⟨hP3, -, hD3⟩ := hB3
  rw [ht3] at hP3
  have hW3 := hbackt H3 M' hk3 hFt hP3 hD3
  refine lv_iload hx hb dL_law_1078 (lv_at hl 1 rfl) ?_
  refine lv_icmp_eq (tgt := 1085) hx hb dL_law_1080 (by decide) (fun _ => ?_) (fun c9 => absurd hth c9)
  refine lv_iload hx hb dL_law_1085 (lv_at hl 1 rfl) ?_
  refine lv_if_ne (tgt := 1122) hx hb dL_law_1087 (by decide) (fun _ => ?_) (fun c9 => ?_)
  · refine lv_goto (tgt := 1139) hx hb dL_law_1122 (by decide) ?_
    exact KT _ _ _ _ _ _ _ _ _ hI' hW3 hS (lv_sub hl [2, 3, 4, 5, 6, 7] rfl)
  · obtain ⟨hu3, na, nn, ha1, ha2, ha3⟩ := hu2 c9
    refine lv_aload hx hb dL_law_1090 (lv_at hl 6 rfl) ?_
    refine lv_iconst (v := (0 : Int32)) hx hb dL_law_1092 (by decide) ?_
    refine va_dald (D := (dC, dI)) hx hb hK hW3.od 0 3 rfl rfl (inb_in (show inb 0 1 = true by decide)) dL_law_1093 ?_
    refine lv_dload hx hb dL_law_1094 (lv_at hl 0 rfl) ?_
    refine lv_dcmp hx hb dL_law_1096 ?_
    refine lv_if_eq (tgt := 1122) hx hb dL_law_1097 (by decide) (fun _ => ?_) (fun c10 => absurd (by rw [show u (0 : Int32).toNatClampNeg = r5 from hu3, ha3]; exact shr_cmp ha1 ha2) c10)
    refine lv_goto (tgt := 1139) hx hb dL_law_1122 (by decide) ?_
    exact KT _ _ _ _ _ _ _ _ _ hI' hW3 hS (lv_sub hl [2, 3, 4, 5, 6, 7] rfl)
set_option maxHeartbeats 4000000 in
set_option maxRecDepth 100000 in
theorem law_digest {p : Program} {l : Launch} {e : Env} {s : State} {m : MethodId} {below : List Frame} {meth : Method} {c : Code} {dC : Nat → ClassId} {dI : Nat → Nat → Nat} {cI cS cL cD : ClassId} {b L : Nat} {xs : Nat → Int32} (C0 : LCX p l s m c dC dI cI cS cL cD b L xs) {a am : Nat → Nat} {o o2 : Nat} {f : Nat → Int64} {f2 : Nat → UInt64} {q : Nat → Nat → Nat} {S : S_LS} {Z : Nat → S_State} {M : S_Model} {H : Heap} {locs : List Loc} {n k : Nat} {ls : Array Slot} {x5 : Int32} (hI : INV S Z M) (hW : LWP (dC, dI) cI cS cL cD a am o o2 (fun q : Nat => s.heap.size ≤ q) f f2 q S Z M H) (hS : va_S (fun q : Nat => s.heap.size ≤ q) s.heap H locs) (hl : lv_has ls 9 [(0, .ref b), (1, .ref (a 0)), (2, .ref (am 0)), (3, .ref o), (4, .ref o2), (5, .int x5)]) (hin1 : vp_in (x5 + 1) L) (hin2 : vp_in (x5 + 2) L) (hin3 : vp_in (x5 + 3) L) (hn : n + 1 ≤ 601024) (hk : k + 6 ≤ 7293033) {Q : State → Prop} (KT : ∀ (f : Nat → Int64) (f2 : Nat → UInt64) (q : Nat → Nat → Nat) (S : S_LS) (Z : Nat → S_State) (M : S_Model) (H : Heap) (locs : List Loc) (ls : Array Slot), INV S Z M → LWP (dC, dI) cI cS cL cD a am o o2 (fun q : Nat => s.heap.size ≤ q) f f2 q S Z M H → va_S (fun q : Nat => s.heap.size ≤ q) s.heap H locs → lv_has ls 9 [(0, .ref b), (1, .ref (a 0)), (2, .ref (am 0)), (3, .ref o), (4, .ref o2), (5, .int x5)] → W p l e room_1 s m #[Value.ref b] below meth c H locs (n + 1) (k + 6) Q (F0 m 1139 ls [])) : W p l e room_1 s m #[Value.ref b] below meth c H locs n k Q (F0 m 1125 ls []) := by
  obtain ⟨hx, hb, hml, hown, hts, hX, hbl, hK, hN, hU, hSN, hl0⟩ := C0
  have hA : ∀ q : Nat, s.heap.size ≤ q → (fun q : Nat => s.heap.size ≤ q) q := fun _ h => h
  have hbA : ¬ (fun q : Nat => s.heap.size ≤ q) b := Nat.not_le.mpr hbl
  refine lv_aload_n hx hb dL_law_1125 rfl (lv_at hl 1 rfl) ?_
  obtain ⟨r5, S', M', hF, hG, hI', hth⟩ := digest_ok hI
  obtain ⟨hPc, hDc, hback⟩ := hW.ls
  have hFc := jFreeW (ws := W_LS cI a S) hDc hS hA
  refine va_calll (va_runV (As := []) (rest := []) ⟨hx, hb, hml, hown, hts⟩ (c_X4_digest l dC dI cI a H.size S r5 S' hF) (cwV 0 hts gL_law_X4_digest rfl rfl rfl (by decide +kernel) ⟨Nat.le_of_ble_eq_true rfl, Nat.le_of_ble_eq_true rfl⟩) (jPreV (q := (RX4, TX4, 8)) (ci := 4) (hK.sub [0] rfl) hPc hDc hN rfl rfl) rfl rfl hl.1 rfl (lv_room (Nat.le_of_ble_eq_true rfl)) dL_law_1126 ⟨Nat.le_of_succ_le hn, Nat.le_trans (Nat.le_add_right k 6) hk⟩) hS (fun q _ h => hFc q h) hFc (fun r' u t H1 locs ht hvm hw hB hz1 hk1 hS => ?_)
  obtain ⟨hr5, hu⟩ := hw
  subst hr5
  subst hu
  obtain ⟨hP1, -, hD1⟩ := hB
  rw [ht] at hP1
  have hW1 := hback H1 S' hk1 hFc hP1 hD1
  refine lv_aload_n hx hb dL_law_1129 rfl (lv_at hl 2 rfl) ?_
  obtain ⟨hPm, hDm, hbackm⟩ := hW1.mod
  have hFm := jFreeW (ws := W_Model cI am M) hDm hS hA
  refine va_calll (va_runV (As := []) (rest := [.long r5]) ⟨hx, hb, hml, hown, hts⟩ (c_X5_digest l dC dI cI am H1.size M r5 M' hG) (cwV 0 hts gL_law_X5_digest rfl rfl rfl (by decide +kernel) ⟨Nat.le_of_ble_eq_true rfl, Nat.le_of_ble_eq_true rfl⟩) (jPreV (q := (RX5, TX5, 26)) (ci := 5) (hK.sub [0] rfl) hPm hDm hN rfl rfl) rfl rfl hl.1 rfl (lv_room (Nat.le_of_ble_eq_true rfl)) dL_law_1130 ⟨Nat.le_of_succ_le hn, Nat.le_trans (Nat.le_add_right k 6) hk⟩) hS (fun q _ h => hFm q h) hFm (fun r2 u2 t2 H2 locs ht2 hvm2 hw2 hB2 hz2 hk2 hS => ?_)
  obtain ⟨hr6, hM5⟩ := hw2
  subst hr6
  subst hM5
  obtain ⟨hP2, -, hD2⟩ := hB2
  rw [ht2] at hP2
  have hW2 := hbackm H2 M' hk2 hFm hP2 hD2
  refine W.widen (k := n + 1) (n := k + 6) (Nat.le_succ n) (Nat.le_add_right k 6) ?_
  refine W.lcmp hx hb dL_law_1133 ?_
  refine lv_if_eq (tgt := 1139) hx hb dL_law_1134 (by decide) (fun _ => ?_) (fun c10 => absurd (lg_cmp_self _) c10)
  exact KT _ _ _ _ _ _ _ _ _ hI' hW2 hS hl
