/-! ===== the law: a turn of its loop, the first ten ===== -/
set_option maxHeartbeats 4000000 in
set_option maxRecDepth 100000 in
theorem law_learn {p : Program} {l : Launch} {e : Env} {s : State} {m : MethodId} {below : List Frame} {meth : Method} {c : Code} {dC : Nat → ClassId} {dI : Nat → Nat → Nat} {cI cS cL cD : ClassId} {b L : Nat} {xs : Nat → Int32} (C0 : LCX p l s m c dC dI cI cS cL cD b L xs) {a am : Nat → Nat} {o o2 : Nat} {f : Nat → Int64} {f2 : Nat → UInt64} {q : Nat → Nat → Nat} {S : S_LS} {Z : Nat → S_State} {M : S_Model} {H : Heap} {locs : List Loc} {n k : Nat} {ls : Array Slot} {x5 : Int32} (hI : INV S Z M) (hW : LWP (dC, dI) cI cS cL cD a am o o2 (fun q : Nat => s.heap.size ≤ q) f f2 q S Z M H) (hS : va_S (fun q : Nat => s.heap.size ≤ q) s.heap H locs) (hl : lv_has ls 9 [(0, .ref b), (1, .ref (a 0)), (2, .ref (am 0)), (3, .ref o), (4, .ref o2), (5, .int x5)]) (hin1 : vp_in (x5 + 1) L) (hin2 : vp_in (x5 + 2) L) (hin3 : vp_in (x5 + 3) L) (hn : n + 1 ≤ 601024) (hk : k + 6 ≤ 7293033) {Q : State → Prop} (KT : ∀ (f : Nat → Int64) (f2 : Nat → UInt64) (q : Nat → Nat → Nat) (S : S_LS) (Z : Nat → S_State) (M : S_Model) (H : Heap) (locs : List Loc) (ls : Array Slot), INV S Z M → LWP (dC, dI) cI cS cL cD a am o o2 (fun q : Nat => s.heap.size ≤ q) f f2 q S Z M H → va_S (fun q : Nat => s.heap.size ≤ q) s.heap H locs → lv_has ls 9 [(0, .ref b), (1, .ref (a 0)), (2, .ref (am 0)), (3, .ref o), (4, .ref o2), (5, .int x5)] → W p l e room_1 s m #[Value.ref b] below meth c H locs (n + 1) (k + 6) Q (F0 m 1139 ls [])) : W p l e room_1 s m #[Value.ref b] below meth c H locs n k Q (F0 m 140 ls []) := by
  obtain ⟨hx, hb, hml, hown, hts, hX, hbl, hK, hN, hU, hSN, hl0⟩ := C0
  have hA : ∀ q : Nat, s.heap.size ≤ q → (fun q : Nat => s.heap.size ≤ q) q := fun _ h => h
  have hbA : ¬ (fun q : Nat => s.heap.size ≤ q) b := Nat.not_le.mpr hbl
  refine lv_aload_n hx hb dL_law_140 rfl (lv_at hl 1 rfl) ?_
  refine lv_aload_n hx hb dL_law_141 rfl (lv_at hl 0 rfl) ?_
  refine lv_iload hx hb dL_law_142 (lv_at hl 5 rfl) ?_
  refine lv_iconst (v := (1 : Int32)) hx hb dL_law_144 (by decide) ?_
  refine lv_iadd hx hb dL_law_145 ?_
  refine va_sld hx hb hX hbl hbA hS hin1 dL_law_146 ?_
  refine lv_aload_n hx hb dL_law_147 rfl (lv_at hl 3 rfl) ?_
  obtain ⟨res, rr, S', Z', M', r5, hF, hG, hI', hth, hr1, hr2⟩ := learn_st hI (xs (x5 + 1).toNatClampNeg)
  obtain ⟨hPc, hDc, hback⟩ := hW.full
  have hFc := jFreeW (ws := OL cL o f ++ W_Full cI cS a q S Z) hDc hS hA
  refine va_calli (vx_runSW (As := [.ref (a 0), .int (xs (x5 + 1).toNatClampNeg), .ref o]) (rest := []) ⟨hx, hb, hml, hown, hts⟩ (c_L_learn l dC dI cI cS cL hl0 a q o H.size f S Z (xs (x5 + 1).toNatClampNeg) res rr hF (fun r0 y z => (hr1 r0 y z).1) (fun E y z => (hr2 E y z).2.2)) (vx_cwSW 3 hts gL_law_L_learn rfl rfl rfl (by decide +kernel) ⟨Nat.le_of_ble_eq_true rfl, Nat.le_of_ble_eq_true rfl⟩) (jPreSX (hK.sub [0, 1, 2] rfl) hPc hDc hN hU hSN hS hFc) rfl rfl hl.1 rfl (lv_room (Nat.le_of_ble_eq_true rfl)) dL_law_148 ⟨hn, hk⟩) hS (fun q _ h => hFc q h) hFc (fun r' u t H1 locs ht hvm hw hB hz1 hk1 hS => ?_)
  obtain ⟨hrr, hres⟩ := hw
  subst hrr
  obtain ⟨q7, hP1, -, hD1⟩ := hB
  rw [ht] at hP1
  have hu : u.1 = (S', Z') ∧ (r' = 0 → u.2 0 = r5.toInt64) := by
    rcases hres with ⟨r0, g1, g2⟩ | ⟨E, g1⟩
    · obtain ⟨-, g3, g4⟩ := hr1 _ _ g1
      exact ⟨g4, fun _ => by rw [g2, g3]⟩
    · obtain ⟨g3, g4, -⟩ := hr2 _ _ g1
      exact ⟨g3, fun z => absurd z g4⟩
  obtain ⟨hu1, hu2⟩ := hu
  have hW1 := hback H1 u.2 q7 u.1.1 u.1.2 hk1 hFc hP1 hD1
  rw [hu1] at hW1
  have hW1 : LWP (dC, dI) cI cS cL cD a am o o2 (fun q : Nat => s.heap.size ≤ q) u.2 f2 q7 S' Z' M H1 := hW1
  refine lv_istore (lv' := [(6, .int r'), (0, .ref b), (1, .ref (a 0)), (2, .ref (am 0)), (3, .ref o), (4, .ref o2), (5, .int x5)]) hx hb dL_law_151 hl (by decide) rfl (fun ls hl => ?_)
  refine lv_aload_n hx hb dL_law_153 rfl (lv_at hl 3 rfl) ?_
  refine lv_aload_n hx hb dL_law_154 rfl (lv_at hl 1 rfl) ?_
  refine lv_iload hx hb dL_law_155 (lv_at hl 6 rfl) ?_
  refine lv_iconst (v := (1 : Int32)) hx hb dL_law_157 (by decide) ?_
  refine lv_iadd hx hb dL_law_158 ?_
  refine va_sld hx hb hX hbl hbA hS hin1 dL_law_159 ?_
  obtain ⟨hPm, hDm, hbackm⟩ := hW1.mod
  have hFm := jFreeW (ws := W_Model cI am M) hDm hS hA
  refine va_calli (va_runV (As := [.int (xs (x5 + 1).toNatClampNeg)]) (rest := []) ⟨hx, hb, hml, hown, hts⟩ (c_X5_learn l dC dI cI am H1.size M (xs (x5 + 1).toNatClampNeg) r5 M' hG) (cwV 1 hts gL_law_X5_learn rfl rfl rfl (by decide +kernel) ⟨Nat.le_of_ble_eq_true rfl, Nat.le_of_ble_eq_true rfl⟩) (jPreV (q := (RX5, TX5, 26)) (ci := 5) (hK.sub [0] rfl) hPm hDm hN rfl rfl) rfl rfl hl.1 rfl (lv_room (Nat.le_of_ble_eq_true rfl)) dL_law_160 ⟨hn, hk⟩) hS (fun q _ h => hFm q h) hFm (fun r2 u2 t2 H2 locs ht2 hvm2 hw2 hB2 hz2 hk2 hS => ?_)
  obtain ⟨hr5, hM5⟩ := hw2
  subst hr5
  subst hM5
  obtain ⟨hP2, -, hD2⟩ := hB2
  rw [ht2] at hP2
  have hW2 := hbackm H2 M' hk2 hFm hP2 hD2
  refine lv_istore (lv' := [(7, .int r5), (6, .int r'), (0, .ref b), (1, .ref (a 0)), (2, .ref (am 0)), (3, .ref o), (4, .ref o2), (5, .int x5)]) hx hb dL_law_163 hl (by decide) rfl (fun ls hl => ?_)
  refine lv_aload_n hx hb dL_law_165 rfl (lv_at hl 4 rfl) ?_
  obtain ⟨hPt, hDt, hbackt⟩ := hW2.mod
  have hFt := jFreeW (ws := W_Model cI am M') hDt hS hA
  refine va_calli (va_runV (As := []) (rest := []) ⟨hx, hb, hml, hown, hts⟩ (c_X5_thrown l dC dI cI am H2.size M' (g_Model_thrown M') rfl) (cwV 0 hts gL_law_X5_thrown rfl rfl rfl (by decide +kernel) ⟨Nat.le_of_ble_eq_true rfl, Nat.le_of_ble_eq_true rfl⟩) (jPreV (q := (RX5, TX5, 26)) (ci := 5) (hK.sub [0] rfl) hPt hDt hN rfl rfl) rfl rfl hl.1 rfl (lv_room (Nat.le_of_ble_eq_true rfl)) dL_law_166 ⟨hn, hk⟩) hS (fun q _ h => hFt q h) hFt (fun r3 u3 t3 H3 locs ht3 hvm3 hw3 hB3 hz3 hk3 hS => ?_)
  subst hw3
  obtain ⟨hP3, -, hD3⟩ := hB3
  rw [ht3] at hP3
  have hW3 := hbackt H3 M' hk3 hFt hP3 hD3
  refine lv_iload hx hb dL_law_169 (lv_at hl 1 rfl) ?_
  refine lv_icmp_eq (tgt := 176) hx hb dL_law_171 (by decide) (fun _ => ?_) (fun c9 => absurd hth c9)
  refine lv_iload hx hb dL_law_176 (lv_at hl 1 rfl) ?_
  refine lv_if_ne (tgt := 193) hx hb dL_law_178 (by decide) (fun _ => ?_) (fun c9 => ?_)
  · refine lv_goto (tgt := 1139) hx hb dL_law_193 (by decide) ?_
    exact KT _ _ _ _ _ _ _ _ _ hI' hW3 hS (lv_sub hl [2, 3, 4, 5, 6, 7] rfl)
  · obtain hu3 := hu2 c9
    refine lv_aload_n hx hb dL_law_181 rfl (lv_at hl 5 rfl) ?_
    refine lv_iconst (v := (0 : Int32)) hx hb dL_law_182 (by decide) ?_
    refine va_lald (D := (dC, dI)) hx hb hK hW3.ol 0 2 rfl rfl (inb_in (show inb 0 1 = true by decide)) dL_law_183 ?_
    refine lv_iload hx hb dL_law_184 (lv_at hl 0 rfl) ?_
    refine lv_i2l (v := r5.toInt64) hx hb dL_law_186 rfl ?_
    refine W.lcmp hx hb dL_law_187 ?_
    refine lv_if_eq (tgt := 193) hx hb dL_law_188 (by decide) (fun _ => ?_) (fun c10 => absurd (by rw [show u.2 (0 : Int32).toNatClampNeg = r5.toInt64 from hu3]; exact lg_cmp_self _) c10)
    refine lv_goto (tgt := 1139) hx hb dL_law_193 (by decide) ?_
    exact KT _ _ _ _ _ _ _ _ _ hI' hW3 hS (lv_sub hl [2, 3, 4, 5, 6, 7] rfl)
set_option maxHeartbeats 4000000 in
set_option maxRecDepth 100000 in
theorem law_join {p : Program} {l : Launch} {e : Env} {s : State} {m : MethodId} {below : List Frame} {meth : Method} {c : Code} {dC : Nat → ClassId} {dI : Nat → Nat → Nat} {cI cS cL cD : ClassId} {b L : Nat} {xs : Nat → Int32} (C0 : LCX p l s m c dC dI cI cS cL cD b L xs) {a am : Nat → Nat} {o o2 : Nat} {f : Nat → Int64} {f2 : Nat → UInt64} {q : Nat → Nat → Nat} {S : S_LS} {Z : Nat → S_State} {M : S_Model} {H : Heap} {locs : List Loc} {n k : Nat} {ls : Array Slot} {x5 : Int32} (hI : INV S Z M) (hW : LWP (dC, dI) cI cS cL cD a am o o2 (fun q : Nat => s.heap.size ≤ q) f f2 q S Z M H) (hS : va_S (fun q : Nat => s.heap.size ≤ q) s.heap H locs) (hl : lv_has ls 9 [(0, .ref b), (1, .ref (a 0)), (2, .ref (am 0)), (3, .ref o), (4, .ref o2), (5, .int x5)]) (hin1 : vp_in (x5 + 1) L) (hin2 : vp_in (x5 + 2) L) (hin3 : vp_in (x5 + 3) L) (hn : n + 1 ≤ 601024) (hk : k + 6 ≤ 7293033) {Q : State → Prop} (KT : ∀ (f : Nat → Int64) (f2 : Nat → UInt64) (q : Nat → Nat → Nat) (S : S_LS) (Z : Nat → S_State) (M : S_Model) (H : Heap) (locs : List Loc) (ls : Array Slot), INV S Z M → LWP (dC, dI) cI cS cL cD a am o o2 (fun q : Nat => s.heap.size ≤ q) f f2 q S Z M H → va_S (fun q : Nat => s.heap.size ≤ q) s.heap H locs → lv_has ls 9 [(0, .ref b), (1, .ref (a 0)), (2, .ref (am 0)), (3, .ref o), (4, .ref o2), (5, .int x5)] → W p l e room_1 s m #[Value.ref b] below meth c H locs (n + 1) (k + 6) Q (F0 m 1139 ls [])) : W p l e room_1 s m #[Value.ref b] below meth c H locs n k Q (F0 m 196 ls []) := by
  obtain ⟨hx, hb, hml, hown, hts, hX, hbl, hK, hN, hU, hSN, hl0⟩ := C0
  have hA : ∀ q : Nat, s.heap.size ≤ q → (fun q : Nat => s.heap.size ≤ q) q := fun _ h => h
  have hbA : ¬ (fun q : Nat => s.heap.size ≤ q) b := Nat.not_le.mpr hbl
  refine lv_aload_n hx hb dL_law_196 rfl (lv_at hl 1 rfl) ?_
  refine lv_aload_n hx hb dL_law_197 rfl (lv_at hl 0 rfl) ?_
  refine lv_iload hx hb dL_law_198 (lv_at hl 5 rfl) ?_
  refine lv_iconst (v := (1 : Int32)) hx hb dL_law_200 (by decide) ?_
  refine lv_iadd hx hb dL_law_201 ?_
  refine va_sld hx hb hX hbl hbA hS hin1 dL_law_202 ?_
  refine lv_aload_n hx hb dL_law_203 rfl (lv_at hl 3 rfl) ?_
  obtain ⟨res, rr, S', Z', M', r5, hF, hG, hI', hth, hr1, hr2⟩ := join_st hI (xs (x5 + 1).toNatClampNeg)
  obtain ⟨hPc, hDc, hback⟩ := hW.full
  have hFc := jFreeW (ws := OL cL o f ++ W_Full cI cS a q S Z) hDc hS hA
  refine va_calli (vx_runSW (As := [.ref (a 0), .int (xs (x5 + 1).toNatClampNeg), .ref o]) (rest := []) ⟨hx, hb, hml, hown, hts⟩ (c_L_join l dC dI cI cS cL hl0 a q o H.size f S Z (xs (x5 + 1).toNatClampNeg) res rr hF (fun r0 y z => (hr1 r0 y z).1) (fun E y z => (hr2 E y z).2.2)) (vx_cwSW 3 hts gL_law_L_join rfl rfl rfl (by decide +kernel) ⟨Nat.le_of_ble_eq_true rfl, Nat.le_of_ble_eq_true rfl⟩) (jPreSX (hK.sub [0, 1, 2] rfl) hPc hDc hN hU hSN hS hFc) rfl rfl hl.1 rfl (lv_room (Nat.le_of_ble_eq_true rfl)) dL_law_204 ⟨hn, hk⟩) hS (fun q _ h => hFc q h) hFc (fun r' u t H1 locs ht hvm hw hB hz1 hk1 hS => ?_)
  obtain ⟨hrr, hres⟩ := hw
  subst hrr
  obtain ⟨q7, hP1, -, hD1⟩ := hB
  rw [ht] at hP1
  have hu : u.1 = (S', Z') ∧ (r' = 0 → u.2 0 = r5.toInt64) := by
    rcases hres with ⟨r0, g1, g2⟩ | ⟨E, g1⟩
    · obtain ⟨-, g3, g4⟩ := hr1 _ _ g1
      exact ⟨g4, fun _ => by rw [g2, g3]⟩
    · obtain ⟨g3, g4, -⟩ := hr2 _ _ g1
      exact ⟨g3, fun z => absurd z g4⟩
  obtain ⟨hu1, hu2⟩ := hu
  have hW1 := hback H1 u.2 q7 u.1.1 u.1.2 hk1 hFc hP1 hD1
  rw [hu1] at hW1
  have hW1 : LWP (dC, dI) cI cS cL cD a am o o2 (fun q : Nat => s.heap.size ≤ q) u.2 f2 q7 S' Z' M H1 := hW1
  refine lv_istore (lv' := [(6, .int r'), (0, .ref b), (1, .ref (a 0)), (2, .ref (am 0)), (3, .ref o), (4, .ref o2), (5, .int x5)]) hx hb dL_law_207 hl (by decide) rfl (fun ls hl => ?_)
  refine lv_aload_n hx hb dL_law_209 rfl (lv_at hl 3 rfl) ?_
  refine lv_aload_n hx hb dL_law_210 rfl (lv_at hl 1 rfl) ?_
  refine lv_iload hx hb dL_law_211 (lv_at hl 6 rfl) ?_
  refine lv_iconst (v := (1 : Int32)) hx hb dL_law_213 (by decide) ?_
  refine lv_iadd hx hb dL_law_214 ?_
  refine va_sld hx hb hX hbl hbA hS hin1 dL_law_215 ?_
  obtain ⟨hPm, hDm, hbackm⟩ := hW1.mod
  have hFm := jFreeW (ws := W_Model cI am M) hDm hS hA
  refine va_calli (va_runV (As := [.int (xs (x5 + 1).toNatClampNeg)]) (rest := []) ⟨hx, hb, hml, hown, hts⟩ (c_X5_join l dC dI cI am H1.size M (xs (x5 + 1).toNatClampNeg) r5 M' hG) (cwV 1 hts gL_law_X5_join rfl rfl rfl (by decide +kernel) ⟨Nat.le_of_ble_eq_true rfl, Nat.le_of_ble_eq_true rfl⟩) (jPreV (q := (RX5, TX5, 26)) (ci := 5) (hK.sub [0] rfl) hPm hDm hN rfl rfl) rfl rfl hl.1 rfl (lv_room (Nat.le_of_ble_eq_true rfl)) dL_law_216 ⟨hn, hk⟩) hS (fun q _ h => hFm q h) hFm (fun r2 u2 t2 H2 locs ht2 hvm2 hw2 hB2 hz2 hk2 hS => ?_)
  obtain ⟨hr5, hM5⟩ := hw2
  subst hr5
  subst hM5
  obtain ⟨hP2, -, hD2⟩ := hB2
  rw [ht2] at hP2
  have hW2 := hbackm H2 M' hk2 hFm hP2 hD2
  refine lv_istore (lv' := [(7, .int r5), (6, .int r'), (0, .ref b), (1, .ref (a 0)), (2, .ref (am 0)), (3, .ref o), (4, .ref o2), (5, .int x5)]) hx hb dL_law_219 hl (by decide) rfl (fun ls hl => ?_)
  refine lv_aload_n hx hb dL_law_221 rfl (lv_at hl 4 rfl) ?_
  obtain ⟨hPt, hDt, hbackt⟩ := hW2.mod
  have hFt := jFreeW (ws := W_Model cI am M') hDt hS hA
  refine va_calli (va_runV (As := []) (rest := []) ⟨hx, hb, hml, hown, hts⟩ (c_X5_thrown l dC dI cI am H2.size M' (g_Model_thrown M') rfl) (cwV 0 hts gL_law_X5_thrown rfl rfl rfl (by decide +kernel) ⟨Nat.le_of_ble_eq_true rfl, Nat.le_of_ble_eq_true rfl⟩) (jPreV (q := (RX5, TX5, 26)) (ci := 5) (hK.sub [0] rfl) hPt hDt hN rfl rfl) rfl rfl hl.1 rfl (lv_room (Nat.le_of_ble_eq_true rfl)) dL_law_222 ⟨hn, hk⟩) hS (fun q _ h => hFt q h) hFt (fun r3 u3 t3 H3 locs ht3 hvm3 hw3 hB3 hz3 hk3 hS => ?_)
  subst hw3
  obtain ⟨hP3, -, hD3⟩ := hB3
  rw [ht3] at hP3
  have hW3 := hbackt H3 M' hk3 hFt hP3 hD3
  refine lv_iload hx hb dL_law_225 (lv_at hl 1 rfl) ?_
  refine lv_icmp_eq (tgt := 232) hx hb dL_law_227 (by decide) (fun _ => ?_) (fun c9 => absurd hth c9)
  refine lv_iload hx hb dL_law_232 (lv_at hl 1 rfl) ?_
  refine lv_if_ne (tgt := 249) hx hb dL_law_234 (by decide) (fun _ => ?_) (fun c9 => ?_)
  · refine lv_goto (tgt := 1139) hx hb dL_law_249 (by decide) ?_
    exact KT _ _ _ _ _ _ _ _ _ hI' hW3 hS (lv_sub hl [2, 3, 4, 5, 6, 7] rfl)
  · obtain hu3 := hu2 c9
    refine lv_aload_n hx hb dL_law_237 rfl (lv_at hl 5 rfl) ?_
    refine lv_iconst (v := (0 : Int32)) hx hb dL_law_238 (by decide) ?_
    refine va_lald (D := (dC, dI)) hx hb hK hW3.ol 0 2 rfl rfl (inb_in (show inb 0 1 = true by decide)) dL_law_239 ?_
    refine lv_iload hx hb dL_law_240 (lv_at hl 0 rfl) ?_
    refine lv_i2l (v := r5.toInt64) hx hb dL_law_242 rfl ?_
    refine W.lcmp hx hb dL_law_243 ?_
    refine lv_if_eq (tgt := 249) hx hb dL_law_244 (by decide) (fun _ => ?_) (fun c10 => absurd (by rw [show u.2 (0 : Int32).toNatClampNeg = r5.toInt64 from hu3]; exact lg_cmp_self _) c10)
    refine lv_goto (tgt := 1139) hx hb dL_law_249 (by decide) ?_
    exact KT _ _ _ _ _ _ _ _ _ hI' hW3 hS (lv_sub hl [2, 3, 4, 5, 6, 7] rfl)
set_option maxHeartbeats 4000000 in
set_option maxRecDepth 100000 in
theorem law_forget {p : Program} {l : Launch} {e : Env} {s : State} {m : MethodId} {below : List Frame} {meth : Method} {c : Code} {dC : Nat → ClassId} {dI : Nat → Nat → Nat} {cI cS cL cD : ClassId} {b L : Nat} {xs : Nat → Int32} (C0 : LCX p l s m c dC dI cI cS cL cD b L xs) {a am : Nat → Nat} {o o2 : Nat} {f : Nat → Int64} {f2 : Nat → UInt64} {q : Nat → Nat → Nat} {S : S_LS} {Z : Nat → S_State} {M : S_Model} {H : Heap} {locs : List Loc} {n k : Nat} {ls : Array Slot} {x5 : Int32} (hI : INV S Z M) (hW : LWP (dC, dI) cI cS cL cD a am o o2 (fun q : Nat => s.heap.size ≤ q) f f2 q S Z M H) (hS : va_S (fun q : Nat => s.heap.size ≤ q) s.heap H locs) (hl : lv_has ls 9 [(0, .ref b), (1, .ref (a 0)), (2, .ref (am 0)), (3, .ref o), (4, .ref o2), (5, .int x5)]) (hin1 : vp_in (x5 + 1) L) (hin2 : vp_in (x5 + 2) L) (hin3 : vp_in (x5 + 3) L) (hn : n + 1 ≤ 601024) (hk : k + 6 ≤ 7293033) {Q : State → Prop} (KT : ∀ (f : Nat → Int64) (f2 : Nat → UInt64) (q : Nat → Nat → Nat) (S : S_LS) (Z : Nat → S_State) (M : S_Model) (H : Heap) (locs : List Loc) (ls : Array Slot), INV S Z M → LWP (dC, dI) cI cS cL cD a am o o2 (fun q : Nat => s.heap.size ≤ q) f f2 q S Z M H → va_S (fun q : Nat => s.heap.size ≤ q) s.heap H locs → lv_has ls 9 [(0, .ref b), (1, .ref (a 0)), (2, .ref (am 0)), (3, .ref o), (4, .ref o2), (5, .int x5)] → W p l e room_1 s m #[Value.ref b] below meth c H locs (n + 1) (k + 6) Q (F0 m 1139 ls [])) : W p l e room_1 s m #[Value.ref b] below meth c H locs n k Q (F0 m 252 ls []) := by
  obtain ⟨hx, hb, hml, hown, hts, hX, hbl, hK, hN, hU, hSN, hl0⟩ := C0
  have hA : ∀ q : Nat, s.heap.size ≤ q → (fun q : Nat => s.heap.size ≤ q) q := fun _ h => h
  have hbA : ¬ (fun q : Nat => s.heap.size ≤ q) b := Nat.not_le.mpr hbl
  refine lv_aload_n hx hb dL_law_252 rfl (lv_at hl 1 rfl) ?_
  refine lv_aload_n hx hb dL_law_253 rfl (lv_at hl 0 rfl) ?_
  refine lv_iload hx hb dL_law_254 (lv_at hl 5 rfl) ?_
  refine lv_iconst (v := (1 : Int32)) hx hb dL_law_256 (by decide) ?_
  refine lv_iadd hx hb dL_law_257 ?_
  refine va_sld hx hb hX hbl hbA hS hin1 dL_law_258 ?_
  refine lv_aload_n hx hb dL_law_259 rfl (lv_at hl 3 rfl) ?_
  obtain ⟨res, rr, S', Z', M', r5, hF, hG, hI', hth, hr1, hr2⟩ := forget_st hI (xs (x5 + 1).toNatClampNeg)
  obtain ⟨hPc, hDc, hback⟩ := hW.full
  have hFc := jFreeW (ws := OL cL o f ++ W_Full cI cS a q S Z) hDc hS hA
  refine va_calli (vx_runSW (As := [.ref (a 0), .int (xs (x5 + 1).toNatClampNeg), .ref o]) (rest := []) ⟨hx, hb, hml, hown, hts⟩ (c_L_forget l dC dI cI cS cL hl0 a q o H.size f S Z (xs (x5 + 1).toNatClampNeg) res rr hF (fun r0 y z => (hr1 r0 y z).1) (fun E y z => (hr2 E y z).2.2)) (vx_cwSW 3 hts gL_law_L_forget rfl rfl rfl (by decide +kernel) ⟨Nat.le_of_ble_eq_true rfl, Nat.le_of_ble_eq_true rfl⟩) (jPreSX (hK.sub [0, 1, 2] rfl) hPc hDc hN hU hSN hS hFc) rfl rfl hl.1 rfl (lv_room (Nat.le_of_ble_eq_true rfl)) dL_law_260 ⟨hn, hk⟩) hS (fun q _ h => hFc q h) hFc (fun r' u t H1 locs ht hvm hw hB hz1 hk1 hS => ?_)
  obtain ⟨hrr, hres⟩ := hw
  subst hrr
  obtain ⟨q7, hP1, -, hD1⟩ := hB
  rw [ht] at hP1
  have hu : u.1 = (S', Z') ∧ (r' = 0 → u.2 0 = r5.toInt64) := by
    rcases hres with ⟨r0, g1, g2⟩ | ⟨E, g1⟩
    · obtain ⟨-, g3, g4⟩ := hr1 _ _ g1
      exact ⟨g4, fun _ => by rw [g2, g3]⟩
    · obtain ⟨g3, g4, -⟩ := hr2 _ _ g1
      exact ⟨g3, fun z => absurd z g4⟩
  obtain ⟨hu1, hu2⟩ := hu
  have hW1 := hback H1 u.2 q7 u.1.1 u.1.2 hk1 hFc hP1 hD1
  rw [hu1] at hW1
  have hW1 : LWP (dC, dI) cI cS cL cD a am o o2 (fun q : Nat => s.heap.size ≤ q) u.2 f2 q7 S' Z' M H1 := hW1
  refine lv_istore (lv' := [(6, .int r'), (0, .ref b), (1, .ref (a 0)), (2, .ref (am 0)), (3, .ref o), (4, .ref o2), (5, .int x5)]) hx hb dL_law_263 hl (by decide) rfl (fun ls hl => ?_)
  refine lv_aload_n hx hb dL_law_265 rfl (lv_at hl 3 rfl) ?_
  refine lv_aload_n hx hb dL_law_266 rfl (lv_at hl 1 rfl) ?_
  refine lv_iload hx hb dL_law_267 (lv_at hl 6 rfl) ?_
  refine lv_iconst (v := (1 : Int32)) hx hb dL_law_269 (by decide) ?_
  refine lv_iadd hx hb dL_law_270 ?_
  refine va_sld hx hb hX hbl hbA hS hin1 dL_law_271 ?_
  obtain ⟨hPm, hDm, hbackm⟩ := hW1.mod
  have hFm := jFreeW (ws := W_Model cI am M) hDm hS hA
  refine va_calli (va_runV (As := [.int (xs (x5 + 1).toNatClampNeg)]) (rest := []) ⟨hx, hb, hml, hown, hts⟩ (c_X5_forget l dC dI cI am H1.size M (xs (x5 + 1).toNatClampNeg) r5 M' hG) (cwV 1 hts gL_law_X5_forget rfl rfl rfl (by decide +kernel) ⟨Nat.le_of_ble_eq_true rfl, Nat.le_of_ble_eq_true rfl⟩) (jPreV (q := (RX5, TX5, 26)) (ci := 5) (hK.sub [0] rfl) hPm hDm hN rfl rfl) rfl rfl hl.1 rfl (lv_room (Nat.le_of_ble_eq_true rfl)) dL_law_272 ⟨hn, hk⟩) hS (fun q _ h => hFm q h) hFm (fun r2 u2 t2 H2 locs ht2 hvm2 hw2 hB2 hz2 hk2 hS => ?_)
  obtain ⟨hr5, hM5⟩ := hw2
  subst hr5
  subst hM5
  obtain ⟨hP2, -, hD2⟩ := hB2
  rw [ht2] at hP2
  have hW2 := hbackm H2 M' hk2 hFm hP2 hD2
  refine lv_istore (lv' := [(7, .int r5), (6, .int r'), (0, .ref b), (1, .ref (a 0)), (2, .ref (am 0)), (3, .ref o), (4, .ref o2), (5, .int x5)]) hx hb dL_law_275 hl (by decide) rfl (fun ls hl => ?_)
  refine lv_aload_n hx hb dL_law_277 rfl (lv_at hl 4 rfl) ?_
  obtain ⟨hPt, hDt, hbackt⟩ := hW2.mod
  have hFt := jFreeW (ws := W_Model cI am M') hDt hS hA
  refine va_calli (va_runV (As := []) (rest := []) ⟨hx, hb, hml, hown, hts⟩ (c_X5_thrown l dC dI cI am H2.size M' (g_Model_thrown M') rfl) (cwV 0 hts gL_law_X5_thrown rfl rfl rfl (by decide +kernel) ⟨Nat.le_of_ble_eq_true rfl, Nat.le_of_ble_eq_true rfl⟩) (jPreV (q := (RX5, TX5, 26)) (ci := 5) (hK.sub [0] rfl) hPt hDt hN rfl rfl) rfl rfl hl.1 rfl (lv_room (Nat.le_of_ble_eq_true rfl)) dL_law_278 ⟨hn, hk⟩) hS (fun q _ h => hFt q h) hFt (fun r3 u3 t3 H3 locs ht3 hvm3 hw3 hB3 hz3 hk3 hS => ?_)
  subst hw3
  obtain ⟨hP3, -, hD3⟩ := hB3
  rw [ht3] at hP3
  have hW3 := hbackt H3 M' hk3 hFt hP3 hD3
  refine lv_iload hx hb dL_law_281 (lv_at hl 1 rfl) ?_
  refine lv_icmp_eq (tgt := 288) hx hb dL_law_283 (by decide) (fun _ => ?_) (fun c9 => absurd hth c9)
  refine lv_iload hx hb dL_law_288 (lv_at hl 1 rfl) ?_
  refine lv_if_ne (tgt := 305) hx hb dL_law_290 (by decide) (fun _ => ?_) (fun c9 => ?_)
  · refine lv_goto (tgt := 1139) hx hb dL_law_305 (by decide) ?_
    exact KT _ _ _ _ _ _ _ _ _ hI' hW3 hS (lv_sub hl [2, 3, 4, 5, 6, 7] rfl)
  · obtain hu3 := hu2 c9
    refine lv_aload_n hx hb dL_law_293 rfl (lv_at hl 5 rfl) ?_
    refine lv_iconst (v := (0 : Int32)) hx hb dL_law_294 (by decide) ?_
    refine va_lald (D := (dC, dI)) hx hb hK hW3.ol 0 2 rfl rfl (inb_in (show inb 0 1 = true by decide)) dL_law_295 ?_
    refine lv_iload hx hb dL_law_296 (lv_at hl 0 rfl) ?_
    refine lv_i2l (v := r5.toInt64) hx hb dL_law_298 rfl ?_
    refine W.lcmp hx hb dL_law_299 ?_
    refine lv_if_eq (tgt := 305) hx hb dL_law_300 (by decide) (fun _ => ?_) (fun c10 => absurd (by rw [show u.2 (0 : Int32).toNatClampNeg = r5.toInt64 from hu3]; exact lg_cmp_self _) c10)
    refine lv_goto (tgt := 1139) hx hb dL_law_305 (by decide) ?_
    exact KT _ _ _ _ _ _ _ _ _ hI' hW3 hS (lv_sub hl [2, 3, 4, 5, 6, 7] rfl)
set_option maxHeartbeats 4000000 in
set_option maxRecDepth 100000 in
theorem law_swap {p : Program} {l : Launch} {e : Env} {s : State} {m : MethodId} {below : List Frame} {meth : Method} {c : Code} {dC : Nat → ClassId} {dI : Nat → Nat → Nat} {cI cS cL cD : ClassId} {b L : Nat} {xs : Nat → Int32} (C0 : LCX p l s m c dC dI cI cS cL cD b L xs) {a am : Nat → Nat} {o o2 : Nat} {f : Nat → Int64} {f2 : Nat → UInt64} {q : Nat → Nat → Nat} {S : S_LS} {Z : Nat → S_State} {M : S_Model} {H : Heap} {locs : List Loc} {n k : Nat} {ls : Array Slot} {x5 : Int32} (hI : INV S Z M) (hW : LWP (dC, dI) cI cS cL cD a am o o2 (fun q : Nat => s.heap.size ≤ q) f f2 q S Z M H) (hS : va_S (fun q : Nat => s.heap.size ≤ q) s.heap H locs) (hl : lv_has ls 9 [(0, .ref b), (1, .ref (a 0)), (2, .ref (am 0)), (3, .ref o), (4, .ref o2), (5, .int x5)]) (hin1 : vp_in (x5 + 1) L) (hin2 : vp_in (x5 + 2) L) (hin3 : vp_in (x5 + 3) L) (hn : n + 1 ≤ 601024) (hk : k + 6 ≤ 7293033) {Q : State → Prop} (KT : ∀ (f : Nat → Int64) (f2 : Nat → UInt64) (q : Nat → Nat → Nat) (S : S_LS) (Z : Nat → S_State) (M : S_Model) (H : Heap) (locs : List Loc) (ls : Array Slot), INV S Z M → LWP (dC, dI) cI cS cL cD a am o o2 (fun q : Nat => s.heap.size ≤ q) f f2 q S Z M H → va_S (fun q : Nat => s.heap.size ≤ q) s.heap H locs → lv_has ls 9 [(0, .ref b), (1, .ref (a 0)), (2, .ref (am 0)), (3, .ref o), (4, .ref o2), (5, .int x5)] → W p l e room_1 s m #[Value.ref b] below meth c H locs (n + 1) (k + 6) Q (F0 m 1139 ls [])) : W p l e room_1 s m #[Value.ref b] below meth c H locs n k Q (F0 m 308 ls []) := by
  obtain ⟨hx, hb, hml, hown, hts, hX, hbl, hK, hN, hU, hSN, hl0⟩ := C0
  have hA : ∀ q : Nat, s.heap.size ≤ q → (fun q : Nat => s.heap.size ≤ q) q := fun _ h => h
  have hbA : ¬ (fun q : Nat => s.heap.size ≤ q) b := Nat.not_le.mpr hbl
  refine lv_aload_n hx hb dL_law_308 rfl (lv_at hl 1 rfl) ?_
  obtain ⟨r5, S', Z', M', hF, hG, hI', hth⟩ := swap_ok hI
  obtain ⟨hPc, hDc, hback⟩ := hW.all
  have hFc := jFreeW (ws := W_Full cI cS a q S Z) hDc hS hA
  refine va_calli (va_runV (As := []) (rest := []) ⟨hx, hb, hml, hown, hts⟩ (c_X4_swap l dC dI cI cS a q H.size S Z r5 S' Z' hF) (cwV 0 hts gL_law_X4_swap rfl rfl rfl (by decide +kernel) ⟨Nat.le_of_ble_eq_true rfl, Nat.le_of_ble_eq_true rfl⟩) (jPreV (q := (RX4, TX4, 8)) (ci := 4) (hK.sub [0, 1] rfl) hPc hDc hN rfl rfl) rfl rfl hl.1 rfl (lv_room (Nat.le_of_ble_eq_true rfl)) dL_law_309 ⟨Nat.le_of_succ_le hn, Nat.le_trans (Nat.le_add_right k 6) hk⟩) hS (fun q _ h => hFc q h) hFc (fun r' u t H1 locs ht hvm hw hB hz1 hk1 hS => ?_)
  obtain ⟨hr5, hu⟩ := hw
  subst hr5
  subst hu
  obtain ⟨q7, hP1, -, hD1⟩ := hB
  rw [ht] at hP1
  have hW1 := hback H1 q7 S' Z' hk1 hFc hP1 hD1
  refine lv_aload_n hx hb dL_law_312 rfl (lv_at hl 2 rfl) ?_
  obtain ⟨hPm, hDm, hbackm⟩ := hW1.mod
  have hFm := jFreeW (ws := W_Model cI am M) hDm hS hA
  refine va_calli (va_runV (As := []) (rest := [.int r5]) ⟨hx, hb, hml, hown, hts⟩ (c_X5_swap l dC dI cI am H1.size M r5 M' hG) (cwV 0 hts gL_law_X5_swap rfl rfl rfl (by decide +kernel) ⟨Nat.le_of_ble_eq_true rfl, Nat.le_of_ble_eq_true rfl⟩) (jPreV (q := (RX5, TX5, 26)) (ci := 5) (hK.sub [0] rfl) hPm hDm hN rfl rfl) rfl rfl hl.1 rfl (lv_room (Nat.le_of_ble_eq_true rfl)) dL_law_313 ⟨Nat.le_of_succ_le hn, Nat.le_trans (Nat.le_add_right k 6) hk⟩) hS (fun q _ h => hFm q h) hFm (fun r2 u2 t2 H2 locs ht2 hvm2 hw2 hB2 hz2 hk2 hS => ?_)
  obtain ⟨hr6, hM5⟩ := hw2
  subst hr6
  subst hM5
  obtain ⟨hP2, -, hD2⟩ := hB2
  rw [ht2] at hP2
  have hW2 := hbackm H2 M' hk2 hFm hP2 hD2
  refine W.widen (k := n + 1) (n := k + 6) (Nat.le_succ n) (Nat.le_add_right k 6) ?_
  refine lv_icmp_eq (tgt := 1139) hx hb dL_law_316 (by decide) (fun _ => ?_) (fun c9 => absurd rfl c9)
  exact KT _ _ _ _ _ _ _ _ _ hI' hW2 hS hl
set_option maxHeartbeats 4000000 in
set_option maxRecDepth 100000 in
theorem law_set {p : Program} {l : Launch} {e : Env} {s : State} {m : MethodId} {below : List Frame} {meth : Method} {c : Code} {dC : Nat → ClassId} {dI : Nat → Nat → Nat} {cI cS cL cD : ClassId} {b L : Nat} {xs : Nat → Int32} (C0 : LCX p l s m c dC dI cI cS cL cD b L xs) {a am : Nat → Nat} {o o2 : Nat} {f : Nat → Int64} {f2 : Nat → UInt64} {q : Nat → Nat → Nat} {S : S_LS} {Z : Nat → S_State} {M : S_Model} {H : Heap} {locs : List Loc} {n k : Nat} {ls : Array Slot} {x5 : Int32} (hI : INV S Z M) (hW : LWP (dC, dI) cI cS cL cD a am o o2 (fun q : Nat => s.heap.size ≤ q) f f2 q S Z M H) (hS : va_S (fun q : Nat => s.heap.size ≤ q) s.heap H locs) (hl : lv_has ls 9 [(0, .ref b), (1, .ref (a 0)), (2, .ref (am 0)), (3, .ref o), (4, .ref o2), (5, .int x5)]) (hin1 : vp_in (x5 + 1) L) (hin2 : vp_in (x5 + 2) L) (hin3 : vp_in (x5 + 3) L) (hn : n + 1 ≤ 601024) (hk : k + 6 ≤ 7293033) {Q : State → Prop} (KT : ∀ (f : Nat → Int64) (f2 : Nat → UInt64) (q : Nat → Nat → Nat) (S : S_LS) (Z : Nat → S_State) (M : S_Model) (H : Heap) (locs : List Loc) (ls : Array Slot), INV S Z M → LWP (dC, dI) cI cS cL cD a am o o2 (fun q : Nat => s.heap.size ≤ q) f f2 q S Z M H → va_S (fun q : Nat => s.heap.size ≤ q) s.heap H locs → lv_has ls 9 [(0, .ref b), (1, .ref (a 0)), (2, .ref (am 0)), (3, .ref o), (4, .ref o2), (5, .int x5)] → W p l e room_1 s m #[Value.ref b] below meth c H locs (n + 1) (k + 6) Q (F0 m 1139 ls [])) : W p l e room_1 s m #[Value.ref b] below meth c H locs n k Q (F0 m 321 ls []) := by
  obtain ⟨hx, hb, hml, hown, hts, hX, hbl, hK, hN, hU, hSN, hl0⟩ := C0
  have hA : ∀ q : Nat, s.heap.size ≤ q → (fun q : Nat => s.heap.size ≤ q) q := fun _ h => h
  have hbA : ¬ (fun q : Nat => s.heap.size ≤ q) b := Nat.not_le.mpr hbl
  refine lv_aload_n hx hb dL_law_321 rfl (lv_at hl 1 rfl) ?_
  refine lv_aload_n hx hb dL_law_322 rfl (lv_at hl 0 rfl) ?_
  refine lv_iload hx hb dL_law_323 (lv_at hl 5 rfl) ?_
  refine lv_iconst (v := (1 : Int32)) hx hb dL_law_325 (by decide) ?_
  refine lv_iadd hx hb dL_law_326 ?_
  refine va_sld hx hb hX hbl hbA hS hin1 dL_law_327 ?_
  refine lv_aload_n hx hb dL_law_328 rfl (lv_at hl 3 rfl) ?_
  obtain ⟨res, rr, S', Z', M', r5, hF, hG, hI', hth, hr1, hr2⟩ := set_st hI (xs (x5 + 1).toNatClampNeg)
  obtain ⟨hPc, hDc, hback⟩ := hW.full
  have hFc := jFreeW (ws := OL cL o f ++ W_Full cI cS a q S Z) hDc hS hA
  refine va_calli (vx_runSW (As := [.ref (a 0), .int (xs (x5 + 1).toNatClampNeg), .ref o]) (rest := []) ⟨hx, hb, hml, hown, hts⟩ (c_L_set l dC dI cI cS cL hl0 a q o H.size f S Z (xs (x5 + 1).toNatClampNeg) res rr hF (fun r0 y z => (hr1 r0 y z).1) (fun E y z => (hr2 E y z).2.2)) (vx_cwSW 3 hts gL_law_L_set rfl rfl rfl (by decide +kernel) ⟨Nat.le_of_ble_eq_true rfl, Nat.le_of_ble_eq_true rfl⟩) (jPreSX (hK.sub [0, 1, 2] rfl) hPc hDc hN hU hSN hS hFc) rfl rfl hl.1 rfl (lv_room (Nat.le_of_ble_eq_true rfl)) dL_law_329 ⟨hn, hk⟩) hS (fun q _ h => hFc q h) hFc (fun r' u t H1 locs ht hvm hw hB hz1 hk1 hS => ?_)
  obtain ⟨hrr, hres⟩ := hw
  subst hrr
  obtain ⟨q7, hP1, -, hD1⟩ := hB
  rw [ht] at hP1
  have hu : u.1 = (S', Z') ∧ (r' = 0 → u.2 0 = r5.toInt64) := by
    rcases hres with ⟨r0, g1, g2⟩ | ⟨E, g1⟩
    · obtain ⟨-, g3, g4⟩ := hr1 _ _ g1
      exact ⟨g4, fun _ => by rw [g2, g3]⟩
    · obtain ⟨g3, g4, -⟩ := hr2 _ _ g1
      exact ⟨g3, fun z => absurd z g4⟩
  obtain ⟨hu1, hu2⟩ := hu
  have hW1 := hback H1 u.2 q7 u.1.1 u.1.2 hk1 hFc hP1 hD1
  rw [hu1] at hW1
  have hW1 : LWP (dC, dI) cI cS cL cD a am o o2 (fun q : Nat => s.heap.size ≤ q) u.2 f2 q7 S' Z' M H1 := hW1
  refine lv_istore (lv' := [(6, .int r'), (0, .ref b), (1, .ref (a 0)), (2, .ref (am 0)), (3, .ref o), (4, .ref o2), (5, .int x5)]) hx hb dL_law_332 hl (by decide) rfl (fun ls hl => ?_)
  refine lv_aload_n hx hb dL_law_334 rfl (lv_at hl 3 rfl) ?_
  refine lv_aload_n hx hb dL_law_335 rfl (lv_at hl 1 rfl) ?_
  refine lv_iload hx hb dL_law_336 (lv_at hl 6 rfl) ?_
  refine lv_iconst (v := (1 : Int32)) hx hb dL_law_338 (by decide) ?_
  refine lv_iadd hx hb dL_law_339 ?_
  refine va_sld hx hb hX hbl hbA hS hin1 dL_law_340 ?_
  obtain ⟨hPm, hDm, hbackm⟩ := hW1.mod
  have hFm := jFreeW (ws := W_Model cI am M) hDm hS hA
  refine va_calli (va_runV (As := [.int (xs (x5 + 1).toNatClampNeg)]) (rest := []) ⟨hx, hb, hml, hown, hts⟩ (c_X5_set l dC dI cI am H1.size M (xs (x5 + 1).toNatClampNeg) r5 M' hG) (cwV 1 hts gL_law_X5_set rfl rfl rfl (by decide +kernel) ⟨Nat.le_of_ble_eq_true rfl, Nat.le_of_ble_eq_true rfl⟩) (jPreV (q := (RX5, TX5, 26)) (ci := 5) (hK.sub [0] rfl) hPm hDm hN rfl rfl) rfl rfl hl.1 rfl (lv_room (Nat.le_of_ble_eq_true rfl)) dL_law_341 ⟨hn, hk⟩) hS (fun q _ h => hFm q h) hFm (fun r2 u2 t2 H2 locs ht2 hvm2 hw2 hB2 hz2 hk2 hS => ?_)
  obtain ⟨hr5, hM5⟩ := hw2
  subst hr5
  subst hM5
  obtain ⟨hP2, -, hD2⟩ := hB2
  rw [ht2] at hP2
  have hW2 := hbackm H2 M' hk2 hFm hP2 hD2
  refine lv_istore (lv' := [(7, .int r5), (6, .int r'), (0, .ref b), (1, .ref (a 0)), (2, .ref (am 0)), (3, .ref o), (4, .ref o2), (5, .int x5)]) hx hb dL_law_344 hl (by decide) rfl (fun ls hl => ?_)
  refine lv_aload_n hx hb dL_law_346 rfl (lv_at hl 4 rfl) ?_
  obtain ⟨hPt, hDt, hbackt⟩ := hW2.mod
  have hFt := jFreeW (ws := W_Model cI am M') hDt hS hA
  refine va_calli (va_runV (As := []) (rest := []) ⟨hx, hb, hml, hown, hts⟩ (c_X5_thrown l dC dI cI am H2.size M' (g_Model_thrown M') rfl) (cwV 0 hts gL_law_X5_thrown rfl rfl rfl (by decide +kernel) ⟨Nat.le_of_ble_eq_true rfl, Nat.le_of_ble_eq_true rfl⟩) (jPreV (q := (RX5, TX5, 26)) (ci := 5) (hK.sub [0] rfl) hPt hDt hN rfl rfl) rfl rfl hl.1 rfl (lv_room (Nat.le_of_ble_eq_true rfl)) dL_law_347 ⟨hn, hk⟩) hS (fun q _ h => hFt q h) hFt (fun r3 u3 t3 H3 locs ht3 hvm3 hw3 hB3 hz3 hk3 hS => ?_)
  subst hw3
  obtain ⟨hP3, -, hD3⟩ := hB3
  rw [ht3] at hP3
  have hW3 := hbackt H3 M' hk3 hFt hP3 hD3
  refine lv_iload hx hb dL_law_350 (lv_at hl 1 rfl) ?_
  refine lv_icmp_eq (tgt := 357) hx hb dL_law_352 (by decide) (fun _ => ?_) (fun c9 => absurd hth c9)
  refine lv_iload hx hb dL_law_357 (lv_at hl 1 rfl) ?_
  refine lv_if_ne (tgt := 374) hx hb dL_law_359 (by decide) (fun _ => ?_) (fun c9 => ?_)
  · refine lv_goto (tgt := 1139) hx hb dL_law_374 (by decide) ?_
    exact KT _ _ _ _ _ _ _ _ _ hI' hW3 hS (lv_sub hl [2, 3, 4, 5, 6, 7] rfl)
  · obtain hu3 := hu2 c9
    refine lv_aload_n hx hb dL_law_362 rfl (lv_at hl 5 rfl) ?_
    refine lv_iconst (v := (0 : Int32)) hx hb dL_law_363 (by decide) ?_
    refine va_lald (D := (dC, dI)) hx hb hK hW3.ol 0 2 rfl rfl (inb_in (show inb 0 1 = true by decide)) dL_law_364 ?_
    refine lv_iload hx hb dL_law_365 (lv_at hl 0 rfl) ?_
    refine lv_i2l (v := r5.toInt64) hx hb dL_law_367 rfl ?_
    refine W.lcmp hx hb dL_law_368 ?_
    refine lv_if_eq (tgt := 374) hx hb dL_law_369 (by decide) (fun _ => ?_) (fun c10 => absurd (by rw [show u.2 (0 : Int32).toNatClampNeg = r5.toInt64 from hu3]; exact lg_cmp_self _) c10)
    refine lv_goto (tgt := 1139) hx hb dL_law_374 (by decide) ?_
    exact KT _ _ _ _ _ _ _ _ _ hI' hW3 hS (lv_sub hl [2, 3, 4, 5, 6, 7] rfl)
set_option maxHeartbeats 4000000 in
set_option maxRecDepth 100000 in
theorem law_append {p : Program} {l : Launch} {e : Env} {s : State} {m : MethodId} {below : List Frame} {meth : Method} {c : Code} {dC : Nat → ClassId} {dI : Nat → Nat → Nat} {cI cS cL cD : ClassId} {b L : Nat} {xs : Nat → Int32} (C0 : LCX p l s m c dC dI cI cS cL cD b L xs) {a am : Nat → Nat} {o o2 : Nat} {f : Nat → Int64} {f2 : Nat → UInt64} {q : Nat → Nat → Nat} {S : S_LS} {Z : Nat → S_State} {M : S_Model} {H : Heap} {locs : List Loc} {n k : Nat} {ls : Array Slot} {x5 : Int32} (hI : INV S Z M) (hW : LWP (dC, dI) cI cS cL cD a am o o2 (fun q : Nat => s.heap.size ≤ q) f f2 q S Z M H) (hS : va_S (fun q : Nat => s.heap.size ≤ q) s.heap H locs) (hl : lv_has ls 9 [(0, .ref b), (1, .ref (a 0)), (2, .ref (am 0)), (3, .ref o), (4, .ref o2), (5, .int x5)]) (hin1 : vp_in (x5 + 1) L) (hin2 : vp_in (x5 + 2) L) (hin3 : vp_in (x5 + 3) L) (hn : n + 1 ≤ 601024) (hk : k + 6 ≤ 7293033) {Q : State → Prop} (KT : ∀ (f : Nat → Int64) (f2 : Nat → UInt64) (q : Nat → Nat → Nat) (S : S_LS) (Z : Nat → S_State) (M : S_Model) (H : Heap) (locs : List Loc) (ls : Array Slot), INV S Z M → LWP (dC, dI) cI cS cL cD a am o o2 (fun q : Nat => s.heap.size ≤ q) f f2 q S Z M H → va_S (fun q : Nat => s.heap.size ≤ q) s.heap H locs → lv_has ls 9 [(0, .ref b), (1, .ref (a 0)), (2, .ref (am 0)), (3, .ref o), (4, .ref o2), (5, .int x5)] → W p l e room_1 s m #[Value.ref b] below meth c H locs (n + 1) (k + 6) Q (F0 m 1139 ls [])) : W p l e room_1 s m #[Value.ref b] below meth c H locs n k Q (F0 m 377 ls []) := by
  obtain ⟨hx, hb, hml, hown, hts, hX, hbl, hK, hN, hU, hSN, hl0⟩ := C0
  have hA : ∀ q : Nat, s.heap.size ≤ q → (fun q : Nat => s.heap.size ≤ q) q := fun _ h => h
  have hbA : ¬ (fun q : Nat => s.heap.size ≤ q) b := Nat.not_le.mpr hbl
  refine lv_aload_n hx hb dL_law_377 rfl (lv_at hl 1 rfl) ?_
  refine lv_aload_n hx hb dL_law_378 rfl (lv_at hl 0 rfl) ?_
  refine lv_iload hx hb dL_law_379 (lv_at hl 5 rfl) ?_
  refine lv_iconst (v := (1 : Int32)) hx hb dL_law_381 (by decide) ?_
  refine lv_iadd hx hb dL_law_382 ?_
  refine va_sld hx hb hX hbl hbA hS hin1 dL_law_383 ?_
  refine lv_aload_n hx hb dL_law_384 rfl (lv_at hl 3 rfl) ?_
  obtain ⟨res, rr, S', M', r5, hF, hG, hI', hth, hr1, hr2⟩ := append_st hI (xs (x5 + 1).toNatClampNeg)
  obtain ⟨hPc, hDc, hback⟩ := hW.plain
  have hFc := jFreeW (ws := OL cL o f ++ W_LS cI a S) hDc hS hA
  refine va_calli (vx_runSW (As := [.ref (a 0), .int (xs (x5 + 1).toNatClampNeg), .ref o]) (rest := []) ⟨hx, hb, hml, hown, hts⟩ (c_L_append l dC dI cI cL hl0 a o H.size f S (xs (x5 + 1).toNatClampNeg) res rr hF (fun r0 y z => (hr1 r0 y z).1) (fun E y z => (hr2 E y z).2.2)) (vx_cwSW 3 hts gL_law_L_append rfl rfl rfl (by decide +kernel) ⟨Nat.le_of_ble_eq_true rfl, Nat.le_of_ble_eq_true rfl⟩) (jPreSX (hK.sub [0, 2] rfl) hPc hDc hN hU hSN hS hFc) rfl rfl hl.1 rfl (lv_room (Nat.le_of_ble_eq_true rfl)) dL_law_385 ⟨hn, hk⟩) hS (fun q _ h => hFc q h) hFc (fun r' u t H1 locs ht hvm hw hB hz1 hk1 hS => ?_)
  obtain ⟨hrr, hres⟩ := hw
  subst hrr
  obtain ⟨hP1, -, hD1⟩ := hB
  rw [ht] at hP1
  have hu : u.1 = S' ∧ (r' = 0 → u.2 0 = r5.toInt64) := by
    rcases hres with ⟨r0, g1, g2⟩ | ⟨E, g1⟩
    · obtain ⟨-, g3, g4⟩ := hr1 _ _ g1
      exact ⟨g4, fun _ => by rw [g2, g3]⟩
    · obtain ⟨g3, g4, -⟩ := hr2 _ _ g1
      exact ⟨g3, fun z => absurd z g4⟩
  obtain ⟨hu1, hu2⟩ := hu
  have hW1 := hback H1 u.2 u.1 hk1 hFc hP1 hD1
  rw [hu1] at hW1
  have hW1 : LWP (dC, dI) cI cS cL cD a am o o2 (fun q : Nat => s.heap.size ≤ q) u.2 f2 q S' Z M H1 := hW1
  refine lv_istore (lv' := [(6, .int r'), (0, .ref b), (1, .ref (a 0)), (2, .ref (am 0)), (3, .ref o), (4, .ref o2), (5, .int x5)]) hx hb dL_law_388 hl (by decide) rfl (fun ls hl => ?_)
  refine lv_aload_n hx hb dL_law_390 rfl (lv_at hl 3 rfl) ?_
  refine lv_aload_n hx hb dL_law_391 rfl (lv_at hl 1 rfl) ?_
  refine lv_iload hx hb dL_law_392 (lv_at hl 6 rfl) ?_
  refine lv_iconst (v := (1 : Int32)) hx hb dL_law_394 (by decide) ?_
  refine lv_iadd hx hb dL_law_395 ?_
  refine va_sld hx hb hX hbl hbA hS hin1 dL_law_396 ?_
  obtain ⟨hPm, hDm, hbackm⟩ := hW1.mod
  have hFm := jFreeW (ws := W_Model cI am M) hDm hS hA
  refine va_calli (va_runV (As := [.int (xs (x5 + 1).toNatClampNeg)]) (rest := []) ⟨hx, hb, hml, hown, hts⟩ (c_X5_append l dC dI cI am H1.size M (xs (x5 + 1).toNatClampNeg) r5 M' hG) (cwV 1 hts gL_law_X5_append rfl rfl rfl (by decide +kernel) ⟨Nat.le_of_ble_eq_true rfl, Nat.le_of_ble_eq_true rfl⟩) (jPreV (q := (RX5, TX5, 26)) (ci := 5) (hK.sub [0] rfl) hPm hDm hN rfl rfl) rfl rfl hl.1 rfl (lv_room (Nat.le_of_ble_eq_true rfl)) dL_law_397 ⟨hn, hk⟩) hS (fun q _ h => hFm q h) hFm (fun r2 u2 t2 H2 locs ht2 hvm2 hw2 hB2 hz2 hk2 hS => ?_)
  obtain ⟨hr5, hM5⟩ := hw2
  subst hr5
  subst hM5
  obtain ⟨hP2, -, hD2⟩ := hB2
  rw [ht2] at hP2
  have hW2 := hbackm H2 M' hk2 hFm hP2 hD2
  refine lv_istore (lv' := [(7, .int r5), (6, .int r'), (0, .ref b), (1, .ref (a 0)), (2, .ref (am 0)), (3, .ref o), (4, .ref o2), (5, .int x5)]) hx hb dL_law_400 hl (by decide) rfl (fun ls hl => ?_)
  refine lv_aload_n hx hb dL_law_402 rfl (lv_at hl 4 rfl) ?_
  obtain ⟨hPt, hDt, hbackt⟩ := hW2.mod
  have hFt := jFreeW (ws := W_Model cI am M') hDt hS hA
  refine va_calli (va_runV (As := []) (rest := []) ⟨hx, hb, hml, hown, hts⟩ (c_X5_thrown l dC dI cI am H2.size M' (g_Model_thrown M') rfl) (cwV 0 hts gL_law_X5_thrown rfl rfl rfl (by decide +kernel) ⟨Nat.le_of_ble_eq_true rfl, Nat.le_of_ble_eq_true rfl⟩) (jPreV (q := (RX5, TX5, 26)) (ci := 5) (hK.sub [0] rfl) hPt hDt hN rfl rfl) rfl rfl hl.1 rfl (lv_room (Nat.le_of_ble_eq_true rfl)) dL_law_403 ⟨hn, hk⟩) hS (fun q _ h => hFt q h) hFt (fun r3 u3 t3 H3 locs ht3 hvm3 hw3 hB3 hz3 hk3 hS => ?_)
  subst hw3
  obtain ⟨hP3, -, hD3⟩ := hB3
  rw [ht3] at hP3
  have hW3 := hbackt H3 M' hk3 hFt hP3 hD3
  refine lv_iload hx hb dL_law_406 (lv_at hl 1 rfl) ?_
  refine lv_icmp_eq (tgt := 413) hx hb dL_law_408 (by decide) (fun _ => ?_) (fun c9 => absurd hth c9)
  refine lv_iload hx hb dL_law_413 (lv_at hl 1 rfl) ?_
  refine lv_if_ne (tgt := 430) hx hb dL_law_415 (by decide) (fun _ => ?_) (fun c9 => ?_)
  · refine lv_goto (tgt := 1139) hx hb dL_law_430 (by decide) ?_
    exact KT _ _ _ _ _ _ _ _ _ hI' hW3 hS (lv_sub hl [2, 3, 4, 5, 6, 7] rfl)
  · obtain hu3 := hu2 c9
    refine lv_aload_n hx hb dL_law_418 rfl (lv_at hl 5 rfl) ?_
    refine lv_iconst (v := (0 : Int32)) hx hb dL_law_419 (by decide) ?_
    refine va_lald (D := (dC, dI)) hx hb hK hW3.ol 0 2 rfl rfl (inb_in (show inb 0 1 = true by decide)) dL_law_420 ?_
    refine lv_iload hx hb dL_law_421 (lv_at hl 0 rfl) ?_
    refine lv_i2l (v := r5.toInt64) hx hb dL_law_423 rfl ?_
    refine W.lcmp hx hb dL_law_424 ?_
    refine lv_if_eq (tgt := 430) hx hb dL_law_425 (by decide) (fun _ => ?_) (fun c10 => absurd (by rw [show u.2 (0 : Int32).toNatClampNeg = r5.toInt64 from hu3]; exact lg_cmp_self _) c10)
    refine lv_goto (tgt := 1139) hx hb dL_law_430 (by decide) ?_
    exact KT _ _ _ _ _ _ _ _ _ hI' hW3 hS (lv_sub hl [2, 3, 4, 5, 6, 7] rfl)
set_option maxHeartbeats 4000000 in
set_option maxRecDepth 100000 in
theorem law_clearBuffer {p : Program} {l : Launch} {e : Env} {s : State} {m : MethodId} {below : List Frame} {meth : Method} {c : Code} {dC : Nat → ClassId} {dI : Nat → Nat → Nat} {cI cS cL cD : ClassId} {b L : Nat} {xs : Nat → Int32} (C0 : LCX p l s m c dC dI cI cS cL cD b L xs) {a am : Nat → Nat} {o o2 : Nat} {f : Nat → Int64} {f2 : Nat → UInt64} {q : Nat → Nat → Nat} {S : S_LS} {Z : Nat → S_State} {M : S_Model} {H : Heap} {locs : List Loc} {n k : Nat} {ls : Array Slot} {x5 : Int32} (hI : INV S Z M) (hW : LWP (dC, dI) cI cS cL cD a am o o2 (fun q : Nat => s.heap.size ≤ q) f f2 q S Z M H) (hS : va_S (fun q : Nat => s.heap.size ≤ q) s.heap H locs) (hl : lv_has ls 9 [(0, .ref b), (1, .ref (a 0)), (2, .ref (am 0)), (3, .ref o), (4, .ref o2), (5, .int x5)]) (hin1 : vp_in (x5 + 1) L) (hin2 : vp_in (x5 + 2) L) (hin3 : vp_in (x5 + 3) L) (hn : n + 1 ≤ 601024) (hk : k + 6 ≤ 7293033) {Q : State → Prop} (KT : ∀ (f : Nat → Int64) (f2 : Nat → UInt64) (q : Nat → Nat → Nat) (S : S_LS) (Z : Nat → S_State) (M : S_Model) (H : Heap) (locs : List Loc) (ls : Array Slot), INV S Z M → LWP (dC, dI) cI cS cL cD a am o o2 (fun q : Nat => s.heap.size ≤ q) f f2 q S Z M H → va_S (fun q : Nat => s.heap.size ≤ q) s.heap H locs → lv_has ls 9 [(0, .ref b), (1, .ref (a 0)), (2, .ref (am 0)), (3, .ref o), (4, .ref o2), (5, .int x5)] → W p l e room_1 s m #[Value.ref b] below meth c H locs (n + 1) (k + 6) Q (F0 m 1139 ls [])) : W p l e room_1 s m #[Value.ref b] below meth c H locs n k Q (F0 m 433 ls []) := by
  obtain ⟨hx, hb, hml, hown, hts, hX, hbl, hK, hN, hU, hSN, hl0⟩ := C0
  have hA : ∀ q : Nat, s.heap.size ≤ q → (fun q : Nat => s.heap.size ≤ q) q := fun _ h => h
  have hbA : ¬ (fun q : Nat => s.heap.size ≤ q) b := Nat.not_le.mpr hbl
  refine lv_aload_n hx hb dL_law_433 rfl (lv_at hl 1 rfl) ?_
  obtain ⟨r5, S', M', hF, hG, hI', hth⟩ := clearBuffer_ok hI
  obtain ⟨hPc, hDc, hback⟩ := hW.ls
  have hFc := jFreeW (ws := W_LS cI a S) hDc hS hA
  refine va_calli (va_runV (As := []) (rest := []) ⟨hx, hb, hml, hown, hts⟩ (c_X4_clearBuffer l dC dI cI a H.size S r5 S' hF) (cwV 0 hts gL_law_X4_clearBuffer rfl rfl rfl (by decide +kernel) ⟨Nat.le_of_ble_eq_true rfl, Nat.le_of_ble_eq_true rfl⟩) (jPreV (q := (RX4, TX4, 8)) (ci := 4) (hK.sub [0] rfl) hPc hDc hN rfl rfl) rfl rfl hl.1 rfl (lv_room (Nat.le_of_ble_eq_true rfl)) dL_law_434 ⟨Nat.le_of_succ_le hn, Nat.le_trans (Nat.le_add_right k 6) hk⟩) hS (fun q _ h => hFc q h) hFc (fun r' u t H1 locs ht hvm hw hB hz1 hk1 hS => ?_)
  obtain ⟨hr5, hu⟩ := hw
  subst hr5
  subst hu
  obtain ⟨hP1, -, hD1⟩ := hB
  rw [ht] at hP1
  have hW1 := hback H1 S' hk1 hFc hP1 hD1
  refine lv_aload_n hx hb dL_law_437 rfl (lv_at hl 2 rfl) ?_
  obtain ⟨hPm, hDm, hbackm⟩ := hW1.mod
  have hFm := jFreeW (ws := W_Model cI am M) hDm hS hA
  refine va_calli (va_runV (As := []) (rest := [.int r5]) ⟨hx, hb, hml, hown, hts⟩ (c_X5_clearBuffer l dC dI cI am H1.size M r5 M' hG) (cwV 0 hts gL_law_X5_clearBuffer rfl rfl rfl (by decide +kernel) ⟨Nat.le_of_ble_eq_true rfl, Nat.le_of_ble_eq_true rfl⟩) (jPreV (q := (RX5, TX5, 26)) (ci := 5) (hK.sub [0] rfl) hPm hDm hN rfl rfl) rfl rfl hl.1 rfl (lv_room (Nat.le_of_ble_eq_true rfl)) dL_law_438 ⟨Nat.le_of_succ_le hn, Nat.le_trans (Nat.le_add_right k 6) hk⟩) hS (fun q _ h => hFm q h) hFm (fun r2 u2 t2 H2 locs ht2 hvm2 hw2 hB2 hz2 hk2 hS => ?_)
  obtain ⟨hr6, hM5⟩ := hw2
  subst hr6
  subst hM5
  obtain ⟨hP2, -, hD2⟩ := hB2
  rw [ht2] at hP2
  have hW2 := hbackm H2 M' hk2 hFm hP2 hD2
  refine W.widen (k := n + 1) (n := k + 6) (Nat.le_succ n) (Nat.le_add_right k 6) ?_
  refine lv_icmp_eq (tgt := 1139) hx hb dL_law_441 (by decide) (fun _ => ?_) (fun c9 => absurd rfl c9)
  exact KT _ _ _ _ _ _ _ _ _ hI' hW2 hS hl
set_option maxHeartbeats 4000000 in
set_option maxRecDepth 100000 in
theorem law_firstError {p : Program} {l : Launch} {e : Env} {s : State} {m : MethodId} {below : List Frame} {meth : Method} {c : Code} {dC : Nat → ClassId} {dI : Nat → Nat → Nat} {cI cS cL cD : ClassId} {b L : Nat} {xs : Nat → Int32} (C0 : LCX p l s m c dC dI cI cS cL cD b L xs) {a am : Nat → Nat} {o o2 : Nat} {f : Nat → Int64} {f2 : Nat → UInt64} {q : Nat → Nat → Nat} {S : S_LS} {Z : Nat → S_State} {M : S_Model} {H : Heap} {locs : List Loc} {n k : Nat} {ls : Array Slot} {x5 : Int32} (hI : INV S Z M) (hW : LWP (dC, dI) cI cS cL cD a am o o2 (fun q : Nat => s.heap.size ≤ q) f f2 q S Z M H) (hS : va_S (fun q : Nat => s.heap.size ≤ q) s.heap H locs) (hl : lv_has ls 9 [(0, .ref b), (1, .ref (a 0)), (2, .ref (am 0)), (3, .ref o), (4, .ref o2), (5, .int x5)]) (hin1 : vp_in (x5 + 1) L) (hin2 : vp_in (x5 + 2) L) (hin3 : vp_in (x5 + 3) L) (hn : n + 1 ≤ 601024) (hk : k + 6 ≤ 7293033) {Q : State → Prop} (KT : ∀ (f : Nat → Int64) (f2 : Nat → UInt64) (q : Nat → Nat → Nat) (S : S_LS) (Z : Nat → S_State) (M : S_Model) (H : Heap) (locs : List Loc) (ls : Array Slot), INV S Z M → LWP (dC, dI) cI cS cL cD a am o o2 (fun q : Nat => s.heap.size ≤ q) f f2 q S Z M H → va_S (fun q : Nat => s.heap.size ≤ q) s.heap H locs → lv_has ls 9 [(0, .ref b), (1, .ref (a 0)), (2, .ref (am 0)), (3, .ref o), (4, .ref o2), (5, .int x5)] → W p l e room_1 s m #[Value.ref b] below meth c H locs (n + 1) (k + 6) Q (F0 m 1139 ls [])) : W p l e room_1 s m #[Value.ref b] below meth c H locs n k Q (F0 m 446 ls []) := by
  obtain ⟨hx, hb, hml, hown, hts, hX, hbl, hK, hN, hU, hSN, hl0⟩ := C0
  have hA : ∀ q : Nat, s.heap.size ≤ q → (fun q : Nat => s.heap.size ≤ q) q := fun _ h => h
  have hbA : ¬ (fun q : Nat => s.heap.size ≤ q) b := Nat.not_le.mpr hbl
  refine lv_aload_n hx hb dL_law_446 rfl (lv_at hl 1 rfl) ?_
  obtain ⟨r5, S', M', hF, hG, hI', hth⟩ := firstError_ok hI
  obtain ⟨hPc, hDc, hback⟩ := hW.ls
  have hFc := jFreeW (ws := W_LS cI a S) hDc hS hA
  refine va_calli (va_runV (As := []) (rest := []) ⟨hx, hb, hml, hown, hts⟩ (c_X4_firstError l dC dI cI a H.size S r5 S' hF) (cwV 0 hts gL_law_X4_firstError rfl rfl rfl (by decide +kernel) ⟨Nat.le_of_ble_eq_true rfl, Nat.le_of_ble_eq_true rfl⟩) (jPreV (q := (RX4, TX4, 8)) (ci := 4) (hK.sub [0] rfl) hPc hDc hN rfl rfl) rfl rfl hl.1 rfl (lv_room (Nat.le_of_ble_eq_true rfl)) dL_law_447 ⟨Nat.le_of_succ_le hn, Nat.le_trans (Nat.le_add_right k 6) hk⟩) hS (fun q _ h => hFc q h) hFc (fun r' u t H1 locs ht hvm hw hB hz1 hk1 hS => ?_)
  obtain ⟨hr5, hu⟩ := hw
  subst hr5
  subst hu
  obtain ⟨hP1, -, hD1⟩ := hB
  rw [ht] at hP1
  have hW1 := hback H1 S' hk1 hFc hP1 hD1
  refine lv_aload_n hx hb dL_law_450 rfl (lv_at hl 2 rfl) ?_
  obtain ⟨hPm, hDm, hbackm⟩ := hW1.mod
  have hFm := jFreeW (ws := W_Model cI am M) hDm hS hA
  refine va_calli (va_runV (As := []) (rest := [.int r5]) ⟨hx, hb, hml, hown, hts⟩ (c_X5_firstError l dC dI cI am H1.size M r5 M' hG) (cwV 0 hts gL_law_X5_firstError rfl rfl rfl (by decide +kernel) ⟨Nat.le_of_ble_eq_true rfl, Nat.le_of_ble_eq_true rfl⟩) (jPreV (q := (RX5, TX5, 26)) (ci := 5) (hK.sub [0] rfl) hPm hDm hN rfl rfl) rfl rfl hl.1 rfl (lv_room (Nat.le_of_ble_eq_true rfl)) dL_law_451 ⟨Nat.le_of_succ_le hn, Nat.le_trans (Nat.le_add_right k 6) hk⟩) hS (fun q _ h => hFm q h) hFm (fun r2 u2 t2 H2 locs ht2 hvm2 hw2 hB2 hz2 hk2 hS => ?_)
  obtain ⟨hr6, hM5⟩ := hw2
  subst hr6
  subst hM5
  obtain ⟨hP2, -, hD2⟩ := hB2
  rw [ht2] at hP2
  have hW2 := hbackm H2 M' hk2 hFm hP2 hD2
  refine W.widen (k := n + 1) (n := k + 6) (Nat.le_succ n) (Nat.le_add_right k 6) ?_
  refine lv_icmp_eq (tgt := 1139) hx hb dL_law_454 (by decide) (fun _ => ?_) (fun c9 => absurd rfl c9)
  exact KT _ _ _ _ _ _ _ _ _ hI' hW2 hS hl
set_option maxHeartbeats 4000000 in
set_option maxRecDepth 100000 in
theorem law_undo {p : Program} {l : Launch} {e : Env} {s : State} {m : MethodId} {below : List Frame} {meth : Method} {c : Code} {dC : Nat → ClassId} {dI : Nat → Nat → Nat} {cI cS cL cD : ClassId} {b L : Nat} {xs : Nat → Int32} (C0 : LCX p l s m c dC dI cI cS cL cD b L xs) {a am : Nat → Nat} {o o2 : Nat} {f : Nat → Int64} {f2 : Nat → UInt64} {q : Nat → Nat → Nat} {S : S_LS} {Z : Nat → S_State} {M : S_Model} {H : Heap} {locs : List Loc} {n k : Nat} {ls : Array Slot} {x5 : Int32} (hI : INV S Z M) (hW : LWP (dC, dI) cI cS cL cD a am o o2 (fun q : Nat => s.heap.size ≤ q) f f2 q S Z M H) (hS : va_S (fun q : Nat => s.heap.size ≤ q) s.heap H locs) (hl : lv_has ls 9 [(0, .ref b), (1, .ref (a 0)), (2, .ref (am 0)), (3, .ref o), (4, .ref o2), (5, .int x5)]) (hin1 : vp_in (x5 + 1) L) (hin2 : vp_in (x5 + 2) L) (hin3 : vp_in (x5 + 3) L) (hn : n + 1 ≤ 601024) (hk : k + 6 ≤ 7293033) {Q : State → Prop} (KT : ∀ (f : Nat → Int64) (f2 : Nat → UInt64) (q : Nat → Nat → Nat) (S : S_LS) (Z : Nat → S_State) (M : S_Model) (H : Heap) (locs : List Loc) (ls : Array Slot), INV S Z M → LWP (dC, dI) cI cS cL cD a am o o2 (fun q : Nat => s.heap.size ≤ q) f f2 q S Z M H → va_S (fun q : Nat => s.heap.size ≤ q) s.heap H locs → lv_has ls 9 [(0, .ref b), (1, .ref (a 0)), (2, .ref (am 0)), (3, .ref o), (4, .ref o2), (5, .int x5)] → W p l e room_1 s m #[Value.ref b] below meth c H locs (n + 1) (k + 6) Q (F0 m 1139 ls [])) : W p l e room_1 s m #[Value.ref b] below meth c H locs n k Q (F0 m 459 ls []) := by
  obtain ⟨hx, hb, hml, hown, hts, hX, hbl, hK, hN, hU, hSN, hl0⟩ := C0
  have hA : ∀ q : Nat, s.heap.size ≤ q → (fun q : Nat => s.heap.size ≤ q) q := fun _ h => h
  have hbA : ¬ (fun q : Nat => s.heap.size ≤ q) b := Nat.not_le.mpr hbl
  refine lv_aload_n hx hb dL_law_459 rfl (lv_at hl 1 rfl) ?_
  refine lv_aload_n hx hb dL_law_460 rfl (lv_at hl 3 rfl) ?_
  obtain ⟨res, rr, S', M', r5, hF, hG, hI', hth, hr1, hr2⟩ := undo_st hI 
  obtain ⟨hPc, hDc, hback⟩ := hW.full
  have hFc := jFreeW (ws := OL cL o f ++ W_Full cI cS a q S Z) hDc hS hA
  refine va_calli (vx_runSW (As := [.ref (a 0), .ref o]) (rest := []) ⟨hx, hb, hml, hown, hts⟩ (c_L_undo l dC dI cI cS cL hl0 a q o H.size f S Z  res rr hF (fun r0 y z => (hr1 r0 y z).1) (fun E y z => (hr2 E y z).2.2)) (vx_cwSW 2 hts gL_law_L_undo rfl rfl rfl (by decide +kernel) ⟨Nat.le_of_ble_eq_true rfl, Nat.le_of_ble_eq_true rfl⟩) (jPreSX (hK.sub [0, 1, 2] rfl) hPc hDc hN hU hSN hS hFc) rfl rfl hl.1 rfl (lv_room (Nat.le_of_ble_eq_true rfl)) dL_law_461 ⟨hn, hk⟩) hS (fun q _ h => hFc q h) hFc (fun r' u t H1 locs ht hvm hw hB hz1 hk1 hS => ?_)
  obtain ⟨hrr, hres⟩ := hw
  subst hrr
  obtain ⟨q7, hP1, -, hD1⟩ := hB
  rw [ht] at hP1
  have hu : u.1 = S' ∧ (r' = 0 → u.2 0 = r5.toInt64) := by
    rcases hres with ⟨r0, g1, g2⟩ | ⟨E, g1⟩
    · obtain ⟨-, g3, g4⟩ := hr1 _ _ g1
      exact ⟨g4, fun _ => by rw [g2, g3]⟩
    · obtain ⟨g3, g4, -⟩ := hr2 _ _ g1
      exact ⟨g3, fun z => absurd z g4⟩
  obtain ⟨hu1, hu2⟩ := hu
  have hW1 := hback H1 u.2 q7 u.1 Z hk1 hFc hP1 hD1
  rw [hu1] at hW1
  have hW1 : LWP (dC, dI) cI cS cL cD a am o o2 (fun q : Nat => s.heap.size ≤ q) u.2 f2 q7 S' Z M H1 := hW1
  refine lv_istore (lv' := [(6, .int r'), (0, .ref b), (1, .ref (a 0)), (2, .ref (am 0)), (3, .ref o), (4, .ref o2), (5, .int x5)]) hx hb dL_law_464 hl (by decide) rfl (fun ls hl => ?_)
  refine lv_aload_n hx hb dL_law_466 rfl (lv_at hl 3 rfl) ?_
  obtain ⟨hPm, hDm, hbackm⟩ := hW1.mod
  have hFm := jFreeW (ws := W_Model cI am M) hDm hS hA
  refine va_calli (va_runV (As := []) (rest := []) ⟨hx, hb, hml, hown, hts⟩ (c_X5_undo l dC dI cI am H1.size M  r5 M' hG) (cwV 0 hts gL_law_X5_undo rfl rfl rfl (by decide +kernel) ⟨Nat.le_of_ble_eq_true rfl, Nat.le_of_ble_eq_true rfl⟩) (jPreV (q := (RX5, TX5, 26)) (ci := 5) (hK.sub [0] rfl) hPm hDm hN rfl rfl) rfl rfl hl.1 rfl (lv_room (Nat.le_of_ble_eq_true rfl)) dL_law_467 ⟨hn, hk⟩) hS (fun q _ h => hFm q h) hFm (fun r2 u2 t2 H2 locs ht2 hvm2 hw2 hB2 hz2 hk2 hS => ?_)
  obtain ⟨hr5, hM5⟩ := hw2
  subst hr5
  subst hM5
  obtain ⟨hP2, -, hD2⟩ := hB2
  rw [ht2] at hP2
  have hW2 := hbackm H2 M' hk2 hFm hP2 hD2
  refine lv_istore (lv' := [(7, .int r5), (6, .int r'), (0, .ref b), (1, .ref (a 0)), (2, .ref (am 0)), (3, .ref o), (4, .ref o2), (5, .int x5)]) hx hb dL_law_470 hl (by decide) rfl (fun ls hl => ?_)
  refine lv_aload_n hx hb dL_law_472 rfl (lv_at hl 4 rfl) ?_
  obtain ⟨hPt, hDt, hbackt⟩ := hW2.mod
  have hFt := jFreeW (ws := W_Model cI am M') hDt hS hA
  refine va_calli (va_runV (As := []) (rest := []) ⟨hx, hb, hml, hown, hts⟩ (c_X5_thrown l dC dI cI am H2.size M' (g_Model_thrown M') rfl) (cwV 0 hts gL_law_X5_thrown rfl rfl rfl (by decide +kernel) ⟨Nat.le_of_ble_eq_true rfl, Nat.le_of_ble_eq_true rfl⟩) (jPreV (q := (RX5, TX5, 26)) (ci := 5) (hK.sub [0] rfl) hPt hDt hN rfl rfl) rfl rfl hl.1 rfl (lv_room (Nat.le_of_ble_eq_true rfl)) dL_law_473 ⟨hn, hk⟩) hS (fun q _ h => hFt q h) hFt (fun r3 u3 t3 H3 locs ht3 hvm3 hw3 hB3 hz3 hk3 hS => ?_)
  subst hw3
  obtain ⟨hP3, -, hD3⟩ := hB3
  rw [ht3] at hP3
  have hW3 := hbackt H3 M' hk3 hFt hP3 hD3
  refine lv_iload hx hb dL_law_476 (lv_at hl 1 rfl) ?_
  refine lv_icmp_eq (tgt := 483) hx hb dL_law_478 (by decide) (fun _ => ?_) (fun c9 => absurd hth c9)
  refine lv_iload hx hb dL_law_483 (lv_at hl 1 rfl) ?_
  refine lv_if_ne (tgt := 500) hx hb dL_law_485 (by decide) (fun _ => ?_) (fun c9 => ?_)
  · refine lv_goto (tgt := 1139) hx hb dL_law_500 (by decide) ?_
    exact KT _ _ _ _ _ _ _ _ _ hI' hW3 hS (lv_sub hl [2, 3, 4, 5, 6, 7] rfl)
  · obtain hu3 := hu2 c9
    refine lv_aload_n hx hb dL_law_488 rfl (lv_at hl 5 rfl) ?_
    refine lv_iconst (v := (0 : Int32)) hx hb dL_law_489 (by decide) ?_
    refine va_lald (D := (dC, dI)) hx hb hK hW3.ol 0 2 rfl rfl (inb_in (show inb 0 1 = true by decide)) dL_law_490 ?_
    refine lv_iload hx hb dL_law_491 (lv_at hl 0 rfl) ?_
    refine lv_i2l (v := r5.toInt64) hx hb dL_law_493 rfl ?_
    refine W.lcmp hx hb dL_law_494 ?_
    refine lv_if_eq (tgt := 500) hx hb dL_law_495 (by decide) (fun _ => ?_) (fun c10 => absurd (by rw [show u.2 (0 : Int32).toNatClampNeg = r5.toInt64 from hu3]; exact lg_cmp_self _) c10)
    refine lv_goto (tgt := 1139) hx hb dL_law_500 (by decide) ?_
    exact KT _ _ _ _ _ _ _ _ _ hI' hW3 hS (lv_sub hl [2, 3, 4, 5, 6, 7] rfl)
set_option maxHeartbeats 4000000 in
set_option maxRecDepth 100000 in
theorem law_node {p : Program} {l : Launch} {e : Env} {s : State} {m : MethodId} {below : List Frame} {meth : Method} {c : Code} {dC : Nat → ClassId} {dI : Nat → Nat → Nat} {cI cS cL cD : ClassId} {b L : Nat} {xs : Nat → Int32} (C0 : LCX p l s m c dC dI cI cS cL cD b L xs) {a am : Nat → Nat} {o o2 : Nat} {f : Nat → Int64} {f2 : Nat → UInt64} {q : Nat → Nat → Nat} {S : S_LS} {Z : Nat → S_State} {M : S_Model} {H : Heap} {locs : List Loc} {n k : Nat} {ls : Array Slot} {x5 : Int32} (hI : INV S Z M) (hW : LWP (dC, dI) cI cS cL cD a am o o2 (fun q : Nat => s.heap.size ≤ q) f f2 q S Z M H) (hS : va_S (fun q : Nat => s.heap.size ≤ q) s.heap H locs) (hl : lv_has ls 9 [(0, .ref b), (1, .ref (a 0)), (2, .ref (am 0)), (3, .ref o), (4, .ref o2), (5, .int x5)]) (hin1 : vp_in (x5 + 1) L) (hin2 : vp_in (x5 + 2) L) (hin3 : vp_in (x5 + 3) L) (hn : n + 1 ≤ 601024) (hk : k + 6 ≤ 7293033) {Q : State → Prop} (KT : ∀ (f : Nat → Int64) (f2 : Nat → UInt64) (q : Nat → Nat → Nat) (S : S_LS) (Z : Nat → S_State) (M : S_Model) (H : Heap) (locs : List Loc) (ls : Array Slot), INV S Z M → LWP (dC, dI) cI cS cL cD a am o o2 (fun q : Nat => s.heap.size ≤ q) f f2 q S Z M H → va_S (fun q : Nat => s.heap.size ≤ q) s.heap H locs → lv_has ls 9 [(0, .ref b), (1, .ref (a 0)), (2, .ref (am 0)), (3, .ref o), (4, .ref o2), (5, .int x5)] → W p l e room_1 s m #[Value.ref b] below meth c H locs (n + 1) (k + 6) Q (F0 m 1139 ls [])) : W p l e room_1 s m #[Value.ref b] below meth c H locs n k Q (F0 m 503 ls []) := by
  obtain ⟨hx, hb, hml, hown, hts, hX, hbl, hK, hN, hU, hSN, hl0⟩ := C0
  have hA : ∀ q : Nat, s.heap.size ≤ q → (fun q : Nat => s.heap.size ≤ q) q := fun _ h => h
  have hbA : ¬ (fun q : Nat => s.heap.size ≤ q) b := Nat.not_le.mpr hbl
  refine lv_aload_n hx hb dL_law_503 rfl (lv_at hl 1 rfl) ?_
  refine lv_aload_n hx hb dL_law_504 rfl (lv_at hl 0 rfl) ?_
  refine lv_iload hx hb dL_law_505 (lv_at hl 5 rfl) ?_
  refine lv_iconst (v := (1 : Int32)) hx hb dL_law_507 (by decide) ?_
  refine lv_iadd hx hb dL_law_508 ?_
  refine va_sld hx hb hX hbl hbA hS hin1 dL_law_509 ?_
  refine lv_aload_n hx hb dL_law_510 rfl (lv_at hl 0 rfl) ?_
  refine lv_iload hx hb dL_law_511 (lv_at hl 5 rfl) ?_
  refine lv_iconst (v := (2 : Int32)) hx hb dL_law_513 (by decide) ?_
  refine lv_iadd hx hb dL_law_514 ?_
  refine va_sld hx hb hX hbl hbA hS hin2 dL_law_515 ?_
  refine lv_aload_n hx hb dL_law_516 rfl (lv_at hl 0 rfl) ?_
  refine lv_iload hx hb dL_law_517 (lv_at hl 5 rfl) ?_
  refine lv_iconst (v := (3 : Int32)) hx hb dL_law_519 (by decide) ?_
  refine lv_iadd hx hb dL_law_520 ?_
  refine va_sld hx hb hX hbl hbA hS hin3 dL_law_521 ?_
  refine lv_aload_n hx hb dL_law_522 rfl (lv_at hl 3 rfl) ?_
  obtain ⟨res, rr, M', r5, hF, hG, hI', hth, hr1, hr2⟩ := node_st hI (xs (x5 + 1).toNatClampNeg) (xs (x5 + 2).toNatClampNeg) (xs (x5 + 3).toNatClampNeg)
  obtain ⟨hPc, hDc, hback⟩ := hW.plain
  have hFc := jFreeW (ws := OL cL o f ++ W_LS cI a S) hDc hS hA
  refine va_calli (vx_runSW (As := [.ref (a 0), .int (xs (x5 + 1).toNatClampNeg), .int (xs (x5 + 2).toNatClampNeg), .int (xs (x5 + 3).toNatClampNeg), .ref o]) (rest := []) ⟨hx, hb, hml, hown, hts⟩ (c_L_node l dC dI cI cL hl0 a o H.size f S (xs (x5 + 1).toNatClampNeg) (xs (x5 + 2).toNatClampNeg) (xs (x5 + 3).toNatClampNeg) res rr hF (fun r0 z => (hr1 r0 z).1) (fun E y z => (hr2 E y z).2)) (vx_cwSW 5 hts gL_law_L_node rfl rfl rfl (by decide +kernel) ⟨Nat.le_of_ble_eq_true rfl, Nat.le_of_ble_eq_true rfl⟩) (jPreSX (hK.sub [0, 2] rfl) hPc hDc hN hU hSN hS hFc) rfl rfl hl.1 rfl (lv_room (Nat.le_of_ble_eq_true rfl)) dL_law_523 ⟨hn, hk⟩) hS (fun q _ h => hFc q h) hFc (fun r' u t H1 locs ht hvm hw hB hz1 hk1 hS => ?_)
  obtain ⟨hrr, hres⟩ := hw
  subst hrr
  obtain ⟨hP1, -, hD1⟩ := hB
  rw [ht] at hP1
  have hu2 : r' = 0 → u 0 = r5.toInt64 := by
    rcases hres with ⟨r0, g1, g2⟩ | ⟨E, g1⟩
    · obtain ⟨-, g3⟩ := hr1 _ g1
      exact fun _ => by rw [g2, g3]
    · obtain ⟨g4, -⟩ := hr2 _ _ g1
      exact fun z => absurd z g4
  have hW1 := hback H1 u S hk1 hFc hP1 hD1
  refine lv_istore (lv' := [(6, .int r'), (0, .ref b), (1, .ref (a 0)), (2, .ref (am 0)), (3, .ref o), (4, .ref o2), (5, .int x5)]) hx hb dL_law_526 hl (by decide) rfl (fun ls hl => ?_)
  refine lv_aload_n hx hb dL_law_528 rfl (lv_at hl 3 rfl) ?_
  refine lv_aload_n hx hb dL_law_529 rfl (lv_at hl 1 rfl) ?_
  refine lv_iload hx hb dL_law_530 (lv_at hl 6 rfl) ?_
  refine lv_iconst (v := (1 : Int32)) hx hb dL_law_532 (by decide) ?_
  refine lv_iadd hx hb dL_law_533 ?_
  refine va_sld hx hb hX hbl hbA hS hin1 dL_law_534 ?_
  refine lv_aload_n hx hb dL_law_535 rfl (lv_at hl 1 rfl) ?_
  refine lv_iload hx hb dL_law_536 (lv_at hl 6 rfl) ?_
  refine lv_iconst (v := (2 : Int32)) hx hb dL_law_538 (by decide) ?_
  refine lv_iadd hx hb dL_law_539 ?_
  refine va_sld hx hb hX hbl hbA hS hin2 dL_law_540 ?_
  refine lv_aload_n hx hb dL_law_541 rfl (lv_at hl 1 rfl) ?_
  refine lv_iload hx hb dL_law_542 (lv_at hl 6 rfl) ?_
  refine lv_iconst (v := (3 : Int32)) hx hb dL_law_544 (by decide) ?_
  refine lv_iadd hx hb dL_law_545 ?_
  refine va_sld hx hb hX hbl hbA hS hin3 dL_law_546 ?_
  obtain ⟨hPm, hDm, hbackm⟩ := hW1.mod
  have hFm := jFreeW (ws := W_Model cI am M) hDm hS hA
  refine va_calli (va_runV (As := [.int (xs (x5 + 1).toNatClampNeg), .int (xs (x5 + 2).toNatClampNeg), .int (xs (x5 + 3).toNatClampNeg)]) (rest := []) ⟨hx, hb, hml, hown, hts⟩ (c_X5_node l dC dI cI am H1.size M (xs (x5 + 1).toNatClampNeg) (xs (x5 + 2).toNatClampNeg) (xs (x5 + 3).toNatClampNeg) r5 M' hG) (cwV 3 hts gL_law_X5_node rfl rfl rfl (by decide +kernel) ⟨Nat.le_of_ble_eq_true rfl, Nat.le_of_ble_eq_true rfl⟩) (jPreV (q := (RX5, TX5, 26)) (ci := 5) (hK.sub [0] rfl) hPm hDm hN rfl rfl) rfl rfl hl.1 rfl (lv_room (Nat.le_of_ble_eq_true rfl)) dL_law_547 ⟨hn, hk⟩) hS (fun q _ h => hFm q h) hFm (fun r2 u2 t2 H2 locs ht2 hvm2 hw2 hB2 hz2 hk2 hS => ?_)
  obtain ⟨hr5, hM5⟩ := hw2
  subst hr5
  subst hM5
  obtain ⟨hP2, -, hD2⟩ := hB2
  rw [ht2] at hP2
  have hW2 := hbackm H2 M' hk2 hFm hP2 hD2
  refine lv_istore (lv' := [(7, .int r5), (6, .int r'), (0, .ref b), (1, .ref (a 0)), (2, .ref (am 0)), (3, .ref o), (4, .ref o2), (5, .int x5)]) hx hb dL_law_550 hl (by decide) rfl (fun ls hl => ?_)
  refine lv_aload_n hx hb dL_law_552 rfl (lv_at hl 4 rfl) ?_
  obtain ⟨hPt, hDt, hbackt⟩ := hW2.mod
  have hFt := jFreeW (ws := W_Model cI am M') hDt hS hA
  refine va_calli (va_runV (As := []) (rest := []) ⟨hx, hb, hml, hown, hts⟩ (c_X5_thrown l dC dI cI am H2.size M' (g_Model_thrown M') rfl) (cwV 0 hts gL_law_X5_thrown rfl rfl rfl (by decide +kernel) ⟨Nat.le_of_ble_eq_true rfl, Nat.le_of_ble_eq_true rfl⟩) (jPreV (q := (RX5, TX5, 26)) (ci := 5) (hK.sub [0] rfl) hPt hDt hN rfl rfl) rfl rfl hl.1 rfl (lv_room (Nat.le_of_ble_eq_true rfl)) dL_law_553 ⟨hn, hk⟩) hS (fun q _ h => hFt q h) hFt (fun r3 u3 t3 H3 locs ht3 hvm3 hw3 hB3 hz3 hk3 hS => ?_)
  subst hw3
  obtain ⟨hP3, -, hD3⟩ := hB3
  rw [ht3] at hP3
  have hW3 := hbackt H3 M' hk3 hFt hP3 hD3
  refine lv_iload hx hb dL_law_556 (lv_at hl 1 rfl) ?_
  refine lv_icmp_eq (tgt := 563) hx hb dL_law_558 (by decide) (fun _ => ?_) (fun c9 => absurd hth c9)
  refine lv_iload hx hb dL_law_563 (lv_at hl 1 rfl) ?_
  refine lv_if_ne (tgt := 580) hx hb dL_law_565 (by decide) (fun _ => ?_) (fun c9 => ?_)
  · refine lv_goto (tgt := 1139) hx hb dL_law_580 (by decide) ?_
    exact KT _ _ _ _ _ _ _ _ _ hI' hW3 hS (lv_sub hl [2, 3, 4, 5, 6, 7] rfl)
  · obtain hu3 := hu2 c9
    refine lv_aload_n hx hb dL_law_568 rfl (lv_at hl 5 rfl) ?_
    refine lv_iconst (v := (0 : Int32)) hx hb dL_law_569 (by decide) ?_
    refine va_lald (D := (dC, dI)) hx hb hK hW3.ol 0 2 rfl rfl (inb_in (show inb 0 1 = true by decide)) dL_law_570 ?_
    refine lv_iload hx hb dL_law_571 (lv_at hl 0 rfl) ?_
    refine lv_i2l (v := r5.toInt64) hx hb dL_law_573 rfl ?_
    refine W.lcmp hx hb dL_law_574 ?_
    refine lv_if_eq (tgt := 580) hx hb dL_law_575 (by decide) (fun _ => ?_) (fun c10 => absurd (by rw [show u (0 : Int32).toNatClampNeg = r5.toInt64 from hu3]; exact lg_cmp_self _) c10)
    refine lv_goto (tgt := 1139) hx hb dL_law_580 (by decide) ?_
    exact KT _ _ _ _ _ _ _ _ _ hI' hW3 hS (lv_sub hl [2, 3, 4, 5, 6, 7] rfl)
