/-! ===== the law: its loop ===== -/
theorem sw20 (w : Int32) : (w.toInt < 0 ∨ 19 < w.toInt) ∨ ∃ j : Nat, j < 20 ∧ w = nI j := by
  rcases Int.lt_or_le w.toInt 0 with h | h
  · exact Or.inl (Or.inl h)
  · rcases Int.lt_or_le 19 w.toInt with h2 | h2
    · exact Or.inl (Or.inr h2)
    · refine Or.inr ⟨w.toInt.toNat, by omega, ?_⟩
      rw [← Int32.toInt_inj, nI_toInt (by omega)]
      omega
theorem nI_sub4 {L : Nat} (h : L < 2 ^ 30) : (nI L - 4).toInt = (L : Int) - 4 := by
  rcases Nat.lt_or_ge L 4 with z | z
  · rcases (show L = 0 ∨ L = 1 ∨ L = 2 ∨ L = 3 by omega) with rfl | rfl | rfl | rfl <;> rfl
  · rw [show (4 : Int32) = nI 4 from rfl, nI_sub z, nI_toInt (by omega)]
    omega
theorem tail_in {L i j : Nat} (hL : L ≤ 2048) (h : 4 * i + 4 ≤ L) (hj : j < 4) : vp_in (nI (4 * i) + nI j) L := by
  rw [nI_add]
  exact inb_in (inb_nI (by omega) (by omega))
set_option maxHeartbeats 4000000 in
set_option maxRecDepth 100000 in
theorem law_loop {p : Program} {l : Launch} {e : Env} {s : State} {m : MethodId} {below : List Frame} {meth : Method} {c : Code} {dC : Nat → ClassId} {dI : Nat → Nat → Nat} {cI cS cL cD : ClassId} {b L : Nat} {xs : Nat → Int32} (C0 : LCX p l s m c dC dI cI cS cL cD b L xs) (hL : L ≤ 2048) {a am : Nat → Nat} {o o2 : Nat} {Q : State → Prop} (KE : ∀ (H : Heap) (locs : List Loc) (n k : Nat) (ls : Array Slot), va_S (fun q : Nat => s.heap.size ≤ q) s.heap H locs → n ≤ 601024 → k ≤ 7293033 → W p l e room_1 s m #[Value.ref b] below meth c H locs n k Q (F0 m 1145 ls [])) :
    ∀ (g i : Nat) (f : Nat → Int64) (f2 : Nat → UInt64) (q : Nat → Nat → Nat) (S : S_LS) (Z : Nat → S_State) (M : S_Model) (H : Heap) (locs : List Loc) (ls : Array Slot), L - 4 * i < g → 4 * i ≤ L → INV S Z M → LWP (dC, dI) cI cS cL cD a am o o2 (fun q : Nat => s.heap.size ≤ q) f f2 q S Z M H → va_S (fun q : Nat => s.heap.size ≤ q) s.heap H locs → lv_has ls 9 [(0, .ref b), (1, .ref (a 0)), (2, .ref (am 0)), (3, .ref o), (4, .ref o2), (5, .int (nI (4 * i)))] → W p l e room_1 s m #[Value.ref b] below meth c H locs (60 + i) (13500 + 6 * i) Q (F0 m 28 ls []) := by
  have C1 := C0
  obtain ⟨hx, hb, hml, hown, hts, hX, hbl, hK, hN, hU, hSN, hl0⟩ := C1
  have hA : ∀ q : Nat, s.heap.size ≤ q → (fun q : Nat => s.heap.size ≤ q) q := fun _ h => h
  have hbA : ¬ (fun q : Nat => s.heap.size ≤ q) b := Nat.not_le.mpr hbl
  intro g
  induction g with
  | zero => intro i f f2 q S Z M H locs ls h; omega
  | succ g ihr =>
    intro i f f2 q S Z M H locs ls h1 h2 hI hW hS hl
    refine lv_iload hx hb dL_law_28 (lv_at hl 5 rfl) ?_
    refine lv_aload_n hx hb dL_law_30 rfl (lv_at hl 0 rfl) ?_
    refine va_slen hx hb hX hbl hbA hS dL_law_31 ?_
    refine lv_iconst (v := (4 : Int32)) hx hb dL_law_32 (by decide) ?_
    refine lv_isub hx hb dL_law_33 ?_
    refine lv_icmp_gt (tgt := 1145) hx hb dL_law_34 (by decide) (fun _ => ?_) (fun c1 => ?_)
    · exact KE _ _ _ _ _ hS (by omega) (by omega)
    · have h4 : 4 * i + 4 ≤ L := by
        rcases Nat.lt_or_ge L (4 * i + 4) with z | z
        · refine absurd ?_ c1
          show nI L - 4 < nI (4 * i)
          rw [Int32.lt_iff_toInt_lt, nI_sub4 (by omega), nI_toInt (by omega)]
          omega
        · exact z
      have hin0 : vp_in (nI (4 * i)) L := inb_in (inb_nI (by omega) (by omega))
      have hin1 : vp_in (nI (4 * i) + 1) L := tail_in (j := 1) hL h4 (by omega)
      have hin2 : vp_in (nI (4 * i) + 2) L := tail_in (j := 2) hL h4 (by omega)
      have hin3 : vp_in (nI (4 * i) + 3) L := tail_in (j := 3) hL h4 (by omega)
      have KT : ∀ (f : Nat → Int64) (f2 : Nat → UInt64) (q : Nat → Nat → Nat) (S : S_LS) (Z : Nat → S_State) (M : S_Model) (H : Heap) (locs : List Loc) (ls : Array Slot), INV S Z M → LWP (dC, dI) cI cS cL cD a am o o2 (fun q : Nat => s.heap.size ≤ q) f f2 q S Z M H → va_S (fun q : Nat => s.heap.size ≤ q) s.heap H locs → lv_has ls 9 [(0, .ref b), (1, .ref (a 0)), (2, .ref (am 0)), (3, .ref o), (4, .ref o2), (5, .int (nI (4 * i)))] → W p l e room_1 s m #[Value.ref b] below meth c H locs (60 + i + 1) (13500 + 6 * i + 6) Q (F0 m 1139 ls []) := by
        intro f f2 q S Z M H locs ls hI hW hS hl
        refine lv_iinc (v := nI (4 * (i + 1))) (lv' := [(5, .int (nI (4 * (i + 1)))), (0, .ref b), (1, .ref (a 0)), (2, .ref (am 0)), (3, .ref o), (4, .ref o2)]) hx hb dL_law_1139 hl (k := 5) rfl (by rw [show Int32.ofInt 4 = nI 4 from rfl, nI_add]; rfl) (by decide) rfl (fun ls hl => ?_)
        refine lv_goto (tgt := 28) hx hb dL_law_1142 (by decide) ?_
        refine W.widen (k := 60 + (i + 1)) (n := 13500 + 6 * (i + 1)) (by omega) (by omega) ?_
        exact ihr (i + 1) f f2 q S Z M H locs ls (by omega) (by omega) hI hW hS (lv_sub hl [1, 2, 3, 4, 5, 0] rfl)
      refine lv_aload_n hx hb dL_law_37 rfl (lv_at hl 0 rfl) ?_
      refine lv_iload hx hb dL_law_38 (lv_at hl 5 rfl) ?_
      refine va_sld hx hb hX hbl hbA hS hin0 dL_law_40 ?_
      refine lv_bipush (v := (31 : Int32)) hx hb dL_law_41 (by decide) ?_
      refine lv_iand hx hb dL_law_43 ?_
      refine lv_topi (fun w _ => ?_)
      rcases sw20 w with hw | ⟨j, hj, rfl⟩
      · refine lv_tableOut (tgt := 1139) hx hb dL_law_44 hw (by decide) ?_
        refine W.widen (k := 60 + i + 1) (n := 13500 + 6 * i + 6) (by omega) (by omega) ?_
        exact KT _ _ _ _ _ _ _ _ _ hI hW hS hl
      · rcases (show j = 0 ∨ j = 1 ∨ j = 2 ∨ j = 3 ∨ j = 4 ∨ j = 5 ∨ j = 6 ∨ j = 7 ∨ j = 8 ∨ j = 9 ∨ j = 10 ∨ j = 11 ∨ j = 12 ∨ j = 13 ∨ j = 14 ∨ j = 15 ∨ j = 16 ∨ j = 17 ∨ j = 18 ∨ j = 19 by omega) with rfl | rfl | rfl | rfl | rfl | rfl | rfl | rfl | rfl | rfl | rfl | rfl | rfl | rfl | rfl | rfl | rfl | rfl | rfl | rfl
        · exact lv_tableIn (off := 96) (tgt := 140) hx hb dL_law_44 (by decide) (by decide) rfl (by decide) (law_learn C0 hI hW hS hl hin1 hin2 hin3 (by omega) (by omega) KT)
        · exact lv_tableIn (off := 152) (tgt := 196) hx hb dL_law_44 (by decide) (by decide) rfl (by decide) (law_join C0 hI hW hS hl hin1 hin2 hin3 (by omega) (by omega) KT)
        · exact lv_tableIn (off := 208) (tgt := 252) hx hb dL_law_44 (by decide) (by decide) rfl (by decide) (law_forget C0 hI hW hS hl hin1 hin2 hin3 (by omega) (by omega) KT)
        · exact lv_tableIn (off := 264) (tgt := 308) hx hb dL_law_44 (by decide) (by decide) rfl (by decide) (law_swap C0 hI hW hS hl hin1 hin2 hin3 (by omega) (by omega) KT)
        · exact lv_tableIn (off := 277) (tgt := 321) hx hb dL_law_44 (by decide) (by decide) rfl (by decide) (law_set C0 hI hW hS hl hin1 hin2 hin3 (by omega) (by omega) KT)
        · exact lv_tableIn (off := 333) (tgt := 377) hx hb dL_law_44 (by decide) (by decide) rfl (by decide) (law_append C0 hI hW hS hl hin1 hin2 hin3 (by omega) (by omega) KT)
        · exact lv_tableIn (off := 389) (tgt := 433) hx hb dL_law_44 (by decide) (by decide) rfl (by decide) (law_clearBuffer C0 hI hW hS hl hin1 hin2 hin3 (by omega) (by omega) KT)
        · exact lv_tableIn (off := 402) (tgt := 446) hx hb dL_law_44 (by decide) (by decide) rfl (by decide) (law_firstError C0 hI hW hS hl hin1 hin2 hin3 (by omega) (by omega) KT)
        · exact lv_tableIn (off := 415) (tgt := 459) hx hb dL_law_44 (by decide) (by decide) rfl (by decide) (law_undo C0 hI hW hS hl hin1 hin2 hin3 (by omega) (by omega) KT)
        · exact lv_tableIn (off := 459) (tgt := 503) hx hb dL_law_44 (by decide) (by decide) rfl (by decide) (law_node C0 hI hW hS hl hin1 hin2 hin3 (by omega) (by omega) KT)
        · exact lv_tableIn (off := 539) (tgt := 583) hx hb dL_law_44 (by decide) (by decide) rfl (by decide) (law_child C0 hI hW hS hl hin1 hin2 hin3 (by omega) (by omega) KT)
        · exact lv_tableIn (off := 619) (tgt := 663) hx hb dL_law_44 (by decide) (by decide) rfl (by decide) (law_shape C0 hI hW hS hl hin1 hin2 hin3 (by omega) (by omega) KT)
        · exact lv_tableIn (off := 687) (tgt := 731) hx hb dL_law_44 (by decide) (by decide) rfl (by decide) (law_document C0 hI hW hS hl hin1 hin2 hin3 (by omega) (by omega) KT)
        · exact lv_tableIn (off := 743) (tgt := 787) hx hb dL_law_44 (by decide) (by decide) rfl (by decide) (law_count C0 hI hW hS hl hin1 hin2 hin3 (by omega) (by omega) KT)
        · exact lv_tableIn (off := 799) (tgt := 843) hx hb dL_law_44 (by decide) (by decide) rfl (by decide) (law_fits C0 hI hW hS hl hin1 hin2 hin3 (by omega) (by omega) KT)
        · exact lv_tableIn (off := 867) (tgt := 911) hx hb dL_law_44 (by decide) (by decide) rfl (by decide) (law_ifLearned C0 hI hW hS hl hin1 hin2 hin3 (by omega) (by omega) KT)
        · exact lv_tableIn (off := 935) (tgt := 979) hx hb dL_law_44 (by decide) (by decide) rfl (by decide) (law_covers C0 hI hW hS hl hin1 hin2 hin3 (by omega) (by omega) KT)
        · exact lv_tableIn (off := 991) (tgt := 1035) hx hb dL_law_44 (by decide) (by decide) rfl (by decide) (law_ifJoined C0 hI hW hS hl hin1 hin2 hin3 (by omega) (by omega) KT)
        · exact lv_tableIn (off := 1004) (tgt := 1048) hx hb dL_law_44 (by decide) (by decide) rfl (by decide) (law_sureShare C0 hI hW hS hl hin1 hin2 hin3 (by omega) (by omega) KT)
        · exact lv_tableIn (off := 1081) (tgt := 1125) hx hb dL_law_44 (by decide) (by decide) rfl (by decide) (law_digest C0 hI hW hS hl hin1 hin2 hin3 (by omega) (by omega) KT)
