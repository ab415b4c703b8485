/-! ===== pure: a step of both, all cases ===== -/
section GOES
variable {S : S_Model} {C : Nat → Int32} {t : Nat → Nat} {N : Nat} {q : Int32} {D : Dc} {i d : Nat} {os : Nat → Nat}
theorem t16_1 {V : S_Tree} {v fw pl op le ru : Int32} : F_X1_take_16 v (rdr V fw pl 1 op le ru) = F_X1_takePart (rdr V fw pl 1 op le ru) v := by
  have hid : ∀ X : Option (Bool × S_Reader), (ob2 X fun r u => some (r, u)) = X := fun X => by cases X <;> rfl
  unfold F_X1_take_16
  show (if (1 : Int32) = 0 then _ else if (1 : Int32) = 1 then _ else _) = _
  rw [if_neg (by decide), if_pos rfl]
  exact hid _
theorem t16_3 {V : S_Tree} {fw pl op le ru : Int32} : F_X1_take_16 (nI 93) (rdr V fw pl 3 op le ru) = F_X1_closeValue (rdr V fw pl 3 op le ru) := by
  have hid : ∀ X : Option (Bool × S_Reader), (ob2 X fun r u => some (r, u)) = X := fun X => by cases X <;> rfl
  unfold F_X1_take_16
  show (if (3 : Int32) = 0 then _ else if (3 : Int32) = 1 then _ else if (3 : Int32) = 2 then _ else if (3 : Int32) = 3 then _ else _) = _
  rw [if_neg (by decide), if_neg (by decide), if_neg (by decide), if_pos rfl, if_pos (show nI 93 = (93 : Int32) from rfl)]
  exact hid _
theorem t16_4 {V : S_Tree} {v fw pl op le ru : Int32} : F_X1_take_16 v (rdr V fw pl 4 op le ru) = if v = 93 then F_X1_closeValue (rdr V fw pl 4 op le ru) else F_X1_takeComma (rdr V fw pl 4 op le ru) v := by
  have hid : ∀ X : Option (Bool × S_Reader), (ob2 X fun r u => some (r, u)) = X := fun X => by cases X <;> rfl
  unfold F_X1_take_16
  show (if (4 : Int32) = 0 then _ else if (4 : Int32) = 1 then _ else if (4 : Int32) = 2 then _ else if (4 : Int32) = 3 then _ else if (4 : Int32) = 4 then _ else _) = _
  rw [if_neg (by decide), if_neg (by decide), if_neg (by decide), if_neg (by decide), if_pos rfl]
  by_cases z : v = 93
  · rw [if_pos z, if_pos z]; exact hid _
  · rw [if_neg z, if_neg z]; exact hid _
theorem part_no {R : S_Reader} {c : Nat} (hc : c < 128) (h1 : c ≠ 41) (h2 : ¬ (65 ≤ c ∧ c ≤ 72)) : F_X1_takePart R (nI c) = some (false, R) := by
  unfold F_X1_takePart
  rw [ifc (K := (41 : Int32)) (k := 41) rfl hc (by omega), if_neg h1]
  by_cases z : c < 65
  · rw [if_pos (show nI c < (65 : Int32) from nI_lt (a := c) (b := 65) z (by omega))]
  · rw [if_neg (show ¬ nI c < (65 : Int32) from nI_nlt (a := c) (b := 65) (by omega) (by omega)), if_neg (show ¬ nI c < (73 : Int32) from nI_nlt (a := c) (b := 73) (by omega) (by omega))]
theorem part_e {V : S_Tree} {fw pl st op le ru : Int32} : F_X1_takePart (rdr V fw pl st op le ru) (nI 41) = F_X1_closeValue (rdr V fw pl st op le ru) := by
  have hid : ∀ X : Option (Bool × S_Reader), (ob2 X fun r u => some (r, u)) = X := fun X => by cases X <;> rfl
  unfold F_X1_takePart
  rw [if_pos (show nI 41 = (41 : Int32) from rfl)]
  exact hid _
theorem part_ok {V : S_Tree} {fw pl st le ru : Int32} {c o n u : Nat} (hs : g_Tree_size V = nI n) (hn : n ≤ 64) (ho : o < n) (h6 : tc V o 6 = nI u) (hu : u < 256) (h1 : 65 ≤ c) (h2 : c ≤ 72) :
    F_X1_takePart (rdr V fw pl st (nI o) le ru) (nI c) = some (decide (¬ ((nI u >>> (nI (c - 65) &&& 31)) &&& (1 : Int32)) = 1), rdr (tput V o 6 (nI (u ||| 2 ^ (c - 65)))) fw pl 2 (nI o) (nI (c - 65)) ru) := by
  obtain ⟨b1, b2, b3⟩ := bit_all ⟨u, hu⟩ ⟨c - 65, by omega⟩
  have b1' : (nI u ||| ((1 : Int32) <<< (nI (c - 65) &&& 31))) = nI (u ||| 2 ^ (c - 65)) := b1
  have b3' : ((nI u &&& ((1 : Int32) <<< (nI (c - 65) &&& 31))) = 0) ↔ ¬ ((nI u >>> (nI (c - 65) &&& 31)) &&& (1 : Int32)) = 1 := b3
  unfold F_X1_takePart
  rw [ifc (K := (41 : Int32)) (k := 41) rfl (by omega) (by omega), if_neg (by omega), if_neg (show ¬ nI c < (65 : Int32) from nI_nlt (a := c) (b := 65) (by omega) (by omega)), if_pos (show nI c < (73 : Int32) from nI_lt (a := c) (b := 73) (by omega) (by omega)), show g_Reader_values (rdr V fw pl st (nI o) le ru) = V from rfl, show g_Reader_open (rdr V fw pl st (nI o) le ru) = nI o from rfl, ob1_s (get_6 o hs hn ho), h6, show nI c - 65 = nI (c - 65) from nI_sub (b := 65) (by omega), ob1_s (put_6 o hs hn ho), b1']
  by_cases z : (nI u &&& ((1 : Int32) <<< (nI (c - 65) &&& 31))) = 0
  · rw [if_pos z, decide_eq_true (b3'.mp z)]; rfl
  · rw [if_neg z, decide_eq_false (fun y => z (b3'.mpr y))]; rfl
theorem goes_ok {fr : Bool} {M : S_Model} {R : S_Reader} (hC : CX C t N) (hT : TX S N t) (h : AT S N t q D i d os fr M R) (hd : 0 < d) : STEP S C t N q R i (F_X5_goesOn M) := by
  obtain ⟨V, K, U, L, B, E, W, O, x, pl, st, op, le, ru, rfl, rfl, hJ, h0, hc⟩ := h
  obtain ⟨hop, hf1, hf2⟩ := hc hd
  subst hop
  have hJ' := hJ
  obtain ⟨j1, j2, j3, j4, j5, j6, j7, j8, j9, j10⟩ := hJ'
  have h60 := hC.1
  have ho := j1.2.1 (d - 1) (by omega)
  have h4 := j1.1
  have hn : dN D ≤ 32 := by split at j9 <;> omega
  have hn0 : 0 < dN D := by have := j2.1; omega
  have hm : ¬ nI (os (d - 1)) = -1 := nI_m1 (by omega)
  have hK : K (os (d - 1)) = dK D (os (d - 1)) := (j4.2 _ ho.1).2.2.2.2.2.1
  have hV0 : tc V (os (d - 1)) 0 = dK D (os (d - 1)) := (j4.2 _ ho.1).1
  have hid : ∀ X : Option (Bool × S_Model), (ob2 X fun r u => some (r, u)) = X := fun X => by cases X <;> rfl
  unfold F_X5_goesOn
  rw [pmv_deep, show nI d - 1 = nI (d - 1) from nI_sub (b := 1) (by omega), og_t (inb_nI (by omega) (by omega)), pmv_open, nI_clamp (by omega), j5 (d - 1) (by omega), og_t (inb_nI (by omega) (by omega)), nI_clamp (by omega), pmv_kinds, hK]
  rcases ho.2.1 with hk | hk
  · -- a row
    have hk6 : ¬ dK D (os (d - 1)) = 6 := by rw [hk]; decide
    have hsb : sbv V (nI (os (d - 1))) (os (d - 1)) = 4 := by unfold sbv; rw [if_neg hm, hV0, if_neg hk6]
    have hWo := j6 (d - 1) (by omega) hk
    have hl8 : ∀ V' : S_Tree, tc V' (os (d - 1)) 0 = dK D (os (d - 1)) → nI 8 = lnx V' (nI (os (d - 1))) (os (d - 1)) le := by
      intro V' hV'
      unfold lnx
      rw [if_neg hm, hV', if_pos hk]; rfl
    have hW' : ∀ j, j < d → dK D (os j) = 5 → upd W (os (d - 1)) 1 (os j) = 1 := by
      intro j hj hkj
      by_cases z : os j = os (d - 1)
      · rw [z, upd_at]
      · rw [upd_ne z, j6 j hj hkj, if_neg]
        rintro ⟨y, _⟩
        exact z (by congr 1; omega)
    rw [if_neg hk6, ob1_s (isAt_ok hT (l := 93) (h := 93) (lo := (93 : Int32)) (hi := (93 : Int32)) rfl rfl (by omega) (by omega) j10), isin_c]
    by_cases z : i < N ∧ t i = 93
    · rw [decide_eq_true z, b2i_t, if_neg one_ne0, hid]
      refine close_at hC hJ hd z.1 ?_
      rw [if_neg hk6]
      cases fr with
      | true =>
        rw [if_pos rfl, hf1 rfl, z.2]
        unfold F_X1_take
        rw [ob1_s (ends_ok (by omega)), show pnd 3 = false from rfl, Bool.false_and, Bool.false_and, b2i_f, if_pos rfl]
        exact t16_3
      | false =>
        rw [if_neg (by decide), take_b hC j4.1 (by omega) (Or.inr ⟨rfl, ho.1⟩) (hf2 rfl) z.1 (Or.inl (by rw [z.2]; decide)), hsb, t16_4, z.2, if_pos (show nI 93 = (93 : Int32) from rfl)]
    · rw [decide_eq_false z, b2i_f, if_pos rfl, og_t (inb_nI (by omega) (by omega)), pmv_used]
      cases fr with
      | true =>
        have hw : W (os (d - 1)) = 0 := by rw [hWo, if_pos ⟨by omega, rfl⟩]
        rw [hw, if_neg (by decide), og_t (inb_nI (by omega) (by omega)), pmv_s_used, hid]
        rw [if_pos rfl] at j9
        exact val_at (lt := 8) hC hT j1 j2 j3 (j4.row hk 1) j5 hW' j8 hd (by rw [if_pos rfl]; omega) (Or.inr ⟨hk, rfl⟩) (hl8 V hV0) (by omega) j10 (Or.inr ⟨hf1 rfl, fun a b => z ⟨a, b⟩⟩)
      | false =>
        rw [if_neg (by decide)] at j9
        have hw : W (os (d - 1)) = 1 := by rw [hWo, if_neg (by rintro ⟨_, y⟩; exact absurd y (by decide))]
        rw [hw, if_pos rfl, ob2_s (isSign_ok hT (c := 44) (sg := (44 : Int32)) rfl (by omega) j10), isin_c]
        by_cases y : i < N ∧ t i = 44
        · rw [decide_eq_true y, if_pos (show true = true from rfl), b2i_t, if_neg one_ne0, og_t (inb_nI (by omega) (by omega)), pmv_used, pmv_s_used, hid]
          refine STEP.run (go1 hC y.1 (R' := rdr V (nI N) (nI i) 2 (nI (os (d - 1))) le ru) ?_) (by omega) (val_at (lt := 8) hC hT j1 j2 j3 (j4.row hk 1) j5 hW' j8 hd (by rw [if_pos rfl]; omega) (Or.inr ⟨hk, rfl⟩) (hl8 V hV0) (by omega) (by omega) (Or.inl rfl))
          rw [take_b hC j4.1 (by omega) (Or.inr ⟨rfl, ho.1⟩) (hf2 rfl) y.1 (Or.inl (by rw [y.2]; decide)), hsb, t16_4, y.2, if_neg (by decide)]
          rfl
        · rw [decide_eq_false y, if_neg (show ¬ false = true by decide), b2i_f, if_pos rfl, ob2_s (stops_ok hT j10)]
          refine Or.inl ⟨i, _, Nat.le_refl _, j10, rfl, ⟨_, _, _, _, _, _, _, _, _, _, rfl⟩, stop_b hC j4.1 hn0 (by omega) rfl ho.1 (hf2 rfl) j10 fun a => ?_⟩
          have hcc := (hC.2 i a).2
          rw [hsb, t16_4, ifc (K := (93 : Int32)) (k := 93) rfl hcc (by omega), if_neg (fun b => z ⟨a, b⟩)]
          unfold F_X1_takeComma
          rw [ifc (K := (44 : Int32)) (k := 44) rfl hcc (by omega), if_neg (fun b => y ⟨a, b⟩)]
          exact ⟨_, rfl⟩
  · -- a group
    have hfr : fr = false := by
      cases fr with
      | true => exact absurd ((j7 rfl).2) (by rw [hk]; decide)
      | false => rfl
    subst hfr
    rw [if_neg (by decide)] at j9
    have hsb : sbv V (nI (os (d - 1))) (os (d - 1)) = 1 := by unfold sbv; rw [if_neg hm, hV0, if_pos hk]
    obtain ⟨g1, g2, g3⟩ := (j4.2 _ ho.1).2.2.2.2.2.2.2.2.2 hk
    have hu := j3.2.2.1 _ ho.1 hk
    rw [if_pos hk, ob1_s (isAt_ok hT (l := 41) (h := 41) (lo := (41 : Int32)) (hi := (41 : Int32)) rfl rfl (by omega) (by omega) j10), isin_c]
    by_cases z : i < N ∧ t i = 41
    · rw [decide_eq_true z, b2i_t, if_neg one_ne0, hid]
      refine close_at hC hJ hd z.1 ?_
      rw [if_pos hk, take_b hC j4.1 (by omega) (Or.inr ⟨rfl, ho.1⟩) (hf2 rfl) z.1 (Or.inl (by rw [z.2]; decide)), hsb, t16_1, z.2, part_e]
    · rw [decide_eq_false z, b2i_f, if_pos rfl, ob1_s (isAt_ok hT (l := 65) (h := 72) (lo := (65 : Int32)) (hi := (72 : Int32)) rfl rfl (by omega) (by omega) j10), isin_cap]
      by_cases y : i < N ∧ 65 ≤ t i ∧ t i ≤ 72
      · obtain ⟨y1, y2, y3⟩ := y
        have hcc := (hC.2 i y1).2
        rw [decide_eq_true ⟨y1, y2, y3⟩, b2i_t, if_neg one_ne0, og_t (inb_nI (by omega) (by omega)), pmv_at, og_t (inb_nI (by omega) (by omega)), pmv_used, pmv_text, nI_clamp (by omega), (hT.2.2 i y1).1, show nI (t i) - 65 = nI (t i - 65) from nI_sub (b := 65) (by omega), g2]
        have hpart := fun pl ru => part_ok (fw := nI N) (pl := pl) (st := 1) (le := le) (ru := ru) j4.1 (by omega) ho.1 g1 hu y2 y3
        have htk : F_X1_take (rdr V (nI N) (nI i) st (nI (os (d - 1))) le ru) (nI (t i)) = F_X1_takePart (rdr V (nI N) (nI i) 1 (nI (os (d - 1))) le ru) (nI (t i)) := by
          rw [take_b hC j4.1 (by omega) (Or.inr ⟨rfl, ho.1⟩) (hf2 rfl) y1 (Or.inl (by
            rintro (w | w)
            · have := dig_of w; omega
            · omega)), hsb, t16_1]
        by_cases w : ((nI (dU D (os (d - 1))) >>> (nI (t i - 65) &&& 31)) &&& (1 : Int32)) = 1
        · rw [if_pos w, ob2_s (stops_ok hT j10)]
          refine Or.inl ⟨i, _, Nat.le_refl _, j10, rfl, ⟨_, _, _, _, _, _, _, _, _, _, rfl⟩, stop_b hC j4.1 hn0 (by omega) rfl ho.1 (hf2 rfl) j10 fun a => ?_⟩
          rw [hsb, t16_1, hpart, decide_eq_false (fun b => b w)]
          exact ⟨_, rfl⟩
        · obtain ⟨b1, b2, b3⟩ := bit_all ⟨dU D (os (d - 1)), hu⟩ ⟨t i - 65, by omega⟩
          have b1' : (nI (dU D (os (d - 1))) ||| ((1 : Int32) <<< (nI (t i - 65) &&& 31))) = nI (dU D (os (d - 1)) ||| 2 ^ (t i - 65)) := b1
          have b2' : dU D (os (d - 1)) ||| 2 ^ (t i - 65) < 256 := b2
          rw [if_neg w, og_t (inb_nI (by omega) (by omega)), og_t (inb_nI (by omega) (by omega)), og_t (inb_nI (by omega) (by omega)), hid, b1', pmv_s_used, nI_1, pmv_s_at]
          have hr : RUN C N (rdr V (nI N) pl st (nI (os (d - 1))) le ru) i (rdr (tput V (os (d - 1)) 6 (nI (dU D (os (d - 1)) ||| 2 ^ (t i - 65)))) (nI N) (nI i) 2 (nI (os (d - 1))) (nI (t i - 65)) ru) (i + 1) := by
            refine go1 hC y1 ?_
            rw [htk, hpart, decide_eq_true w]
          have hd0 : tc (tput V (os (d - 1)) 6 (nI (dU D (os (d - 1)) ||| 2 ^ (t i - 65)))) (os (d - 1)) 0 = 6 := by rw [tc_tput (by omega) (by omega), if_neg (by omega), hV0, hk]
          refine STEP.run hr (by omega) (val_at (D := dset D (os (d - 1)) (dU D (os (d - 1)) ||| 2 ^ (t i - 65))) (lt := t i - 65) hC hT j1 j2 (j3.set b2') j4.set j5 (fun j hj hkj => ?_) j8 hd ?_ (Or.inl ⟨hk, by omega⟩) ?_ ?_ (by omega) (Or.inl rfl))
          · have hkj' : dK D (os j) = 5 := hkj
            have hne : os j ≠ os (d - 1) := fun e => by rw [e, hk] at hkj'; exact absurd hkj' (by decide)
            rw [upd_ne hne, j6 j hj hkj', if_neg (by rintro ⟨_, e⟩; exact absurd e (by decide))]
          · rw [if_neg (by omega)]; omega
          · unfold lnx
            rw [if_neg hm, hd0, if_neg (by decide)]
          · show 2 * dN D + 1 ≤ i + 1 + d
            omega
      · rw [decide_eq_false y, b2i_f, if_pos rfl, ob2_s (stops_ok hT j10)]
        refine Or.inl ⟨i, _, Nat.le_refl _, j10, rfl, ⟨_, _, _, _, _, _, _, _, _, _, rfl⟩, stop_b hC j4.1 hn0 (by omega) rfl ho.1 (hf2 rfl) j10 fun a => ?_⟩
        rw [hsb, t16_1, part_no (hC.2 i a).2 (fun b => z ⟨a, b⟩) (fun b => y ⟨a, b⟩)]
        exact ⟨_, rfl⟩
end GOES
