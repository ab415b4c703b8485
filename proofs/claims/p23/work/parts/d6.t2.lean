/-! ===== p23, pure: a document is written ===== -/
theorem ub_all : ∀ u : Fin 256, ∀ l : Fin 8, ((((nI u.val >>> (nI l.val &&& 31)) &&& (1 : Int32)) = 1) ↔ u.val.testBit l.val = true) := by decide +kernel
/-- the letters of the groups that were read -/
def DQ (D : Dc) : Prop := DL D ∧ (∀ v, 0 < v → v < dN D → dK D (dP D v) = 6 → (dU D (dP D v)).testBit (dL D v) = true) ∧ (∀ v, v < dN D → dK D v = 6 → dU D v < 256)
/-- the letter of the value that is to come is taken, and was not before -/
def DQv (D : Dc) (o l : Nat) : Prop := dK D o = 6 → (dU D o).testBit l = true ∧ ∀ w, 0 < w → w < dN D → dP D w = o → dL D w ≠ l
theorem DQ.new {D : Dc} {k : Int32} {o l b dp : Nat} (hA : DA D) (h : DQ D) (hv : DQv D o l) (ho : o < dN D) : DQ (dnew D k o l b dp) := by
  obtain ⟨q1, q2, q3⟩ := h
  have hp : ∀ w, 0 < w → w < dN D → dP D w < dN D := fun w h1 h2 => by
    have := (hA.2.2.2.2.1 w h1 h2).1
    omega
  refine ⟨fun w w' h1 h2 h3 h4 h5 => ?_, fun v h1 h2 h3 => ?_, fun v h1 h2 => ?_⟩
  · have hw : w < dN D := by rw [dN_new] at h3; omega
    rw [dP_old hw] at h4 h5
    rw [dL_old hw]
    rw [dK_old (hp w h1 hw)] at h5
    rcases Nat.lt_or_ge w' (dN D) with z | z
    · rw [dP_old z] at h4
      rw [dL_old z]
      exact q1 w w' h1 h2 z h4 h5
    · obtain rfl : w' = dN D := by rw [dN_new] at h3; omega
      rw [dP_at] at h4
      rw [dL_at]
      rw [h4] at h5
      exact (hv h5).2 w h1 hw h4
  · rcases Nat.lt_or_ge v (dN D) with z | z
    · rw [dP_old z] at h3 ⊢
      rw [dK_old (hp v h1 z)] at h3
      rw [dU_old (hp v h1 z), dL_old z]
      exact q2 v h1 z h3
    · obtain rfl : v = dN D := by rw [dN_new] at h2; omega
      rw [dP_at] at h3 ⊢
      rw [dK_old ho] at h3
      rw [dU_old ho, dL_at]
      exact (hv h3).1
  · rcases Nat.lt_or_ge v (dN D) with z | z
    · rw [dK_old z] at h2
      rw [dU_old z]
      exact q3 v z h2
    · obtain rfl : v = dN D := by rw [dN_new] at h1; omega
      rw [dU_at]; omega
theorem SK.ne {D : Dc} {d : Nat} {os : Nat → Nat} (h : SK D d os) {i j : Nat} (hi : i < j) (hj : j < d) : os i < os j := by
  obtain ⟨j', rfl⟩ : ∃ j', j = j' + 1 := ⟨j - 1, by omega⟩
  have h1 := (h.2.2.2.1 j' hj).2
  have h2 := h.mono (j' - i) i (by omega)
  rw [show i + (j' - i) = j' by omega] at h2
  omega
theorem ub_or {u l i : Nat} : (u ||| 2 ^ l).testBit i = (u.testBit i || decide (l = i)) := by
  rw [Nat.testBit_or, Nat.testBit_two_pow]
/-- the text is at its end -/
def FIN (D : Dc) (V : S_Tree) (st _op _le _ru : Int32) : Prop := DM D V ∧ st = 12
/-- behind a holder's end -/
def CQ (D : Dc) (d : Nat) (os : Nat → Nat) (V : S_Tree) (st op _le _ru : Int32) : Prop := DM D V ∧ ((d = 1 ∧ st = 12) ∨ (1 < d ∧ op = nI (os (d - 1 - 1)) ∧ st = sbv V op (os (d - 1 - 1))))
section TY
variable {D : Dc} {d : Nat} {os : Nat → Nat} {l : Nat}
theorem sbv_at {V : S_Tree} (hM : DM D V) (ho : os (d - 1) < dN D) (hN : dN D ≤ 60) : sbv V (nI (os (d - 1))) (os (d - 1)) = if dK D (os (d - 1)) = 6 then 1 else 4 := by
  unfold sbv
  rw [if_neg (nI_m1 (by omega)), (hM.2 _ ho).1]
theorem close_cl {S : S_LS} {n c : Nat} {fr : Bool} (hR : RS S n (BT D d os fr)) (hn : n < 60) (hS : SK D d os) (hA : DA D) (hd : 0 < d) (hN : dN D ≤ 30) (hc : (dK D (os (d - 1)) = 6 ∧ fr = false ∧ c = 41) ∨ (dK D (os (d - 1)) = 5 ∧ c = 93)) : ∃ r S', okr (F_X4_append S (nI c)) = some (r, S') ∧ RS S' (n + 1) (CQ D d os) ∧ SM S S' := by
  have ho := (hS.2.1 (d - 1) (by omega)).1
  refine hR.step hn (by rcases hc with z | z <;> omega) (by rcases hc with z | z <;> omega) (fun V st op le ru h fw pl => ?_)
  obtain ⟨h1, rfl, h3⟩ := h
  have hsb := sbv_at h1 ho (by omega)
  have htk : F_X1_take (rdr V fw pl st (nI (os (d - 1))) le ru) (nI c) = F_X1_closeValue (rdr V fw pl (if dK D (os (d - 1)) = 6 then 1 else if fr = true then 3 else 4) (nI (os (d - 1))) le ru) := by
    rcases hc with ⟨k6, rfl, rfl⟩ | ⟨k5, rfl⟩
    · rcases h3 with ⟨-, h3⟩ | ⟨h3, -⟩
      · rw [tk_end (n := dN D) (o := os (d - 1)) (by omega) h1.1 (by omega) (Or.inr ⟨rfl, ho⟩) h3 rfl (by omega), hsb, if_pos k6, if_pos k6, t16_1, part_e]
      · exact absurd h3 (by decide)
    · have k6 : ¬ dK D (os (d - 1)) = 6 := by rw [k5]; decide
      rcases h3 with ⟨rfl, h3⟩ | ⟨rfl, rfl⟩
      · rw [tk_end (n := dN D) (o := os (d - 1)) (by omega) h1.1 (by omega) (Or.inr ⟨rfl, ho⟩) h3 rfl (by omega), hsb, if_neg k6, if_neg k6, if_neg (by decide), t16_4, if_pos (show nI 93 = (93 : Int32) from rfl)]
      · rw [tk_plain (by omega) rfl, if_neg k6, if_pos rfl, t16_3]
  have hDM : DM D (tput V (os (d - 1)) 4 pl) := by
    refine ⟨h1.1, fun v hv => ?_⟩
    obtain ⟨a1, a2, a3, a4, a5⟩ := h1.2 v hv
    rw [tc_tput (by omega) (by omega), tc_tput (by omega) (by omega), tc_tput (by omega) (by omega), tc_tput (by omega) (by omega), tc_tput (by omega) (by omega), if_neg (show ¬ (v = os (d - 1) ∧ 0 = 4) by omega), if_neg (show ¬ (v = os (d - 1) ∧ 1 = 4) by omega), if_neg (show ¬ (v = os (d - 1) ∧ 2 = 4) by omega), if_neg (show ¬ (v = os (d - 1) ∧ 5 = 4) by omega), if_neg (show ¬ (v = os (d - 1) ∧ 6 = 4) by omega)]
    exact ⟨a1, a2, a3, a4, a5⟩
  have h5 := (h1.2 _ ho).2.2.2.1
  by_cases z : d = 1
  · have hz : os (d - 1) = 0 := by rw [z]; exact hS.2.2.1 (by omega)
    have hp : pI D (os (d - 1)) = -1 := by unfold pI; rw [if_pos hz]
    have hcl := closeV_ok (V := V) (fw := fw) (pl := pl) (st := (if dK D (os (d - 1)) = 6 then 1 else if fr = true then 3 else 4)) (le := le) (ru := ru) (n := dN D) (o := os (d - 1)) (o' := 0) h1.1 (by omega) ho (h5.trans hp) (Or.inl rfl)
    exact ⟨_, _, _, _, _, ⟨hDM, Or.inl ⟨z, rfl⟩⟩, htk.trans hcl⟩
  · obtain ⟨j, hj⟩ : ∃ j, d = j + 2 := ⟨d - 2, by omega⟩
    have hs2 := hS.2.2.2.1 j (by omega)
    have hj1 : d - 1 = j + 1 := by omega
    have hj2 : d - 1 - 1 = j := by omega
    have hz : os (d - 1) ≠ 0 := by rw [hj1]; omega
    have hp : pI D (os (d - 1)) = nI (os (d - 1 - 1)) := by unfold pI; rw [if_neg hz, hj2, hj1, hs2.1]
    have ho2 : os (d - 1 - 1) < dN D := by rw [hj2]; exact (hS.2.1 j (by omega)).1
    have hcl := closeV_ok (V := V) (fw := fw) (pl := pl) (st := (if dK D (os (d - 1)) = 6 then 1 else if fr = true then 3 else 4)) (le := le) (ru := ru) (n := dN D) (o := os (d - 1)) (o' := os (d - 1 - 1)) h1.1 (by omega) ho (h5.trans hp) (Or.inr ⟨rfl, ho2⟩)
    exact ⟨_, _, _, _, _, ⟨hDM, Or.inr ⟨by omega, rfl, rfl⟩⟩, htk.trans hcl⟩
theorem letter_cl {S : S_LS} {n : Nat} (hR : RS S n (BT D d os false)) (hn : n < 60) (hS : SK D d os) (hd : 0 < d) (hN : dN D ≤ 30) (hk : dK D (os (d - 1)) = 6) (hl : l < 8) (hu : dU D (os (d - 1)) < 256) (hb : (dU D (os (d - 1))).testBit l = false) : ∃ r S', okr (F_X4_append S (nI (65 + l))) = some (r, S') ∧ RS S' (n + 1) (VP (dset D (os (d - 1)) (dU D (os (d - 1)) ||| 2 ^ l)) d os l) ∧ SM S S' := by
  have ho := (hS.2.1 (d - 1) (by omega)).1
  refine hR.step hn (by omega) (by omega) (fun V st op le ru h fw pl => ?_)
  obtain ⟨h1, rfl, h3⟩ := h
  have hsb := sbv_at h1 ho (by omega)
  rw [if_pos hk] at hsb
  have h3' : st = sbv V (nI (os (d - 1))) (os (d - 1)) ∨ pnd st = true := by
    rcases h3 with ⟨-, h3⟩ | ⟨h3, -⟩
    · exact h3
    · exact absurd h3 (by decide)
  have hrow := h1.2 _ ho
  have hdg : dig (65 + l) = false := decide_eq_false (by omega)
  have hp := part_ok (V := V) (fw := fw) (pl := pl) (st := 1) (le := le) (ru := ru) (c := 65 + l) (o := os (d - 1)) (n := dN D) (u := dU D (os (d - 1))) h1.1 (by omega) ho (hrow.2.2.2.2 hk) hu (by omega) (by omega)
  rw [show 65 + l - 65 = l by omega] at hp
  have hx := (ub_all ⟨dU D (os (d - 1)), hu⟩ ⟨l, hl⟩)
  have hx' : (((nI (dU D (os (d - 1))) >>> (nI l &&& 31)) &&& (1 : Int32)) = 1) ↔ (dU D (os (d - 1))).testBit l = true := hx
  have hno : ¬ ((nI (dU D (os (d - 1))) >>> (nI l &&& 31)) &&& (1 : Int32)) = 1 := fun z => by
    rw [hx', hb] at z; exact absurd z (by decide)
  rw [decide_eq_true hno] at hp
  refine ⟨tput V (os (d - 1)) 6 (nI (dU D (os (d - 1)) ||| 2 ^ l)), 2, nI (os (d - 1)), nI l, ru, ⟨⟨h1.1, fun v hv => ?_⟩, rfl, Or.inl rfl, ?_⟩, ?_⟩
  · obtain ⟨a1, a2, a3, a4, a5⟩ := h1.2 v hv
    rw [tc_tput (by omega) (by omega), tc_tput (by omega) (by omega), tc_tput (by omega) (by omega), tc_tput (by omega) (by omega), tc_tput (by omega) (by omega), if_neg (show ¬ (v = os (d - 1) ∧ 0 = 6) by omega), if_neg (show ¬ (v = os (d - 1) ∧ 1 = 6) by omega), if_neg (show ¬ (v = os (d - 1) ∧ 2 = 6) by omega), if_neg (show ¬ (v = os (d - 1) ∧ 5 = 6) by omega)]
    refine ⟨a1, a2, a3, a4, fun k6 => ?_⟩
    show (if v = os (d - 1) ∧ 6 = 6 then _ else _) = nI (if v = os (d - 1) then _ else dU D v)
    by_cases z : v = os (d - 1)
    · rw [if_pos ⟨z, rfl⟩, if_pos z]
    · rw [if_neg (fun w => z w.1), if_neg z]
      exact a5 k6
  · unfold lnx
    rw [if_neg (nI_m1 (by omega)), tc_tput (by omega) (by omega), if_neg (show ¬ (os (d - 1) = os (d - 1) ∧ 0 = 6) by omega), hrow.1, hk, if_neg (by decide)]
  · rw [tk_end (n := dN D) (o := os (d - 1)) (by omega) h1.1 (by omega) (Or.inr ⟨rfl, ho⟩) h3' hdg (by omega), hsb, t16_1]
    exact hp
theorem comma_cl {S : S_LS} {n : Nat} (hR : RS S n (BT D d os false)) (hn : n < 60) (hS : SK D d os) (hd : 0 < d) (hN : dN D ≤ 30) (hk : dK D (os (d - 1)) = 5) : ∃ r S', okr (F_X4_append S 44) = some (r, S') ∧ RS S' (n + 1) (VP D d os 8) ∧ SM S S' := by
  have ho := (hS.2.1 (d - 1) (by omega)).1
  have k6 : ¬ dK D (os (d - 1)) = 6 := by rw [hk]; decide
  refine hR.step (c := 44) hn (by omega) (by omega) (fun V st op le ru h fw pl => ?_)
  obtain ⟨h1, rfl, h3⟩ := h
  have hsb := sbv_at h1 ho (by omega)
  rw [if_neg k6] at hsb
  have h3' : st = sbv V (nI (os (d - 1))) (os (d - 1)) ∨ pnd st = true := by
    rcases h3 with ⟨-, h3⟩ | ⟨h3, -⟩
    · exact h3
    · exact absurd h3 (by decide)
  refine ⟨V, 2, nI (os (d - 1)), le, ru, ⟨h1, rfl, Or.inl rfl, ?_⟩, ?_⟩
  · unfold lnx
    rw [if_neg (nI_m1 (by omega)), (h1.2 _ ho).1, if_pos hk]; rfl
  · rw [tk_end (n := dN D) (o := os (d - 1)) (by omega) h1.1 (by omega) (Or.inr ⟨rfl, ho⟩) h3' rfl (by omega), hsb, t16_4, if_neg (by decide)]
    rfl
theorem fresh_cl {S : S_LS} {n : Nat} (hR : RS S n (BT D d os true)) (hS : SK D d os) (hd : 0 < d) (hN : dN D ≤ 30) (hk : dK D (os (d - 1)) = 5) : RS S n (VP D d os 8) := by
  have ho := (hS.2.1 (d - 1) (by omega)).1
  refine ⟨hR.1, hR.2.weak fun V st op le ru h => ?_⟩
  obtain ⟨h1, rfl, h3⟩ := h
  rcases h3 with ⟨h3, -⟩ | ⟨-, h3⟩
  · exact absurd h3 (by decide)
  · refine ⟨h1, rfl, Or.inr h3, ?_⟩
    unfold lnx
    rw [if_neg (nI_m1 (by omega)), (h1.2 _ ho).1, if_pos hk]; rfl
theorem open_cl {S : S_LS} {n c : Nat} (hR : RS S n (VP D d os l)) (hn : n < 60) (hS : SK D d os) (hd : 0 < d) (hd4 : d < 4) (hN : dN D ≤ 29) (hc : c = 40 ∨ c = 91) : ∃ r S', okr (F_X4_append S (nI c)) = some (r, S') ∧ RS S' (n + 1) (BT (dnew D (ka c) (os (d - 1)) l 0 d) (d + 1) (updo os d (dN D)) (decide (ka c = 5))) ∧ SM S S' := by
  have ho := (hS.2.1 (d - 1) (by omega)).1
  have hka : ka c = 5 ∨ ka c = 6 := by
    rcases hc with rfl | rfl
    · exact Or.inr rfl
    · exact Or.inl rfl
  have hc93 : ¬ nI c = 93 := by rcases hc with rfl | rfl <;> decide
  refine hR.step hn (by omega) (by omega) (fun V st op le ru h fw pl => ?_)
  obtain ⟨h1, rfl, h3, h4⟩ := h
  have hdn := dnx_at h1 hS hd (by omega)
  obtain ⟨V', e1, e2⟩ := take_holder (V := V) (fw := fw) (pl := pl) (st := st) (op := nI (os (d - 1))) (le := le) (ru := ru) (n := dN D) (o := os (d - 1)) (c := c) h1.1 (by omega) (Or.inr ⟨rfl, ho⟩) (by omega) hka (by rw [hdn]; exact nI_lt (b := 4) hd4 (by omega))
  rw [h4, hdn] at e1
  have hDM := h1.new (b := 0) (by omega) e1
  have hup : updo os d (dN D) (d + 1 - 1) = dN D := by
    unfold updo; rw [if_pos (by omega)]
  refine ⟨V', (if ka c = 5 then 3 else 1), nI (dN D), le, 0, ⟨hDM, by rw [hup], ?_⟩, ?_⟩
  · rw [hup]
    rcases hka with z | z
    · rw [z]
      exact Or.inr ⟨rfl, rfl⟩
    · rw [z]
      refine Or.inl ⟨rfl, Or.inl ?_⟩
      unfold sbv
      rw [if_neg (nI_m1 (by omega)), e1.2.2.1, z, if_pos rfl, if_neg (by decide)]
  · rw [tk_plain (by omega) (by rcases h3 with z | z <;> rw [z] <;> rfl)]
    rcases h3 with z | z
    · rw [z, t16_2]
      rw [z] at e2; exact e2
    · rw [z, t16_3v hc93]
      rw [z] at e2; exact e2
end TY
