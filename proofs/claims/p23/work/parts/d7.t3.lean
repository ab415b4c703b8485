/-! ===== p23, pure: the loop that writes a document ===== -/
/-- the law's bits: which open holders are rows, which letters are used -/
def BI (D : Dc) (d : Nat) (os : Nat → Nat) (x4 x5 : Int32) : Prop := (∀ j, j < d → bt x5 (j + 1) = decide (dK D (os j) = 5)) ∧ (∀ j, j < d → dK D (os j) = 6 → ∀ l, l < 4 → (dU D (os j)).testBit l = bt x4 (4 * j + l))
/-- at the head of the loop -/
def TI (S : S_LS) (n : Nat) (D : Dc) (d : Nat) (os : Nat → Nat) (fr : Bool) (x4 x5 x6 : Int32) (s : Nat) : Prop := RS S n (BT D d os fr) ∧ 0 < d ∧ SK D d os ∧ DA D ∧ DQ D ∧ dN D ≤ s + 1 ∧ n ≤ 1 + 5 * s ∧ (fr = true → dK D (os (d - 1)) = 5) ∧ BI D d os x4 x5 ∧ ∀ j, j < d → dK D (os j) = 5 → bt x6 (j + 1) = !(decide (j + 1 = d) && fr)
/-- how it ends -/
def Res (X : Option (Int32 × S_LS)) (S : S_LS) : Prop := ∃ r S' n' D', X = some (r, S') ∧ RS S' n' (FIN D') ∧ n' ≤ 60 ∧ DA D' ∧ DQ D' ∧ dN D' ≤ 12 ∧ SM S S'
theorem Res.trans {X : Option (Int32 × S_LS)} {S S1 : S_LS} (h : Res X S1) (h2 : SM S S1) : Res X S := by
  obtain ⟨r, S', n', D', a1, a2, a3, a4, a5, a6, a7⟩ := h
  exact ⟨r, S', n', D', a1, a2, a3, a4, a5, a6, h2.trans a7⟩
/-- what the loop goes on with -/
def KK (k38 : S_LS → Int32 → Int32 → Int32 → Int32 → Int32 → Int32 → Int32 → Option (Int32 × S_LS)) (t8 : Int32) (s : Nat) : Prop := ∀ S n D d os fr x4 x5 x6 x7, TI S n D d os fr x4 x5 x6 s → Res (k38 S (nI d) x4 x5 x6 x7 t8 (nI s)) S
theorem bn_0 (l : Nat) : (0 : Nat).testBit l = false := Nat.zero_testBit l
theorem f4 {d : Nat} (h : 0 < d) (l : Nat) : nI l + (4 : Int32) * (nI d - 1) = nI (l + 4 * (d - 1)) := by
  rw [show nI d - 1 = nI (d - 1) from nI_sub (b := 1) h, show (4 : Int32) = nI 4 from rfl, nI_mul, nI_add]
theorem g4 (d : Nat) : (4 : Int32) * (nI (d + 1) - 1) = nI (4 * d) := by
  rw [show nI (d + 1) - 1 = nI d from nI_sub (a := d + 1) (b := 1) (by omega), show (4 : Int32) = nI 4 from rfl, nI_mul]
section LOOP
variable {L : Nat} {xs : Nat → Int32} {v3 : Int32} {k38 : S_LS → Int32 → Int32 → Int32 → Int32 → Int32 → Int32 → Int32 → Option (Int32 × S_LS)} {t8 x7 : Int32} {S : S_LS} {n : Nat} {D : Dc} {d : Nat} {os : Nat → Nat} {l s : Nat} {x4 x5 y6 : Int32}
theorem SK.lt (h : SK D d os) {j : Nat} (hj : j < d) : os j < dN D := (h.2.1 j hj).1
theorem updo_lt {j : Nat} (hj : j < d) {n : Nat} : updo os d n j = os j := if_neg (by omega)
theorem updo_at {n : Nat} : updo os d n d = n := if_pos rfl
/-- a holder is opened -/
theorem open_res (hK : KK k38 t8 (s + 1)) (hR : RS S n (VP D d os l)) (hn : n ≤ 2 + 5 * s) (hs : s ≤ 8) (hd : 0 < d) (hd4 : d < 4) (hS : SK D d os) (hA : DA D) (hQ : DQ D) (hv : DQv D (os (d - 1)) l) (hl : (dK D (os (d - 1)) = 6 ∧ l < 8) ∨ (dK D (os (d - 1)) = 5 ∧ l = 8)) (hN : dN D ≤ s + 1) (hB : BI D d os x4 x5) (h6 : ∀ j, j < d → dK D (os j) = 5 → bt y6 (j + 1) = true) {c : Nat} {x11 : Int32} (hc : (c = 91 ∧ x11 = 7) ∨ (c = 40 ∧ ¬ x11 = 7)) : Res (F_L_types_247 L xs v3 k38 S (nI d) x4 x5 y6 x7 t8 (nI s) x11 (nI c)) S := by
  obtain ⟨r, S1, a1, a2, a3⟩ := open_cl hR (by omega) hS hd hd4 (by omega) (c := c) (by rcases hc with h | h <;> omega)
  have hka : ka c = 5 ∨ ka c = 6 := by
    rcases hc with ⟨rfl, -⟩ | ⟨rfl, -⟩
    · exact Or.inl rfl
    · exact Or.inr rfl
  have ho := hS.lt (j := d - 1) (by omega)
  have main : ∀ y5 : Int32, (∀ i, i < 21 → bt y5 i = if i = d + 1 then decide (ka c = 5) else bt x5 i) → TI S1 (n + 1) (dnew D (ka c) (os (d - 1)) l 0 d) (d + 1) (updo os d (dN D)) (decide (ka c = 5)) (x4 &&& (((15 : Int32) <<< (nI (4 * d) &&& 31)) ^^^ (-1))) y5 (y6 &&& (((1 : Int32) <<< (nI (d + 1) &&& 31)) ^^^ (-1))) (s + 1) := by
    intro y5 hy5
    refine ⟨a2, by omega, hS.opn hd hd4 hka, hA.new hS hd (by rcases hka with z | z <;> rw [z]; exact ⟨5, by omega, rfl⟩; exact ⟨6, by omega, rfl⟩) hl, hQ.new hA hv ho, by rw [dN_new]; omega, by omega, fun h => ?_, ⟨fun j hj => ?_, fun j hj hk i hi => ?_⟩, fun j hj hk => ?_⟩
    · rw [show d + 1 - 1 = d by omega, updo_at, dK_at]
      exact of_decide_eq_true h
    · rw [hy5 (j + 1) (by omega)]
      by_cases z : j = d
      · subst z
        rw [if_pos rfl, updo_at, dK_at]
      · rw [if_neg (by omega), updo_lt (by omega), dK_old (hS.lt (by omega))]
        exact hB.1 j (by omega)
    · rw [b_of4 (by omega) (by omega)]
      by_cases z : j = d
      · subst z
        rw [updo_at, dU_at, bn_0, decide_eq_true (by omega)]
        cases bt x4 (4 * j + i) <;> rfl
      · rw [updo_lt (by omega), dK_old (hS.lt (by omega))] at hk
        rw [updo_lt (by omega), dU_old (hS.lt (by omega)), hB.2 j (by omega) hk i hi, decide_eq_false (by omega)]
        cases bt x4 (4 * j + i) <;> rfl
    · rw [b_off (by omega) (by omega)]
      by_cases z : j = d
      · subst z
        rw [updo_at, dK_at] at hk
        rw [decide_eq_true hk, decide_eq_true (rfl : j + 1 = j + 1)]
        cases bt y6 (j + 1) <;> rfl
      · rw [updo_lt (by omega), dK_old (hS.lt (by omega))] at hk
        rw [h6 j (by omega) hk, decide_eq_false (show ¬ j + 1 = d + 1 by omega)]
        rfl
  unfold F_L_types_247
  rw [ob2_s a1, nI_1]
  rcases hc with ⟨rfl, h7⟩ | ⟨rfl, h7⟩
  · rw [if_pos h7]
    unfold F_L_types_278
    rw [g4, nI_1]
    refine (hK _ _ _ _ _ _ _ _ _ _ (main (x5 ||| ((1 : Int32) <<< (nI (d + 1) &&& 31))) fun i hi => ?_)).trans a3
    rw [b_set (by omega) hi]
    by_cases z : i = d + 1
    · rw [if_pos z, decide_eq_true z]
      cases bt x5 i <;> rfl
    · rw [if_neg z, decide_eq_false z]
      cases bt x5 i <;> rfl
  · rw [if_neg h7]
    unfold F_L_types_278
    rw [g4, nI_1]
    refine (hK _ _ _ _ _ _ _ _ _ _ (main (x5 &&& (((1 : Int32) <<< (nI (d + 1) &&& 31)) ^^^ (-1))) fun i hi => ?_)).trans a3
    rw [b_off (by omega) hi]
    by_cases z : i = d + 1
    · rw [if_pos z, decide_eq_true z]
      cases bt x5 i <;> rfl
    · rw [if_neg z, decide_eq_false z]
      cases bt x5 i <;> rfl
/-- a simple value comes -/
theorem simp_res (hK : KK k38 t8 (s + 1)) (hR : RS S n (VP D d os l)) (hn : n ≤ 2 + 5 * s) (hs : s ≤ 8) (hd : 0 < d) (hS : SK D d os) (hA : DA D) (hQ : DQ D) (hv : DQv D (os (d - 1)) l) (hl : (dK D (os (d - 1)) = 6 ∧ l < 8) ∨ (dK D (os (d - 1)) = 5 ∧ l = 8)) (hN : dN D ≤ s + 1) (hB : BI D d os x4 x5) (h6 : ∀ j, j < d → dK D (os j) = 5 → bt y6 (j + 1) = true) {i : Nat} (hi : i < 6) (w : Int32) : Res (ob1 (F_L_simple S (nI i) w) fun u => k38 u (nI d) x4 x5 y6 x7 t8 (nI (s + 1))) S := by
  obtain ⟨S1, n', k, a1, a2, a3, a4, a5⟩ := simple_cl hR (by omega) hS hd (by omega) hi w
  have ho := hS.lt (j := d - 1) (by omega)
  rw [ob1_s a1]
  obtain ⟨j, hj, hk⟩ := a3
  refine (hK _ _ _ _ _ _ _ _ _ _ ⟨a4, hd, hS.new hd, hA.new hS hd ⟨j, by omega, hk⟩ hl, hQ.new hA hv ho, by rw [dN_new]; omega, by omega, fun h => absurd h (by decide), ⟨fun j hj => ?_, fun j hj hk i hi => ?_⟩, fun j hj hk => ?_⟩).trans a5
  · rw [dK_old (hS.lt hj)]
    exact hB.1 j hj
  · rw [dK_old (hS.lt hj)] at hk
    rw [dU_old (hS.lt hj)]
    exact hB.2 j hj hk i hi
  · rw [dK_old (hS.lt hj)] at hk
    rw [h6 j hj hk, Bool.and_false]
    rfl
/-- a value comes -/
theorem res_210 {x6 x12 x10 : Int32} {i : Nat} (hK : KK k38 t8 (s + 1)) (hR : RS S n (VP D d os l)) (hn : n ≤ 2 + 5 * s) (hs : s ≤ 8) (hd : 0 < d) (hS : SK D d os) (hA : DA D) (hQ : DQ D) (hv : DQv D (os (d - 1)) l) (hl : (dK D (os (d - 1)) = 6 ∧ l < 8) ∨ (dK D (os (d - 1)) = 5 ∧ l = 8)) (hN : dN D ≤ s + 1) (hB : BI D d os x4 x5) (h6 : ∀ j, j < d → dK D (os j) = 5 → bt (x6 ||| x12) (j + 1) = true) (hi : i < 9) : Res (F_L_types_210 L xs v3 k38 S (nI d) x4 x5 x6 x7 t8 (nI s) x10 (nI i) x12) S := by
  have h4 := hS.1
  obtain ⟨q, q1, q2⟩ := low_cl (nI i) (m := 6) (by omega) (by omega)
  have q2' : F_L_low (nI i) 6 = some (nI q) := q2
  unfold F_L_types_210
  rw [nI_1]
  by_cases z : i ≤ 6
  · rw [if_pos (show nI i ≤ (6 : Int32) from nI_le (b := 6) z (by omega)), ob1_s q2']
    exact simp_res hK hR hn hs hd hS hA hQ hv hl hN hB h6 q1 x10
  · rw [if_neg (show ¬ nI i ≤ (6 : Int32) from nI_ge (a := 6) (b := i) (by omega) (by omega))]
    by_cases y : 4 ≤ d
    · rw [if_pos (show (4 : Int32) ≤ nI d from nI_le (a := 4) y (by omega)), ob1_s q2']
      exact simp_res hK hR hn hs hd hS hA hQ hv hl hN hB h6 q1 x10
    · rw [if_neg (show ¬ (4 : Int32) ≤ nI d from nI_ge (a := d) (b := 4) (by omega) (by omega))]
      rcases (show i = 7 ∨ i = 8 by omega) with rfl | rfl
      · rw [if_pos (show nI 7 = (7 : Int32) from rfl)]
        exact open_res hK hR hn hs hd (by omega) hS hA hQ hv hl hN hB h6 (c := 91) (Or.inl ⟨rfl, rfl⟩)
      · rw [if_neg (show ¬ nI 8 = (7 : Int32) by decide)]
        exact open_res hK hR hn hs hd (by omega) hS hA hQ hv hl hN hB h6 (c := 40) (Or.inr ⟨rfl, by decide⟩)
theorem TI.kind {fr : Bool} {x6 : Int32} (h : TI S n D d os fr x4 x5 x6 s) : (dK D (os (d - 1)) = 5 ∨ dK D (os (d - 1)) = 6) := (h.2.2.1.2.1 (d - 1) (by have := h.2.1; omega)).2.1
/-- a letter or a comma, then a value -/
theorem res_168 {fr : Bool} {x6 x10 : Int32} {i lt : Nat} (hK : KK k38 t8 (s + 1)) (h : TI S n D d os fr x4 x5 x6 s) (hs : s ≤ 8) (hi : i < 9) (hlt : lt < 4) (hb : ¬ dK D (os (d - 1)) = 5 → bt x4 (lt + 4 * (d - 1)) = false) : Res (F_L_types_168 L xs v3 k38 S (nI d) x4 x5 x6 x7 t8 (nI s) x10 (nI i) ((1 : Int32) <<< (nI d &&& 31)) (decide (dK D (os (d - 1)) = 5)) (nI lt) ((1 : Int32) <<< (nI (lt + 4 * (d - 1)) &&& 31))) S := by
  have hkd := h.kind
  obtain ⟨hR, hd, hS, hA, hQ, hN, hn, hfr, hB, hg⟩ := h
  have h4 := hS.1
  have ho := hS.lt (j := d - 1) (by omega)
  have hbeg : ∀ j, j < d → dK D (os j) = 5 → bt (x6 ||| ((1 : Int32) <<< (nI d &&& 31))) (j + 1) = true := by
    intro j hj hk
    rw [b_set (by omega) (by omega)]
    by_cases z : j + 1 = d
    · rw [decide_eq_true z]
      cases bt x6 (j + 1) <;> rfl
    · rw [hg j hj hk, decide_eq_false z]; rfl
  unfold F_L_types_168
  by_cases k5 : dK D (os (d - 1)) = 5
  · rw [decide_eq_true k5, b2i_t, if_neg one_ne0, if_neg one_ne0]
    have htop := hg (d - 1) (by omega) k5
    rw [show d - 1 + 1 = d by omega, decide_eq_true rfl, Bool.true_and] at htop
    have hv8 : DQv D (os (d - 1)) 8 := fun k6 => by rw [k5] at k6; exact absurd k6 (by decide)
    cases fr with
    | true =>
      rw [if_pos ((b_test x6 (l := d) (by omega)).mpr htop)]
      exact res_210 hK (fresh_cl hR hS hd (by omega) k5) (by omega) hs hd hS hA hQ hv8 (Or.inr ⟨k5, rfl⟩) hN hB hbeg hi
    | false =>
      rw [if_neg (fun z => by rw [(b_test x6 (l := d) (by omega)).mp z] at htop; exact absurd htop (by decide))]
      obtain ⟨r, S1, a1, a2, a3⟩ := comma_cl hR (by omega) hS hd (by omega) k5
      rw [ob2_s a1, if_neg one_ne0]
      exact (res_210 hK a2 (by omega) hs hd hS hA hQ hv8 (Or.inr ⟨k5, rfl⟩) hN hB hbeg hi).trans a3
  · have k6 := hkd.resolve_left k5
    have hfr0 : fr = false := by
      cases fr with
      | false => rfl
      | true => exact absurd (hfr rfl) k5
    subst hfr0
    have hu := hQ.2.2 _ ho k6
    have hbit : (dU D (os (d - 1))).testBit lt = false := by
      rw [hB.2 (d - 1) (by omega) k6 lt hlt, Nat.add_comm]
      exact hb k5
    obtain ⟨-, hu2, -⟩ := bit_all ⟨dU D (os (d - 1)), hu⟩ ⟨lt, by omega⟩
    have hu2 : dU D (os (d - 1)) ||| 2 ^ lt < 256 := hu2
    obtain ⟨r, S1, a1, a2, a3⟩ := letter_cl hR (by omega) hS hd (by omega) k6 (l := lt) (by omega) hu hbit
    have hdU : ∀ v, dU (dset D (os (d - 1)) (dU D (os (d - 1)) ||| 2 ^ lt)) v = if v = os (d - 1) then dU D (os (d - 1)) ||| 2 ^ lt else dU D v := fun v => rfl
    rw [decide_eq_false k5, b2i_f, if_pos rfl, if_pos rfl, show (65 : Int32) + nI lt = nI (65 + lt) from nI_add 65 lt, ob2_s a1]
    refine (res_210 (D := dset D (os (d - 1)) (dU D (os (d - 1)) ||| 2 ^ lt)) hK a2 (by omega) hs hd hS hA ⟨hQ.1, fun v h1 h2 h3 => ?_, fun v h1 h2 => ?_⟩ (fun _ => ⟨?_, fun w h1 h2 h3 => ?_⟩) (Or.inl ⟨k6, by omega⟩) hN ⟨hB.1, fun j hj hk i hi => ?_⟩ hbeg hi).trans a3
    · have h9 := hQ.2.1 v h1 h2 h3
      show (dU (dset D (os (d - 1)) (dU D (os (d - 1)) ||| 2 ^ lt)) (dP D v)).testBit (dL D v) = true
      rw [hdU]
      by_cases z : dP D v = os (d - 1)
      · rw [if_pos z, ub_or, ← z, h9]; rfl
      · rw [if_neg z]; exact h9
    · rw [hdU]
      by_cases z : v = os (d - 1)
      · rw [if_pos z]; exact hu2
      · rw [if_neg z]; exact hQ.2.2 v h1 h2
    · rw [hdU, if_pos rfl, ub_or, decide_eq_true rfl]
      cases (dU D (os (d - 1))).testBit lt <;> rfl
    · intro e
      have h3 : dP D w = os (d - 1) := h3
      have e : dL D w = lt := e
      have h9 := hQ.2.1 w h1 h2 (by rw [h3]; exact k6)
      rw [h3, e, hbit] at h9
      exact absurd h9 (by decide)
    · have hk : dK D (os j) = 6 := hk
      rw [hdU, b_set (by omega) (by omega)]
      by_cases z : j = d - 1
      · subst z
        rw [if_pos rfl, ub_or, hB.2 (d - 1) hj hk i hi]
        congr 1
        exact decide_eq_decide.mpr (by omega)
      · rw [if_neg (show ¬ os j = os (d - 1) by have := hS.ne (i := j) (j := d - 1) (by omega) (by omega); omega), hB.2 j hj hk i hi, decide_eq_false (by omega), Bool.or_false]
theorem TI.next {fr : Bool} {x6 : Int32} (h : TI S n D d os fr x4 x5 x6 s) : TI S n D d os fr x4 x5 x6 (s + 1) := by
  obtain ⟨hR, hd, hS, hA, hQ, hN, hn, hfr, hB, hg⟩ := h
  exact ⟨hR, hd, hS, hA, hQ, by omega, by omega, hfr, hB, hg⟩
/-- a step -/
theorem res_96 {fr : Bool} {x6 x10 : Int32} {i : Nat} (hK : KK k38 t8 (s + 1)) (h : TI S n D d os fr x4 x5 x6 s) (hs : s ≤ 8) (hi : i < 9) : Res (F_L_types_96 L xs v3 k38 S (nI d) x4 x5 x6 x7 t8 (nI s) x10 (nI i) ((1 : Int32) <<< (nI d &&& 31)) (decide (dK D (os (d - 1)) = 5))) S := by
  have hkd := h.kind
  have hd := h.2.1
  have hS := h.2.2.1
  have h4 := hS.1
  obtain ⟨lt, q1, q2⟩ := low_cl x10 (m := 4) (by omega) (by omega)
  have q2' : F_L_low x10 4 = some (nI lt) := q2
  obtain ⟨z5, p1, p2⟩ := low_cl x10 (m := 5) (by omega) (by omega)
  have p2' : F_L_low x10 5 = some (nI z5) := p2
  have body : Res (if (b2i (decide (dK D (os (d - 1)) = 5))) = 0 then (if (x4 &&& ((1 : Int32) <<< (nI (lt + 4 * (d - 1)) &&& 31))) = 0 then (F_L_types_168 L xs v3 k38 S (nI d) x4 x5 x6 x7 t8 (nI s) x10 (nI i) ((1 : Int32) <<< (nI d &&& 31)) (decide (dK D (os (d - 1)) = 5)) (nI lt) ((1 : Int32) <<< (nI (lt + 4 * (d - 1)) &&& 31))) else (k38 S (nI d) x4 x5 x6 x7 t8 (nI (s + 1)))) else (F_L_types_168 L xs v3 k38 S (nI d) x4 x5 x6 x7 t8 (nI s) x10 (nI i) ((1 : Int32) <<< (nI d &&& 31)) (decide (dK D (os (d - 1)) = 5)) (nI lt) ((1 : Int32) <<< (nI (lt + 4 * (d - 1)) &&& 31)))) S := by
    by_cases k5 : dK D (os (d - 1)) = 5
    · rw [if_neg (by rw [decide_eq_true k5, b2i_t]; exact one_ne0)]
      exact res_168 hK h hs hi q1 (fun w => absurd k5 w)
    · rw [if_pos (by rw [decide_eq_false k5]; rfl)]
      by_cases y : (x4 &&& ((1 : Int32) <<< (nI (lt + 4 * (d - 1)) &&& 31))) = 0
      · rw [if_pos y]
        exact res_168 hK h hs hi q1 (fun _ => (b_test x4 (by omega)).mp y)
      · rw [if_neg y]
        exact hK _ _ _ _ _ _ _ _ _ _ h.next
  unfold F_L_types_96
  rw [ob1_s q2', f4 hd, nI_1]
  by_cases d1 : d ≤ 1
  · rw [if_pos (show nI d ≤ (1 : Int32) from nI_le (b := 1) d1 (by omega))]
    exact body
  · rw [if_neg (show ¬ nI d ≤ (1 : Int32) from nI_ge (a := 1) (b := d) (by omega) (by omega)), ob1_s p2']
    by_cases y : nI z5 = 0
    · rw [if_pos y, nI_m d hd]
      obtain ⟨hR, -, -, hA, hQ, hN, hn, hfr, hB, hg⟩ := h
      have fin : ∀ r S1, (∃ c, okr (F_X4_append S (nI c)) = some (r, S1) ∧ RS S1 (n + 1) (CQ D d os) ∧ SM S S1) → Res (k38 S1 (nI (d - 1)) x4 x5 x6 x7 t8 (nI (s + 1))) S := by
        rintro r S1 ⟨c, a1, a2, a3⟩
        refine (hK _ _ _ _ _ _ _ _ _ _ (show TI S1 (n + 1) D (d - 1) os false x4 x5 x6 (s + 1) from ⟨⟨a2.1, a2.2.weak fun V st op le ru hq => ?_⟩, by omega, hS.drop hd 0, hA, hQ, by omega, by omega, fun w => absurd w (by decide), ⟨fun j hj => hB.1 j (by omega), fun j hj => hB.2 j (by omega)⟩, fun j hj hk => ?_⟩)).trans a3
        · obtain ⟨g1, g2⟩ := hq
          rcases g2 with ⟨g2, -⟩ | ⟨-, g2, g3⟩
          · omega
          · exact ⟨g1, g2, Or.inl ⟨rfl, Or.inl g3⟩⟩
        · rw [hg j (by omega) hk, decide_eq_false (show ¬ j + 1 = d by omega), Bool.and_false, Bool.false_and]
      by_cases k5 : dK D (os (d - 1)) = 5
      · rw [if_neg (by rw [decide_eq_true k5, b2i_t]; exact one_ne0)]
        obtain ⟨r, S1, a1, a2, a3⟩ := close_cl (c := 93) hR (by omega) hS hA hd (by omega) (Or.inr ⟨k5, rfl⟩)
        have a1' : okr (F_X4_append S 93) = some (r, S1) := a1
        rw [ob2_s a1']
        exact fin r S1 ⟨93, a1, a2, a3⟩
      · rw [if_pos (by rw [decide_eq_false k5]; rfl)]
        have hfr0 : fr = false := by
          cases fr with
          | false => rfl
          | true => exact absurd (hfr rfl) k5
        obtain ⟨r, S1, a1, a2, a3⟩ := close_cl (c := 41) hR (by omega) hS hA hd (by omega) (Or.inl ⟨hkd.resolve_left k5, hfr0, rfl⟩)
        have a1' : okr (F_X4_append S 41) = some (r, S1) := a1
        rw [ob2_s a1']
        exact fin r S1 ⟨41, a1, a2, a3⟩
    · rw [if_neg y]
      exact body
/-- the holders that are open are closed -/
theorem res_327 {x5 x7 : Int32} : ∀ (d f : Nat) (S : S_LS) (n : Nat) (fr : Bool), d < f → 0 < d → RS S n (BT D d os fr) → SK D d os → DA D → DQ D → dN D ≤ 12 → n + d ≤ 60 → (fr = true → dK D (os (d - 1)) = 5) → (∀ j, j < d → bt x5 (j + 1) = decide (dK D (os j) = 5)) → Res (F_L_types_327 f S (nI d) x5 x7) S := by
  intro d
  induction d with
  | zero => intro f S n fr h1 h2; omega
  | succ d ihd =>
    intro f S n fr h1 h2 hR hS hA hQ hN hn hfr hB
    obtain ⟨f, rfl⟩ : ∃ g, f = g + 1 := ⟨f - 1, by omega⟩
    have h4 := hS.1
    have hkd : dK D (os d) = 5 ∨ dK D (os d) = 6 := (hS.2.1 d (by omega)).2.1
    rw [F_L_types_327_s, if_neg (show ¬ nI (d + 1) ≤ 0 from nI_ge (a := 0) (b := d + 1) (by omega) (by omega)), nI_m (d + 1) h2, show d + 1 - 1 = d by omega]
    have fin : ∀ r S1, (∃ c, okr (F_X4_append S (nI c)) = some (r, S1) ∧ RS S1 (n + 1) (CQ D (d + 1) os) ∧ SM S S1) → Res (F_L_types_327 f S1 (nI d) x5 x7) S := by
      rintro r S1 ⟨c, a1, a2, a3⟩
      by_cases z : d = 0
      · subst z
        obtain ⟨f, rfl⟩ : ∃ g, f = g + 1 := ⟨f - 1, by omega⟩
        rw [F_L_types_327_s, if_pos (show nI 0 ≤ (0 : Int32) by decide)]
        refine ⟨x7, S1, n + 1, D, rfl, ⟨a2.1, a2.2.weak fun V st op le ru hq => ?_⟩, by omega, hA, hQ, hN, a3⟩
        obtain ⟨g1, g2⟩ := hq
        rcases g2 with ⟨-, g2⟩ | ⟨g2, -⟩
        · exact ⟨g1, g2⟩
        · omega
      · refine (ihd f S1 (n + 1) false (by omega) (by omega) ⟨a2.1, a2.2.weak fun V st op le ru hq => ?_⟩ (by have := hS.drop h2 0; exact this) hA hQ hN (by omega) (fun w => absurd w (by decide)) (fun j hj => hB j (by omega))).trans a3
        obtain ⟨g1, g2⟩ := hq
        rcases g2 with ⟨g2, -⟩ | ⟨-, g2, g3⟩
        · omega
        · exact ⟨g1, g2, Or.inl ⟨rfl, Or.inl g3⟩⟩
    have hbit := hB d (by omega)
    by_cases k5 : dK D (os d) = 5
    · rw [decide_eq_true k5] at hbit
      rw [if_neg (fun w => by rw [(b_test x5 (l := d + 1) (by omega)).mp w] at hbit; exact absurd hbit (by decide))]
      obtain ⟨r, S1, a1, a2, a3⟩ := close_cl (c := 93) hR (by omega) hS hA h2 (by omega) (Or.inr ⟨k5, rfl⟩)
      have a1' : okr (F_X4_append S 93) = some (r, S1) := a1
      rw [ob2_s a1']
      exact fin r S1 ⟨93, a1, a2, a3⟩
    · rw [decide_eq_false k5] at hbit
      rw [if_pos ((b_test x5 (l := d + 1) (by omega)).mpr hbit)]
      have hfr0 : fr = false := by
        cases fr with
        | false => rfl
        | true => exact absurd (hfr rfl) k5
      obtain ⟨r, S1, a1, a2, a3⟩ := close_cl (c := 41) hR (by omega) hS hA h2 (by omega) (Or.inl ⟨hkd.resolve_left k5, hfr0, rfl⟩)
      have a1' : okr (F_X4_append S 41) = some (r, S1) := a1
      rw [ob2_s a1']
      exact fin r S1 ⟨41, a1, a2, a3⟩
/-- the loop -/
theorem res_38 (hL : L < 2 ^ 31) {a t : Nat} (ha : a ≤ 1000) (ht : t ≤ 8) : ∀ (f s : Nat) (S : S_LS) (n : Nat) (D : Dc) (d : Nat) (os : Nat → Nat) (fr : Bool) (x4 x5 x6 x7 : Int32), t - s < f → s ≤ t → TI S n D d os fr x4 x5 x6 s → Res (F_L_types_38 L xs (nI a) f S (nI d) x4 x5 x6 x7 (nI t) (nI s)) S := by
  intro f
  induction f with
  | zero => intro s S n D d os fr x4 x5 x6 x7 h; omega
  | succ f ihf =>
    intro s S n D d os fr x4 x5 x6 x7 h1 h2 h
    have h4 := h.2.2.1.1
    have hd := h.2.1
    rw [F_L_types_38_s]
    rcases Nat.lt_or_ge s t with z | z
    · obtain ⟨w1, e1⟩ := cell_cl L xs (a := a + 1 + 2 * s) hL (by omega)
      obtain ⟨w2, e2⟩ := cell_cl L xs (a := a + 2 + 2 * s) hL (by omega)
      obtain ⟨i, i1, i2⟩ := low_cl w2 (m := 9) (by omega) (by omega)
      have i2' : F_L_low w2 9 = some (nI i) := i2
      have c1 : (nI a + (1 : Int32)) + ((2 : Int32) * nI s) = nI (a + 1 + 2 * s) := by rw [nI_1, show (2 : Int32) = nI 2 from rfl, nI_mul, nI_add]
      have c2 : (nI a + (2 : Int32)) + ((2 : Int32) * nI s) = nI (a + 2 + 2 * s) := by rw [show (2 : Int32) = nI 2 from rfl, nI_mul, nI_add, nI_add]
      rw [if_neg (nI_ge z (by omega)), c1, ob1_s e1, c2, ob1_s e2, ob1_s i2']
      have hK : KK (F_L_types_38 L xs (nI a) f) (nI t) (s + 1) := fun S n D d os fr x4 x5 x6 x7 hT => ihf (s + 1) S n D d os fr x4 x5 x6 x7 (by omega) (by omega) hT
      have hbit := h.2.2.2.2.2.2.2.2.1.1 (d - 1) (by omega)
      rw [show d - 1 + 1 = d by omega] at hbit
      have main := res_96 (L := L) (xs := xs) (v3 := nI a) (x7 := x7) (x10 := w1) hK h (by omega) i1
      by_cases k5 : dK D (os (d - 1)) = 5
      · rw [decide_eq_true k5] at hbit main
        rw [if_neg (fun w => by rw [(b_test x5 (l := d) (by omega)).mp w] at hbit; exact absurd hbit (by decide))]
        exact main
      · rw [decide_eq_false k5] at hbit main
        rw [if_pos ((b_test x5 (l := d) (by omega)).mpr hbit)]
        exact main
    · rw [if_pos (nI_le z (by omega))]
      obtain ⟨hR, -, hS, hA, hQ, hN, hn, hfr, hB, hg⟩ := h
      exact res_327 d 5000 S n fr (by omega) hd hR hS hA hQ (by omega) (by omega) hfr hB.1
end LOOP
