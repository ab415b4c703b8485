/-! ===== pure: a value, read by both ===== -/
section VAL
variable {C : Nat → Int32} {t : Nat → Nat} {N : Nat}
theorem take_v {V : S_Tree} {fw pl st op le ru : Int32} {c : Nat} (hc : c < 128) (hst : st = 2 ∨ (st = 3 ∧ c ≠ 93)) : F_X1_take (rdr V fw pl st op le ru) (nI c) = F_X1_takeValue (rdr V fw pl st op le ru) (nI c) := by
  have hid : ∀ X : Option (Bool × S_Reader), (ob2 X fun r u => some (r, u)) = X := fun X => by cases X <;> rfl
  have hp : pnd st = false := by
    rcases hst with h | h
    · rw [h]; rfl
    · rw [h.1]; rfl
  unfold F_X1_take
  rw [ob1_s (ends_ok hc), hp, Bool.false_and, Bool.false_and, b2i_f, if_pos rfl]
  unfold F_X1_take_16
  show (if st = 0 then _ else if st = 1 then _ else if st = 2 then _ else if st = 3 then _ else _) = _
  rcases hst with h | ⟨h, h2⟩
  · rw [h, if_neg (by decide), if_neg (by decide), if_pos rfl]
    exact hid _
  · rw [h, if_neg (by decide), if_neg (by decide), if_neg (by decide), if_pos rfl, ifc (K := (93 : Int32)) (k := 93) rfl hc (by omega), if_neg h2]
    exact hid _
theorem vnew_k {V V1 : S_Tree} {n : Nat} {k k2 l d b p : Int32} (h : vnew V V1 n k l d b p) : vnew V (tput V1 n 0 k2) n k2 l d b p := by
  obtain ⟨a1, a2, a3, a4, a5, a6, a7, a8, a9⟩ := h
  refine ⟨a1, fun r j hr hj => ?_, ?_, ?_, ?_, ?_, ?_, ?_, ?_⟩
  · rw [tc_tput (by omega) hj, if_neg (by omega)]; exact a2 r j hr hj
  · rw [tc_tput (by omega) (by omega), if_pos ⟨rfl, rfl⟩]
  · rw [tc_tput (by omega) (by omega), if_neg (by omega), a4]
  · rw [tc_tput (by omega) (by omega), if_neg (by omega), a5]
  · rw [tc_tput (by omega) (by omega), if_neg (by omega), a6]
  · rw [tc_tput (by omega) (by omega), if_neg (by omega), a7]
  · rw [tc_tput (by omega) (by omega), if_neg (by omega), a8]
  · rw [tc_tput (by omega) (by omega), if_neg (by omega), a9]
variable {S : S_Model} {K U L B E W : Nat → Int32} {n : Nat} {O : Nat → Int32} {d x : Nat} {q : Int32}
theorem opens_ok {i : Nat} (hT : TX S N t) (hi : i < N) (hn : n < 64) (hd : d ≤ 4) (hx : x ≤ 4) (k l : Int32) : F_X5_opens (pmv S i K U L B E W n O d x q) k l = if d = 4 then some (false, pmv S i K U L B E W n O d x (flt N i)) else some (true, pmv S (i + 1) (upd K n k) (upd U n (par O d)) (upd L n l) (upd B n (nI i)) E (upd W n 0) (n + 1) (upd O d (nI n)) (d + 1) (if d + 1 ≤ x then x else d + 1) q) := by
  unfold F_X5_opens
  rw [pmv_deep]
  by_cases z : d = 4
  · rw [if_pos z, if_pos (by rw [z]; rfl), ob2_s (stops_ok hT (by omega))]
  · rw [if_neg z, if_neg (show ¬ nI d = (4 : Int32) from fun y => z ((nI_eq (a := d) (b := 4) (by omega) (by omega)).mp y)), pmv_at, ob1_s (comes_ok hn hd k l (nI i)), pmv_deep, og_t (inb_nI (by omega) (by omega)), pmv_at1, pmv_open, pmv_valued, nI_clamp (by omega), nI_1, show nI (n + 1) - 1 = nI n from nI_sub (a := n + 1) (b := 1) (by omega), pmv_deepest, pmv_s_open, pmv_s_deep, pmv_s_deepest]
    by_cases y : d + 1 ≤ x
    · rw [if_pos (nI_le y (by omega)), if_pos y]
    · rw [if_neg (nI_ge (by omega) (by omega)), if_neg y]
/-- what becomes of a value -/
def VALR (S : S_Model) (C : Nat → Int32) (t : Nat → Nat) (N : Nat) (K U L B E W : Nat → Int32) (n : Nat) (O : Nat → Int32) (d x : Nat) (q l : Int32) (V : S_Tree) (op : Int32) (o : Nat) (le : Int32) (R1 : S_Reader) (i : Nat) (r : Option (Bool × S_Model)) : Prop :=
  (∃ f, i ≤ f ∧ f ≤ N ∧ r = some (false, pmv S f K U L B E W n O d x (flt N f)) ∧ STOP C N R1 i f) ∨
  (∃ e k V' pl' st' ru', i < e ∧ e ≤ N ∧ k ≤ 4 ∧ r = some (true, pmv S e (upd K n (nI k)) (upd U n (par O d)) (upd L n l) (upd B n (nI i)) E (upd W n 0) (n + 1) O d x q) ∧ vnew V V' n (nI k) l (nI d) (nI i) op ∧ RUN C N R1 i (rdr V' (nI N) pl' st' op le ru') e ∧ (st' = sbv V op o ∨ PEND t N e st' ru')) ∨
  (∃ k V' pl', i < N ∧ (k = 5 ∨ k = 6) ∧ d < 4 ∧ r = some (true, pmv S (i + 1) (upd K n (nI k)) (upd U n (par O d)) (upd L n l) (upd B n (nI i)) E (upd W n 0) (n + 1) (upd O d (nI n)) (d + 1) (if d + 1 ≤ x then x else d + 1) q) ∧ vnew V V' n (nI k) l (nI d) (nI i) op ∧ RUN C N R1 i (rdr V' (nI N) pl' (if k = 5 then 3 else 1) (nI n) le 0) (i + 1))
theorem value_ok {i o : Nat} {l pl st op le ru : Int32} {V : S_Tree} (hC : CX C t N) (hT : TX S N t) (hn : n < 63) (hd : d ≤ 4) (hx : x ≤ 4) (hs : g_Tree_size V = nI n) (ho : op = -1 ∨ (op = nI o ∧ o < n)) (hdn : dnx V op o = nI d) (hl : l = lnx V op o le) (hi : i ≤ N) (hst : st = 2 ∨ (st = 3 ∧ (i < N → t i ≠ 93))) :
    VALR S C t N K U L B E W n O d x q l V op o le (rdr V (nI N) pl st op le ru) i (F_X5_isValue (pmv S i K U L B E W n O d x q) l) := by
  have hst12 : ¬ st = 12 := by rcases hst with h | h <;> (first | rw [h] | rw [h.1]) <;> decide
  unfold F_X5_isValue
  rw [pmv_typed, pmv_at, hT.1]
  rcases Nat.lt_or_ge i N with z | z
  · have hc := (hC.2 i z).2
    have htk : ∀ fw pl ru, F_X1_take (rdr V fw pl st op le ru) (nI (t i)) = F_X1_takeValue (rdr V fw pl st op le ru) (nI (t i)) := fun fw pl ru => take_v hc (hst.imp id fun h => ⟨h.1, h.2 z⟩)
    have hN60 := hC.1
    have ho1 : op = -1 ∨ (op = nI o ∧ o < n + 1) := ho.imp id fun h => ⟨h.1, by omega⟩
    rw [if_neg (nI_ge z (by omega)), og_t (inb_nI (by omega) (by omega)), pmv_text, nI_clamp (by omega), (hT.2.2 i z).1]
    have hbad : ka (t i) = -1 → STOP C N (rdr V (nI N) pl st op le ru) i i := fun hk => stop_at hC hi hst12 fun _ => ⟨_, by rw [htk]; exact take_not hc hk⟩
    have hsc : ∀ k : Nat, (k = 0 ∨ k = 1) → ka (t i) = nI k → VALR S C t N K U L B E W n O d x q l V op o le (rdr V (nI N) pl st op le ru) i (ob1 (F_X5_comes (pmv S i K U L B E W n O d x q) (nI k) l (g_Model_at (pmv S i K U L B E W n O d x q))) fun u => some (true, s_Model_at u (g_Model_at u + 1))) := by
      intro k hk hka
      obtain ⟨V', v1, v2⟩ := take_scalar (fw := nI N) (pl := nI i) (st := st) (le := le) (ru := ru) hs (by omega) ho hc (by rw [hka]; rcases hk with h | h <;> rw [h] <;> simp [nI])
      rw [hka, hdn, ← hl] at v1
      rw [pmv_at, ob1_s (comes_ok (by omega) hd (nI k) l (nI i)), pmv_at1]
      refine Or.inr (Or.inl ⟨i + 1, k, V', nI i, _, _, by omega, by omega, by omega, rfl, v1, go1 hC z (by rw [htk]; exact v2), Or.inl ?_⟩)
      rw [hka]
      unfold siv
      rcases hk with h | h
      · rw [h, if_neg (by decide), if_neg (by decide)]
      · rw [h, if_neg (by decide), if_neg (by decide)]
    have hnum : ka (t i) = 2 → VALR S C t N K U L B E W n O d x q l V op o le (rdr V (nI N) pl st op le ru) i (F_X5_isNumber (pmv S i K U L B E W n O d x q) l) := by
      intro hka
      obtain ⟨V', v1, v2⟩ := take_scalar (fw := nI N) (pl := nI i) (st := st) (le := le) (ru := ru) hs (by omega) ho hc (by rw [hka]; simp)
      rw [hka, hdn, ← hl] at v1
      rw [hka, if_pos rfl] at v2
      have hsiv : siv V op o 2 (t i) = if t i = 45 then 5 else if t i = 48 then 7 else 8 := by unfold siv; rw [if_pos rfl]
      rw [hsiv] at v2
      have hr : RUN C N (rdr V (nI N) pl st op le ru) i (rdr V' (nI N) (nI i) (if t i = 45 then 5 else if t i = 48 then 7 else 8) op le 1) (i + 1) := go1 hC z (by rw [htk]; exact v2)
      rcases number_ok (S := S) (K := K) (U := U) (L := L) (B := B) (E := E) (W := W) (n := n) (O := O) (d := d) (x := x) (q := q) (l := l) (op := op) (le := le) (V := V') (pl := nI i) hC hT (by omega) hd v1.1 z hka with ⟨f, a1, a2, a3, a4⟩ | ⟨e, k, V2, pl', st', ru', a1, a2, a3, a4, a5, a6, a7⟩
      · exact Or.inl ⟨f, by omega, a2, a3, a4.run hr (by omega)⟩
      · rcases a5 with ⟨b1, b2⟩ | ⟨b1, b2⟩
        · subst b1; subst b2
          exact Or.inr (Or.inl ⟨e, 2, V2, pl', st', ru', by omega, a2, by omega, a4, v1, hr.trans a6, Or.inr a7⟩)
        · subst b1; subst b2
          exact Or.inr (Or.inl ⟨e, 3, _, pl', st', ru', by omega, a2, by omega, a4, vnew_k v1, hr.trans a6, Or.inr a7⟩)
    have hop : ∀ k : Nat, (k = 5 ∨ k = 6) → ka (t i) = nI k → VALR S C t N K U L B E W n O d x q l V op o le (rdr V (nI N) pl st op le ru) i (ob2 (F_X5_opens (pmv S i K U L B E W n O d x q) (nI k) l) fun r u => some (r, u)) := by
      intro k hk hka
      have hk5 : ka (t i) = 5 ∨ ka (t i) = 6 := by
        rw [hka]
        rcases hk with h | h
        · left; rw [h]; rfl
        · right; rw [h]; rfl
      rw [opens_ok hT z (by omega) hd hx]
      by_cases y : d = 4
      · rw [if_pos y, ob2_e]
        refine Or.inl ⟨i, Nat.le_refl _, hi, rfl, stop_at hC hi hst12 fun _ => ⟨rdr V (nI N) (nI i) st op le ru, ?_⟩⟩
        rw [htk]
        exact take_deep hs (by omega) ho hc hk5 (by rw [hdn, y]; decide)
      · rw [if_neg y, ob2_e]
        obtain ⟨V', v1, v2⟩ := take_holder (fw := nI N) (pl := nI i) (st := st) (le := le) (ru := ru) hs (by omega) ho hc hk5 (by rw [hdn]; exact nI_lt (a := d) (b := 4) (by omega) (by omega))
        rw [hka, hdn, ← hl] at v1
        refine Or.inr (Or.inr ⟨k, V', nI i, z, hk, by omega, rfl, v1, go1 hC z ?_⟩)
        rw [htk, v2, hka]
        rcases hk with h | h <;> rw [h] <;> rfl
    unfold F_X5_isValue_24
    rw [ifc (K := (39 : Int32)) (k := 39) rfl hc (by omega)]
    by_cases h39 : t i = 39
    · rw [if_pos h39]
      have hka : ka (t i) = 4 := by rw [h39]; rfl
      obtain ⟨V', v1, v2⟩ := take_scalar (fw := nI N) (pl := nI i) (st := st) (le := le) (ru := ru) hs (by omega) ho hc (by rw [hka]; simp)
      rw [hka, hdn, ← hl] at v1
      rw [hka, if_neg (by decide), show siv V op o 4 (t i) = 11 by unfold siv; rw [if_neg (by decide), if_pos rfl]] at v2
      have hr : RUN C N (rdr V (nI N) pl st op le ru) i (rdr V' (nI N) (nI i) 11 op le 0) (i + 1) := go1 hC z (by rw [htk]; exact v2)
      have hid : ∀ X : Option (Bool × S_Model), (ob2 X fun r u => some (r, u)) = X := fun X => by cases X <;> rfl
      rw [hid]
      rcases word_ok (S := S) (K := K) (U := U) (L := L) (B := B) (E := E) (W := W) (n := n) (O := O) (d := d) (x := x) (q := q) (l := l) (le := le) (V := V') (pl := nI i) hC hT (by omega) hd v1.1 ho1 z with ⟨f, a1, a2, a3, a4⟩ | ⟨e, pl', ru', a1, a2, a3, a4⟩
      · exact Or.inl ⟨f, by omega, a2, a3, a4.run hr (by omega)⟩
      · exact Or.inr (Or.inl ⟨e, 4, V', pl', _, ru', by omega, a2, by omega, a3, v1, hr.trans a4, Or.inl (sbv_new v1 ho)⟩)
    rw [if_neg h39, ifc (K := (40 : Int32)) (k := 40) rfl hc (by omega)]
    by_cases h40 : t i = 40
    · rw [if_pos h40]
      exact hop 6 (Or.inr rfl) (by rw [h40]; rfl)
    rw [if_neg h40, ifc (K := (91 : Int32)) (k := 91) rfl hc (by omega)]
    by_cases h91 : t i = 91
    · rw [if_pos h91]
      exact hop 5 (Or.inl rfl) (by rw [h91]; rfl)
    rw [if_neg h91, ifc (K := (102 : Int32)) (k := 102) rfl hc (by omega)]
    by_cases h102 : t i = 102
    · rw [if_pos h102, ifc (K := (110 : Int32)) (k := 110) rfl hc (by omega), if_neg (by omega)]
      exact hsc 1 (Or.inr rfl) (by rw [h102]; rfl)
    rw [if_neg h102, ifc (K := (110 : Int32)) (k := 110) rfl hc (by omega)]
    by_cases h110 : t i = 110
    · rw [if_pos h110, ifc (K := (110 : Int32)) (k := 110) rfl hc (by omega), if_pos h110]
      exact hsc 0 (Or.inl rfl) (by rw [h110]; rfl)
    rw [if_neg h110, ifc (K := (116 : Int32)) (k := 116) rfl hc (by omega)]
    by_cases h116 : t i = 116
    · rw [if_pos h116, ifc (K := (110 : Int32)) (k := 110) rfl hc (by omega), if_neg h110]
      exact hsc 1 (Or.inr rfl) (by rw [h116]; rfl)
    rw [if_neg h116, ifc (K := (45 : Int32)) (k := 45) rfl hc (by omega)]
    have hid : ∀ X : Option (Bool × S_Model), (ob2 X fun r u => some (r, u)) = X := fun X => by cases X <;> rfl
    by_cases h45 : t i = 45
    · rw [if_pos h45, hid]
      exact hnum (by rw [h45]; rfl)
    rw [if_neg h45, ob1_s (in_nat (L := (48 : Int32)) (H := (57 : Int32)) (l := 48) (h := 57) rfl rfl hc (by omega) (by omega))]
    have hka : ka (t i) = if dig (t i) then 2 else -1 := by
      unfold ka
      rw [if_neg h39, if_neg h40, if_neg h91, if_neg h102, if_neg h110, if_neg h116, if_neg h45]
    by_cases h57 : 48 ≤ t i ∧ t i ≤ 57
    · rw [decide_eq_true h57, b2i_t, if_neg one_ne0, hid]
      exact hnum (by rw [hka, dig_t h57.1 h57.2]; rfl)
    · rw [decide_eq_false h57, b2i_f, if_pos rfl, ob2_s (stops_ok hT hi)]
      exact Or.inl ⟨i, Nat.le_refl _, hi, rfl, hbad (by rw [hka, dig_f h57]; rfl)⟩
  · obtain rfl : i = N := by omega
    rw [if_pos (nI_le (Nat.le_refl _) (by have := hC.1; omega))]
    unfold F_X5_isValue_24
    rw [if_neg (by decide), if_neg (by decide), if_neg (by decide), if_neg (by decide), if_neg (by decide), if_neg (by decide), if_neg (by decide), ob1_s (show F_X5_in (0 : Int32) 48 57 = some false from in_f (Or.inl (by decide))), b2i_f, if_pos rfl, ob2_s (stops_ok hT (Nat.le_refl _))]
    exact Or.inl ⟨i, Nat.le_refl _, Nat.le_refl _, rfl, stop_end hC.1 hst12⟩
end VAL
