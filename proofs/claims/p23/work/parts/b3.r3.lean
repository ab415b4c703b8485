/-! ===== pure: the reference looks at characters ===== -/
/-- the text: t, of N characters -/
def TX (S : S_Model) (N : Nat) (t : Nat → Nat) : Prop := g_Model_typed S = nI N ∧ N ≤ 60 ∧ ∀ i, i < N → g_Model_text S i = nI (t i) ∧ t i < 128 ∧ 33 ≤ t i
def isin (t : Nat → Nat) (N i l h : Nat) : Bool := decide (i < N ∧ l ≤ t i ∧ t i ≤ h)
theorem in_nat {c l h : Nat} {L H : Int32} (hL : L = nI l) (hH : H = nI h) (hc : c < 128) (hl : l < 128) (hh : h < 128) : F_X5_in (nI c) L H = some (decide (l ≤ c ∧ c ≤ h)) := by
  subst hL; subst hH
  by_cases q : l ≤ c ∧ c ≤ h
  · rw [in_t (nI_nlt q.1 (by omega)) (nI_nlt q.2 (by omega)), decide_eq_true q]
  · rw [decide_eq_false q]
    refine in_f ?_
    rcases Nat.lt_or_ge c l with z | z
    · exact Or.inl (nI_lt z (by omega))
    · exact Or.inr (nI_lt (by omega) (by omega))
section RD
variable {S : S_Model} {N : Nat} {t : Nat → Nat} {i : Nat} {K U L B E W : Nat → Int32} {n : Nat} {O : Nat → Int32} {d x : Nat} {q : Int32}
theorem isAt_ok (hT : TX S N t) {l h : Nat} {lo hi : Int32} (hL : lo = nI l) (hH : hi = nI h) (hl : l < 128) (hh : h < 128) (hi60 : i ≤ N) : F_X5_isAt (pmv S i K U L B E W n O d x q) lo hi = some (isin t N i l h) := by
  obtain ⟨h1, h2, h3⟩ := hT
  unfold F_X5_isAt isin
  rw [pmv_typed, pmv_at, h1, pmv_text]
  by_cases z : i < N
  · obtain ⟨g1, g2, g3⟩ := h3 i z
    rw [if_neg (nI_ge z (by omega)), og_t (inb_nI (by omega) (by omega)), nI_clamp (by omega), g1, ob1_s (in_nat hL hH g2 hl hh)]
    by_cases w : l ≤ t i ∧ t i ≤ h
    · rw [decide_eq_true w, b2i_t, if_neg one_ne0, decide_eq_true ⟨z, w⟩]
    · rw [decide_eq_false w, b2i_f, if_pos rfl, decide_eq_false (fun y => w y.2)]
  · rw [if_pos (nI_le (by omega) (by omega)), decide_eq_false (fun y => z y.1)]
theorem isSign_ok (hT : TX S N t) {c : Nat} {sg : Int32} (hS : sg = nI c) (hc : c < 128) (hi60 : i ≤ N) : F_X5_isSign (pmv S i K U L B E W n O d x q) sg = some (isin t N i c c, pmv S (if isin t N i c c then i + 1 else i) K U L B E W n O d x q) := by
  unfold F_X5_isSign
  rw [ob1_s (isAt_ok hT hS hS hc hc hi60), pmv_at]
  cases isin t N i c c
  · rw [b2i_f, if_pos rfl, Int32.add_zero, pmv_s_at]; rfl
  · rw [b2i_t, if_neg one_ne0, nI_1, pmv_s_at]; rfl
/-- whether there is text left -/
def flt (N i : Nat) : Int32 := if i < N then 1 else 0
theorem stops_ok (hT : TX S N t) (hi60 : i ≤ N) : F_X5_stops (pmv S i K U L B E W n O d x q) = some (false, pmv S i K U L B E W n O d x (flt N i)) := by
  obtain ⟨h1, h2, h3⟩ := hT
  unfold F_X5_stops flt
  rw [pmv_typed, pmv_at, h1]
  by_cases z : i < N
  · rw [if_neg (nI_ge z (by omega)), if_pos z, pmv_s_isFault]
  · rw [if_pos (nI_le (by omega) (by omega)), if_neg z, pmv_s_isFault]
/-- who a new value stands in -/
def par (O : Nat → Int32) (d : Nat) : Int32 := if d = 0 then -1 else O (d - 1)
theorem comes_ok (hn : n < 64) (hd : d ≤ 4) (k l b : Int32) : F_X5_comes (pmv S i K U L B E W n O d x q) k l b = some (pmv S i (upd K n k) (upd U n (par O d)) (upd L n l) (upd B n b) E (upd W n 0) (n + 1) O d x q) := by
  have h40 : ∀ p, p = par O d → F_X5_comes_40 l b (pmv S i (upd K n k) U L B E W n O d x q) (nI n) p = some (pmv S i (upd K n k) (upd U n (par O d)) (upd L n l) (upd B n b) E (upd W n 0) (n + 1) O d x q) := by
    intro p hp
    unfold F_X5_comes_40
    rw [pmv_valued, og_t (inb_nI (by omega) (by omega)), og_t (inb_nI (by omega) (by omega)), og_t (inb_nI (by omega) (by omega)), og_t (inb_nI (by omega) (by omega)), nI_clamp (by omega), pmv_above, pmv_s_above, pmv_letters, pmv_s_letters, pmv_begins, pmv_s_begins, pmv_used, pmv_s_used, nI_1, pmv_s_valued, hp]
  unfold F_X5_comes
  rw [pmv_valued, og_t (inb_nI (by omega) (by omega)), nI_clamp (by omega), pmv_kinds, pmv_s_kinds, pmv_deep]
  by_cases z : d = 0
  · rw [if_pos (by rw [z]; rfl)]
    exact h40 _ (by unfold par; rw [if_pos z])
  · rw [if_neg (nI_ne0 (by omega) (by omega)), show nI d - 1 = nI (d - 1) from nI_sub (b := 1) (by omega), og_t (inb_nI (by omega) (by omega)), pmv_open, nI_clamp (by omega)]
    exact h40 _ (by unfold par; rw [if_neg z])
end RD
theorem isin_t {t : Nat → Nat} {N i l h : Nat} (h1 : i < N) (h2 : l ≤ t i) (h3 : t i ≤ h) : isin t N i l h = true := decide_eq_true ⟨h1, h2, h3⟩
theorem isin_f {t : Nat → Nat} {N i l h : Nat} (h1 : ¬ (i < N ∧ l ≤ t i ∧ t i ≤ h)) : isin t N i l h = false := decide_eq_false h1
theorem isin_of {t : Nat → Nat} {N i l h : Nat} (h1 : isin t N i l h = true) : i < N ∧ l ≤ t i ∧ t i ≤ h := of_decide_eq_true h1
theorem isin_no {t : Nat → Nat} {N i l h : Nat} (h1 : isin t N i l h = false) : ¬ (i < N ∧ l ≤ t i ∧ t i ≤ h) := of_decide_eq_false h1
theorem dig_t {c : Nat} (h1 : 48 ≤ c) (h2 : c ≤ 57) : dig c = true := decide_eq_true ⟨h1, h2⟩
theorem dig_f {c : Nat} (h : ¬ (48 ≤ c ∧ c ≤ 57)) : dig c = false := decide_eq_false h
theorem dig_of {c : Nat} (h : dig c = true) : 48 ≤ c ∧ c ≤ 57 := of_decide_eq_true h
theorem dig_no {c : Nat} (h : dig c = false) : ¬ (48 ≤ c ∧ c ≤ 57) := of_decide_eq_false h
/-! the class in a number -/
theorem pnd_f {st : Int32} (h7 : ¬ st = 7) (h8 : ¬ st = 8) (h10 : ¬ st = 10) : pnd st = false := by
  unfold pnd; rw [if_neg h7, if_neg h8, if_neg h10]
/-- a character goes to takeInNumber in the states 5 to 10, if the number doesn't end -/
theorem take_num {V : S_Tree} {fw pl st op le ru : Int32} {c : Nat} (hc : c < 128) (hst : st = 5 ∨ st = 6 ∨ st = 7 ∨ st = 8 ∨ st = 9 ∨ st = 10) (he : pnd st = false ∨ dig c = true ∨ c = 46) : F_X1_take (rdr V fw pl st op le ru) (nI c) = F_X1_takeInNumber (rdr V fw pl st op le ru) (nI c) := by
  have h0 : (pnd st && !dig c && decide (c ≠ 46)) = false := by
    rcases he with h | h | h
    · rw [h]; rfl
    · rw [h]; cases pnd st <;> rfl
    · rw [decide_eq_false (fun z => z h), Bool.and_false]
  have hid : ∀ X : Option (Bool × S_Reader), (ob2 X fun r u => some (r, u)) = X := fun X => by cases X <;> rfl
  unfold F_X1_take
  rw [ob1_s (ends_ok hc), h0, b2i_f, if_pos rfl]
  unfold F_X1_take_16
  show (if st = 0 then _ else if st = 1 then _ else if st = 2 then _ else if st = 3 then _ else if st = 4 then _ else if st = 5 then _ else if st = 6 then _ else if st = 7 then _ else if st = 8 then _ else if st = 9 then _ else if st = 10 then _ else _) = _
  rcases hst with h | h | h | h | h | h
  · rw [h, if_neg (by decide), if_neg (by decide), if_neg (by decide), if_neg (by decide), if_neg (by decide), if_pos rfl]; exact hid _
  · rw [h, if_neg (by decide), if_neg (by decide), if_neg (by decide), if_neg (by decide), if_neg (by decide), if_neg (by decide), if_pos rfl]; exact hid _
  · rw [h, if_neg (by decide), if_neg (by decide), if_neg (by decide), if_neg (by decide), if_neg (by decide), if_neg (by decide), if_neg (by decide), if_pos rfl]; exact hid _
  · rw [h, if_neg (by decide), if_neg (by decide), if_neg (by decide), if_neg (by decide), if_neg (by decide), if_neg (by decide), if_neg (by decide), if_neg (by decide), if_pos rfl]; exact hid _
  · rw [h, if_neg (by decide), if_neg (by decide), if_neg (by decide), if_neg (by decide), if_neg (by decide), if_neg (by decide), if_neg (by decide), if_neg (by decide), if_neg (by decide), if_pos rfl]; exact hid _
  · rw [h, if_neg (by decide), if_neg (by decide), if_neg (by decide), if_neg (by decide), if_neg (by decide), if_neg (by decide), if_neg (by decide), if_neg (by decide), if_neg (by decide), if_neg (by decide), if_pos rfl]; exact hid _
theorem not46 {c : Nat} (hc : c < 128) (h : c ≠ 46) : ¬ nI c = (46 : Int32) := fun z => h ((c_eq (K := (46 : Int32)) (k := 46) rfl hc (by omega)).mp z)
/-- a digit behind '-' -/
theorem num5 {V : S_Tree} {fw pl op le ru : Int32} {c : Nat} (hc : c < 128) (h : c ≠ 46) : F_X1_takeInNumber (rdr V fw pl 5 op le ru) (nI c) = some (dig c, rdr V fw pl (if c = 48 then 6 else 8) op le ru) := by
  unfold F_X1_takeInNumber
  rw [if_neg (not46 hc h), if_pos (show g_Reader_state (rdr V fw pl 5 op le ru) = 5 from rfl), ifc (K := (48 : Int32)) (k := 48) rfl hc (by omega), ob1_s (isDigit_ok hc), ob1_s (isDigit_ok hc)]
  by_cases z : c = 48
  · rw [if_pos z, if_pos z]; rfl
  · rw [if_neg z, if_neg z]; rfl
theorem num67 {V : S_Tree} {fw pl st op le ru : Int32} {c : Nat} (hc : c < 128) (h : c ≠ 46) (hst : st = 6 ∨ st = 7) : F_X1_takeInNumber (rdr V fw pl st op le ru) (nI c) = some (false, rdr V fw pl st op le ru) := by
  unfold F_X1_takeInNumber
  rw [if_neg (not46 hc h)]
  show (if st = 5 then _ else if st = 6 then some (false, rdr V fw pl st op le ru) else if st = 7 then some (false, rdr V fw pl st op le ru) else _) = _
  rcases hst with z | z
  · rw [z, if_neg (by decide), if_pos rfl]
  · rw [z, if_neg (by decide), if_neg (by decide), if_pos rfl]
theorem num8 {V : S_Tree} {fw pl op le : Int32} {c r : Nat} (hc : c < 128) (h : c ≠ 46) (hr : r ≤ 4) : F_X1_takeInNumber (rdr V fw pl 8 op le (nI r)) (nI c) = some (decide (r < 4) && dig c, rdr V fw pl 8 op le (nI (r + 1))) := by
  unfold F_X1_takeInNumber
  rw [if_neg (not46 hc h), if_neg (show ¬ g_Reader_state (rdr V fw pl 8 op le (nI r)) = 5 by show ¬ (8 : Int32) = 5; decide), if_neg (show ¬ g_Reader_state (rdr V fw pl 8 op le (nI r)) = 6 by show ¬ (8 : Int32) = 6; decide), if_neg (show ¬ g_Reader_state (rdr V fw pl 8 op le (nI r)) = 7 by show ¬ (8 : Int32) = 7; decide), if_pos (show g_Reader_state (rdr V fw pl 8 op le (nI r)) = 8 from rfl), show g_Reader_run (rdr V fw pl 8 op le (nI r)) = nI r from rfl, nI_1, ob1_s (isDigit_ok hc)]
  by_cases z : r < 4
  · rw [if_neg (show ¬ (4 : Int32) < nI (r + 1) from nI_nlt (a := 4) (b := r + 1) (by omega) (by omega)), decide_eq_true z, Bool.true_and]
    cases dig c
    · rw [b2i_f, if_pos rfl]; rfl
    · rw [b2i_t, if_neg one_ne0]; rfl
  · rw [if_pos (show (4 : Int32) < nI (r + 1) from nI_lt (a := 4) (b := r + 1) (by omega) (by omega)), decide_eq_false z]; rfl
theorem num9 {V : S_Tree} {fw pl op le ru : Int32} {c : Nat} (hc : c < 128) (h : c ≠ 46) : F_X1_takeInNumber (rdr V fw pl 9 op le ru) (nI c) = some (dig c, rdr V fw pl 10 op le ru) := by
  unfold F_X1_takeInNumber
  rw [if_neg (not46 hc h), if_neg (show ¬ g_Reader_state (rdr V fw pl 9 op le ru) = 5 by show ¬ (9 : Int32) = 5; decide), if_neg (show ¬ g_Reader_state (rdr V fw pl 9 op le ru) = 6 by show ¬ (9 : Int32) = 6; decide), if_neg (show ¬ g_Reader_state (rdr V fw pl 9 op le ru) = 7 by show ¬ (9 : Int32) = 7; decide), if_neg (show ¬ g_Reader_state (rdr V fw pl 9 op le ru) = 8 by show ¬ (9 : Int32) = 8; decide), if_pos (show g_Reader_state (rdr V fw pl 9 op le ru) = 9 from rfl), ob1_s (isDigit_ok hc)]
  rfl
theorem num10 {V : S_Tree} {fw pl op le : Int32} {c r : Nat} (hc : c < 128) (h : c ≠ 46) (hr : r ≤ 2) : F_X1_takeInNumber (rdr V fw pl 10 op le (nI r)) (nI c) = some (decide (r < 2) && dig c, rdr V fw pl 10 op le (nI (r + 1))) := by
  unfold F_X1_takeInNumber
  rw [if_neg (not46 hc h), if_neg (show ¬ g_Reader_state (rdr V fw pl 10 op le (nI r)) = 5 by show ¬ (10 : Int32) = 5; decide), if_neg (show ¬ g_Reader_state (rdr V fw pl 10 op le (nI r)) = 6 by show ¬ (10 : Int32) = 6; decide), if_neg (show ¬ g_Reader_state (rdr V fw pl 10 op le (nI r)) = 7 by show ¬ (10 : Int32) = 7; decide), if_neg (show ¬ g_Reader_state (rdr V fw pl 10 op le (nI r)) = 8 by show ¬ (10 : Int32) = 8; decide), if_neg (show ¬ g_Reader_state (rdr V fw pl 10 op le (nI r)) = 9 by show ¬ (10 : Int32) = 9; decide), if_pos (show g_Reader_state (rdr V fw pl 10 op le (nI r)) = 10 from rfl), show g_Reader_run (rdr V fw pl 10 op le (nI r)) = nI r from rfl, nI_1, ob1_s (isDigit_ok hc)]
  by_cases z : r < 2
  · rw [if_neg (show ¬ (2 : Int32) < nI (r + 1) from nI_nlt (a := 2) (b := r + 1) (by omega) (by omega)), decide_eq_true z, Bool.true_and]
    cases dig c
    · rw [b2i_f, if_pos rfl]; rfl
    · rw [b2i_t, if_neg one_ne0]; rfl
  · rw [if_pos (show (2 : Int32) < nI (r + 1) from nI_lt (a := 2) (b := r + 1) (by omega) (by omega)), decide_eq_false z]; rfl
/-- the point: good behind a whole number, or '-0' -/
theorem num46 {V : S_Tree} {fw pl st op le ru : Int32} {n : Nat} (hs : g_Tree_size V = nI (n + 1)) (hn : n < 64) : F_X1_takeInNumber (rdr V fw pl st op le ru) (nI 46) = some (if st = 6 then true else if st = 7 then true else if st = 8 then true else false, rdr (tput V n 0 3) fw pl 9 op le 1) := by
  have h32 : ∀ b, F_X1_takePoint_32 (rdr V fw pl st op le ru) b = some (b, rdr (tput V n 0 3) fw pl 9 op le 1) := fun b => by
    unfold F_X1_takePoint_32
    rw [show g_Reader_values (rdr V fw pl st op le ru) = V from rfl, hs, show nI (n + 1) - 1 = nI n from nI_sub (a := n + 1) (b := 1) (by omega), ob1_s (put_0 n hs (by omega) (by omega))]
    rfl
  unfold F_X1_takeInNumber
  rw [if_pos (show nI 46 = (46 : Int32) from rfl)]
  unfold F_X1_takePoint
  show ob2 (if st = 6 then F_X1_takePoint_32 (rdr V fw pl st op le ru) true else if st = 7 then F_X1_takePoint_32 (rdr V fw pl st op le ru) true else if st = 8 then F_X1_takePoint_32 (rdr V fw pl st op le ru) true else F_X1_takePoint_32 (rdr V fw pl st op le ru) false) _ = _
  rw [h32, h32]
  by_cases h6 : st = 6
  · rw [if_pos h6, if_pos h6]; rfl
  · rw [if_neg h6, if_neg h6]
    by_cases h7 : st = 7
    · rw [if_pos h7, if_pos h7]; rfl
    · rw [if_neg h7, if_neg h7]
      by_cases h8 : st = 8
      · rw [if_pos h8, if_pos h8]; rfl
      · rw [if_neg h8, if_neg h8]; rfl
