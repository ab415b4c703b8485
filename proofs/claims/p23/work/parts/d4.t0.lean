/-! ===== p23, pure: bits of the law's numbers ===== -/
/-! (bt, b_or .. b_shl, wb_of32, nx_and: begun from the kit's rows to paste) -/
def bt (x : Int32) (i : Nat) : Bool := x.toBitVec.getLsbD i
theorem b_or (x y : Int32) (i : Nat) : bt (x ||| y) i = (bt x i || bt y i) := by unfold bt; rw [Int32.toBitVec_or, BitVec.getLsbD_or]
theorem b_and (x y : Int32) (i : Nat) : bt (x &&& y) i = (bt x i && bt y i) := by unfold bt; rw [Int32.toBitVec_and, BitVec.getLsbD_and]
theorem b_xor (x y : Int32) (i : Nat) : bt (x ^^^ y) i = (bt x i ^^ bt y i) := by unfold bt; rw [Int32.toBitVec_xor, BitVec.getLsbD_xor]
theorem b_m1 : ∀ i, i < 32 → bt (-1) i = true := by decide +kernel
theorem b_0 (i : Nat) : bt 0 i = false := BitVec.getLsbD_zero
theorem b_one : ∀ k, k < 21 → ∀ i, i < 21 → bt ((1 : Int32) <<< (nI k &&& 31)) i = decide (i = k) := by decide +kernel
theorem b_fif : ∀ j, j < 5 → ∀ i, i < 21 → bt ((15 : Int32) <<< (nI (4 * j) &&& 31)) i = decide (4 * j ≤ i ∧ i < 4 * j + 4) := by decide +kernel
theorem b_tp : ∀ l, l < 32 → ((1 : Int32) <<< (nI l &&& 31)).toBitVec = BitVec.twoPow 32 l := by decide +kernel
theorem b_tn : ∀ l, l < 32 → BitVec.twoPow 32 l ≠ 0#32 := by decide +kernel
/-- a bit is tested -/
theorem b_test (x : Int32) {l : Nat} (hl : l < 32) : (x &&& ((1 : Int32) <<< (nI l &&& 31))) = 0 ↔ bt x l = false := by
  rw [← Int32.toBitVec_inj, Int32.toBitVec_and, b_tp l hl, BitVec.and_twoPow]
  show (if x.toBitVec.getLsbD l = true then BitVec.twoPow 32 l else 0#32) = 0#32 ↔ x.toBitVec.getLsbD l = false
  cases hb : x.toBitVec.getLsbD l with
  | false => exact ⟨fun _ => rfl, fun _ => if_neg (by decide)⟩
  | true => exact ⟨fun z => absurd ((if_pos rfl).symm.trans z) (b_tn l hl), fun z => (nomatch z)⟩
theorem b_set {x : Int32} {k i : Nat} (hk : k < 21) (hi : i < 21) : bt (x ||| ((1 : Int32) <<< (nI k &&& 31))) i = (bt x i || decide (i = k)) := by rw [b_or, b_one k hk i hi]
theorem b_off {x : Int32} {k i : Nat} (hk : k < 21) (hi : i < 21) : bt (x &&& (((1 : Int32) <<< (nI k &&& 31)) ^^^ (-1))) i = (bt x i && !decide (i = k)) := by
  rw [b_and, b_xor, b_one k hk i hi, b_m1 i (by omega)]
  cases bt x i <;> cases decide (i = k) <;> rfl
theorem b_of4 {x : Int32} {j i : Nat} (hj : j < 5) (hi : i < 21) : bt (x &&& (((15 : Int32) <<< (nI (4 * j) &&& 31)) ^^^ (-1))) i = (bt x i && !decide (4 * j ≤ i ∧ i < 4 * j + 4)) := by
  rw [b_and, b_xor, b_fif j hj i hi, b_m1 i (by omega)]
  cases bt x i <;> cases decide (4 * j ≤ i ∧ i < 4 * j + 4) <;> rfl
theorem i_of32 (x : Int32) : ∃ n, n < 2 ^ 32 ∧ x = nI n := ⟨x.toBitVec.toNat, x.toBitVec.isLt, Int32.toBitVec_inj.mp (by show _ = BitVec.ofNat 32 _; simp)⟩
theorem i_and (a b : Nat) : nI a &&& nI b = nI (a &&& b) := by
  apply Int32.toBitVec_inj.mp
  rw [Int32.toBitVec_and]
  show BitVec.ofNat 32 a &&& BitVec.ofNat 32 b = BitVec.ofNat 32 (a &&& b)
  apply BitVec.eq_of_toNat_eq
  rw [BitVec.toNat_and, BitVec.toNat_ofNat, BitVec.toNat_ofNat, BitVec.toNat_ofNat, Nat.and_mod_two_pow]
theorem nI_rem {a m : Nat} (ha : a < 2 ^ 31) (hm : m < 2 ^ 31) : nI a % nI m = nI (a % m) := by
  rw [← Int32.toInt_inj, Int32.toInt_mod, nI_toInt ha, nI_toInt hm, nI_toInt (Nat.lt_of_le_of_lt (Nat.mod_le _ _) ha)]
  rfl
/-- a small number of the array -/
theorem low_cl (v : Int32) {m : Nat} (h0 : 0 < m) (hm : m < 2 ^ 31) : ∃ r, r < m ∧ F_L_low v (nI m) = some (nI r) := by
  obtain ⟨n, h1, rfl⟩ := i_of32 v
  have h2 : nI n &&& (2147483647 : Int32) = nI (n % 2147483648) := by
    rw [show (2147483647 : Int32) = nI 2147483647 from rfl, i_and, Nat.and_two_pow_sub_one_eq_mod n 31]
  refine ⟨n % 2147483648 % m, Nat.mod_lt _ h0, ?_⟩
  unfold F_L_low
  rw [h2, og_t (decide_eq_true (nI_ne0 h0 hm)), nI_rem (by omega) hm]
/-- a place of the array, or what stands behind it -/
theorem cell_cl (L : Nat) (xs : Nat → Int32) {a : Nat} (hL : L < 2 ^ 31) (ha : a < 2 ^ 31) : ∃ v, F_L_cell L xs (nI a) = some v := by
  unfold F_L_cell
  rcases Nat.lt_or_ge a L with z | z
  · rw [if_neg (show ¬ Int32.ofNat L ≤ nI a from nI_ge z hL), og_t (inb_nI z hL)]
    exact ⟨_, rfl⟩
  · rw [if_pos (show Int32.ofNat L ≤ nI a from nI_le z ha)]
    exact ⟨_, rfl⟩
/-! ===== a text that grows, and how it is read ===== -/
/-- all readings of a text that begins so come to such a state -/
def RDc (C0 : Nat → Int32) (n : Nat) (P : S_Tree → Int32 → Int32 → Int32 → Int32 → Prop) : Prop := ∀ (C : Nat → Int32) (N : Nat) (V0 : S_Tree) (pl0 : Int32), n ≤ N → N ≤ 60 → (∀ i, i < n → C i = C0 i) → g_Tree_size V0 = nI 0 → ∃ V pl st op le ru, P V st op le ru ∧ RUN C N (rdr V0 (nI N) pl0 0 (-1) (-1) 0) 0 (rdr V (nI N) pl st op le ru) n
theorem RDc.step {C0 : Nat → Int32} {n : Nat} {P Q : S_Tree → Int32 → Int32 → Int32 → Int32 → Prop} (h : RDc C0 n P) {c : Int32} (hs : ∀ V st op le ru, P V st op le ru → ∀ fw pl, ∃ V' st' op' le' ru', Q V' st' op' le' ru' ∧ F_X1_take (rdr V fw pl st op le ru) c = some (true, rdr V' fw pl st' op' le' ru')) : RDc (upd C0 n c) (n + 1) Q := by
  intro C N V0 pl0 h1 h2 h3 h4
  obtain ⟨V, pl, st, op, le, ru, p, r⟩ := h C N V0 pl0 (by omega) h2 (fun i hi => by rw [h3 i (by omega), upd_ne (by omega)]) h4
  obtain ⟨V', st', op', le', ru', q, t⟩ := hs V st op le ru p (nI N) (nI n)
  refine ⟨V', nI n, st', op', le', ru', q, r.trans (run1 (by omega) h2 ?_)⟩
  rw [h3 n (by omega), upd_at]
  exact t
theorem RDc.weak {C0 : Nat → Int32} {n : Nat} {P Q : S_Tree → Int32 → Int32 → Int32 → Int32 → Prop} (h : RDc C0 n P) (hs : ∀ V st op le ru, P V st op le ru → Q V st op le ru) : RDc C0 n Q := by
  intro C N V0 pl0 h1 h2 h3 h4
  obtain ⟨V, pl, st, op, le, ru, p, r⟩ := h C N V0 pl0 h1 h2 h3 h4
  exact ⟨V, pl, st, op, le, ru, hs _ _ _ _ _ p, r⟩
/-- the object's text: n characters, all readings of it come to such a state -/
def RS (S : S_LS) (n : Nat) (P : S_Tree → Int32 → Int32 → Int32 → Int32 → Prop) : Prop := g_LS_length S = nI n ∧ RDc (g_LS_codes S) n P
/-- nothing but the text has changed -/
def SM (S S' : S_LS) : Prop := g_LS_now S' = g_LS_now S ∧ g_LS_savedStates S' = g_LS_savedStates S
theorem SM.rfl' {S : S_LS} : SM S S := ⟨rfl, rfl⟩
theorem SM.trans {S S1 S2 : S_LS} (h : SM S S1) (h2 : SM S1 S2) : SM S S2 := ⟨h2.1.trans h.1, h2.2.trans h.2⟩
theorem app_cl {S : S_LS} {n c : Nat} (h : g_LS_length S = nI n) (hn : n < 60) (h1 : 33 ≤ c) (h2 : c ≤ 126) : ∃ r, okr (F_X4_append S (nI c)) = some (r, s_LS_length (s_LS_codes S (upd (g_LS_codes S) n (nI c))) (nI (n + 1))) := by
  unfold F_X4_append
  rw [if_neg (show ¬ nI c < (33 : Int32) from nI_nlt (a := c) (b := 33) (by omega) (by omega)), if_pos (show nI c ≤ (126 : Int32) from nI_le (b := 126) (by omega) (by omega)), h, if_pos (show nI n < (60 : Int32) from nI_lt (a := n) (b := 60) hn (by omega)), og_t (inb_nI (by omega) (by omega)), nI_clamp (by omega), nI_1, if_neg (nI_nneg (by omega))]
  exact ⟨_, rfl⟩
theorem RS.step {S : S_LS} {n c : Nat} {P Q : S_Tree → Int32 → Int32 → Int32 → Int32 → Prop} (h : RS S n P) (hn : n < 60) (h1 : 33 ≤ c) (h2 : c ≤ 126) (hs : ∀ V st op le ru, P V st op le ru → ∀ fw pl, ∃ V' st' op' le' ru', Q V' st' op' le' ru' ∧ F_X1_take (rdr V fw pl st op le ru) (nI c) = some (true, rdr V' fw pl st' op' le' ru')) : ∃ r S', okr (F_X4_append S (nI c)) = some (r, S') ∧ RS S' (n + 1) Q ∧ SM S S' := by
  obtain ⟨r, e⟩ := app_cl h.1 hn h1 h2
  exact ⟨r, _, e, ⟨rfl, h.2.step hs⟩, rfl, rfl⟩
theorem ob2_id (X : Option (Bool × S_Reader)) : (ob2 X fun r u => some (r, u)) = X := by cases X <;> rfl
section TK
variable {V : S_Tree} {v fw pl op le ru : Int32}
theorem t16_2 : F_X1_take_16 v (rdr V fw pl 2 op le ru) = F_X1_takeValue (rdr V fw pl 2 op le ru) v := by
  unfold F_X1_take_16
  show (if (2 : Int32) = 0 then _ else if (2 : Int32) = 1 then _ else if (2 : Int32) = 2 then _ else _) = _
  rw [if_neg (by decide), if_neg (by decide), if_pos rfl]
  exact ob2_id _
theorem t16_3v (h : ¬ v = 93) : F_X1_take_16 v (rdr V fw pl 3 op le ru) = F_X1_takeValue (rdr V fw pl 3 op le ru) v := by
  unfold F_X1_take_16
  show (if (3 : Int32) = 0 then _ else if (3 : Int32) = 1 then _ else if (3 : Int32) = 2 then _ else if (3 : Int32) = 3 then (if v = 93 then _ else _) else _) = _
  rw [if_neg (by decide), if_neg (by decide), if_neg (by decide), if_pos rfl, if_neg h]
  exact ob2_id _
theorem t16_5 : F_X1_take_16 v (rdr V fw pl 5 op le ru) = F_X1_takeInNumber (rdr V fw pl 5 op le ru) v := by
  unfold F_X1_take_16
  show (if (5 : Int32) = 0 then _ else if (5 : Int32) = 1 then _ else if (5 : Int32) = 2 then _ else if (5 : Int32) = 3 then _ else if (5 : Int32) = 4 then _ else if (5 : Int32) = 5 then _ else _) = _
  rw [if_neg (by decide), if_neg (by decide), if_neg (by decide), if_neg (by decide), if_neg (by decide), if_pos rfl]
  exact ob2_id _
theorem t16_8 : F_X1_take_16 v (rdr V fw pl 8 op le ru) = F_X1_takeInNumber (rdr V fw pl 8 op le ru) v := by
  unfold F_X1_take_16
  show (if (8 : Int32) = 0 then _ else if (8 : Int32) = 1 then _ else if (8 : Int32) = 2 then _ else if (8 : Int32) = 3 then _ else if (8 : Int32) = 4 then _ else if (8 : Int32) = 5 then _ else if (8 : Int32) = 6 then _ else if (8 : Int32) = 7 then _ else if (8 : Int32) = 8 then _ else _) = _
  rw [if_neg (by decide), if_neg (by decide), if_neg (by decide), if_neg (by decide), if_neg (by decide), if_neg (by decide), if_neg (by decide), if_neg (by decide), if_pos rfl]
  exact ob2_id _
theorem t16_9 : F_X1_take_16 v (rdr V fw pl 9 op le ru) = F_X1_takeInNumber (rdr V fw pl 9 op le ru) v := by
  unfold F_X1_take_16
  show (if (9 : Int32) = 0 then _ else if (9 : Int32) = 1 then _ else if (9 : Int32) = 2 then _ else if (9 : Int32) = 3 then _ else if (9 : Int32) = 4 then _ else if (9 : Int32) = 5 then _ else if (9 : Int32) = 6 then _ else if (9 : Int32) = 7 then _ else if (9 : Int32) = 8 then _ else if (9 : Int32) = 9 then _ else _) = _
  rw [if_neg (by decide), if_neg (by decide), if_neg (by decide), if_neg (by decide), if_neg (by decide), if_neg (by decide), if_neg (by decide), if_neg (by decide), if_neg (by decide), if_pos rfl]
  exact ob2_id _
/-- no number is pending -/
theorem tk_plain {st : Int32} {c : Nat} (hc : c < 128) (h : pnd st = false) : F_X1_take (rdr V fw pl st op le ru) (nI c) = F_X1_take_16 (nI c) (rdr V fw pl st op le ru) := by
  unfold F_X1_take
  rw [ob1_s (ends_ok hc), h, Bool.false_and, Bool.false_and, b2i_f, if_pos rfl]
/-- a value has ended -/
theorem tk_end {st : Int32} {c n o : Nat} (hc : c < 128) (hs : g_Tree_size V = nI n) (hn : n ≤ 64) (ho : op = -1 ∨ (op = nI o ∧ o < n)) (h : st = sbv V op o ∨ pnd st = true) (hd : dig c = false) (h46 : c ≠ 46) : F_X1_take (rdr V fw pl st op le ru) (nI c) = F_X1_take_16 (nI c) (rdr V fw pl (sbv V op o) op le ru) := by
  rcases h with h | h
  · rw [h]; exact tk_plain hc (sbv_in V op o)
  · unfold F_X1_take
    rw [ob1_s (ends_ok hc), h, hd, decide_eq_true h46, show (true && !false && true) = true from rfl, b2i_t, if_neg one_ne0, ob1_s (sbv_ok hs hn ho)]
    rfl
/-- the first digit behind the sign -/
theorem tk_5 {c : Nat} (h1 : 49 ≤ c) (h2 : c ≤ 57) : F_X1_take (rdr V fw pl 5 op le ru) (nI c) = some (true, rdr V fw pl 8 op le ru) := by
  have hd : dig c = true := decide_eq_true (by omega)
  rw [tk_plain (by omega) rfl, t16_5]
  unfold F_X1_takeInNumber
  rw [ifc (K := (46 : Int32)) (k := 46) rfl (by omega) (by omega), if_neg (by omega), show g_Reader_state (rdr V fw pl 5 op le ru) = 5 from rfl, if_pos rfl, ifc (K := (48 : Int32)) (k := 48) rfl (by omega) (by omega), if_neg (by omega), ob1_s (isDigit_ok (by omega)), hd]
  rfl
/-- the point -/
theorem tk_8 {n : Nat} (hs : g_Tree_size V = nI (n + 1)) (hn : n < 64) : F_X1_take (rdr V fw pl 8 op le ru) (nI 46) = some (true, rdr (tput V n 0 3) fw pl 9 op le 1) := by
  have he : F_X1_take (rdr V fw pl 8 op le ru) (nI 46) = F_X1_take_16 (nI 46) (rdr V fw pl 8 op le ru) := by
    unfold F_X1_take
    rw [ob1_s (ends_ok (by omega)), show (pnd 8 && !dig 46 && decide ((46 : Nat) ≠ 46)) = false from rfl, b2i_f, if_pos rfl]
  rw [he, t16_8]
  unfold F_X1_takeInNumber F_X1_takePoint F_X1_takePoint_32
  rw [if_pos (show nI 46 = (46 : Int32) from rfl), show g_Reader_state (rdr V fw pl 8 op le ru) = 8 from rfl, if_neg (by decide), if_neg (by decide), if_pos rfl, show g_Reader_values (rdr V fw pl 8 op le ru) = V from rfl, hs, show nI (n + 1) - 1 = nI n from nI_sub (a := n + 1) (b := 1) (by omega), ob1_s (put_0 n hs (by omega) (by omega))]
  rfl
/-- a digit behind the point -/
theorem tk_9 {c : Nat} (h1 : 48 ≤ c) (h2 : c ≤ 57) : F_X1_take (rdr V fw pl 9 op le ru) (nI c) = some (true, rdr V fw pl 10 op le ru) := by
  have hd : dig c = true := decide_eq_true (by omega)
  rw [tk_plain (by omega) rfl, t16_9]
  unfold F_X1_takeInNumber
  rw [ifc (K := (46 : Int32)) (k := 46) rfl (by omega) (by omega), if_neg (by omega), show g_Reader_state (rdr V fw pl 9 op le ru) = 9 from rfl, if_neg (by decide), if_neg (by decide), if_neg (by decide), if_neg (by decide), if_pos rfl, ob1_s (isDigit_ok (by omega)), hd]
  rfl
/-- a letter of a word, and its end -/
theorem tk_11 {c : Nat} (h1 : 97 ≤ c) (h2 : c ≤ 122) : F_X1_take (rdr V fw pl 11 op le 0) (nI c) = some (true, rdr V fw pl 11 op le (nI 1)) := by
  have hl : lwr c = true := decide_eq_true (by omega)
  have h := word_l (V := V) (fw := fw) (pl := pl) (st := 11) (op := op) (le := le) (c := c) (r := 0) (by omega) (by omega) (Or.inr rfl)
  rw [hl] at h
  rw [take_word (by omega)]
  exact h
theorem tk_11e {n o : Nat} (hs : g_Tree_size V = nI n) (hn : n ≤ 64) (ho : op = -1 ∨ (op = nI o ∧ o < n)) : F_X1_take (rdr V fw pl 11 op le (nI 1)) (nI 39) = some (true, rdr V fw pl (sbv V op o) op le (nI 1)) := by
  rw [take_word (by omega)]
  exact word_e hs hn ho (by omega) (by omega)
end TK
