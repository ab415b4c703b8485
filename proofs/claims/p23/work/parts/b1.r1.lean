/-! ===== pure: the class reads, character by character ===== -/
def rdr (V : S_Tree) (fw pl st op le ru : Int32) : S_Reader := (V, fw, pl, st, op, le, ru)
/-- from i the reading comes to j -/
def RUN (C : Nat → Int32) (N : Nat) (R : S_Reader) (i : Nat) (R' : S_Reader) (j : Nat) : Prop := i ≤ j ∧ ∀ f, F_X1_read_34 (nI N) C (f + (j - i)) R (nI i) = F_X1_read_34 (nI N) C f R' (nI j)
/-- from i the reading stops at j: no document -/
def STOP (C : Nat → Int32) (N : Nat) (R : S_Reader) (i j : Nat) : Prop := ∃ R', g_Reader_firstWrong R' = nI j ∧ ∀ f, N - i < f → F_X1_read_34 (nI N) C f R (nI i) = some (false, R')
theorem RUN.refl {C : Nat → Int32} {N : Nat} {R : S_Reader} {i : Nat} : RUN C N R i R i := ⟨Nat.le_refl _, fun f => by rw [Nat.sub_self, Nat.add_zero]⟩
theorem RUN.trans {C : Nat → Int32} {N : Nat} {R R1 R2 : S_Reader} {i j k : Nat} (h1 : RUN C N R i R1 j) (h2 : RUN C N R1 j R2 k) : RUN C N R i R2 k := by
  refine ⟨by have := h1.1; have := h2.1; omega, fun f => ?_⟩
  have e : f + (k - i) = (f + (k - j)) + (j - i) := by have := h1.1; have := h2.1; omega
  rw [e, h1.2, h2.2]
theorem STOP.run {C : Nat → Int32} {N : Nat} {R R1 : S_Reader} {i j k : Nat} (h1 : RUN C N R i R1 j) (hj : j ≤ N) (h2 : STOP C N R1 j k) : STOP C N R i k := by
  obtain ⟨R', a1, a2⟩ := h2
  refine ⟨R', a1, fun f hf => ?_⟩
  have hij := h1.1
  have e : f = (f - (j - i)) + (j - i) := by omega
  rw [e, h1.2]
  exact a2 _ (by omega)
theorem run1 {C : Nat → Int32} {N i : Nat} {V : S_Tree} {fw pl st op le ru : Int32} {R' : S_Reader} (hi : i < N) (hN : N ≤ 60) (h : F_X1_take (rdr V fw (nI i) st op le ru) (C i) = some (true, R')) : RUN C N (rdr V fw pl st op le ru) i R' (i + 1) := by
  refine ⟨Nat.le_succ i, fun f => ?_⟩
  rw [show f + (i + 1 - i) = f + 1 by omega, F_X1_read_34_s, if_neg (nI_ge hi (by omega)), if_neg (show ¬ (60 : Int32) ≤ nI i from nI_ge (a := i) (b := 60) (by omega) (by omega)), og_t (inb_nI (by omega) (by omega)), nI_clamp (by omega)]
  have hp : s_Reader_place (rdr V fw pl st op le ru) (nI i) = rdr V fw (nI i) st op le ru := rfl
  rw [hp, ob2_s h, b2i_t, if_neg one_ne0, nI_1]
theorem stop_bad {C : Nat → Int32} {N i : Nat} {V : S_Tree} {fw pl st op le ru : Int32} {R' : S_Reader} (hi : i < N) (hN : N ≤ 60) (h : F_X1_take (rdr V fw (nI i) st op le ru) (C i) = some (false, R')) : STOP C N (rdr V fw pl st op le ru) i i := by
  refine ⟨s_Reader_firstWrong R' (nI i), rfl, fun f hf => ?_⟩
  obtain ⟨g, rfl⟩ : ∃ g, f = g + 1 := ⟨f - 1, by omega⟩
  rw [F_X1_read_34_s, if_neg (nI_ge hi (by omega)), if_neg (show ¬ (60 : Int32) ≤ nI i from nI_ge (a := i) (b := 60) (by omega) (by omega)), og_t (inb_nI (by omega) (by omega)), nI_clamp (by omega)]
  have hp : s_Reader_place (rdr V fw pl st op le ru) (nI i) = rdr V fw (nI i) st op le ru := rfl
  rw [hp, ob2_s h, b2i_f, if_pos rfl]
theorem stop_end {C : Nat → Int32} {N : Nat} {V : S_Tree} {pl st op le ru : Int32} (hN : N ≤ 60) (h : ¬ st = 12) : STOP C N (rdr V (nI N) pl st op le ru) N N := by
  refine ⟨rdr V (nI N) pl st op le ru, rfl, fun f hf => ?_⟩
  obtain ⟨g, rfl⟩ : ∃ g, f = g + 1 := ⟨f - 1, by omega⟩
  rw [F_X1_read_34_s, if_pos (nI_le (Nat.le_refl _) (by omega)), if_neg (show ¬ g_Reader_state (rdr V (nI N) pl st op le ru) = 12 from h)]
theorem done_end {C : Nat → Int32} {N : Nat} {V : S_Tree} {fw pl op le ru : Int32} (hN : N ≤ 60) (f : Nat) : F_X1_read_34 (nI N) C (f + 1) (rdr V fw pl 12 op le ru) (nI N) = some (true, rdr V fw pl 12 op le ru) := by
  rw [F_X1_read_34_s, if_pos (nI_le (Nat.le_refl _) (by omega)), if_pos (show g_Reader_state (rdr V fw pl 12 op le ru) = 12 from rfl)]
/-! characters -/
def dig (c : Nat) : Bool := decide (48 ≤ c ∧ c ≤ 57)
theorem isDigit_ok {c : Nat} (hc : c < 128) : F_X1_isDigit (nI c) = some (dig c) := by
  unfold F_X1_isDigit dig
  by_cases h1 : c < 48
  · rw [if_pos (show nI c < (48 : Int32) from nI_lt (a := c) (b := 48) h1 (by omega)), decide_eq_false (by omega)]
  · rw [if_neg (show ¬ nI c < (48 : Int32) from nI_nlt (a := c) (b := 48) (by omega) (by omega))]
    by_cases h2 : 57 < c
    · rw [if_pos (show (57 : Int32) < nI c from nI_lt (a := 57) (b := c) h2 (by omega)), decide_eq_false (by omega)]
    · rw [if_neg (show ¬ (57 : Int32) < nI c from nI_nlt (a := 57) (b := c) (by omega) (by omega)), decide_eq_true (by omega)]
theorem nI_ne {a b : Nat} (ha : a < 2 ^ 31) (hb : b < 2 ^ 31) (h : a ≠ b) : ¬ nI a = nI b := fun z => h (nI_inj ha hb z)
/-- a character against a literal -/
theorem c_eq {c k : Nat} {K : Int32} (hK : K = nI k) (hc : c < 128) (hk : k < 128) : (nI c = K) ↔ c = k := by
  rw [hK]; exact nI_eq (by omega) (by omega)
/-- a number is there that can end -/
def pnd (st : Int32) : Bool := if st = 7 then true else if st = 8 then true else if st = 10 then true else false
/-- whether the number before ends: only digits and the point go on -/
theorem ends_ok {V : S_Tree} {fw pl st op le ru : Int32} {c : Nat} (hc : c < 128) : F_X1_endsNumber (rdr V fw pl st op le ru) (nI c) = some (pnd st && !dig c && decide (c ≠ 46)) := by
  have h32 : ∀ t0 : Bool, F_X1_endsNumber_32 (nI c) t0 = some (t0 && !dig c && decide (c ≠ 46)) := by
    intro t0
    unfold F_X1_endsNumber_32
    rw [ob1_s (isDigit_ok hc)]
    cases hd : dig c with
    | true =>
      rw [b2i_t, if_neg one_ne0]
      cases t0 <;> rfl
    | false =>
      rw [b2i_f, if_pos rfl]
      by_cases h : c = 46
      · rw [if_pos ((c_eq (K := 46) (k := 46) rfl hc (by omega)).mpr h), decide_eq_false (fun z => z h)]
        cases t0 <;> rfl
      · rw [if_neg (fun z => h ((c_eq (K := 46) (k := 46) rfl hc (by omega)).mp z)), decide_eq_true h]
        cases t0 <;> rfl
  unfold F_X1_endsNumber pnd
  show (if st = 7 then F_X1_endsNumber_32 (nI c) true else if st = 8 then F_X1_endsNumber_32 (nI c) true else if st = 10 then F_X1_endsNumber_32 (nI c) true else F_X1_endsNumber_32 (nI c) false) = _
  rw [h32, h32]
  by_cases h7 : st = 7
  · rw [if_pos h7, if_pos h7]
  · rw [if_neg h7, if_neg h7]
    by_cases h8 : st = 8
    · rw [if_pos h8, if_pos h8]
    · rw [if_neg h8, if_neg h8]
      by_cases h10 : st = 10
      · rw [if_pos h10, if_pos h10]
      · rw [if_neg h10, if_neg h10]
/-- the state behind a value -/
def sbv (V : S_Tree) (op : Int32) (o : Nat) : Int32 := if op = -1 then 12 else if tc V o 0 = 6 then 1 else 4
theorem sbv_ok {V : S_Tree} {fw pl st op le ru : Int32} {n o : Nat} (hs : g_Tree_size V = nI n) (hn : n ≤ 64) (ho : op = -1 ∨ (op = nI o ∧ o < n)) : F_X1_stateBehindValue (rdr V fw pl st op le ru) = some (sbv V op o) := by
  unfold F_X1_stateBehindValue sbv
  show (if op = -1 then some 12 else ob1 (F_X3_get V op 0) fun r2 => if r2 = 6 then some 1 else some 4) = _
  rcases ho with h | ⟨h, h2⟩
  · rw [if_pos h, if_pos h]
  · rw [h, if_neg (nI_m1 (by omega)), if_neg (nI_m1 (by omega)), ob1_s (get_0 o hs hn h2)]
    by_cases z : tc V o 0 = 6
    · rw [if_pos z, if_pos z]
    · rw [if_neg z, if_neg z]
/-- the depth of what comes next -/
def dnx (V : S_Tree) (op : Int32) (o : Nat) : Int32 := if op = -1 then 0 else tc V o 2 + 1
theorem dnx_ok {V : S_Tree} {fw pl st op le ru : Int32} {n o : Nat} (hs : g_Tree_size V = nI n) (hn : n ≤ 64) (ho : op = -1 ∨ (op = nI o ∧ o < n)) : F_X1_depthOfNext (rdr V fw pl st op le ru) = some (dnx V op o) := by
  unfold F_X1_depthOfNext dnx
  show (if op = -1 then some 0 else ob1 (F_X3_get V op 2) fun r2 => some (r2 + 1)) = _
  rcases ho with h | ⟨h, h2⟩
  · rw [if_pos h, if_pos h]
  · rw [h, if_neg (nI_m1 (by omega)), if_neg (nI_m1 (by omega)), ob1_s (get_2 o hs hn h2)]
/-- the letter that a value there has -/
def lnx (V : S_Tree) (op : Int32) (o : Nat) (le : Int32) : Int32 := if op = -1 then le else if tc V o 0 = 5 then 8 else le
/-- a new row of the document -/
def vnew (V V' : S_Tree) (n : Nat) (k l d b p : Int32) : Prop := g_Tree_size V' = nI (n + 1) ∧ (∀ r j, r ≠ n → j < 9 → tc V' r j = tc V r j) ∧ tc V' n 0 = k ∧ tc V' n 1 = l ∧ tc V' n 2 = d ∧ tc V' n 3 = b ∧ tc V' n 4 = 0 ∧ tc V' n 5 = p ∧ tc V' n 6 = 0
theorem take82 {V : S_Tree} {fw pl st op le ru : Int32} {n o : Nat} (hs : g_Tree_size V = nI n) (hn : n < 64) (ho : op = -1 ∨ (op = nI o ∧ o < n)) (c : Int32) (k : Int32) (h : Bool) (l : Int32) : ∃ V', vnew V V' n k l (dnx V op o) pl op ∧ F_X1_takeValue_82 c (rdr V fw pl st op le ru) k h l = F_X1_takeValue_144 c (rdr V' fw pl st op le ru) k (if h then nI n else op) := by
  obtain ⟨V1, e1, e2, e3, e4, e5⟩ := add_ok (l := l) (d := dnx V op o) hs hn
  have s1 : g_Tree_size (tput V1 n 0 k) = nI (n + 1) := e2
  have s2 : g_Tree_size (tput (tput V1 n 0 k) n 3 pl) = nI (n + 1) := e2
  refine ⟨tput (tput (tput V1 n 0 k) n 3 pl) n 5 op, ⟨e2, ?_, ?_, ?_, ?_, ?_, ?_, ?_, ?_⟩, ?_⟩
  · intro r j hr hj
    rw [tc_tput (by omega) hj, if_neg (by omega), tc_tput (by omega) hj, if_neg (by omega), tc_tput (by omega) hj, if_neg (by omega)]
    exact e5 r j hr hj
  · rw [tc_tput (by omega) (by omega), if_neg (by omega), tc_tput (by omega) (by omega), if_neg (by omega), tc_tput (by omega) (by omega), if_pos ⟨rfl, rfl⟩]
  · rw [tc_tput (by omega) (by omega), if_neg (by omega), tc_tput (by omega) (by omega), if_neg (by omega), tc_tput (by omega) (by omega), if_neg (by omega), e4 1 (by omega)]; rfl
  · rw [tc_tput (by omega) (by omega), if_neg (by omega), tc_tput (by omega) (by omega), if_neg (by omega), tc_tput (by omega) (by omega), if_neg (by omega), e4 2 (by omega)]; rfl
  · rw [tc_tput (by omega) (by omega), if_neg (by omega), tc_tput (by omega) (by omega), if_pos ⟨rfl, rfl⟩]
  · rw [tc_tput (by omega) (by omega), if_neg (by omega), tc_tput (by omega) (by omega), if_neg (by omega), tc_tput (by omega) (by omega), if_neg (by omega), e4 4 (by omega)]; rfl
  · rw [tc_tput (by omega) (by omega), if_pos ⟨rfl, rfl⟩]
  · rw [tc_tput (by omega) (by omega), if_neg (by omega), tc_tput (by omega) (by omega), if_neg (by omega), tc_tput (by omega) (by omega), if_neg (by omega), e4 6 (by omega)]; rfl
  · unfold F_X1_takeValue_82
    have hv : g_Reader_values (rdr V fw pl st op le ru) = V := rfl
    have hp : g_Reader_place (rdr V fw pl st op le ru) = pl := rfl
    have hop : g_Reader_open (rdr V fw pl st op le ru) = op := rfl
    rw [ob1_s (dnx_ok hs (by omega) ho), hv, ob2_s e1, hp, hop, ob1_s (put_0 n e2 (by omega) (by omega)), ob1_s (put_3 n s1 (by omega) (by omega)), ob1_s (put_5 n s2 (by omega) (by omega))]
    cases h
    · rw [b2i_f, if_pos rfl]; rfl
    · rw [b2i_t, if_neg one_ne0]; rfl
/-- from the kind on: a value is taken -/
theorem take41 {V : S_Tree} {fw pl st op le ru : Int32} {n o : Nat} (hs : g_Tree_size V = nI n) (hn : n < 64) (ho : op = -1 ∨ (op = nI o ∧ o < n)) (c : Int32) (k : Int32) (h : Bool) : ∃ V', vnew V V' n k (lnx V op o le) (dnx V op o) pl op ∧ F_X1_takeValue_41 c (rdr V fw pl st op le ru) k h = F_X1_takeValue_144 c (rdr V' fw pl st op le ru) k (if h then nI n else op) := by
  have hv : g_Reader_values (rdr V fw pl st op le ru) = V := rfl
  have hop : g_Reader_open (rdr V fw pl st op le ru) = op := rfl
  have hle : g_Reader_letter (rdr V fw pl st op le ru) = le := rfl
  unfold F_X1_takeValue_41
  rw [hv, hop, hle]
  rcases ho with h1 | ⟨h1, h2⟩
  · obtain ⟨V', v1, v2⟩ := take82 (fw := fw) (pl := pl) (st := st) (le := le) (ru := ru) hs hn (Or.inl h1 : op = -1 ∨ (op = nI o ∧ o < n)) c k h le
    refine ⟨V', ?_, ?_⟩
    · have : lnx V op o le = le := by unfold lnx; rw [if_pos h1]
      rw [this]; exact v1
    · rw [h1, ob1_s get_none, if_neg (by decide), ← h1]
      exact v2
  · obtain ⟨V', v1, v2⟩ := take82 (fw := fw) (pl := pl) (st := st) (le := le) (ru := ru) hs hn (Or.inr ⟨h1, h2⟩ : op = -1 ∨ (op = nI o ∧ o < n)) c k h (lnx V op o le)
    refine ⟨V', v1, ?_⟩
    have hg : F_X3_get V op 0 = some (tc V o 0) := by rw [h1]; exact get_0 o hs (by omega) h2
    have hne : ¬ op = -1 := by rw [h1]; exact nI_m1 (by omega)
    have hl : lnx V op o le = if tc V o 0 = 5 then 8 else le := by unfold lnx; rw [if_neg hne]
    rw [ob1_s hg, ← v2, hl]
    by_cases z : tc V o 0 = 5
    · rw [if_pos z, if_pos z]
    · rw [if_neg z, if_neg z]
