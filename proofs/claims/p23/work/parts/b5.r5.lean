/-! ===== pure: a word, read by both ===== -/
section WORD
variable {C : Nat → Int32} {t : Nat → Nat} {N : Nat}
theorem take_word {V : S_Tree} {fw pl op le ru : Int32} {c : Nat} (hc : c < 128) : F_X1_take (rdr V fw pl 11 op le ru) (nI c) = F_X1_takeInWord (rdr V fw pl 11 op le ru) (nI c) := by
  have hid : ∀ X : Option (Bool × S_Reader), (ob2 X fun r u => some (r, u)) = X := fun X => by cases X <;> rfl
  unfold F_X1_take
  rw [ob1_s (ends_ok hc), show pnd 11 = false from rfl, Bool.false_and, Bool.false_and, b2i_f, if_pos rfl]
  unfold F_X1_take_16
  show (if (11 : Int32) = 0 then _ else if (11 : Int32) = 1 then _ else if (11 : Int32) = 2 then _ else if (11 : Int32) = 3 then _ else if (11 : Int32) = 4 then _ else if (11 : Int32) = 5 then _ else if (11 : Int32) = 6 then _ else if (11 : Int32) = 7 then _ else if (11 : Int32) = 8 then _ else if (11 : Int32) = 9 then _ else if (11 : Int32) = 10 then _ else if (11 : Int32) = 11 then _ else _) = _
  rw [if_neg (by decide), if_neg (by decide), if_neg (by decide), if_neg (by decide), if_neg (by decide), if_neg (by decide), if_neg (by decide), if_neg (by decide), if_neg (by decide), if_neg (by decide), if_neg (by decide), if_pos rfl]
  exact hid _
def lwr (c : Nat) : Bool := decide (97 ≤ c ∧ c ≤ 122)
theorem word23 {V : S_Tree} {fw pl st op le : Int32} {c r : Nat} (hc : c < 128) (hr : r ≤ 5) : F_X1_takeInWord_23 (nI c) (rdr V fw pl st op le (nI r)) = some (decide (r < 5) && lwr c, rdr V fw pl st op le (nI (r + 1))) := by
  unfold F_X1_takeInWord_23 lwr
  show (if (5 : Int32) < nI r + 1 then some (false, rdr V fw pl st op le (nI r + 1)) else if nI c < 97 then some (false, rdr V fw pl st op le (nI r + 1)) else if 122 < nI c then some (false, rdr V fw pl st op le (nI r + 1)) else some (true, rdr V fw pl st op le (nI r + 1))) = _
  rw [nI_1]
  by_cases z : r < 5
  · rw [if_neg (show ¬ (5 : Int32) < nI (r + 1) from nI_nlt (a := 5) (b := r + 1) (by omega) (by omega)), decide_eq_true z, Bool.true_and]
    by_cases h1 : c < 97
    · rw [if_pos (show nI c < (97 : Int32) from nI_lt (a := c) (b := 97) h1 (by omega)), decide_eq_false (by omega)]
    · rw [if_neg (show ¬ nI c < (97 : Int32) from nI_nlt (a := c) (b := 97) (by omega) (by omega))]
      by_cases h2 : 122 < c
      · rw [if_pos (show (122 : Int32) < nI c from nI_lt (a := 122) (b := c) h2 (by omega)), decide_eq_false (by omega)]
      · rw [if_neg (show ¬ (122 : Int32) < nI c from nI_nlt (a := 122) (b := c) (by omega) (by omega)), decide_eq_true (by omega)]
  · rw [if_pos (show (5 : Int32) < nI (r + 1) from nI_lt (a := 5) (b := r + 1) (by omega) (by omega)), decide_eq_false z]; rfl
/-- a letter, or no letter and not the end -/
theorem word_l {V : S_Tree} {fw pl st op le : Int32} {c r : Nat} (hc : c < 128) (hr : r ≤ 5) (h : c ≠ 39 ∨ r = 0) : F_X1_takeInWord (rdr V fw pl st op le (nI r)) (nI c) = some (decide (r < 5) && lwr c, rdr V fw pl st op le (nI (r + 1))) := by
  unfold F_X1_takeInWord
  rw [word23 hc hr, ifc (K := (39 : Int32)) (k := 39) rfl hc (by omega)]
  by_cases z : c = 39
  · rw [if_pos z, h.resolve_left (fun y => y z)]; rfl
  · rw [if_neg z]
theorem word_e {V : S_Tree} {fw pl st op le : Int32} {n o r : Nat} (hs : g_Tree_size V = nI n) (hn : n ≤ 64) (ho : op = -1 ∨ (op = nI o ∧ o < n)) (hr : 0 < r) (hr5 : r ≤ 5) : F_X1_takeInWord (rdr V fw pl st op le (nI r)) (nI 39) = some (true, rdr V fw pl (sbv V op o) op le (nI r)) := by
  unfold F_X1_takeInWord
  rw [if_pos (show nI 39 = (39 : Int32) from rfl), if_neg (show ¬ g_Reader_run (rdr V fw pl st op le (nI r)) ≤ 0 from nI_ge (a := 0) (b := r) hr (by omega)), ob1_s (sbv_ok hs hn ho)]
  rfl
variable {S : S_Model} {K U L B E W : Nat → Int32} {n : Nat} {O : Nat → Int32} {d x : Nat} {q : Int32}
/-- what becomes of a word -/
def WRDR (S : S_Model) (C : Nat → Int32) (N : Nat) (K U L B E W : Nat → Int32) (n : Nat) (O : Nat → Int32) (d x : Nat) (q l b : Int32) (V : S_Tree) (op : Int32) (o : Nat) (le : Int32) (R1 : S_Reader) (j : Nat) (r : Option (Bool × S_Model)) : Prop :=
  (∃ f, j ≤ f ∧ f ≤ N ∧ r = some (false, pmv S f K U L B E W n O d x (flt N f)) ∧ STOP C N R1 j f) ∨
  (∃ e pl' ru', j ≤ e ∧ e ≤ N ∧ r = some (true, pmv S e (upd K n 4) (upd U n (par O d)) (upd L n l) (upd B n b) E (upd W n 0) (n + 1) O d x q) ∧ RUN C N R1 j (rdr V (nI N) pl' (sbv V op o) op le ru') e)
theorem WRDR.run {l b op le : Int32} {o : Nat} {V : S_Tree} {R1 R2 : S_Reader} {j k : Nat} {r : Option (Bool × S_Model)} (h : RUN C N R1 j R2 k) (hk : k ≤ N) (h2 : WRDR S C N K U L B E W n O d x q l b V op o le R2 k r) : WRDR S C N K U L B E W n O d x q l b V op o le R1 j r := by
  have hjk := h.1
  rcases h2 with ⟨f, a1, a2, a3, a4⟩ | ⟨e, pl', ru', a1, a2, a3, a4⟩
  · exact Or.inl ⟨f, by omega, a2, a3, a4.run h hk⟩
  · exact Or.inr ⟨e, pl', ru', by omega, a2, a3, h.trans a4⟩
theorem isin_lwr {i : Nat} : isin t N i 97 122 = (decide (i < N) && lwr (t i)) := by
  unfold isin lwr
  by_cases h : i < N
  · by_cases z : 97 ≤ t i ∧ t i ≤ 122
    · rw [decide_eq_true z, decide_eq_true h, decide_eq_true ⟨h, z⟩]; rfl
    · rw [decide_eq_false z, decide_eq_true h, decide_eq_false (fun y => z y.2)]; rfl
  · rw [decide_eq_false h, decide_eq_false (fun y => h y.1)]; rfl
theorem and_f {i : Nat} {p : Nat → Bool} (w : ¬ (i < N ∧ p i = true)) : (decide (i < N) && p i) = false := by
  rcases Nat.lt_or_ge i N with a | a
  · rw [decide_eq_true a]
    cases hp : p i
    · rfl
    · exact absurd ⟨a, hp⟩ w
  · rw [decide_eq_false (by omega)]; rfl
theorem word65 {l b op le : Int32} {o r : Nat} {V : S_Tree} {pl : Int32} {j : Nat} (hC : CX C t N) (hT : TX S N t) (hj : j ≤ N) (hn : n < 64) (hd : d ≤ 4) (hs : g_Tree_size V = nI (n + 1)) (ho : op = -1 ∨ (op = nI o ∧ o < n + 1)) (hr : 0 < r) (hr5 : r ≤ 5) (hl : j < N → lwr (t j) = true → r = 5) :
    WRDR S C N K U L B E W n O d x q l b V op o le (rdr V (nI N) pl 11 op le (nI r)) j (F_X5_isWord_65 l (pmv S j K U L B E W n O d x q) b) := by
  unfold F_X5_isWord_65
  rw [ob2_s (isSign_ok hT (c := 39) (sg := (39 : Int32)) rfl (by omega) hj), isin_c]
  by_cases z : j < N ∧ t j = 39
  · rw [decide_eq_true z, if_pos (show true = true from rfl), b2i_t, if_neg one_ne0, ob1_s (comes_ok hn hd 4 l b)]
    refine Or.inr ⟨j + 1, _, _, by omega, by omega, rfl, go1 hC z.1 (R' := rdr V (nI N) (nI j) (sbv V op o) op le (nI r)) ?_⟩
    rw [take_word (hC.2 j z.1).2, z.2, word_e hs (by omega) ho hr hr5]
  · rw [decide_eq_false z, if_neg (show ¬ false = true by decide), b2i_f, if_pos rfl, ob2_s (stops_ok hT hj)]
    refine Or.inl ⟨j, Nat.le_refl _, hj, rfl, stop_at hC hj (by decide) fun a => ?_⟩
    have hc := (hC.2 j a).2
    rw [take_word hc, word_l hc hr5 (Or.inl fun y => z ⟨a, y⟩)]
    have : (decide (r < 5) && lwr (t j)) = false := by
      cases hw : lwr (t j)
      · exact Bool.and_false _
      · rw [hl a hw]; rfl
    rw [this]
    exact ⟨_, rfl⟩
theorem word33 {l b op le : Int32} {o : Nat} {V : S_Tree} (hC : CX C t N) (hT : TX S N t) (hn : n < 64) (hd : d ≤ 4) (hs : g_Tree_size V = nI (n + 1)) (ho : op = -1 ∨ (op = nI o ∧ o < n + 1)) : ∀ g r j pl f, 5 - r < g → g ≤ f → r ≤ 5 → j ≤ N → (r = 0 → j < N ∧ lwr (t j) = true) →
    WRDR S C N K U L B E W n O d x q l b V op o le (rdr V (nI N) pl 11 op le (nI r)) j (F_X5_isWord_33 l f (pmv S j K U L B E W n O d x q) b (nI r)) := by
  intro g
  induction g with
  | zero => intro r j pl f h; omega
  | succ g ihr =>
    intro r j pl f h1 h2 h4 hj h0
    obtain ⟨f, rfl⟩ : ∃ k, f = k + 1 := ⟨f - 1, by omega⟩
    rw [F_X5_isWord_33_s]
    by_cases z : r = 5
    · rw [z, if_pos (show (5 : Int32) ≤ nI 5 by decide)]
      exact word65 hC hT hj hn hd hs ho (by omega) (by omega) (fun _ _ => rfl)
    · rw [if_neg (show ¬ (5 : Int32) ≤ nI r from nI_ge (a := r) (b := 5) (by omega) (by omega)), ob1_s (isAt_ok hT (l := 97) (h := 122) (lo := (97 : Int32)) (hi := (122 : Int32)) rfl rfl (by omega) (by omega) hj), isin_lwr]
      by_cases w : j < N ∧ lwr (t j) = true
      · have hc := (hC.2 j w.1).2
        have n39 : t j ≠ 39 := by have := of_decide_eq_true w.2; omega
        rw [decide_eq_true w.1, w.2, Bool.and_self, b2i_t, if_neg one_ne0, pmv_at1, nI_1]
        refine WRDR.run (go1 hC w.1 (R' := rdr V (nI N) (nI j) 11 op le (nI (r + 1))) ?_) (by omega) (ihr (r + 1) (j + 1) (nI j) f (by omega) (by omega) (by omega) (by omega) (by omega))
        rw [take_word hc, word_l hc h4 (Or.inl n39), w.2, decide_eq_true (by omega)]
        rfl
      · rw [and_f (p := fun i => lwr (t i)) w, b2i_f, if_pos rfl]
        have hr : 0 < r := by
          rcases Nat.eq_zero_or_pos r with a | a
          · exact absurd (h0 a) w
          · exact a
        exact word65 hC hT hj hn hd hs ho hr h4 (fun a b => absurd ⟨a, b⟩ w)
/-- a word, behind its first sign -/
theorem word_ok {i : Nat} {l op le : Int32} {o : Nat} {V : S_Tree} {pl : Int32} (hC : CX C t N) (hT : TX S N t) (hn : n < 64) (hd : d ≤ 4) (hs : g_Tree_size V = nI (n + 1)) (ho : op = -1 ∨ (op = nI o ∧ o < n + 1)) (hi : i < N) :
    WRDR S C N K U L B E W n O d x q l (nI i) V op o le (rdr V (nI N) pl 11 op le 0) (i + 1) (F_X5_isWord (pmv S i K U L B E W n O d x q) l) := by
  unfold F_X5_isWord
  have hi1 : i + 1 ≤ N := by omega
  rw [pmv_at1, ob1_s (isAt_ok hT (l := 97) (h := 122) (lo := (97 : Int32)) (hi := (122 : Int32)) rfl rfl (by omega) (by omega) hi1), isin_lwr, pmv_at]
  by_cases w : i + 1 < N ∧ lwr (t (i + 1)) = true
  · rw [decide_eq_true w.1, w.2, Bool.and_self, b2i_t, if_neg one_ne0]
    exact word33 hC hT hn hd hs ho 6 0 (i + 1) pl 5000 (by omega) (by omega) (by omega) hi1 (fun _ => w)
  · rw [and_f (p := fun i => lwr (t i)) w, b2i_f, if_pos rfl, ob2_s (stops_ok hT hi1)]
    refine Or.inl ⟨i + 1, Nat.le_refl _, hi1, rfl, stop_at hC hi1 (by decide) fun a => ?_⟩
    have hc := (hC.2 _ a).2
    rw [take_word hc, show (0 : Int32) = nI 0 from rfl, word_l hc (by omega) (Or.inr rfl)]
    have : lwr (t (i + 1)) = false := by
      cases hw : lwr (t (i + 1))
      · rfl
      · exact absurd ⟨a, hw⟩ w
    rw [this, Bool.and_false]
    exact ⟨_, rfl⟩
end WORD
