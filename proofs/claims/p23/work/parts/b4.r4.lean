/-! ===== pure: a number, read by both ===== -/
/-- a number can end at e -/
def PEND (t : Nat → Nat) (N e : Nat) (st ru : Int32) : Prop := (st = 7 ∧ (e < N → t e ≠ 46)) ∨ (st = 8 ∧ ∃ r, r ≤ 4 ∧ ru = nI r ∧ (e < N → t e ≠ 46) ∧ (e < N → dig (t e) = true → r = 4)) ∨ (st = 10 ∧ ∃ r, r ≤ 2 ∧ ru = nI r ∧ (e < N → dig (t e) = true → r = 2))
/-- the characters of both -/
def CX (C : Nat → Int32) (t : Nat → Nat) (N : Nat) : Prop := N ≤ 60 ∧ ∀ i, i < N → C i = nI (t i) ∧ t i < 128
theorem pend_pnd {t : Nat → Nat} {N e : Nat} {st ru : Int32} (h : PEND t N e st ru) : pnd st = true := by
  unfold pnd
  rcases h with h | h | h
  · rw [if_pos h.1]
  · rw [h.1, if_neg (by decide), if_pos rfl]
  · rw [h.1, if_neg (by decide), if_neg (by decide), if_pos rfl]
section NUM
variable {C : Nat → Int32} {t : Nat → Nat} {N : Nat}
theorem stop_at {V : S_Tree} {pl st op le ru : Int32} {i : Nat} (hC : CX C t N) (hi : i ≤ N) (h12 : ¬ st = 12) (h : i < N → ∃ R', F_X1_take (rdr V (nI N) (nI i) st op le ru) (nI (t i)) = some (false, R')) : STOP C N (rdr V (nI N) pl st op le ru) i i := by
  rcases Nat.lt_or_ge i N with z | z
  · obtain ⟨R', h'⟩ := h z
    exact stop_bad (R' := R') z hC.1 (by rw [(hC.2 i z).1]; exact h')
  · obtain rfl : i = N := by omega
    exact stop_end hC.1 h12
theorem go1 {V : S_Tree} {pl st op le ru : Int32} {i : Nat} {R' : S_Reader} (hC : CX C t N) (hi : i < N) (h : F_X1_take (rdr V (nI N) (nI i) st op le ru) (nI (t i)) = some (true, R')) : RUN C N (rdr V (nI N) pl st op le ru) i R' (i + 1) := run1 hi hC.1 (by rw [(hC.2 i hi).1]; exact h)
/-- a digit or a point behind a number's end: no document -/
theorem pend_stop {V : S_Tree} {pl st op le ru : Int32} {e n : Nat} (hC : CX C t N) (hs : g_Tree_size V = nI (n + 1)) (hn : n < 64) (he : e < N) (hp : PEND t N e st ru) (hd : dig (t e) = true ∨ t e = 46) : STOP C N (rdr V (nI N) pl st op le ru) e e := by
  have hc := (hC.2 e he).2
  refine stop_at hC (by omega) ?_ fun _ => ?_
  · rcases hp with h | h | h <;> rw [h.1] <;> decide
  rcases hp with ⟨rfl, h⟩ | ⟨rfl, r, h1, rfl, h2, h3⟩ | ⟨rfl, r, h1, rfl, h3⟩
  · rw [take_num hc (by simp) (Or.inr hd)]
    exact ⟨_, num67 hc (h he) (Or.inr rfl)⟩
  · rw [take_num hc (by simp) (Or.inr hd), num8 hc (h2 he) h1]
    have hdd : dig (t e) = true := hd.resolve_right (h2 he)
    rw [h3 he hdd]
    exact ⟨_, rfl⟩
  · rw [take_num hc (by simp) (Or.inr hd)]
    by_cases z : t e = 46
    · rw [z, num46 hs hn]
      exact ⟨_, rfl⟩
    · rw [num10 hc z h1, h3 he (hd.resolve_right z)]
      exact ⟨_, rfl⟩
variable {S : S_Model} {i : Nat} {K U L B E W : Nat → Int32} {n : Nat} {O : Nat → Int32} {d x : Nat} {q : Int32}
theorem pmv_at1 : s_Model_at (pmv S i K U L B E W n O d x q) (g_Model_at (pmv S i K U L B E W n O d x q) + 1) = pmv S (i + 1) K U L B E W n O d x q := by
  rw [pmv_at, nI_1, pmv_s_at]
theorem isin_c {i c : Nat} : isin t N i c c = decide (i < N ∧ t i = c) := by
  unfold isin
  by_cases h : i < N ∧ t i = c
  · rw [decide_eq_true h, decide_eq_true ⟨h.1, by omega, by omega⟩]
  · rw [decide_eq_false h, decide_eq_false (fun z => h ⟨z.1, by omega⟩)]
theorem isin_dig {i : Nat} : isin t N i 48 57 = (decide (i < N) && dig (t i)) := by
  unfold isin dig
  by_cases h : i < N
  · by_cases z : 48 ≤ t i ∧ t i ≤ 57
    · rw [decide_eq_true z, decide_eq_true h, decide_eq_true ⟨h, z⟩]; rfl
    · rw [decide_eq_false z, decide_eq_true h, decide_eq_false (fun y => z y.2)]; rfl
  · rw [decide_eq_false h, decide_eq_false (fun y => h y.1)]; rfl
/-- what becomes of a number -/
def NUMR (S : S_Model) (C : Nat → Int32) (t : Nat → Nat) (N : Nat) (K U L B E W : Nat → Int32) (n : Nat) (O : Nat → Int32) (d x : Nat) (q l b : Int32) (V : S_Tree) (op le : Int32) (R1 : S_Reader) (j : Nat) (r : Option (Bool × S_Model)) : Prop :=
  (∃ f, j ≤ f ∧ f ≤ N ∧ r = some (false, pmv S f K U L B E W n O d x (flt N f)) ∧ STOP C N R1 j f) ∨
  (∃ e k V' pl' st' ru', j ≤ e ∧ e ≤ N ∧ (k = 2 ∨ k = 3) ∧ r = some (true, pmv S e (upd K n k) (upd U n (par O d)) (upd L n l) (upd B n b) E (upd W n 0) (n + 1) O d x q) ∧ (V' = V ∧ k = 2 ∨ V' = tput V n 0 3 ∧ k = 3) ∧ RUN C N R1 j (rdr V' (nI N) pl' st' op le ru') e ∧ PEND t N e st' ru')
theorem NUMR.run {l b op le : Int32} {V : S_Tree} {R1 R2 : S_Reader} {j k : Nat} {r : Option (Bool × S_Model)} (h : RUN C N R1 j R2 k) (hk : k ≤ N) (h2 : NUMR S C t N K U L B E W n O d x q l b V op le R2 k r) : NUMR S C t N K U L B E W n O d x q l b V op le R1 j r := by
  have hjk := h.1
  rcases h2 with ⟨f, a1, a2, a3, a4⟩ | ⟨e, k1, V', pl', st', ru', a1, a2, a3, a4, a5, a6, a7⟩
  · exact Or.inl ⟨f, by omega, a2, a3, a4.run h hk⟩
  · exact Or.inr ⟨e, k1, V', pl', st', ru', by omega, a2, a3, a4, a5, h.trans a6, a7⟩
theorem num114 {l b op le : Int32} {V : S_Tree} {pl st ru : Int32} {j : Nat} (hC : CX C t N) (hT : TX S N t) (hj : j ≤ N) (hn : n < 64) (hd : d ≤ 4) (hs : g_Tree_size V = nI (n + 1)) (hst : (st = 6 ∧ j < N ∧ t j = 46) ∨ st = 7 ∨ (st = 8 ∧ ∃ r, r ≤ 4 ∧ ru = nI r ∧ (j < N → dig (t j) = true → r = 4))) :
    NUMR S C t N K U L B E W n O d x q l b V op le (rdr V (nI N) pl st op le ru) j (F_X5_isNumber_114 l (pmv S j K U L B E W n O d x q) b) := by
  unfold F_X5_isNumber_114
  rw [ob2_s (isSign_ok hT (c := 46) (sg := (46 : Int32)) rfl (by omega) hj), isin_c]
  by_cases z : j < N ∧ t j = 46
  · rw [decide_eq_true z, if_pos (show true = true from rfl), b2i_t, if_neg one_ne0]
    have hc := (hC.2 j z.1).2
    have hr1 : RUN C N (rdr V (nI N) pl st op le ru) j (rdr (tput V n 0 3) (nI N) (nI j) 9 op le 1) (j + 1) := by
      refine go1 hC z.1 ?_
      rw [take_num hc (by rcases hst with h | h | h; · simp [h.1]
                          · simp [h]
                          · simp [h.1]) (Or.inr (Or.inr z.2)), z.2, num46 hs hn]
      rcases hst with h | h | h
      · rw [h.1, if_pos rfl]
      · rw [h, if_neg (by decide), if_pos rfl]
      · rw [h.1, if_neg (by decide), if_neg (by decide), if_pos rfl]
    have s2 : g_Tree_size (tput V n 0 3) = nI (n + 1) := hs
    refine NUMR.run hr1 (by omega) ?_
    have hj1 : j + 1 ≤ N := by omega
    rw [ob1_s (isAt_ok hT (l := 48) (h := 57) (lo := (48 : Int32)) (hi := (57 : Int32)) rfl rfl (by omega) (by omega) hj1), isin_dig]
    by_cases w : j + 1 < N ∧ dig (t (j + 1)) = true
    · have hc1 := (hC.2 (j + 1) w.1).2
      have n46 : t (j + 1) ≠ 46 := by have := dig_of w.2; omega
      have hr2 : RUN C N (rdr (tput V n 0 3) (nI N) (nI j) 9 op le 1) (j + 1) (rdr (tput V n 0 3) (nI N) (nI (j + 1)) 10 op le 1) (j + 1 + 1) := by
        refine go1 hC w.1 ?_
        rw [take_num hc1 (by simp) (Or.inr (Or.inl w.2)), num9 hc1 n46, w.2]
      refine NUMR.run hr2 (by omega) ?_
      rw [decide_eq_true w.1, w.2, Bool.and_self, b2i_t, if_neg one_ne0, pmv_at1]
      have hj2 : j + 1 + 1 ≤ N := by omega
      rw [ob1_s (isAt_ok hT (l := 48) (h := 57) (lo := (48 : Int32)) (hi := (57 : Int32)) rfl rfl (by omega) (by omega) hj2), isin_dig, pmv_at, nI_1]
      by_cases y : j + 1 + 1 < N ∧ dig (t (j + 1 + 1)) = true
      · have hc2 := (hC.2 _ y.1).2
        have n462 : t (j + 1 + 1) ≠ 46 := by have := dig_of y.2; omega
        have hr3 : RUN C N (rdr (tput V n 0 3) (nI N) (nI (j + 1)) 10 op le 1) (j + 1 + 1) (rdr (tput V n 0 3) (nI N) (nI (j + 1 + 1)) 10 op le (nI 2)) (j + 1 + 1 + 1) := by
          refine go1 hC y.1 ?_
          rw [take_num hc2 (by simp) (Or.inr (Or.inl y.2)), show (1 : Int32) = nI 1 from rfl, num10 hc2 n462 (by omega), y.2]
          rfl
        rw [decide_eq_true y.1, y.2, Bool.and_self, b2i_t, if_neg one_ne0, nI_1, pmv_s_at, ob1_s (comes_ok hn hd 3 l b)]
        exact NUMR.run hr3 (by omega) (Or.inr ⟨_, 3, _, _, 10, nI 2, Nat.le_refl _, by omega, Or.inr rfl, rfl, Or.inr ⟨rfl, rfl⟩, RUN.refl, Or.inr (Or.inr ⟨rfl, 2, by omega, rfl, fun _ _ => rfl⟩)⟩)
      · have hf : (decide (j + 1 + 1 < N) && dig (t (j + 1 + 1))) = false := by
          rcases Nat.lt_or_ge (j + 1 + 1) N with a | a
          · rw [decide_eq_true a]
            cases hdd : dig (t (j + 1 + 1))
            · rfl
            · exact absurd ⟨a, hdd⟩ y
          · rw [decide_eq_false (by omega)]; rfl
        rw [hf, b2i_f, if_pos rfl, Int32.add_zero, pmv_s_at, ob1_s (comes_ok hn hd 3 l b)]
        exact Or.inr ⟨_, 3, _, _, 10, 1, Nat.le_refl _, by omega, Or.inr rfl, rfl, Or.inr ⟨rfl, rfl⟩, RUN.refl, Or.inr (Or.inr ⟨rfl, 1, by omega, rfl, fun a b => absurd ⟨a, b⟩ y⟩)⟩
    · have hf : (decide (j + 1 < N) && dig (t (j + 1))) = false := by
        rcases Nat.lt_or_ge (j + 1) N with a | a
        · rw [decide_eq_true a]
          cases hdd : dig (t (j + 1))
          · rfl
          · exact absurd ⟨a, hdd⟩ w
        · rw [decide_eq_false (by omega)]; rfl
      rw [hf, b2i_f, if_pos rfl, ob2_s (stops_ok hT hj1)]
      refine Or.inl ⟨j + 1, Nat.le_refl _, hj1, rfl, stop_at hC hj1 (by decide) fun a => ?_⟩
      have hc1 := (hC.2 (j + 1) a).2
      rw [take_num hc1 (by simp) (Or.inl rfl)]
      by_cases y : t (j + 1) = 46
      · rw [y, num46 s2 hn]; exact ⟨_, rfl⟩
      · rw [num9 hc1 y]
        rw [decide_eq_true a, Bool.true_and] at hf
        rw [hf]; exact ⟨_, rfl⟩
  · rw [decide_eq_false z, if_neg (show ¬ false = true by decide), b2i_f, if_pos rfl, if_pos rfl, ob1_s (comes_ok hn hd 2 l b)]
    refine Or.inr ⟨j, 2, V, pl, st, ru, Nat.le_refl _, hj, Or.inl rfl, rfl, Or.inl ⟨rfl, rfl⟩, RUN.refl, ?_⟩
    rcases hst with h | h | ⟨h, r, h1, h2, h3⟩
    · exact absurd ⟨h.2.1, h.2.2⟩ z
    · exact Or.inl ⟨h, fun a b => z ⟨a, b⟩⟩
    · exact Or.inr (Or.inl ⟨h, r, h1, h2, fun a b => z ⟨a, b⟩, h3⟩)
/-- the digits of a number that doesn't begin with 0 -/
theorem num51 {l b op le : Int32} {V : S_Tree} (x3 : Bool) (hC : CX C t N) (hT : TX S N t) (hn : n < 64) (hd : d ≤ 4) (hs : g_Tree_size V = nI (n + 1)) : ∀ g c j pl f, 4 - c < g → g ≤ f → 1 ≤ c → c ≤ 4 → j ≤ N →
    NUMR S C t N K U L B E W n O d x q l b V op le (rdr V (nI N) pl 8 op le (nI c)) j (F_X5_isNumber_51 l f (pmv S j K U L B E W n O d x q) b x3 false (nI c)) := by
  intro g
  induction g with
  | zero => intro c j pl f h; omega
  | succ g ihr =>
    intro c j pl f h1 h2 h3 h4 hj
    obtain ⟨f, rfl⟩ : ∃ k, f = k + 1 := ⟨f - 1, by omega⟩
    rw [F_X5_isNumber_51_s]
    by_cases z : c = 4
    · rw [z, if_pos (show (4 : Int32) ≤ nI 4 by decide), b2i_f, if_pos rfl]
      exact num114 hC hT hj hn hd hs (Or.inr (Or.inr ⟨rfl, 4, by omega, rfl, fun _ _ => rfl⟩))
    · rw [if_neg (show ¬ (4 : Int32) ≤ nI c from nI_ge (a := c) (b := 4) (by omega) (by omega)), b2i_f, if_pos rfl, if_pos rfl, ob1_s (isAt_ok hT (l := 48) (h := 57) (lo := (48 : Int32)) (hi := (57 : Int32)) rfl rfl (by omega) (by omega) hj), isin_dig]
      by_cases w : j < N ∧ dig (t j) = true
      · have hc := (hC.2 j w.1).2
        have n46 : t j ≠ 46 := by have := dig_of w.2; omega
        rw [decide_eq_true w.1, w.2, Bool.and_self, b2i_t, if_neg one_ne0, pmv_at1, nI_1]
        refine NUMR.run (go1 hC w.1 (R' := rdr V (nI N) (nI j) 8 op le (nI (c + 1))) ?_) (by omega) (ihr (c + 1) (j + 1) (nI j) f (by omega) (by omega) (by omega) (by omega) (by omega))
        rw [take_num hc (by simp) (Or.inr (Or.inl w.2)), num8 hc n46 h4, w.2, decide_eq_true (by omega)]
        rfl
      · have hf : (decide (j < N) && dig (t j)) = false := by
          rcases Nat.lt_or_ge j N with a | a
          · rw [decide_eq_true a]
            cases hdd : dig (t j)
            · rfl
            · exact absurd ⟨a, hdd⟩ w
          · rw [decide_eq_false (by omega)]; rfl
        rw [hf, b2i_f, if_pos rfl]
        exact num114 hC hT hj hn hd hs (Or.inr (Or.inr ⟨rfl, c, h4, rfl, fun a b => absurd ⟨a, b⟩ w⟩))
/-- a number, behind its first character -/
theorem number_ok {l op le : Int32} {V : S_Tree} {pl : Int32} (hC : CX C t N) (hT : TX S N t) (hn : n < 64) (hd : d ≤ 4) (hs : g_Tree_size V = nI (n + 1)) (hi : i < N) (hk : ka (t i) = 2) :
    NUMR S C t N K U L B E W n O d x q l (nI i) V op le (rdr V (nI N) pl (if t i = 45 then 5 else if t i = 48 then 7 else 8) op le 1) (i + 1) (F_X5_isNumber (pmv S i K U L B E W n O d x q) l) := by
  have hdg : t i ≠ 45 → dig (t i) = true := by
    intro h
    cases hdd : dig (t i)
    · exfalso
      unfold ka at hk
      rw [hdd] at hk
      revert hk
      repeat' split
      all_goals (intro hk; first | omega | contradiction | exact absurd hk (by decide))
    · rfl
  unfold F_X5_isNumber
  rw [ob2_s (isSign_ok hT (c := 45) (sg := (45 : Int32)) rfl (by omega) (by omega)), isin_c]
  by_cases z : t i = 45
  · rw [decide_eq_true ⟨hi, z⟩, if_pos (show true = true from rfl), if_pos z]
    have hi1 : i + 1 ≤ N := by omega
    rw [ob1_s (isAt_ok hT (l := 48) (h := 57) (lo := (48 : Int32)) (hi := (57 : Int32)) rfl rfl (by omega) (by omega) hi1), isin_dig]
    by_cases w : i + 1 < N ∧ dig (t (i + 1)) = true
    · have hc := (hC.2 _ w.1).2
      have n46 : t (i + 1) ≠ 46 := by have := dig_of w.2; omega
      rw [decide_eq_true w.1, w.2, Bool.and_self, b2i_t, if_neg one_ne0, ob1_s (isAt_ok hT (l := 48) (h := 48) (lo := (48 : Int32)) (hi := (48 : Int32)) rfl rfl (by omega) (by omega) hi1), isin_c, pmv_at1, pmv_at]
      have hr : RUN C N (rdr V (nI N) pl 5 op le 1) (i + 1) (rdr V (nI N) (nI (i + 1)) (if t (i + 1) = 48 then 6 else 8) op le 1) (i + 1 + 1) := by
        refine go1 hC w.1 ?_
        rw [take_num hc (by simp) (Or.inl rfl), num5 hc n46, w.2]
      refine NUMR.run hr (by omega) ?_
      by_cases y : t (i + 1) = 48
      · have hj : i + 1 + 1 ≤ N := by omega
        rw [if_pos y, decide_eq_true ⟨w.1, y⟩, show (5000 : Nat) = 4999 + 1 from rfl, F_X5_isNumber_51_s, if_neg (by decide), b2i_t, if_neg one_ne0, if_neg one_ne0, if_neg one_ne0, ob1_s (isAt_ok hT (l := 46) (h := 46) (lo := (46 : Int32)) (hi := (46 : Int32)) rfl rfl (by omega) (by omega) hj), isin_c]
        by_cases u : i + 1 + 1 < N ∧ t (i + 1 + 1) = 46
        · rw [decide_eq_true u, b2i_t, if_neg one_ne0]
          exact num114 hC hT hj hn hd hs (Or.inl ⟨rfl, u.1, u.2⟩)
        · rw [decide_eq_false u, b2i_f, if_pos rfl, ob2_s (stops_ok hT hj)]
          refine Or.inl ⟨i + 1 + 1, Nat.le_refl _, hj, rfl, stop_at hC hj (by decide) fun a => ?_⟩
          have hc1 := (hC.2 _ a).2
          rw [take_num hc1 (by simp) (Or.inl rfl)]
          exact ⟨_, num67 hc1 (fun b => u ⟨a, b⟩) (Or.inl rfl)⟩
      · rw [if_neg y, decide_eq_false (fun a => y a.2), show (1 : Int32) = nI 1 from rfl]
        exact num51 true hC hT hn hd hs 4 1 _ _ _ (by omega) (by omega) (by omega) (by omega) (by omega)
    · have hf : (decide (i + 1 < N) && dig (t (i + 1))) = false := by
        rcases Nat.lt_or_ge (i + 1) N with a | a
        · rw [decide_eq_true a]
          cases hdd : dig (t (i + 1))
          · rfl
          · exact absurd ⟨a, hdd⟩ w
        · rw [decide_eq_false (by omega)]; rfl
      rw [hf, b2i_f, if_pos rfl, ob2_s (stops_ok hT hi1)]
      refine Or.inl ⟨i + 1, Nat.le_refl _, hi1, rfl, stop_at hC hi1 (by decide) fun a => ?_⟩
      have hc1 := (hC.2 _ a).2
      rw [take_num hc1 (by simp) (Or.inl rfl)]
      by_cases y : t (i + 1) = 46
      · rw [y, num46 hs hn]; exact ⟨_, rfl⟩
      · rw [num5 hc1 y]
        rw [decide_eq_true a, Bool.true_and] at hf
        rw [hf]; exact ⟨_, rfl⟩
  · have hdd := hdg z
    rw [decide_eq_false (fun a => z a.2), if_neg (show ¬ false = true by decide), if_neg z, ob1_s (isAt_ok hT (l := 48) (h := 57) (lo := (48 : Int32)) (hi := (57 : Int32)) rfl rfl (by omega) (by omega) (by omega)), isin_dig, decide_eq_true hi, hdd, Bool.and_self, b2i_t, if_neg one_ne0, ob1_s (isAt_ok hT (l := 48) (h := 48) (lo := (48 : Int32)) (hi := (48 : Int32)) rfl rfl (by omega) (by omega) (by omega)), isin_c, pmv_at1, pmv_at]
    by_cases y : t i = 48
    · rw [if_pos y, decide_eq_true ⟨hi, y⟩, show (5000 : Nat) = 4999 + 1 from rfl, F_X5_isNumber_51_s, if_neg (by decide), b2i_t, if_neg one_ne0, if_neg one_ne0, b2i_f, if_pos rfl]
      exact num114 hC hT (by omega) hn hd hs (Or.inr (Or.inl rfl))
    · rw [if_neg y, decide_eq_false (fun a => y a.2), show (1 : Int32) = nI 1 from rfl]
      exact num51 false hC hT hn hd hs 4 1 _ _ _ (by omega) (by omega) (by omega) (by omega) (by omega)
end NUM
