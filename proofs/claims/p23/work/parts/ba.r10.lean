/-! ===== pure: a step of both ===== -/
section GO
variable {S : S_Model} {C : Nat → Int32} {t : Nat → Nat} {N : Nat} {q : Int32} {D : Dc} {i d : Nat} {os : Nat → Nat} {V : S_Tree} {K U L B E W O : Nat → Int32} {x : Nat}
theorem sbv_in (V : S_Tree) (op : Int32) (o : Nat) : pnd (sbv V op o) = false := by
  unfold sbv
  split
  · rfl
  · split <;> rfl
theorem take_b {pl op le st ru : Int32} {n o : Nat} (hC : CX C t N) (hs : g_Tree_size V = nI n) (hn : n ≤ 64) (ho : op = -1 ∨ (op = nI o ∧ o < n)) (h : st = sbv V op o ∨ PEND t N i st ru) (hi : i < N) (hnd : ¬ (dig (t i) = true ∨ t i = 46) ∨ st = sbv V op o) : F_X1_take (rdr V (nI N) pl st op le ru) (nI (t i)) = F_X1_take_16 (nI (t i)) (rdr V (nI N) pl (sbv V op o) op le ru) := by
  have hc := (hC.2 i hi).2
  unfold F_X1_take
  rw [ob1_s (ends_ok hc)]
  by_cases z : st = sbv V op o
  · rw [z, sbv_in, Bool.false_and, Bool.false_and, b2i_f, if_pos rfl]
  · have hp := h.resolve_left z
    have hnd' := hnd.resolve_right z
    have h1 : dig (t i) = false := by
      cases hdd : dig (t i)
      · rfl
      · exact absurd (Or.inl hdd) hnd'
    have h2 : t i ≠ 46 := fun y => hnd' (Or.inr y)
    rw [pend_pnd hp, h1, decide_eq_true h2]
    rw [show (true && !false && true) = true from rfl, b2i_t, if_neg one_ne0, ob1_s (sbv_ok hs hn ho)]
    rfl
theorem sbv_12 {op : Int32} {o : Nat} (h : ¬ op = -1) : ¬ sbv V op o = 12 := by
  unfold sbv
  rw [if_neg h]
  split <;> decide
/-- no sign that goes on here: no document -/
theorem stop_b {pl op le st ru : Int32} {o : Nat} (hC : CX C t N) (hs : g_Tree_size V = nI (dN D)) (hn0 : 0 < dN D) (hn : dN D ≤ 63) (hop : op = nI o) (ho : o < dN D) (h : st = sbv V op o ∨ PEND t N i st ru) (hi : i ≤ N) (hX : ∀ (_ : i < N), ∃ R', F_X1_take_16 (nI (t i)) (rdr V (nI N) (nI i) (sbv V op o) op le ru) = some (false, R')) : STOP C N (rdr V (nI N) pl st op le ru) i i := by
  have hm : ¬ op = -1 := by rw [hop]; exact nI_m1 (by omega)
  by_cases z : i < N ∧ (dig (t i) = true ∨ t i = 46) ∧ ¬ st = sbv V op o
  · exact pend_stop (n := dN D - 1) hC (by rw [hs]; congr 1; omega) (by omega) z.1 (h.resolve_left z.2.2) z.2.1
  · refine stop_at hC hi ?_ fun a => ?_
    · rcases h with h | h
      · rw [h]; exact sbv_12 hm
      · rcases h with h | h | h <;> rw [h.1] <;> decide
    · rw [take_b hC hs (by omega) (Or.inr ⟨hop, ho⟩) h a]
      · exact hX a
      · by_cases y : st = sbv V op o
        · exact Or.inr y
        · exact Or.inl fun w => z ⟨a, w, y⟩
theorem closeV_ok {fw pl st le ru op' : Int32} {n o o' : Nat} (hs : g_Tree_size V = nI n) (hn : n ≤ 64) (ho : o < n) (h5 : tc V o 5 = op') (ho' : op' = -1 ∨ (op' = nI o' ∧ o' < n)) : F_X1_closeValue (rdr V fw pl st (nI o) le ru) = some (true, rdr (tput V o 4 pl) fw pl (sbv (tput V o 4 pl) op' o') op' le ru) := by
  have s1 : g_Tree_size (tput V o 4 pl) = nI n := hs
  unfold F_X1_closeValue
  rw [show g_Reader_values (rdr V fw pl st (nI o) le ru) = V from rfl, show g_Reader_open (rdr V fw pl st (nI o) le ru) = nI o from rfl, show g_Reader_place (rdr V fw pl st (nI o) le ru) = pl from rfl, ob1_s (put_4 o hs hn ho), ob1_s (get_5 o s1 hn ho), tc_tput (by omega) (by omega), if_neg (by omega), h5]
  rw [show s_Reader_open (s_Reader_values (rdr V fw pl st (nI o) le ru) (tput V o 4 pl)) op' = rdr (tput V o 4 pl) fw pl st op' le ru from rfl, ob1_s (sbv_ok s1 hn ho')]
  rfl
theorem closes_ok {o : Nat} (hd : 0 < d) (ho : o < 64) : F_X5_closes (pmv S i K U L B E W (dN D) O d x q) (nI o) = some (true, pmv S (i + 1) K U L B (upd E o (nI i)) W (dN D) O (d - 1) x q) := by
  unfold F_X5_closes
  rw [og_t (inb_nI (by omega) (by omega)), pmv_ends, nI_clamp (by omega), pmv_at, pmv_deep, pmv_s_ends, nI_1, pmv_s_at, show nI d - 1 = nI (d - 1) from nI_sub (b := 1) (by omega), pmv_s_deep]
/-- both close -/
theorem close_at {pl st le ru : Int32} {fr : Bool} (hC : CX C t N) (hJ : JB D N i d os fr V K U L B E W O x) (hd : 0 < d) (hi : i < N) (htk : F_X1_take (rdr V (nI N) (nI i) st (nI (os (d - 1))) le ru) (nI (t i)) = F_X1_closeValue (rdr V (nI N) (nI i) (if dK D (os (d - 1)) = 6 then 1 else if fr = true then 3 else 4) (nI (os (d - 1))) le ru)) :
    STEP S C t N q (rdr V (nI N) pl st (nI (os (d - 1))) le ru) i (F_X5_closes (pmv S i K U L B E W (dN D) O d x q) (nI (os (d - 1)))) := by
  obtain ⟨j1, j2, j3, j4, j5, j6, j7, j8, j9, j10⟩ := hJ
  have h60 := hC.1
  have ho := j1.2.1 (d - 1) (by omega)
  have h4 := j1.1
  have hn : dN D ≤ 32 := by split at j9 <;> omega
  rw [closes_ok hd (by omega)]
  have h5 : tc V (os (d - 1)) 5 = pI D (os (d - 1)) := (j4.2 _ ho.1).2.2.2.2.1
  have hop : (d - 1 = 0 → pI D (os (d - 1)) = -1) ∧ (0 < d - 1 → pI D (os (d - 1)) = nI (os (d - 1 - 1)) ∧ os (d - 1 - 1) < dN D) := by
    constructor
    · intro z
      unfold pI
      rw [z, j1.2.2.1 hd, if_pos rfl]
    · intro z
      have h3 := j1.2.2.2.1 (d - 1 - 1) (by omega)
      rw [show d - 1 - 1 + 1 = d - 1 by omega] at h3
      unfold pI
      rw [if_neg (by omega), h3.1]
      exact ⟨rfl, by omega⟩
  have ho' : pI D (os (d - 1)) = -1 ∨ (pI D (os (d - 1)) = nI (os (d - 1 - 1)) ∧ os (d - 1 - 1) < dN D) := by
    rcases Nat.eq_zero_or_pos (d - 1) with z | z
    · exact Or.inl (hop.1 z)
    · exact Or.inr (hop.2 z)
  have hr : RUN C N (rdr V (nI N) pl st (nI (os (d - 1))) le ru) i (rdr (tput V (os (d - 1)) 4 (nI i)) (nI N) (nI i) (sbv (tput V (os (d - 1)) 4 (nI i)) (pI D (os (d - 1))) (os (d - 1 - 1))) (pI D (os (d - 1))) le ru) (i + 1) :=
    go1 hC hi (by rw [htk, closeV_ok j4.1 (by omega) ho.1 h5 ho'])
  refine Or.inr ⟨dcl D (os (d - 1)) i, i + 1, d - 1, os, false, _, _, by omega, by omega, rfl, ⟨_, K, U, L, B, _, W, O, x, _, _, _, le, ru, rfl, rfl, ⟨j1.drop hd i, j2, j3.close j1 hd, j4.close hd, fun j hj => j5 j (by omega), fun j hj hk => ?_, fun z => absurd z (by decide), j8, ?_, by omega⟩, fun z => ⟨hop.1 z, ?_⟩, fun z => ⟨(hop.2 z).1, fun y => absurd y (by decide), fun _ => Or.inl rfl⟩⟩, hr⟩
  · rw [j6 j (by omega) hk, if_neg (by omega), if_neg (by rintro ⟨_, y⟩; exact absurd y (by decide))]
  · show 2 * dN D + _ ≤ _
    rw [if_neg (by decide)]
    split at j9 <;> omega
  · unfold sbv
    rw [if_pos (hop.1 z)]
theorem isin_cap : isin t N i 65 72 = decide (i < N ∧ 65 ≤ t i ∧ t i ≤ 72) := rfl
end GO
