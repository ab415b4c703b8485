/-! ===== pure: the text: both readers alike ===== -/
section BOTH
variable {S : S_Model} {C : Nat → Int32} {t : Nat → Nat} {N : Nat}
theorem DW_of {D : Dc} (hA : DA D) (h : 2 * dN D ≤ 60) : DW D := by
  obtain ⟨a1, a2, a3, a4, a5, a6⟩ := hA
  exact ⟨a1, by omega, a2, a3, a4, a5, a6⟩
theorem DX_of {D : Dc} {os : Nat → Nat} (hN : N ≤ 60) (hB : DB D N 0 os) : DX D := by
  obtain ⟨b1, b2, b3, b4⟩ := hB
  have hc : ∀ v, ¬ opd 0 os v := fun v => by rintro ⟨j, hj, _⟩; omega
  refine ⟨b2, fun v hv hk => ?_, fun v w hvw hw hk => ?_, fun v hv => ?_⟩
  · have h1 := b4 v hv hk (hc v)
    exact ⟨h1.1, by omega, b3 v hv hk⟩
  · exact (b4 v (by omega) hk (hc v)).2.2 w hvw hw
  · have := b1 v hv; omega
theorem CV_of {D : Dc} {os : Nat → Nat} {V : S_Tree} {K U L B E W : Nat → Int32} (h : DV D 0 os V K U L B E W) : CV V D := by
  have hc : ∀ v, ¬ opd 0 os v := fun v => by rintro ⟨j, hj, _⟩; omega
  refine ⟨h.1, fun v hv => ?_⟩
  obtain ⟨a1, a2, a3, a4, a5, a6, a7, a8, a9, a10⟩ := h.2 v hv
  exact ⟨a1, a2, a3, a4, a5, fun hk => ⟨((a10 hk).2.2 (hc v)).1, (a10 hk).1⟩⟩
theorem MV_of {D : Dc} {os : Nat → Nat} {V : S_Tree} {i : Nat} {K U L B E W O : Nat → Int32} {d x : Nat} {q : Int32} (h : DV D 0 os V K U L B E W) : MV (pmv S i K U L B E W (dN D) O d x q) D := by
  have hc : ∀ v, ¬ opd 0 os v := fun v => by rintro ⟨j, hj, _⟩; omega
  unfold MV
  rw [pmv_valued, pmv_kinds, pmv_letters, pmv_begins, pmv_above, pmv_ends, pmv_used]
  refine ⟨rfl, fun v hv => ?_⟩
  obtain ⟨a1, a2, a3, a4, a5, a6, a7, a8, a9, a10⟩ := h.2 v hv
  exact ⟨a6, a7, a8, a9, fun hk => ⟨((a10 hk).2.2 (hc v)).2, (a10 hk).2.1⟩⟩
/-- what both readers answer -/
theorem text_ok (hC : CX C t N) (hT : TX S N t) (R0 : S_Reader) :
    (∃ e M' R', e ≤ N ∧ F_X5_isText S = some (false, M') ∧ FAILS S N e M' ∧ F_X1_read R0 C (nI N) = some (false, R') ∧ g_Reader_firstWrong R' = nI e) ∨
    (∃ D x M' R' K U L B E W O, F_X5_isText S = some (true, M') ∧ F_X1_read R0 C (nI N) = some (true, R') ∧ g_Reader_firstWrong R' = nI N ∧ DW D ∧ DX D ∧ CV (g_Reader_values R') D ∧ MV M' D ∧ XX D x ∧ M' = pmv S N K U L B E W (dN D) O 0 x 0) := by
  have h60 := hC.1
  have hread : F_X1_read R0 C (nI N) = F_X1_read_34 (nI N) C 5000 (rdr (s_Tree_documents (s_Tree_size (g_Reader_values R0) 0) 0) (nI N) (g_Reader_place R0) 0 (-1) (-1) 0) (nI 0) := by
    have e : ∀ (f : Nat) (R R' : S_Reader) (x y : Int32), R = R' → x = y → F_X1_read_34 (nI N) C f R x = F_X1_read_34 (nI N) C f R' y := by
      intro f R R' x y h1 h2
      rw [h1, h2]
    unfold F_X1_read F_X3_clear
    rw [ob1_e]
    exact e 5000 _ _ _ _ rfl rfl
  have hs0 : g_Tree_size (s_Tree_documents (s_Tree_size (g_Reader_values R0) 0) 0) = nI 0 := rfl
  rw [hread]
  generalize s_Tree_documents (s_Tree_size (g_Reader_values R0) 0) 0 = V0 at hs0
  have htk : ∀ c, c < 128 → F_X1_take (rdr V0 (nI N) (nI 0) 0 (-1) (-1) 0) (nI c) = if c = 40 then F_X1_takeValue (rdr V0 (nI N) (nI 0) 0 (-1) (-1) 0) (nI c) else some (false, rdr V0 (nI N) (nI 0) 0 (-1) (-1) 0) := by
    intro c hc
    unfold F_X1_take
    rw [ob1_s (ends_ok hc), show pnd 0 = false from rfl, Bool.false_and, Bool.false_and, b2i_f, if_pos rfl]
    unfold F_X1_take_16
    show (if (0 : Int32) = 0 then (if nI c = 40 then (ob2 (F_X1_takeValue (rdr V0 (nI N) (nI 0) 0 (-1) (-1) 0) (nI c)) fun r8 u9 => if (b2i r8) = 0 then some (false, u9) else some (true, u9)) else some (false, rdr V0 (nI N) (nI 0) 0 (-1) (-1) 0)) else _) = _
    rw [if_pos rfl, ifc (K := (40 : Int32)) (k := 40) rfl hc (by omega)]
    by_cases z : c = 40
    · rw [if_pos z, if_pos z]
      cases F_X1_takeValue (rdr V0 (nI N) (nI 0) 0 (-1) (-1) 0) (nI c) with
      | none => rfl
      | some p =>
        obtain ⟨b, R⟩ := p
        cases b <;> rfl
    · rw [if_neg z, if_neg z]
  unfold F_X5_isText
  rw [pmv_0]
  rw [ob1_s (isAt_ok hT (l := 40) (h := 40) (lo := (40 : Int32)) (hi := (40 : Int32)) rfl rfl (by omega) (by omega) (Nat.zero_le N)), isin_c]
  by_cases z : 0 < N ∧ t 0 = 40
  · rw [decide_eq_true z, b2i_t, if_neg one_ne0, opens_ok hT z.1 (by omega) (by omega) (by omega), if_neg (by omega), ob2_e]
    obtain ⟨V1, v1, v2⟩ := take_holder (o := 0) (c := 40) (fw := nI N) (pl := nI 0) (st := 0) (op := -1) (le := -1) (ru := 0) hs0 (by omega) (Or.inl rfl) (by omega) (Or.inr rfl) (by show dnx V0 (-1) 0 < 4; unfold dnx; rw [if_pos rfl]; decide)
    have hd0 : dnx V0 (-1) 0 = 0 := by unfold dnx; rw [if_pos rfl]
    have hl0 : lnx V0 (-1) 0 (-1) = -1 := by unfold lnx; rw [if_pos rfl]
    rw [hd0, hl0] at v1
    have hr : RUN C N (rdr V0 (nI N) (g_Reader_place R0) 0 (-1) (-1) 0) 0 (rdr V1 (nI N) (nI 0) 1 (nI 0) (-1) 0) 1 := by
      refine go1 hC z.1 ?_
      rw [z.2, htk 40 (by omega), if_pos rfl, v2]
      rfl
    have hJ := start_jb (N := N) (K := g_Model_kinds S) (U := g_Model_above S) (L := g_Model_letters S) (B := g_Model_begins S) (E := g_Model_ends S) (W := g_Model_used S) (O := g_Model_open S) (by omega) v1
    have hAT : AT S N t 0 D00 1 1 (fun _ => 0) false (pmv S 1 (upd (g_Model_kinds S) 0 6) (upd (g_Model_above S) 0 (-1)) (upd (g_Model_letters S) 0 (-1)) (upd (g_Model_begins S) 0 0) (g_Model_ends S) (upd (g_Model_used S) 0 0) (dN D00) (upd (g_Model_open S) 0 0) 1 1 0) (rdr V1 (nI N) (nI 0) 1 (nI 0) (-1) 0) := by
      refine ⟨V1, _, _, _, _, _, _, _, 1, nI 0, 1, nI 0, -1, 0, rfl, rfl, hJ, fun y => by omega, fun _ => ⟨rfl, fun y => absurd y (by decide), fun _ => Or.inl ?_⟩⟩
      have hk1 : tc V1 0 0 = 6 := v1.2.2.1
      unfold sbv
      rw [if_neg (by decide)]
      exact (if_pos hk1).symm
    rcases loop_ok hC hT 61 1 D00 1 (fun _ => 0) false _ _ 5000 (by omega) (by omega) hAT with ⟨e, M', a1, a2, a3, a4⟩ | ⟨D, M', R', a1, a2, a3⟩
    · obtain ⟨R', c1, c2⟩ := a4.run hr (by omega)
      exact Or.inl ⟨e, M', R', a1, a2, a3, c2 5000 (by omega), c1⟩
    · obtain ⟨V, K, U, L, B, E, W, O, x, pl, op, le, ru, os, rfl, rfl, hJ2⟩ := a2
      obtain ⟨j1, j2, j3, j4, j5, j6, j7, j8, j9, j10⟩ := hJ2
      rw [if_neg (by decide)] at j9
      have hall := hr.trans a3
      refine Or.inr ⟨D, x, _, rdr V (nI N) pl 12 op le ru, K, U, L, B, E, W, O, a1, ?_, rfl, DW_of j2 (by omega), DX_of h60 j3, CV_of j4, MV_of j4, j8, rfl⟩
      have h5 := hall.2 (4999 - N + 1)
      rw [show 4999 - N + 1 + (N - 0) = 5000 by omega] at h5
      rw [h5, done_end h60]
  · rw [decide_eq_false z, b2i_f, if_pos rfl, ob2_s (stops_ok hT (Nat.zero_le N))]
    have hstop : STOP C N (rdr V0 (nI N) (g_Reader_place R0) 0 (-1) (-1) 0) 0 0 := by
      refine stop_at hC (Nat.zero_le N) (by decide) fun a => ⟨rdr V0 (nI N) (nI 0) 0 (-1) (-1) 0, ?_⟩
      rw [htk _ (hC.2 0 a).2, if_neg (fun b => z ⟨a, b⟩)]
    obtain ⟨R', c1, c2⟩ := hstop
    exact Or.inl ⟨0, _, R', Nat.zero_le N, rfl, ⟨_, _, _, _, _, _, _, _, _, _, rfl⟩, c2 5000 (by omega), c1⟩
end BOTH
