/-! ===== pure: fits and ifLearned, alike; in the form that the digest needs, too ===== -/
section FITL
variable {S T : S_LS} {Z : Nat → S_State} {M : S_Model} {R1 : S_Reader}
theorem CV_two {V1 V2 : S_Tree} {D D' : Dc} (h1 : CV V1 D) (h2 : CV V1 D') (h3 : CV V2 D') (hD : dN D < 2 ^ 31) (hD' : dN D' < 2 ^ 31) : CV V2 D := by
  have hn : dN D = dN D' := nI_inj hD hD' (h1.1.symm.trans h2.1)
  refine ⟨by rw [hn]; exact h3.1, fun v hv => ?_⟩
  obtain ⟨a1, a2, a3, a4, a5, a6⟩ := h1.2 v hv
  obtain ⟨b1, b2, b3, b4, b5, b6⟩ := h2.2 v (by omega)
  obtain ⟨c1, c2, c3, c4, c5, c6⟩ := h3.2 v (by omega)
  refine ⟨c1.trans (b1.symm.trans a1), c2.trans (b2.symm.trans a2), c3.trans (b3.symm.trans a3), c4.trans (b4.symm.trans a4), c5.trans (b5.symm.trans a5), fun h6 => ?_⟩
  have h6' : dK D' v = 6 := b1.symm.trans (a1.trans h6)
  obtain ⟨a7, a8⟩ := a6 h6
  obtain ⟨b7, b8⟩ := b6 h6'
  obtain ⟨c7, c8⟩ := c6 h6'
  exact ⟨c7.trans (b7.symm.trans a7), c8.trans (b8.symm.trans a8)⟩
/-- a later state of the class in one call: what it read stands still -/
def RS (S : S_LS) (R1 : S_Reader) (T : S_LS) : Prop := g_LS_now T = g_LS_now S ∧ g_LS_codes T = g_LS_codes S ∧ g_LS_length T = g_LS_length S ∧ g_LS_savedStates T = g_LS_savedStates S ∧ ∀ D, dN D < 2 ^ 31 → CV (g_Reader_values R1) D → CV (g_Reader_values (g_LS_reader T)) D
theorem RS.rf : RS S R1 (s_LS_reader S R1) := ⟨rfl, rfl, rfl, rfl, fun _ _ h => h⟩
theorem RS.misfit (h : RS S R1 T) (m : S_Misfit) : RS S R1 (s_LS_misfit T m) := h
theorem RS.work (h : RS S R1 T) (m : S_Tree) : RS S R1 (s_LS_work T m) := h
theorem RS.inv (hR : RS S R1 T) (h : INV S Z M) : INV T Z M := by
  obtain ⟨r1, r2, r3, r4, -⟩ := hR
  obtain ⟨a1, ⟨q, q1, q2, q3⟩, N, t, a3, a4, a5⟩ := h
  exact ⟨by rw [r1]; exact a1, ⟨q, q1, by rw [r4]; exact q2, q3⟩, N, t, by rw [r3]; exact a3, by rw [r2]; exact a4, a5⟩
theorem RS.vni (hR : RS S R1 T) (h : INV T Z M) : INV S Z M := by
  obtain ⟨r1, r2, r3, r4, -⟩ := hR
  obtain ⟨a1, ⟨q, q1, q2, q3⟩, N, t, a3, a4, a5⟩ := h
  exact ⟨by rw [← r1]; exact a1, ⟨q, q1, by rw [← r4]; exact q2, q3⟩, N, t, by rw [← r3]; exact a3, by rw [← r2]; exact a4, a5⟩
/-- the reference reads again what the class has read -/
theorem read_again (h : INV S Z M) {r : Bool} (hr : F_X1_read (g_LS_reader S) (g_LS_codes S) (g_LS_length S) = some (r, R1)) : (r = false ∧ ∃ M', F_X5_isText M = some (false, M') ∧ INV S Z M' ∧ g_Model_thrown M' = g_Model_thrown M) ∨ (r = true ∧ ∃ D x M', F_X5_isText M = some (true, M') ∧ INV S Z M' ∧ g_Model_thrown M' = g_Model_thrown M ∧ DW D ∧ DX D ∧ CV (g_Reader_values R1) D ∧ MV M' D ∧ XX D x ∧ g_Model_deepest M' = nI x) := by
  obtain ⟨N, t1, t2, hcase⟩ := INV_text h
  rcases hcase with ⟨e, M', R', a1, a2, a3, a4, a5⟩ | ⟨D, x, M', R', K, U, L, B, E, W, O, a1, a2, a3, a4, a5, a6, a7, a8, a9⟩
  · obtain ⟨f1, f2, f3, f4, f5⟩ := FAILS_INV h a3
    have e1 := Option.some.inj (hr.symm.trans a4)
    exact Or.inl ⟨congrArg Prod.fst e1, M', a2, f1, f2⟩
  · have e1 := Option.some.inj (hr.symm.trans a2)
    have e2 : R1 = R' := congrArg Prod.snd e1
    subst e2
    refine Or.inr ⟨congrArg Prod.fst e1, D, x, M', a1, ?_, ?_, a4, a5, a6, a7, a8, ?_⟩
    · rw [a9]; exact INV_pmv h
    · rw [a9, pmv_thrown]
    · rw [a9, pmv_deepest]
theorem DW.lt {D : Dc} (h : DW D) : dN D < 2 ^ 31 := by have := h.2.1; omega
theorem INV_mfv {m a k : Int32} {p : Nat → Int32} (h : INV S Z M) : INV S Z (mfv M m a k p) := h.ext (mfv_now ..) (mfv_past ..) (mfv_kept ..) (mfv_text ..) (mfv_typed ..)
theorem all2 {P : Nat → Prop} (h0 : P 0) (h1 : P 1) (h2 : P 2) : ∀ j, j ≤ 2 → P j := by
  intro j hj
  rcases (show j = 0 ∨ j = 1 ∨ j = 2 by omega) with rfl | rfl | rfl <;> assumption
def misv (mis : S_Misfit) (w : Nat) : Int32 := if w = 0 then mis.1 else if w = 1 then mis.2.1 else mis.2.2
theorem mis_num {mis : S_Misfit} (hT : g_LS_misfit T = mis) : ∀ w, w ≤ 2 → F_X4_misfitNumber T (nI w) = some (misv mis w) := by
  subst hT
  exact all2 rfl rfl rfl
theorem mis_of {m a n : Int32} {p : Nat → Int32} {M1 : S_Model} : ∀ w, w ≤ 2 → (if nI w = 0 then some (g_Model_misfit (mfv M1 m a n p), mfv M1 m a n p) else if nI w = 1 then some (g_Model_misfitAt (mfv M1 m a n p), mfv M1 m a n p) else some (g_Model_misfitNode (mfv M1 m a n p), mfv M1 m a n p)) = some (misv (m, a, n) w, mfv M1 m a n p) := by
  rw [mfv_misfit, mfv_misfitAt, mfv_misfitNode]
  exact all2 rfl rfl rfl
theorem fit_no (h : INV S Z M) (hr : F_X1_read (g_LS_reader S) (g_LS_codes S) (g_LS_length S) = some (false, R1)) (v1 v2 : Int32) : ∃ M', F_X5_fitOf M v1 v2 = some (-1, M') ∧ INV S Z M' ∧ g_Model_thrown M' = g_Model_thrown M := by
  rcases read_again h hr with ⟨-, M', a1, a2, a3⟩ | ⟨b1, -⟩
  · refine ⟨M', ?_, a2, a3⟩
    unfold F_X5_fitOf
    rw [ob2_s a1, b2i_f, if_pos rfl]
  · cases b1
theorem learned_no (h : INV S Z M) (hr : F_X1_read (g_LS_reader S) (g_LS_codes S) (g_LS_length S) = some (false, R1)) (v1 v2 : Int32) : ∃ M', F_X5_learnedOf M v1 v2 = some (-1, M') ∧ INV S Z M' ∧ g_Model_thrown M' = g_Model_thrown M := by
  rcases read_again h hr with ⟨-, M', a1, a2, a3⟩ | ⟨b1, -⟩
  · refine ⟨M', ?_, a2, a3⟩
    unfold F_X5_learnedOf
    rw [ob2_s a1, b2i_f, if_pos rfl]
  · cases b1
theorem fit_num (h : INV S Z M) (hr : F_X1_read (g_LS_reader S) (g_LS_codes S) (g_LS_length S) = some (true, R1)) (hR : RS S R1 T) {k : Bool} {s : Nat} (hk : KS k s) {w : Nat} (hw : w ≤ 2) : ∃ mis M', F_X4_seekMisfit T k = some (s_LS_misfit T mis) ∧ F_X5_fitOf M (nI s) (nI w) = some (misv mis w, M') ∧ INV S Z M' ∧ g_Model_thrown M' = g_Model_thrown M := by
  rcases read_again h hr with ⟨b1, -⟩ | ⟨-, D, x, M1, a1, a2, a3, a4, a5, a6, a7, a8, a9⟩
  · cases b1
  · have hT := hR.inv a2
    obtain ⟨A, hA⟩ := hT.1.tree hk
    obtain ⟨m, a, n, p, f1, f2⟩ := fits_both (S := T) (S5 := M1) (k := k) (s := s) a4 a5 hA.1 hk.le hA.2.1 hA.2.2.1 hA.2.2.2.1 (hR.2.2.2.2 D a4.lt a6) a7
    refine ⟨(m, a, n), mfv M1 m a n p, f1, ?_, INV_mfv a2, by rw [mfv_thrown]; exact a3⟩
    unfold F_X5_fitOf
    rw [ob2_s a1, b2i_t, if_neg one_ne0, ob1_s f2]
    exact mis_of w hw
theorem learned_num (h : INV S Z M) (hr : F_X1_read (g_LS_reader S) (g_LS_codes S) (g_LS_length S) = some (true, R1)) (hR : RS S R1 T) {k : Bool} {s : Nat} (hk : KS k s) {w : Nat} (hw : w ≤ 4) : ∃ T1 a M', F_X4_workOutLearned T k = some T1 ∧ RS S R1 T1 ∧ g_LS_misfit T1 = g_LS_misfit T ∧ F_X4_outlookNumber T1 k (nI w) = some a ∧ F_X5_learnedOf M (nI s) (nI w) = some (a, M') ∧ INV S Z M' ∧ g_Model_thrown M' = g_Model_thrown M := by
  rcases read_again h hr with ⟨b1, -⟩ | ⟨-, D, x, M1, a1, a2, a3, a4, a5, a6, a7, a8, a9⟩
  · cases b1
  · have hT := hR.inv a2
    obtain ⟨A, V, W, t, n, b, p, ρ, Mp, pl, hA, hM, e1, e2, e3, e4⟩ := learned_core hk hT a4 (hR.2.2.2.2 D a4.lt a6) a7
    obtain ⟨a, o1, o2⟩ := outlook_ok hA.1 hM hA.2.1 hA.2.2.2.1 hk.le e3 e4 hT.1.2.2 _ rfl w hw
    refine ⟨_, a, smv M1 t n b p, e1, ?_, rfl, o1, ?_, INV_smv a2, by rw [smv_thrown]; exact a3⟩
    · exact ⟨hR.1, hR.2.1, hR.2.2.1, hR.2.2.2.1, fun D2 hD2 hC2 => CV_two hC2 a6 e3.1 hD2 a4.lt⟩
    · unfold F_X5_learnedOf
      rw [ob2_s a1, b2i_t, if_neg one_ne0, ob1_s e2]
      exact o2
theorem doc_no (h : INV S Z M) (hr : F_X1_read (g_LS_reader S) (g_LS_codes S) (g_LS_length S) = some (false, R1)) (v1 : Int32) : ∃ M', F_X5_ofDocument M v1 = some (-1, M') ∧ INV S Z M' ∧ g_Model_thrown M' = g_Model_thrown M := by
  rcases read_again h hr with ⟨-, M', a1, a2, a3⟩ | ⟨b1, -⟩
  · refine ⟨M', ?_, a2, a3⟩
    unfold F_X5_ofDocument
    rw [ob2_s a1, b2i_f, if_pos rfl]
  · cases b1
theorem doc_num (h : INV S Z M) (hr : F_X1_read (g_LS_reader S) (g_LS_codes S) (g_LS_length S) = some (true, R1)) (hR : RS S R1 T) (w : Int32) : ∃ a M', F_X4_documentNumber T w = some a ∧ F_X5_ofDocument M w = some (a, M') ∧ INV S Z M' ∧ g_Model_thrown M' = g_Model_thrown M := by
  rcases read_again h hr with ⟨b1, -⟩ | ⟨-, D, x, M1, a1, a2, a3, a4, a5, a6, a7, a8, a9⟩
  · cases b1
  · obtain ⟨r, r1, r2⟩ := docNumber_ok (S := T) (w := w) (hR.2.2.2.2 D a4.lt a6) a4 a7 a8 a9
    refine ⟨r, M1, r1, ?_, a2, a3⟩
    unfold F_X5_ofDocument
    rw [ob2_s a1, b2i_t, if_neg one_ne0]
    by_cases z : w = 0
    · rw [if_pos z] at r2
      rw [if_pos z, if_pos z, r2]
    · rw [if_neg z] at r2
      rw [if_neg z]
      by_cases y : w = 8
      · rw [if_pos y] at r2
        rw [if_pos y, if_neg z, r2]
      · rw [if_neg y] at r2
        rw [if_neg y, r2]
theorem fits_ok (h : INV S Z M) (v1 v2 : Int32) : ∃ M', (∃ e c, F_X4_fits S v1 v2 = some (.inl (e, S)) ∧ F_X5_fits M v1 v2 = some (0, M') ∧ INV S Z M' ∧ g_Model_thrown M' = nI c ∧ exI e c) ∨ (∃ r S', F_X4_fits S v1 v2 = some (.inr (r, S')) ∧ F_X5_fits M v1 v2 = some (r, M') ∧ INV S' Z M' ∧ g_Model_thrown M' = 0) := by
  have h0 := h.thrown 0
  have hth : g_Model_thrown (s_Model_thrown M 0) = 0 := gs_thrown_thrown ..
  unfold F_X4_fits F_X5_fits
  rcases shape_cases v1 with ⟨hv, s1, s2⟩ | ⟨_, _, s1, s2⟩
  · rw [ob1_s s1, ob1_s s2, b2i_t, if_neg one_ne0, if_neg one_ne0]
    rcases in_cases (v := v2) (b := 2) (by omega) with ⟨q1, q3⟩ | ⟨q1, q2, q3⟩ | ⟨q1, q2, q3⟩
    · have q3' : F_X5_in v2 0 2 = some false := q3
      rw [if_pos q1, ob1_s q3', b2i_f, if_pos rfl]
      exact ⟨_, Or.inl ⟨_, 2, rfl, rfl, h0.thrown 2, by rw [gs_thrown_thrown]; rfl, Or.inr ⟨rfl, rfl⟩⟩⟩
    · have q3' : F_X5_in v2 0 2 = some true := q3
      have q2' : v2 ≤ 2 := q2
      obtain ⟨j, rfl, j2, _⟩ := nI_between (v := v2) (a := 0) (b := 2) (by omega) (by omega) q1 q2
      rw [if_neg q1, if_pos q2', ob1_s q3', b2i_t, if_neg one_ne0]
      obtain ⟨r, R1, hr⟩ : ∃ r R1, F_X1_read (g_LS_reader S) (g_LS_codes S) (g_LS_length S) = some (r, R1) := by
        obtain ⟨N, t1, t2, hcase⟩ := INV_text h0
        rcases hcase with ⟨e, M', R', a1, a2, a3, a4, a5⟩ | ⟨D, x, M', R', K, U, L, B, E, W, O, a1, a2, a3⟩
        · exact ⟨_, _, a4⟩
        · exact ⟨_, _, a2⟩
      rw [ob2_s hr]
      cases r
      · obtain ⟨M', f1, f2, f3⟩ := fit_no h0 hr v1 (nI j)
        rw [b2i_f, if_pos rfl, ob2_s f1]
        exact ⟨M', Or.inr ⟨_, _, rfl, rfl, f2.reader R1, f3.trans hth⟩⟩
      · rw [b2i_t, if_neg one_ne0]
        rcases hv with rfl | rfl
        · obtain ⟨mis, M', f1, f2, f3, f4⟩ := fit_num h0 hr RS.rf (k := false) (s := 0) (Or.inl ⟨rfl, rfl⟩) (w := j) j2
          have f2' : F_X5_fitOf (s_Model_thrown M 0) 0 (nI j) = some (misv mis j, M') := f2
          rw [if_pos rfl, ob1_s f1, ob1_s (mis_num (T := s_LS_misfit (s_LS_reader S R1) mis) rfl j j2), ob2_s f2']
          exact ⟨M', Or.inr ⟨_, _, rfl, rfl, (f3.reader R1).misfit mis, f4.trans hth⟩⟩
        · obtain ⟨mis, M', f1, f2, f3, f4⟩ := fit_num h0 hr RS.rf (k := true) (s := 1) (Or.inr ⟨rfl, rfl⟩) (w := j) j2
          have f2' : F_X5_fitOf (s_Model_thrown M 0) 1 (nI j) = some (misv mis j, M') := f2
          rw [if_neg one_ne0, ob1_s f1, ob1_s (mis_num (T := s_LS_misfit (s_LS_reader S R1) mis) rfl j j2), ob2_s f2']
          exact ⟨M', Or.inr ⟨_, _, rfl, rfl, (f3.reader R1).misfit mis, f4.trans hth⟩⟩
    · have q3' : F_X5_in v2 0 2 = some false := q3
      have q2' : ¬ v2 ≤ 2 := q2
      rw [if_neg q1, if_neg q2', ob1_s q3', b2i_f, if_pos rfl]
      exact ⟨_, Or.inl ⟨_, 2, rfl, rfl, h0.thrown 2, by rw [gs_thrown_thrown]; rfl, Or.inr ⟨rfl, rfl⟩⟩⟩
  · rw [ob1_s s1, ob1_s s2, b2i_f, if_pos rfl, if_pos rfl]
    exact ⟨_, Or.inl ⟨_, 1, rfl, rfl, h0.thrown 1, by rw [gs_thrown_thrown]; rfl, Or.inl ⟨rfl, rfl⟩⟩⟩
theorem ifLearned_ok (h : INV S Z M) (v1 v2 : Int32) : ∃ M', (∃ e c, F_X4_ifLearned S v1 v2 = some (.inl (e, S)) ∧ F_X5_ifLearned M v1 v2 = some (0, M') ∧ INV S Z M' ∧ g_Model_thrown M' = nI c ∧ exI e c) ∨ (∃ r S', F_X4_ifLearned S v1 v2 = some (.inr (r, S')) ∧ F_X5_ifLearned M v1 v2 = some (r, M') ∧ INV S' Z M' ∧ g_Model_thrown M' = 0) := by
  have h0 := h.thrown 0
  have hth : g_Model_thrown (s_Model_thrown M 0) = 0 := gs_thrown_thrown ..
  unfold F_X4_ifLearned F_X5_ifLearned
  rcases shape_cases v1 with ⟨hv, s1, s2⟩ | ⟨_, _, s1, s2⟩
  · rw [ob1_s s1, ob1_s s2, b2i_t, if_neg one_ne0, if_neg one_ne0]
    rcases in_cases (v := v2) (b := 4) (by omega) with ⟨q1, q3⟩ | ⟨q1, q2, q3⟩ | ⟨q1, q2, q3⟩
    · have q3' : F_X5_in v2 0 4 = some false := q3
      rw [if_pos q1, ob1_s q3', b2i_f, if_pos rfl]
      exact ⟨_, Or.inl ⟨_, 2, rfl, rfl, h0.thrown 2, by rw [gs_thrown_thrown]; rfl, Or.inr ⟨rfl, rfl⟩⟩⟩
    · have q3' : F_X5_in v2 0 4 = some true := q3
      have q2' : v2 ≤ 4 := q2
      obtain ⟨j, rfl, j2, _⟩ := nI_between (v := v2) (a := 0) (b := 4) (by omega) (by omega) q1 q2
      rw [if_neg q1, if_pos q2', ob1_s q3', b2i_t, if_neg one_ne0]
      obtain ⟨r, R1, hr⟩ : ∃ r R1, F_X1_read (g_LS_reader S) (g_LS_codes S) (g_LS_length S) = some (r, R1) := by
        obtain ⟨N, t1, t2, hcase⟩ := INV_text h0
        rcases hcase with ⟨e, M', R', a1, a2, a3, a4, a5⟩ | ⟨D, x, M', R', K, U, L, B, E, W, O, a1, a2, a3⟩
        · exact ⟨_, _, a4⟩
        · exact ⟨_, _, a2⟩
      rw [ob2_s hr]
      cases r
      · obtain ⟨M', f1, f2, f3⟩ := learned_no h0 hr v1 (nI j)
        rw [b2i_f, if_pos rfl, ob2_s f1]
        exact ⟨M', Or.inr ⟨_, _, rfl, rfl, f2.reader R1, f3.trans hth⟩⟩
      · rw [b2i_t, if_neg one_ne0]
        rcases hv with rfl | rfl
        · obtain ⟨T1, a, M', f1, fR, _, f2, f3, f4, f5⟩ := learned_num h0 hr RS.rf (k := false) (s := 0) (Or.inl ⟨rfl, rfl⟩) (w := j) j2
          have f3' : F_X5_learnedOf (s_Model_thrown M 0) 0 (nI j) = some (a, M') := f3
          rw [if_pos rfl, ob1_s f1, ob1_s f2, ob2_s f3']
          exact ⟨M', Or.inr ⟨_, _, rfl, rfl, fR.inv f4, f5.trans hth⟩⟩
        · obtain ⟨T1, a, M', f1, fR, _, f2, f3, f4, f5⟩ := learned_num h0 hr RS.rf (k := true) (s := 1) (Or.inr ⟨rfl, rfl⟩) (w := j) j2
          have f3' : F_X5_learnedOf (s_Model_thrown M 0) 1 (nI j) = some (a, M') := f3
          rw [if_neg one_ne0, ob1_s f1, ob1_s f2, ob2_s f3']
          exact ⟨M', Or.inr ⟨_, _, rfl, rfl, fR.inv f4, f5.trans hth⟩⟩
    · have q3' : F_X5_in v2 0 4 = some false := q3
      have q2' : ¬ v2 ≤ 4 := q2
      rw [if_neg q1, if_neg q2', ob1_s q3', b2i_f, if_pos rfl]
      exact ⟨_, Or.inl ⟨_, 2, rfl, rfl, h0.thrown 2, by rw [gs_thrown_thrown]; rfl, Or.inr ⟨rfl, rfl⟩⟩⟩
  · rw [ob1_s s1, ob1_s s2, b2i_f, if_pos rfl, if_pos rfl]
    exact ⟨_, Or.inl ⟨_, 1, rfl, rfl, h0.thrown 1, by rw [gs_thrown_thrown]; rfl, Or.inl ⟨rfl, rfl⟩⟩⟩
end FITL
