/-! ===== pure: document and count, alike ===== -/
section DOCS
variable {S : S_LS} {Z : Nat → S_State} {M : S_Model}
theorem in_cases {v : Int32} {b : Nat} (hb : b < 2 ^ 31) : (v < 0 ∧ F_X5_in v 0 (nI b) = some false) ∨ (¬ v < 0 ∧ v ≤ nI b ∧ F_X5_in v 0 (nI b) = some true) ∨ (¬ v < 0 ∧ ¬ v ≤ nI b ∧ F_X5_in v 0 (nI b) = some false) := by
  by_cases h1 : v < 0
  · exact Or.inl ⟨h1, in_f (Or.inl h1)⟩
  · by_cases h2 : v ≤ nI b
    · exact Or.inr (Or.inl ⟨h1, h2, in_t h1 (Int32.not_lt.mpr h2)⟩)
    · exact Or.inr (Or.inr ⟨h1, h2, in_f (Or.inr (Int32.not_le.mp h2))⟩)
theorem document_ok (h : INV S Z M) (v : Int32) : ∃ M', (F_X4_document S v = some (.inl ("java/lang/IllegalArgumentException", S)) ∧ F_X5_document M v = some (0, M') ∧ INV S Z M' ∧ g_Model_thrown M' = 1) ∨ (∃ r S', F_X4_document S v = some (.inr (r, S')) ∧ F_X5_document M v = some (r, M') ∧ INV S' Z M' ∧ g_Model_thrown M' = 0) := by
  have h0 := h.thrown 0
  unfold F_X4_document F_X5_document
  rcases in_cases (v := v) (b := 8) (by omega) with ⟨h1, h3⟩ | ⟨h1, h2, h3⟩ | ⟨h1, h2, h3⟩
  · have h3' : F_X5_in v 0 8 = some false := h3
    rw [if_pos h1, ob1_s h3', b2i_f, if_pos rfl]
    exact ⟨_, Or.inl ⟨rfl, rfl, h0.thrown 1, by rw [gs_thrown_thrown]⟩⟩
  · have h3' : F_X5_in v 0 8 = some true := h3
    have h2' : v ≤ 8 := h2
    rw [if_neg h1, if_pos h2', ob1_s h3', b2i_t, if_neg one_ne0]
    unfold F_X5_ofDocument
    obtain ⟨N, t1, t2, hcase⟩ := INV_text h0
    rcases hcase with ⟨e, M', R', a1, a2, a3, a4, a5⟩ | ⟨D, x, M', R', K, U, L, B, E, W, O, a1, a2, a3, a4, a5, a6, a7, a8, a9⟩
    · obtain ⟨f1, f2, f3, f4, f5⟩ := FAILS_INV h0 a3
      rw [gs_thrown_thrown] at f2
      rw [ob2_s a4, ob2_s a2, b2i_f, if_pos rfl, if_pos rfl, ob2_e]
      exact ⟨_, Or.inr ⟨-1, _, rfl, rfl, f1.reader R', f2⟩⟩
    · obtain ⟨r, r1, r2⟩ := docNumber_ok (S := s_LS_reader S R') (w := v) a6 a4 a7 a8 (by rw [a9, pmv_deepest])
      rw [ob2_s a2, ob2_s a1, b2i_t, if_neg one_ne0, if_neg one_ne0, ob1_s r1]
      have hI : INV (s_LS_reader S R') Z M' := by rw [a9]; exact (INV_pmv h0).reader R'
      have hth : g_Model_thrown M' = 0 := by rw [a9, pmv_thrown, gs_thrown_thrown]
      refine ⟨M', Or.inr ⟨r, _, rfl, ?_, hI, hth⟩⟩
      by_cases z : v = 0
      · rw [if_pos z] at r2
        rw [if_pos z, if_pos z, r2, ob2_e]
      · rw [if_neg z] at r2
        rw [if_neg z]
        by_cases y : v = 8
        · rw [if_pos y] at r2
          rw [if_pos y, if_neg z, r2, ob2_e]
        · rw [if_neg y] at r2
          rw [if_neg y, r2, ob2_e]
  · have h3' : F_X5_in v 0 8 = some false := h3
    have h2' : ¬ v ≤ 8 := h2
    rw [if_neg h1, if_neg h2', ob1_s h3', b2i_f, if_pos rfl]
    exact ⟨_, Or.inl ⟨rfl, rfl, h0.thrown 1, by rw [gs_thrown_thrown]⟩⟩
theorem count_ok (h : INV S Z M) (v : Int32) : ∃ M', INV S Z M' ∧ ((F_X4_count S v = some (.inl ("java/lang/IllegalArgumentException", ())) ∧ F_X5_count M v = some (0, M') ∧ g_Model_thrown M' = 1) ∨ (∃ r, F_X4_count S v = some (.inr r) ∧ F_X5_count M v = some (r, M') ∧ g_Model_thrown M' = 0)) := by
  have h0 := h.thrown 0
  obtain ⟨⟨_, _, hset⟩, ⟨q, q1, q2, q3, _⟩, N, t, a3, a4, a5⟩ := h
  unfold F_X4_count F_X5_count F_X4_stateNumber
  rcases in_cases (v := v) (b := 2) (by omega) with ⟨h1, h3⟩ | ⟨h1, h2, h3⟩ | ⟨h1, h2, h3⟩
  · have h3' : F_X5_in v 0 2 = some false := h3
    rw [if_pos h1, ob1_s h3', b2i_f, if_pos rfl]
    exact ⟨_, h0.thrown 1, Or.inl ⟨rfl, rfl, by rw [gs_thrown_thrown]⟩⟩
  · have h3' : F_X5_in v 0 2 = some true := h3
    have h2' : v ≤ 2 := h2
    refine ⟨_, h0, Or.inr ?_⟩
    rw [if_neg h1, if_pos h2', ob1_s h3', b2i_t, if_neg one_ne0, hset, a3, a5.1, q2, q3]
    by_cases z : v = 0
    · rw [if_pos z, if_pos z, ob1_e, og_t (by decide)]
      exact ⟨_, rfl, rfl, by rw [gs_thrown_thrown]⟩
    · rw [if_neg z, if_neg z]
      by_cases y : v = 1
      · rw [if_pos y, if_pos y, ob1_e]
        exact ⟨_, rfl, rfl, by rw [gs_thrown_thrown]⟩
      · rw [if_neg y, if_neg y, ob1_e]
        exact ⟨_, rfl, rfl, by rw [gs_thrown_thrown]⟩
  · have h3' : F_X5_in v 0 2 = some false := h3
    have h2' : ¬ v ≤ 2 := h2
    rw [if_neg h1, if_neg h2', ob1_s h3', b2i_f, if_pos rfl]
    exact ⟨_, h0.thrown 1, Or.inl ⟨rfl, rfl, by rw [gs_thrown_thrown]⟩⟩
end DOCS
