/-! ===== pure: set, alike ===== -/
theorem set_ok {S : S_LS} {Z : Nat → S_State} {M : S_Model} (h : INV S Z M) (v : Int32) : ∃ M', (F_X4_set S Z v = some (.inl ("java/lang/IllegalArgumentException", (S, Z))) ∧ F_X5_set M v = some (0, M') ∧ INV S Z M' ∧ g_Model_thrown M' = 1) ∨ (∃ r S' Z', F_X4_set S Z v = some (.inr (r, S', Z')) ∧ F_X5_set M v = some (r, M') ∧ INV S' Z' M' ∧ g_Model_thrown M' = 0) := by
  have h0 := h.thrown 0
  unfold F_X4_set F_X5_set
  rcases in_cases (v := v) (b := 1) (by omega) with ⟨h1, h3⟩ | ⟨h1, h2, h3⟩ | ⟨h1, h2, h3⟩
  · have h3' : F_X5_in v 0 1 = some false := h3
    rw [if_pos h1, ob1_s h3', b2i_f, if_pos rfl]
    exact ⟨_, Or.inl ⟨rfl, rfl, h0.thrown 1, by rw [gs_thrown_thrown]⟩⟩
  · have h3' : F_X5_in v 0 1 = some true := h3
    have h2' : v ≤ 1 := h2
    obtain ⟨b1, b2, N, t, b3, b4, b5⟩ := h0
    obtain ⟨q, Z', p, e1, e2, e3, e4⟩ := saves_ok b1 b2
    rw [if_neg h1, if_pos h2', ob1_s h3', b2i_t, if_neg one_ne0, ob2_s e1, ob1_s e2, og_t (by decide), og_t (by decide)]
    rw [gs_now_kept, gs_now_past, gs_now_thrown]
    rw [gs_now_thrown] at b1
    obtain ⟨⟨A, hA⟩, ⟨B, hB⟩, hset⟩ := b1
    have hr : g_State_setting (g_LS_now (s_LS_savedStates S (nI q))) = g_Model_now M (0 : Int32).toNatClampNeg := hset
    rw [hr]
    refine ⟨_, Or.inr ⟨_, _, _, rfl, rfl, ⟨⟨⟨A, ?_⟩, ⟨B, ?_⟩, ?_⟩, ⟨q, e3, rfl, by rw [gs_kept_now, gs_kept_kept], fun j hj => ?_⟩, N, t, b3, b4, ?_⟩, ?_⟩⟩
    · rw [gs_now_now]
      refine hA.ext rfl rfl fun i hi _ => ?_
      rw [upd_ne (by show i ≠ 0; omega)]
    · rw [gs_now_now]
      refine hB.ext rfl rfl fun i hi _ => ?_
      rw [upd_ne (by show i ≠ 0; omega)]
    · rw [gs_now_now]; rfl
    · rw [gs_past_now, gs_past_kept, gs_past_past]
      exact e4 j hj
    · unfold TX at b5 ⊢
      rw [gs_typed_now, gs_typed_kept, gs_typed_past, gs_text_now, gs_text_kept, gs_text_past]
      exact b5
    · rw [gs_thrown_now, gs_thrown_kept, gs_thrown_past, gs_thrown_thrown]
  · have h3' : F_X5_in v 0 1 = some false := h3
    have h2' : ¬ v ≤ 1 := h2
    rw [if_neg h1, if_neg h2', ob1_s h3', b2i_f, if_pos rfl]
    exact ⟨_, Or.inl ⟨rfl, rfl, h0.thrown 1, by rw [gs_thrown_thrown]⟩⟩
