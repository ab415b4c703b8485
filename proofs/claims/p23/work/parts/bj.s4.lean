/-! ===== pure: undo, alike ===== -/
section UNDO
variable {S : S_LS} {Z : Nat → S_State} {M : S_Model}
theorem undo_cls {j : Nat} {σ : S_State} (hj : j < 6) (hs : g_LS_savedStates S = nI (j + 1)) (hc : F_X2_copyFrom (g_LS_now S) (Z j) = some σ) : F_X4_undo S Z = some (.inr (nI j, s_LS_savedStates (s_LS_now S σ) (nI j))) := by
  unfold F_X4_undo
  rw [hs, show nI (j + 1) - 1 = nI j from nI_sub (a := j + 1) (b := 1) (by omega)]
  rcases (show j = 0 ∨ j = 1 ∨ j = 2 ∨ j = 3 ∨ j = 4 ∨ j = 5 by omega) with rfl | rfl | rfl | rfl | rfl | rfl
  · rw [if_pos (by decide), if_neg (by decide), ob1_s hc]
  · rw [if_neg (by decide), if_pos (by decide), if_neg (by decide), ob1_s hc]
  · rw [if_neg (by decide), if_neg (by decide), if_pos (by decide), if_neg (by decide), ob1_s hc]
  · rw [if_neg (by decide), if_neg (by decide), if_neg (by decide), if_pos (by decide), if_neg (by decide), ob1_s hc]
  · rw [if_neg (by decide), if_neg (by decide), if_neg (by decide), if_neg (by decide), if_pos (by decide), if_neg (by decide), ob1_s hc]
  · rw [if_neg (by decide), if_neg (by decide), if_neg (by decide), if_neg (by decide), if_neg (by decide), if_pos (by decide), if_neg (by decide), ob1_s hc]
theorem undo_ok (h : INV S Z M) : ∃ M', (F_X4_undo S Z = some (.inl ("java/lang/IllegalStateException", S)) ∧ F_X5_undo M = some (0, M') ∧ INV S Z M' ∧ g_Model_thrown M' = 1) ∨ (∃ r S', F_X4_undo S Z = some (.inr (r, S')) ∧ F_X5_undo M = some (r, M') ∧ INV S' Z M' ∧ g_Model_thrown M' = 0) := by
  have h0 := h.thrown 0
  obtain ⟨b1, ⟨q, q1, q2, q3, q4⟩, N, t, b3, b4, b5⟩ := h
  unfold F_X5_undo
  rcases Nat.eq_zero_or_pos q with z | z
  · subst z
    rw [q3, if_pos (show nI 0 = 0 from rfl)]
    refine ⟨_, Or.inl ⟨?_, rfl, h0.thrown 1, by rw [gs_thrown_thrown]⟩⟩
    unfold F_X4_undo
    rw [q2, if_neg (by decide), if_neg (by decide), if_neg (by decide), if_neg (by decide), if_neg (by decide), if_neg (by decide), og_t (by decide), if_pos (by decide)]
  · obtain ⟨j, rfl⟩ : ∃ j, q = j + 1 := ⟨q - 1, by omega⟩
    obtain ⟨σ, s1, s2⟩ := copy_ST (A := g_LS_now S) (q4 j (by omega))
    have hk : nI (j + 1) - 1 = nI j := nI_sub (a := j + 1) (b := 1) (by omega)
    rw [q3, if_neg (nI_ne0 (by omega) (by omega)), hk]
    obtain ⟨M', a1, a2, a3, a4, a5, a6, a7⟩ := undo_loop (q := j) (by omega) 426 0 (s_Model_kept (s_Model_thrown M 0) (nI j)) 5000 (by omega) (by omega) (by omega) (by rw [gs_kept_kept])
    refine ⟨M', Or.inr ⟨nI j, _, undo_cls (by omega) q2 s1, a1, ⟨?_, ⟨j, by omega, rfl, ?_, fun i hi => ?_⟩, N, t, b3, b4, ?_⟩, ?_⟩⟩
    · refine s2.ext fun i hi => ?_
      rw [a2 i hi, if_neg (by omega), gs_past_kept, gs_past_thrown]
    · rw [a4, gs_kept_kept]
    · rw [a3, gs_past_kept, gs_past_thrown]
      exact q4 i (by omega)
    · unfold TX at b5 ⊢
      rw [a5, a6, gs_typed_kept, gs_typed_thrown, gs_text_kept, gs_text_thrown]
      exact b5
    · rw [a7, gs_thrown_kept, gs_thrown_thrown]
end UNDO
