/-! ===== pure: undo's loop in the reference ===== -/
theorem undo_loop {q : Nat} (hq : q < 6) : ∀ g k S f, 425 - k < g → g ≤ f → k ≤ 425 → g_Model_kept S = nI q →
    ∃ S', F_X5_undo_30 f S (nI k) = some (nI q, S') ∧ (∀ i, i < 425 → g_Model_now S' i = if i < k then g_Model_now S i else g_Model_past S (425 * q + i)) ∧ g_Model_past S' = g_Model_past S ∧ g_Model_kept S' = g_Model_kept S ∧ g_Model_text S' = g_Model_text S ∧ g_Model_typed S' = g_Model_typed S ∧ g_Model_thrown S' = g_Model_thrown S := by
  intro g
  induction g with
  | zero => intro k S f h; omega
  | succ g ihr =>
    intro k S f h1 h2 h3 hk
    obtain ⟨f, rfl⟩ : ∃ m, f = m + 1 := ⟨f - 1, by omega⟩
    rw [F_X5_undo_30_s]
    rcases Nat.lt_or_ge k 425 with z | z
    · have e1 : (425 : Int32) * nI q + nI k = nI (425 * q + k) := by
        rw [show (425 : Int32) = nI 425 from rfl, nI_mul, nI_add]
      rw [if_neg (show ¬ (425 : Int32) ≤ nI k from nI_ge (a := k) (b := 425) z (by omega)), hk, e1, og_t (inb_nI (by omega) (by omega)), og_t (inb_nI (by omega) (by omega)), nI_clamp (by omega), nI_clamp (by omega), nI_1]
      obtain ⟨S', a1, a2, a3, a4, a5, a6, a7⟩ := ihr (k + 1) (s_Model_now S (upd (g_Model_now S) k (g_Model_past S (425 * q + k)))) f (by omega) (by omega) (by omega) (by rw [gs_kept_now]; exact hk)
      refine ⟨S', a1, fun i hi => ?_, by rw [a3, gs_past_now], by rw [a4, gs_kept_now]; exact hk, by rw [a5, gs_text_now], by rw [a6, gs_typed_now], by rw [a7, gs_thrown_now]⟩
      rw [a2 i hi, gs_now_now, gs_past_now]
      by_cases y : i < k
      · rw [if_pos (by omega), if_pos y, upd_ne (by omega)]
      · rw [if_neg y]
        by_cases w : i = k
        · rw [w, if_pos (by omega), upd_at]
        · rw [if_neg (by omega)]
    · obtain rfl : k = 425 := by omega
      rw [if_pos (show (425 : Int32) ≤ nI 425 by decide), hk]
      exact ⟨S, rfl, fun i hi => by rw [if_pos hi], rfl, hk, rfl, rfl, rfl⟩
