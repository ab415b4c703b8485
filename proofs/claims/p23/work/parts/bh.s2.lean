/-! ===== pure: forget, alike ===== -/
section FGT
variable {S : S_LS} {Z : Nat → S_State} {M : S_Model}
theorem shape_cases (v : Int32) : ((v = 0 ∨ v = 1) ∧ F_X4_isShape v = some true ∧ F_X5_isShape v = some true) ∨ (¬ v = 0 ∧ ¬ v = 1 ∧ F_X4_isShape v = some false ∧ F_X5_isShape v = some false) := by
  by_cases z0 : v = 0
  · subst z0; exact Or.inl ⟨Or.inl rfl, rfl, rfl⟩
  · by_cases z1 : v = 1
    · subst z1; exact Or.inl ⟨Or.inr rfl, rfl, rfl⟩
    · refine Or.inr ⟨z0, z1, ?_, ?_⟩
      · unfold F_X4_isShape; rw [if_neg z0, if_neg z1]
      · have hf : F_X5_in v 0 1 = some false := by
          rcases in_cases (v := v) (b := 1) (by omega) with ⟨_, h3⟩ | ⟨h1, h2, _⟩ | ⟨_, _, h3⟩
          · exact h3
          · exfalso
            obtain ⟨c, c1, c2, _⟩ := nI_between (v := v) (a := 0) (b := 1) (by omega) (by omega) h1 h2
            rcases (show c = 0 ∨ c = 1 by omega) with y | y
            · exact z0 (by rw [c1, y]; rfl)
            · exact z1 (by rw [c1, y]; rfl)
          · exact h3
        unfold F_X5_isShape
        rw [ob1_s hf]
theorem ix_no : ∀ n, ix (fun _ => none) n = 0 := by
  intro n
  induction n with
  | zero => rfl
  | succ n ihr => simp [ix, has1, ihr]
theorem SH_no {T : S_Tree} {f : Nat → Int32} {s : Nat} (h1 : g_Tree_size T = 0) (h2 : g_Tree_documents T = 0) (h3 : f (3 + s) = 0) (h4 : f (1 + s) = 0) : SH T f s (fun _ => none) := by
  refine ⟨fun c d h => by simp at h, ⟨by rw [ix_no, h1]; rfl, by rw [ix_no]; omega, fun c d _ h => by simp at h⟩, fun c d h => by simp at h, ⟨by rw [ix_no, h3]; rfl, by rw [ix_no]; omega, fun c d h => by simp at h⟩, by rw [h2, h4]⟩
theorem forget_ok (h : INV S Z M) (v : Int32) : ∃ M', (F_X4_forget S Z v = some (.inl ("java/lang/IndexOutOfBoundsException", (S, Z))) ∧ F_X5_forget M v = some (0, M') ∧ INV S Z M' ∧ g_Model_thrown M' = 1) ∨ (∃ r S' Z', F_X4_forget S Z v = some (.inr (r, S', Z')) ∧ F_X5_forget M v = some (r, M') ∧ INV S' Z' M' ∧ g_Model_thrown M' = 0) := by
  have h0 := h.thrown 0
  unfold F_X4_forget F_X5_forget
  rcases shape_cases v with ⟨hv, s1, s2⟩ | ⟨_, _, s1, s2⟩
  · obtain ⟨b1, b2, N, t, b3, b4, b5⟩ := h0
    obtain ⟨q, Z', p, e1, e2, e3, e4⟩ := saves_ok b1 b2
    rw [ob1_s s1, ob1_s s2, b2i_t, if_neg one_ne0, if_neg one_ne0, ob2_s e1, ob1_s e2]
    rw [gs_now_kept, gs_now_past, gs_now_thrown]
    rw [gs_now_thrown] at b1
    obtain ⟨⟨A, hA⟩, ⟨B, hB⟩, hset⟩ := b1
    have hsv : ∀ (σ : S_State) (f : Nat → Int32), SVx (s_LS_now (s_LS_savedStates S (nI q)) σ) Z' (s_Model_now (s_Model_kept (s_Model_past (s_Model_thrown M 0) p) (nI q)) f) := fun σ f => by
      refine ⟨q, e3, rfl, by rw [gs_kept_now, gs_kept_kept], fun j hj => ?_⟩
      rw [gs_past_now, gs_past_kept, gs_past_past]
      exact e4 j hj
    have htx : ∀ f, TX (s_Model_now (s_Model_kept (s_Model_past (s_Model_thrown M 0) p) (nI q)) f) N t := fun f => by
      unfold TX at b5 ⊢
      rw [gs_typed_now, gs_typed_kept, gs_typed_past, gs_text_now, gs_text_kept, gs_text_past]
      exact b5
    have hth : ∀ f, g_Model_thrown (s_Model_now (s_Model_kept (s_Model_past (s_Model_thrown M 0) p) (nI q)) f) = 0 := fun f => by
      rw [gs_thrown_now, gs_thrown_kept, gs_thrown_past, gs_thrown_thrown]
    rcases hv with rfl | rfl
    · rw [if_pos rfl, og_t (by decide), og_t (by decide), og_t (by decide)]
      have hr : g_Tree_size (g_State_first (g_LS_now (s_LS_savedStates S (nI q)))) = g_Model_now M ((3 : Int32) + 0).toNatClampNeg := by
        rw [show ((3 : Int32) + 0).toNatClampNeg = 3 + 0 from rfl, hA.2.2.2.1.1]
        exact hA.2.1.1
      rw [hr]
      refine ⟨_, Or.inr ⟨_, _, _, rfl, rfl, ⟨⟨⟨_, SH_no rfl rfl ?_ ?_⟩, ⟨B, ?_⟩, ?_⟩, hsv _ _, N, t, b3, b4, htx _⟩, hth _⟩⟩
      · rw [gs_now_now]; rfl
      · rw [gs_now_now]; rfl
      · rw [gs_now_now]
        refine hB.ext rfl rfl fun i hi _ => ?_
        rw [upd_ne (by show i ≠ 1; omega), upd_ne (by show i ≠ 3; omega)]
      · rw [gs_now_now]; exact hset
    · rw [if_neg (by decide), og_t (by decide), og_t (by decide), og_t (by decide)]
      have hr : g_Tree_size (g_State_second (g_LS_now (s_LS_savedStates S (nI q)))) = g_Model_now M ((3 : Int32) + 1).toNatClampNeg := by
        rw [show ((3 : Int32) + 1).toNatClampNeg = 3 + 1 from rfl, hB.2.2.2.1.1]
        exact hB.2.1.1
      rw [hr]
      refine ⟨_, Or.inr ⟨_, _, _, rfl, rfl, ⟨⟨⟨A, ?_⟩, ⟨_, SH_no rfl rfl ?_ ?_⟩, ?_⟩, hsv _ _, N, t, b3, b4, htx _⟩, hth _⟩⟩
      · rw [gs_now_now]
        refine hA.ext rfl rfl fun i hi _ => ?_
        rw [upd_ne (by show i ≠ 2; omega), upd_ne (by show i ≠ 4; omega)]
      · rw [gs_now_now]; rfl
      · rw [gs_now_now]; rfl
      · rw [gs_now_now]; exact hset
  · rw [ob1_s s1, ob1_s s2, b2i_f, if_pos rfl, if_pos rfl]
    exact ⟨_, Or.inl ⟨rfl, rfl, h0.thrown 1, by rw [gs_thrown_thrown]⟩⟩
end FGT
