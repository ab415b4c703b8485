/-! ===== pure: swap, alike ===== -/
theorem exch_ok (S : S_Model) {a b : Nat} {x y : Int32} (ha : x = nI a) (hb : y = nI b) (h1 : a < 425) (h2 : b < 425) : F_X5_exchanges S x y = some (s_Model_now S (upd (upd (g_Model_now S) a (g_Model_now S b)) b (g_Model_now S a))) := by
  subst ha hb
  unfold F_X5_exchanges
  rw [og_t (inb_nI h1 (by omega)), og_t (inb_nI h2 (by omega)), og_t (inb_nI h1 (by omega)), og_t (inb_nI h2 (by omega)), nI_clamp (by omega), nI_clamp (by omega)]
def swp (f : Nat → Int32) (k : Nat) : Nat → Int32 := fun i => if 5 ≤ i ∧ i < 5 + k then f (i + 210) else if 215 ≤ i ∧ i < 215 + k then f (i - 210) else f i
theorem swp_s (f : Nat → Int32) (k : Nat) (hk : k < 210) : upd (upd (swp f k) (5 + k) (swp f k (215 + k))) (215 + k) (swp f k (5 + k)) = swp f (k + 1) := by
  have e1 : swp f k (215 + k) = f (215 + k) := by
    unfold swp; rw [if_neg (by omega), if_neg (by omega)]
  have e2 : swp f k (5 + k) = f (5 + k) := by
    unfold swp; rw [if_neg (by omega), if_neg (by omega)]
  rw [e1, e2]
  funext i
  by_cases z : i = 215 + k
  · subst z
    rw [upd_at]
    unfold swp
    rw [if_neg (by omega), if_pos (by omega), show 215 + k - 210 = 5 + k by omega]
  · rw [upd_ne z]
    by_cases y : i = 5 + k
    · subst y
      rw [upd_at]
      unfold swp
      rw [if_pos (by omega), show 5 + k + 210 = 215 + k by omega]
    · rw [upd_ne y]
      unfold swp
      by_cases w : 5 ≤ i ∧ i < 5 + k
      · rw [if_pos w, if_pos (show 5 ≤ i ∧ i < 5 + (k + 1) by omega)]
      · have w' : ¬ (5 ≤ i ∧ i < 5 + (k + 1)) := by omega
        by_cases u : 215 ≤ i ∧ i < 215 + k
        · rw [if_neg w, if_neg w', if_pos u, if_pos (show 215 ≤ i ∧ i < 215 + (k + 1) by omega)]
        · rw [if_neg w, if_neg w', if_neg u, if_neg (show ¬ (215 ≤ i ∧ i < 215 + (k + 1)) by omega)]
theorem swap_loop {S : S_Model} {f0 : Nat → Int32} : ∀ g k f, 210 - k < g → g ≤ f → k ≤ 210 → F_X5_swap_23 f (s_Model_now S (swp f0 k)) (nI k) = some (swp f0 210 3, s_Model_now S (swp f0 210)) := by
  intro g
  induction g with
  | zero => intro k f h; omega
  | succ g ihr =>
    intro k f h1 h2 h3
    obtain ⟨f, rfl⟩ : ∃ m, f = m + 1 := ⟨f - 1, by omega⟩
    rw [F_X5_swap_23_s]
    rcases Nat.lt_or_ge k 210 with z | z
    · have hnn : ∀ w, s_Model_now (s_Model_now S (swp f0 k)) w = s_Model_now S w := fun w => s_ext (by rw [gs_now_now, gs_now_now]) (by rw [gs_past_now, gs_past_now, gs_past_now]) (by rw [gs_kept_now, gs_kept_now, gs_kept_now]) (by rw [gs_text_now, gs_text_now, gs_text_now]) (by rw [gs_typed_now, gs_typed_now, gs_typed_now]) (by rw [gs_thrown_now, gs_thrown_now, gs_thrown_now]) (by rw [gs_at_now, gs_at_now, gs_at_now]) (by rw [gs_isFault_now, gs_isFault_now, gs_isFault_now]) (by rw [gs_kinds_now, gs_kinds_now, gs_kinds_now]) (by rw [gs_above_now, gs_above_now, gs_above_now]) (by rw [gs_letters_now, gs_letters_now, gs_letters_now]) (by rw [gs_begins_now, gs_begins_now, gs_begins_now]) (by rw [gs_ends_now, gs_ends_now, gs_ends_now]) (by rw [gs_used_now, gs_used_now, gs_used_now]) (by rw [gs_valued_now, gs_valued_now, gs_valued_now]) (by rw [gs_open_now, gs_open_now, gs_open_now]) (by rw [gs_deep_now, gs_deep_now, gs_deep_now]) (by rw [gs_deepest_now, gs_deepest_now, gs_deepest_now]) (by rw [gs_tree_now, gs_tree_now, gs_tree_now]) (by rw [gs_top_now, gs_top_now, gs_top_now]) (by rw [gs_place_now, gs_place_now, gs_place_now]) (by rw [gs_order_now, gs_order_now, gs_order_now]) (by rw [gs_becameAny_now, gs_becameAny_now, gs_becameAny_now]) (by rw [gs_misfit_now, gs_misfit_now, gs_misfit_now]) (by rw [gs_misfitAt_now, gs_misfitAt_now, gs_misfitAt_now]) (by rw [gs_misfitNode_now, gs_misfitNode_now, gs_misfitNode_now])
      rw [if_neg (show ¬ (210 : Int32) ≤ nI k from nI_ge (a := k) (b := 210) z (by omega)), ob1_s (exch_ok _ (a := 5 + k) (b := 215 + k) (show (5 : Int32) + nI k = nI (5 + k) from nI_add 5 k) (show (215 : Int32) + nI k = nI (215 + k) from nI_add 215 k) (by omega) (by omega)), gs_now_now, swp_s f0 k z, hnn, nI_1]
      exact ihr (k + 1) f (by omega) (by omega) (by omega)
    · obtain rfl : k = 210 := by omega
      rw [if_pos (show (210 : Int32) ≤ nI 210 by decide), og_t (by decide), gs_now_now]
      rfl
theorem SH.move {T : S_Tree} {f g : Nat → Int32} {s s' : Nat} {M : Mp} (h : SH T f s M) (h1 : g (1 + s') = f (1 + s)) (h3 : g (3 + s') = f (3 + s)) (hg : ∀ i, i < 210 → g (5 + 210 * s' + i) = f (5 + 210 * s + i)) : SH T g s' M := by
  obtain ⟨a1, a2, a3, ⟨n1, n2, n3⟩, a5⟩ := h
  refine ⟨a1, a2, a3, ⟨by rw [h3]; exact n1, n2, fun c d hc => ?_⟩, by rw [h1]; exact a5⟩
  have hl := ix_lt hc (a1.lt hc)
  have hw : ∀ k, k < 7 → nw g s' (ix M c) k = nw f s (ix M c) k := fun k hk => by
    unfold nw
    rw [Nat.add_assoc, Nat.add_assoc (5 + 210 * s)]
    exact hg _ (by omega)
  have := n3 c d hc
  unfold nrow at this ⊢
  rw [hw 0 (by omega), hw 1 (by omega), hw 2 (by omega), hw 3 (by omega), hw 4 (by omega), hw 5 (by omega), hw 6 (by omega)]
  exact this
theorem swap_ok {S : S_LS} {Z : Nat → S_State} {M : S_Model} (h : INV S Z M) : ∃ r S' Z' M', F_X4_swap S Z = some (r, S', Z') ∧ F_X5_swap M = some (r, M') ∧ INV S' Z' M' ∧ g_Model_thrown M' = 0 := by
  obtain ⟨b1, b2, N, t, b3, b4, b5⟩ := h.thrown 0
  obtain ⟨q, Z', p, e1, e2, e3, e4⟩ := saves_ok b1 b2
  obtain ⟨⟨A, hA⟩, ⟨B, hB⟩, hset⟩ := b1
  obtain ⟨T4, c1, c2⟩ := copy_SH (U := g_LS_work S) hA
  obtain ⟨T6, c3, c4⟩ := copy_SH (U := g_State_first (g_LS_now S)) hB
  obtain ⟨T8, c5, c6⟩ := copy_SH (U := g_State_second (g_LS_now S)) c2
  have d1 : F_X3_copyFrom (g_LS_work (s_LS_savedStates S (nI q))) (g_State_first (g_LS_now (s_LS_savedStates S (nI q)))) = some T4 := c1
  have d2 : F_X3_copyFrom (g_State_first (g_LS_now (s_LS_savedStates S (nI q)))) (g_State_second (g_LS_now (s_LS_savedStates S (nI q)))) = some T6 := c3
  have d3 : F_X3_copyFrom (g_State_second (g_LS_now (s_LS_savedStates S (nI q)))) T4 = some T8 := c5
  unfold F_X4_swap F_X5_swap
  rw [ob2_s e1, ob1_s d1, ob1_s d2, ob1_s d3, ob1_s e2, ob1_s (exch_ok _ (a := 1) (b := 2) (x := (1 : Int32)) (y := (2 : Int32)) rfl rfl (by omega) (by omega)), ob1_s (exch_ok _ (a := 3) (b := 4) (x := (3 : Int32)) (y := (4 : Int32)) rfl rfl (by omega) (by omega))]
  rw [gs_now_now, gs_now_kept, gs_now_past, gs_now_thrown]
  rw [gs_now_thrown] at c4 c6 hset
  generalize hf1 : upd (upd (g_Model_now M) 1 (g_Model_now M 2)) 2 (g_Model_now M 1) = f1
  generalize hf2 : upd (upd f1 3 (f1 4)) 4 (f1 3) = f2
  have hv : f2 0 = g_Model_now M 0 ∧ f2 1 = g_Model_now M 2 ∧ f2 2 = g_Model_now M 1 ∧ f2 3 = g_Model_now M 4 ∧ f2 4 = g_Model_now M 3 ∧ ∀ i, 5 ≤ i → f2 i = g_Model_now M i := by
    subst hf2 hf1
    refine ⟨rfl, rfl, rfl, rfl, rfl, fun i hi => ?_⟩
    rw [upd_ne (by omega), upd_ne (by omega), upd_ne (by omega), upd_ne (by omega)]
  generalize hM1 : s_Model_now (s_Model_now (s_Model_kept (s_Model_past (s_Model_thrown M 0) p) (nI q)) f1) f2 = M1
  have hnow1 : g_Model_now M1 = f2 := by rw [← hM1, gs_now_now]
  have hs0 : swp f2 0 = f2 := by
    funext i
    unfold swp
    rw [if_neg (by omega), if_neg (by omega)]
  have heta : s_Model_now M1 (swp f2 0) = M1 := by
    rw [hs0, ← hnow1, bmv_ns, ← bmv_eta]
  have hloop := swap_loop (S := M1) (f0 := f2) 211 0 5000 (by omega) (by omega) (by omega)
  rw [heta] at hloop
  have hloop' : F_X5_swap_23 5000 M1 0 = some (swp f2 210 3, s_Model_now M1 (swp f2 210)) := hloop
  rw [hloop']
  have w5 : ∀ i, i < 5 → swp f2 210 i = f2 i := fun i hi => by
    unfold swp
    rw [if_neg (by omega), if_neg (by omega)]
  have wa : ∀ i, i < 210 → swp f2 210 (5 + i) = g_Model_now M (215 + i) := fun i hi => by
    unfold swp
    rw [if_pos (by omega), hv.2.2.2.2.2 _ (by omega), show 5 + i + 210 = 215 + i by omega]
  have wb : ∀ i, i < 210 → swp f2 210 (215 + i) = g_Model_now M (5 + i) := fun i hi => by
    unfold swp
    rw [if_neg (by omega), if_pos (by omega), hv.2.2.2.2.2 _ (by omega), show 215 + i - 210 = 5 + i by omega]
  have hr : g_Tree_size T6 = swp f2 210 3 := by
    rw [w5 3 (by omega), hv.2.2.2.1, c4.2.1.1]
    exact c4.2.2.2.1.1.symm
  rw [hr]
  refine ⟨_, _, _, _, rfl, rfl, ⟨⟨⟨B, ?_⟩, ⟨A, ?_⟩, ?_⟩, ⟨q, e3, rfl, ?_, fun j hj => ?_⟩, N, t, b3, b4, ?_⟩, ?_⟩
  · rw [gs_now_now]
    exact c4.move (s' := 0) ((w5 1 (by omega)).trans hv.2.1) ((w5 3 (by omega)).trans hv.2.2.2.1) (fun i hi => wa i hi)
  · rw [gs_now_now]
    exact c6.move (s' := 1) ((w5 2 (by omega)).trans hv.2.2.1) ((w5 4 (by omega)).trans hv.2.2.2.2.1) (fun i hi => wb i hi)
  · rw [gs_now_now, w5 0 (by omega), hv.1]; exact hset
  · rw [gs_kept_now, ← hM1, gs_kept_now, gs_kept_now, gs_kept_kept]
  · rw [gs_past_now, ← hM1, gs_past_now, gs_past_now, gs_past_kept, gs_past_past]
    exact e4 j hj
  · unfold TX at b5 ⊢
    rw [gs_typed_now, gs_text_now, ← hM1, gs_typed_now, gs_typed_now, gs_typed_kept, gs_typed_past, gs_text_now, gs_text_now, gs_text_kept, gs_text_past]
    exact b5
  · rw [gs_thrown_now, ← hM1, gs_thrown_now, gs_thrown_now, gs_thrown_kept, gs_thrown_past, gs_thrown_thrown]
