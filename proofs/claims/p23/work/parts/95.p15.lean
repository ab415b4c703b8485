/-! ===== pure: states are saved and come back ===== -/
def SVx (S : S_LS) (Z : Nat → S_State) (Mo : S_Model) : Prop := ∃ q, q ≤ 6 ∧ g_LS_savedStates S = nI q ∧ g_Model_kept Mo = nI q ∧ ∀ j, j < q → ST (Z j) (fun i => g_Model_past Mo (425 * j + i))
theorem mk6_at {α : Type} {x0 x1 x2 x3 x4 x5 : α} : mk6 x0 x1 x2 x3 x4 x5 0 = x0 ∧ mk6 x0 x1 x2 x3 x4 x5 1 = x1 ∧ mk6 x0 x1 x2 x3 x4 x5 2 = x2 ∧ mk6 x0 x1 x2 x3 x4 x5 3 = x3 ∧ mk6 x0 x1 x2 x3 x4 x5 4 = x4 ∧ mk6 x0 x1 x2 x3 x4 x5 5 = x5 := ⟨rfl, rfl, rfl, rfl, rfl, rfl⟩
theorem below6 {P : Nat → Prop} {q : Nat} (hq : q ≤ 6) (h0 : 0 < q → P 0) (h1 : 1 < q → P 1) (h2 : 2 < q → P 2) (h3 : 3 < q → P 3) (h4 : 4 < q → P 4) (h5 : 5 < q → P 5) : ∀ j, j < q → P j := by
  intro j hj
  have : j = 0 ∨ j = 1 ∨ j = 2 ∨ j = 3 ∨ j = 4 ∨ j = 5 := by omega
  rcases this with h | h | h | h | h | h <;> subst h
  · exact h0 hj
  · exact h1 hj
  · exact h2 hj
  · exact h3 hj
  · exact h4 hj
  · exact h5 hj
/-- the class saves: what lies where, then -/
theorem save_class {S : S_LS} {Z : Nat → S_State} {f : Nat → Int32} {q : Nat} (hq : q < 6) (hs : g_LS_savedStates S = nI q) (hT : ST (g_LS_now S) f) : ∃ Z' u, F_X4_saveState S Z = some (s_LS_savedStates S (nI (q + 1)), Z') ∧ (∀ j, j < q → Z' j = Z j) ∧ Z' q = u ∧ ST u f := by
  have hc : q = 0 ∨ q = 1 ∨ q = 2 ∨ q = 3 ∨ q = 4 ∨ q = 5 := by omega
  unfold F_X4_saveState
  rcases hc with h | h | h | h | h | h <;> subst h
  · obtain ⟨u, e1, e2⟩ := copy_ST (A := Z 0) hT
    rw [hs, if_pos (by decide), if_pos (by decide), ob1_s e1, nI_1]
    exact ⟨_, u, rfl, below6 (q := 0) (by omega) (fun h => by omega) (fun h => by omega) (fun h => by omega) (fun h => by omega) (fun h => by omega) (fun h => by omega), rfl, e2⟩
  · obtain ⟨u, e1, e2⟩ := copy_ST (A := Z 1) hT
    rw [hs, if_pos (by decide), if_neg (by decide), if_pos (by decide), ob1_s e1, nI_1]
    exact ⟨_, u, rfl, below6 (q := 1) (by omega) (fun _ => rfl) (fun h => by omega) (fun h => by omega) (fun h => by omega) (fun h => by omega) (fun h => by omega), rfl, e2⟩
  · obtain ⟨u, e1, e2⟩ := copy_ST (A := Z 2) hT
    rw [hs, if_pos (by decide), if_neg (by decide), if_neg (by decide), if_pos (by decide), ob1_s e1, nI_1]
    exact ⟨_, u, rfl, below6 (q := 2) (by omega) (fun _ => rfl) (fun _ => rfl) (fun h => by omega) (fun h => by omega) (fun h => by omega) (fun h => by omega), rfl, e2⟩
  · obtain ⟨u, e1, e2⟩ := copy_ST (A := Z 3) hT
    rw [hs, if_pos (by decide), if_neg (by decide), if_neg (by decide), if_neg (by decide), if_pos (by decide), ob1_s e1, nI_1]
    exact ⟨_, u, rfl, below6 (q := 3) (by omega) (fun _ => rfl) (fun _ => rfl) (fun _ => rfl) (fun h => by omega) (fun h => by omega) (fun h => by omega), rfl, e2⟩
  · obtain ⟨u, e1, e2⟩ := copy_ST (A := Z 4) hT
    rw [hs, if_pos (by decide), if_neg (by decide), if_neg (by decide), if_neg (by decide), if_neg (by decide), if_pos (by decide), ob1_s e1, nI_1]
    exact ⟨_, u, rfl, below6 (q := 4) (by omega) (fun _ => rfl) (fun _ => rfl) (fun _ => rfl) (fun _ => rfl) (fun h => by omega) (fun h => by omega), rfl, e2⟩
  · obtain ⟨u, e1, e2⟩ := copy_ST (A := Z 5) hT
    rw [hs, if_pos (by decide), if_neg (by decide), if_neg (by decide), if_neg (by decide), if_neg (by decide), if_neg (by decide), if_pos (by decide), ob1_s e1, nI_1]
    exact ⟨_, u, rfl, below6 (q := 5) (by omega) (fun _ => rfl) (fun _ => rfl) (fun _ => rfl) (fun _ => rfl) (fun _ => rfl) (fun h => by omega), rfl, e2⟩
/-- .. when six are saved -/
theorem save_class6 {S : S_LS} {Z : Nat → S_State} {f : Nat → Int32} (hs : g_LS_savedStates S = nI 6) (hT : ST (g_LS_now S) f) : ∃ Z' u, F_X4_saveState S Z = some (s_LS_savedStates S (nI 6), Z') ∧ (∀ j, j < 5 → Z' j = Z (j + 1)) ∧ Z' 5 = u ∧ ST u f := by
  obtain ⟨u, e1, e2⟩ := copy_ST (A := mk6 (Z 1) (Z 2) (Z 3) (Z 4) (Z 5) (Z 0) 5) hT
  have hS : g_LS_savedStates (s_LS_savedStates S (nI 5)) = nI 5 := rfl
  have hN : g_LS_now (s_LS_savedStates S (nI 5)) = g_LS_now S := rfl
  unfold F_X4_saveState F_X4_dropOldest
  rw [hs, if_neg (by decide), show nI 6 - 1 = nI 5 by decide, ob2_e, hS, if_neg (by decide), if_neg (by decide), if_neg (by decide), if_neg (by decide), if_neg (by decide), if_pos (by decide), hN, ob1_s e1, show nI 5 + 1 = nI 6 by decide]
  exact ⟨_, u, rfl, below6 (q := 5) (by omega) (fun _ => rfl) (fun _ => rfl) (fun _ => rfl) (fun _ => rfl) (fun _ => rfl) (fun h => by omega), rfl, e2⟩
/-- the reference saves -/
theorem saves_52 {S : S_Model} {q : Nat} (hq : q < 6) (hk : g_Model_kept S = nI q) : ∀ (f k : Nat) (p : Nat → Int32), k ≤ 425 → 425 - k < f → ∃ p', F_X5_saves_52 f (s_Model_past S p) (nI k) = some (s_Model_kept (s_Model_past S p') (nI (q + 1))) ∧ (∀ i, k ≤ i → i < 425 → p' (425 * q + i) = g_Model_now S i) ∧ (∀ i, ¬ (425 * q + k ≤ i ∧ i < 425 * q + 425) → p' i = p i)
  | 0, k, _, _, h => absurd h (Nat.not_lt_zero _)
  | f + 1, k, p, h1, h2 => by
    rw [F_X5_saves_52_s, gs_kept_past, hk, gs_now_past, gs_past_past]
    by_cases z : k = 425
    · rw [if_pos (show (425 : Int32) ≤ nI k by rw [z]; decide), nI_1]
      exact ⟨p, rfl, fun i h3 h4 => by omega, fun i _ => rfl⟩
    · rw [if_neg (show ¬ (425 : Int32) ≤ nI k from nI_ge (a := k) (b := 425) (by omega) (by omega)), show (425 : Int32) = nI 425 from rfl, nI_mul, nI_add, og_t (inb_nI (by omega) (by omega)), og_t (inb_nI (by omega) (by omega)), nI_clamp (n := k) (by omega), nI_clamp (n := 425 * q + k) (by omega), nI_1]
      obtain ⟨p', e1, e2, e3⟩ := saves_52 hq hk f (k + 1) (upd p (425 * q + k) (g_Model_now S k)) (by omega) (by omega)
      refine ⟨p', e1, ?_, ?_⟩
      · intro i h3 h4
        by_cases w : i = k
        · rw [w, e3 _ (by omega), upd_at]
        · exact e2 i (by omega) h4
      · intro i hi
        rw [e3 i (by omega), upd_ne (by omega)]
theorem saves_11 {S : S_Model} (hk : g_Model_kept S = nI 6) : ∀ (f k : Nat) (p : Nat → Int32), k ≤ 2125 → 2125 - k < f → ∃ p', F_X5_saves_11 f (s_Model_past S p) (nI k) = F_X5_saves_52 5000 (s_Model_kept (s_Model_past S p') (nI 5)) 0 ∧ (∀ i, i < k → p' i = p i) ∧ (∀ i, k ≤ i → i < 2125 → p' i = p (i + 425))
  | 0, k, _, _, h => absurd h (Nat.not_lt_zero _)
  | f + 1, k, p, h1, h2 => by
    rw [F_X5_saves_11_s, gs_kept_past, hk, gs_past_past]
    by_cases z : k = 2125
    · rw [if_pos (show (2125 : Int32) ≤ nI k by rw [z]; decide), show nI 6 - 1 = nI 5 by decide]
      exact ⟨p, rfl, fun i _ => rfl, fun i h3 h4 => by omega⟩
    · rw [if_neg (show ¬ (2125 : Int32) ≤ nI k from nI_ge (a := k) (b := 2125) (by omega) (by omega)), show (425 : Int32) = nI 425 from rfl, nI_add, og_t (inb_nI (by omega) (by omega)), og_t (inb_nI (by omega) (by omega)), nI_clamp (n := k) (by omega), nI_clamp (n := k + 425) (by omega), nI_1]
      obtain ⟨p', e1, e2, e3⟩ := saves_11 hk f (k + 1) (upd p k (p (k + 425))) (by omega) (by omega)
      refine ⟨p', e1, ?_, ?_⟩
      · intro i h3
        rw [e2 i (by omega), upd_ne (by omega)]
      · intro i h3 h4
        by_cases w : i = k
        · rw [w, e2 k (by omega), upd_at]
        · rw [e3 i (by omega) h4, upd_ne (by omega)]
/-- both save -/
theorem saves_ok {S : S_LS} {Z : Nat → S_State} {Mo : S_Model} (hT : ST (g_LS_now S) (g_Model_now Mo)) (hV : SVx S Z Mo) : ∃ q Z' p, F_X4_saveState S Z = some (s_LS_savedStates S (nI q), Z') ∧ F_X5_saves Mo = some (s_Model_kept (s_Model_past Mo p) (nI q)) ∧ q ≤ 6 ∧ ∀ j, j < q → ST (Z' j) (fun i => p (425 * j + i)) := by
  obtain ⟨q, h1, h2, h3, h4⟩ := hV
  have heta : s_Model_past Mo (g_Model_past Mo) = Mo := (s_ext (by rw [gs_now_past]) (by rw [gs_past_past]) (by rw [gs_kept_past]) (by rw [gs_text_past]) (by rw [gs_typed_past]) (by rw [gs_thrown_past]) (by rw [gs_at_past]) (by rw [gs_isFault_past]) (by rw [gs_kinds_past]) (by rw [gs_above_past]) (by rw [gs_letters_past]) (by rw [gs_begins_past]) (by rw [gs_ends_past]) (by rw [gs_used_past]) (by rw [gs_valued_past]) (by rw [gs_open_past]) (by rw [gs_deep_past]) (by rw [gs_deepest_past]) (by rw [gs_tree_past]) (by rw [gs_top_past]) (by rw [gs_place_past]) (by rw [gs_order_past]) (by rw [gs_becameAny_past]) (by rw [gs_misfit_past]) (by rw [gs_misfitAt_past]) (by rw [gs_misfitNode_past])).symm
  by_cases z : q = 6
  · subst z
    obtain ⟨Z', u, e1, e2, e3, e4⟩ := save_class6 (Z := Z) h2 hT
    obtain ⟨p1, f1, f2, f3⟩ := saves_11 h3 5000 0 (g_Model_past Mo) (by omega) (by omega)
    obtain ⟨p2, g1, g2, g3⟩ := saves_52 (S := s_Model_kept Mo (nI 5)) (q := 5) (by omega) (by rw [gs_kept_kept]) 5000 0 p1 (by omega) (by omega)
    rw [heta] at f1
    refine ⟨6, Z', p2, e1, ?_, Nat.le_refl _, ?_⟩
    · unfold F_X5_saves
      rw [h3, if_pos (by decide)]
      refine Eq.trans f1 ?_
      have c1 : s_Model_kept (s_Model_past Mo p1) (nI 5) = s_Model_past (s_Model_kept Mo (nI 5)) p1 := s_ext (by rw [gs_now_kept, gs_now_past, gs_now_past, gs_now_kept]) (by rw [gs_past_kept, gs_past_past, gs_past_past]) (by rw [gs_kept_kept, gs_kept_past, gs_kept_kept]) (by rw [gs_text_kept, gs_text_past, gs_text_past, gs_text_kept]) (by rw [gs_typed_kept, gs_typed_past, gs_typed_past, gs_typed_kept]) (by rw [gs_thrown_kept, gs_thrown_past, gs_thrown_past, gs_thrown_kept]) (by rw [gs_at_kept, gs_at_past, gs_at_past, gs_at_kept]) (by rw [gs_isFault_kept, gs_isFault_past, gs_isFault_past, gs_isFault_kept]) (by rw [gs_kinds_kept, gs_kinds_past, gs_kinds_past, gs_kinds_kept]) (by rw [gs_above_kept, gs_above_past, gs_above_past, gs_above_kept]) (by rw [gs_letters_kept, gs_letters_past, gs_letters_past, gs_letters_kept]) (by rw [gs_begins_kept, gs_begins_past, gs_begins_past, gs_begins_kept]) (by rw [gs_ends_kept, gs_ends_past, gs_ends_past, gs_ends_kept]) (by rw [gs_used_kept, gs_used_past, gs_used_past, gs_used_kept]) (by rw [gs_valued_kept, gs_valued_past, gs_valued_past, gs_valued_kept]) (by rw [gs_open_kept, gs_open_past, gs_open_past, gs_open_kept]) (by rw [gs_deep_kept, gs_deep_past, gs_deep_past, gs_deep_kept]) (by rw [gs_deepest_kept, gs_deepest_past, gs_deepest_past, gs_deepest_kept]) (by rw [gs_tree_kept, gs_tree_past, gs_tree_past, gs_tree_kept]) (by rw [gs_top_kept, gs_top_past, gs_top_past, gs_top_kept]) (by rw [gs_place_kept, gs_place_past, gs_place_past, gs_place_kept]) (by rw [gs_order_kept, gs_order_past, gs_order_past, gs_order_kept]) (by rw [gs_becameAny_kept, gs_becameAny_past, gs_becameAny_past, gs_becameAny_kept]) (by rw [gs_misfit_kept, gs_misfit_past, gs_misfit_past, gs_misfit_kept]) (by rw [gs_misfitAt_kept, gs_misfitAt_past, gs_misfitAt_past, gs_misfitAt_kept]) (by rw [gs_misfitNode_kept, gs_misfitNode_past, gs_misfitNode_past, gs_misfitNode_kept])
      have c2 : s_Model_kept (s_Model_past (s_Model_kept Mo (nI 5)) p2) (nI 6) = s_Model_kept (s_Model_past Mo p2) (nI 6) := s_ext (by rw [gs_now_kept, gs_now_past, gs_now_kept, gs_now_kept, gs_now_past]) (by rw [gs_past_kept, gs_past_past, gs_past_kept, gs_past_past]) (by rw [gs_kept_kept, gs_kept_kept]) (by rw [gs_text_kept, gs_text_past, gs_text_kept, gs_text_kept, gs_text_past]) (by rw [gs_typed_kept, gs_typed_past, gs_typed_kept, gs_typed_kept, gs_typed_past]) (by rw [gs_thrown_kept, gs_thrown_past, gs_thrown_kept, gs_thrown_kept, gs_thrown_past]) (by rw [gs_at_kept, gs_at_past, gs_at_kept, gs_at_kept, gs_at_past]) (by rw [gs_isFault_kept, gs_isFault_past, gs_isFault_kept, gs_isFault_kept, gs_isFault_past]) (by rw [gs_kinds_kept, gs_kinds_past, gs_kinds_kept, gs_kinds_kept, gs_kinds_past]) (by rw [gs_above_kept, gs_above_past, gs_above_kept, gs_above_kept, gs_above_past]) (by rw [gs_letters_kept, gs_letters_past, gs_letters_kept, gs_letters_kept, gs_letters_past]) (by rw [gs_begins_kept, gs_begins_past, gs_begins_kept, gs_begins_kept, gs_begins_past]) (by rw [gs_ends_kept, gs_ends_past, gs_ends_kept, gs_ends_kept, gs_ends_past]) (by rw [gs_used_kept, gs_used_past, gs_used_kept, gs_used_kept, gs_used_past]) (by rw [gs_valued_kept, gs_valued_past, gs_valued_kept, gs_valued_kept, gs_valued_past]) (by rw [gs_open_kept, gs_open_past, gs_open_kept, gs_open_kept, gs_open_past]) (by rw [gs_deep_kept, gs_deep_past, gs_deep_kept, gs_deep_kept, gs_deep_past]) (by rw [gs_deepest_kept, gs_deepest_past, gs_deepest_kept, gs_deepest_kept, gs_deepest_past]) (by rw [gs_tree_kept, gs_tree_past, gs_tree_kept, gs_tree_kept, gs_tree_past]) (by rw [gs_top_kept, gs_top_past, gs_top_kept, gs_top_kept, gs_top_past]) (by rw [gs_place_kept, gs_place_past, gs_place_kept, gs_place_kept, gs_place_past]) (by rw [gs_order_kept, gs_order_past, gs_order_kept, gs_order_kept, gs_order_past]) (by rw [gs_becameAny_kept, gs_becameAny_past, gs_becameAny_kept, gs_becameAny_kept, gs_becameAny_past]) (by rw [gs_misfit_kept, gs_misfit_past, gs_misfit_kept, gs_misfit_kept, gs_misfit_past]) (by rw [gs_misfitAt_kept, gs_misfitAt_past, gs_misfitAt_kept, gs_misfitAt_kept, gs_misfitAt_past]) (by rw [gs_misfitNode_kept, gs_misfitNode_past, gs_misfitNode_kept, gs_misfitNode_kept, gs_misfitNode_past])
      rw [c1]
      refine Eq.trans g1 ?_
      rw [c2]
    · intro j hj
      by_cases w : j = 5
      · rw [w, e3]
        refine e4.ext (fun i hi => ?_)
        show p2 (425 * 5 + i) = _
        rw [g2 i (by omega) hi, gs_now_kept]
      · rw [e2 j (by omega)]
        refine (h4 (j + 1) (by omega)).ext (fun i hi => ?_)
        show p2 (425 * j + i) = g_Model_past Mo (425 * (j + 1) + i)
        rw [g3 _ (by omega), f3 _ (by omega) (by omega), show 425 * j + i + 425 = 425 * (j + 1) + i by omega]
  · obtain ⟨Z', u, e1, e2, e3, e4⟩ := save_class (Z := Z) (show q < 6 by omega) h2 hT
    obtain ⟨p2, g1, g2, g3⟩ := saves_52 (S := Mo) (show q < 6 by omega) h3 5000 0 (g_Model_past Mo) (by omega) (by omega)
    rw [heta] at g1
    refine ⟨q + 1, Z', p2, e1, ?_, by omega, ?_⟩
    · unfold F_X5_saves
      rw [h3, if_neg (show ¬ nI q = 6 from fun y => z (nI_inj (a := q) (b := 6) (by omega) (by omega) y))]
      exact g1
    · intro j hj
      by_cases w : j = q
      · rw [w, e3]
        refine e4.ext (fun i hi => ?_)
        exact g2 i (by omega) hi
      · rw [e2 j (by omega)]
        refine (h4 j (by omega)).ext (fun i hi => ?_)
        exact g3 _ (by omega)
