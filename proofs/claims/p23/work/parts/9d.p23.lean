/-! ===== pure: states of the reference while it seeks a misfit ===== -/
def mfv (S : S_Model) (m a k : Int32) (p : Nat → Int32) : S_Model := s_Model_place (s_Model_misfitNode (s_Model_misfitAt (s_Model_misfit S m) a) k) p
theorem mfv_now (S : S_Model) (m a k : Int32) (p : Nat → Int32) : g_Model_now (mfv S m a k p) = g_Model_now S := by
  unfold mfv
  rw [gs_now_place, gs_now_misfitNode, gs_now_misfitAt, gs_now_misfit]
theorem mfv_past (S : S_Model) (m a k : Int32) (p : Nat → Int32) : g_Model_past (mfv S m a k p) = g_Model_past S := by
  unfold mfv
  rw [gs_past_place, gs_past_misfitNode, gs_past_misfitAt, gs_past_misfit]
theorem mfv_kept (S : S_Model) (m a k : Int32) (p : Nat → Int32) : g_Model_kept (mfv S m a k p) = g_Model_kept S := by
  unfold mfv
  rw [gs_kept_place, gs_kept_misfitNode, gs_kept_misfitAt, gs_kept_misfit]
theorem mfv_text (S : S_Model) (m a k : Int32) (p : Nat → Int32) : g_Model_text (mfv S m a k p) = g_Model_text S := by
  unfold mfv
  rw [gs_text_place, gs_text_misfitNode, gs_text_misfitAt, gs_text_misfit]
theorem mfv_typed (S : S_Model) (m a k : Int32) (p : Nat → Int32) : g_Model_typed (mfv S m a k p) = g_Model_typed S := by
  unfold mfv
  rw [gs_typed_place, gs_typed_misfitNode, gs_typed_misfitAt, gs_typed_misfit]
theorem mfv_thrown (S : S_Model) (m a k : Int32) (p : Nat → Int32) : g_Model_thrown (mfv S m a k p) = g_Model_thrown S := by
  unfold mfv
  rw [gs_thrown_place, gs_thrown_misfitNode, gs_thrown_misfitAt, gs_thrown_misfit]
theorem mfv_at (S : S_Model) (m a k : Int32) (p : Nat → Int32) : g_Model_at (mfv S m a k p) = g_Model_at S := by
  unfold mfv
  rw [gs_at_place, gs_at_misfitNode, gs_at_misfitAt, gs_at_misfit]
theorem mfv_isFault (S : S_Model) (m a k : Int32) (p : Nat → Int32) : g_Model_isFault (mfv S m a k p) = g_Model_isFault S := by
  unfold mfv
  rw [gs_isFault_place, gs_isFault_misfitNode, gs_isFault_misfitAt, gs_isFault_misfit]
theorem mfv_kinds (S : S_Model) (m a k : Int32) (p : Nat → Int32) : g_Model_kinds (mfv S m a k p) = g_Model_kinds S := by
  unfold mfv
  rw [gs_kinds_place, gs_kinds_misfitNode, gs_kinds_misfitAt, gs_kinds_misfit]
theorem mfv_above (S : S_Model) (m a k : Int32) (p : Nat → Int32) : g_Model_above (mfv S m a k p) = g_Model_above S := by
  unfold mfv
  rw [gs_above_place, gs_above_misfitNode, gs_above_misfitAt, gs_above_misfit]
theorem mfv_letters (S : S_Model) (m a k : Int32) (p : Nat → Int32) : g_Model_letters (mfv S m a k p) = g_Model_letters S := by
  unfold mfv
  rw [gs_letters_place, gs_letters_misfitNode, gs_letters_misfitAt, gs_letters_misfit]
theorem mfv_begins (S : S_Model) (m a k : Int32) (p : Nat → Int32) : g_Model_begins (mfv S m a k p) = g_Model_begins S := by
  unfold mfv
  rw [gs_begins_place, gs_begins_misfitNode, gs_begins_misfitAt, gs_begins_misfit]
theorem mfv_ends (S : S_Model) (m a k : Int32) (p : Nat → Int32) : g_Model_ends (mfv S m a k p) = g_Model_ends S := by
  unfold mfv
  rw [gs_ends_place, gs_ends_misfitNode, gs_ends_misfitAt, gs_ends_misfit]
theorem mfv_used (S : S_Model) (m a k : Int32) (p : Nat → Int32) : g_Model_used (mfv S m a k p) = g_Model_used S := by
  unfold mfv
  rw [gs_used_place, gs_used_misfitNode, gs_used_misfitAt, gs_used_misfit]
theorem mfv_valued (S : S_Model) (m a k : Int32) (p : Nat → Int32) : g_Model_valued (mfv S m a k p) = g_Model_valued S := by
  unfold mfv
  rw [gs_valued_place, gs_valued_misfitNode, gs_valued_misfitAt, gs_valued_misfit]
theorem mfv_open (S : S_Model) (m a k : Int32) (p : Nat → Int32) : g_Model_open (mfv S m a k p) = g_Model_open S := by
  unfold mfv
  rw [gs_open_place, gs_open_misfitNode, gs_open_misfitAt, gs_open_misfit]
theorem mfv_deep (S : S_Model) (m a k : Int32) (p : Nat → Int32) : g_Model_deep (mfv S m a k p) = g_Model_deep S := by
  unfold mfv
  rw [gs_deep_place, gs_deep_misfitNode, gs_deep_misfitAt, gs_deep_misfit]
theorem mfv_deepest (S : S_Model) (m a k : Int32) (p : Nat → Int32) : g_Model_deepest (mfv S m a k p) = g_Model_deepest S := by
  unfold mfv
  rw [gs_deepest_place, gs_deepest_misfitNode, gs_deepest_misfitAt, gs_deepest_misfit]
theorem mfv_tree (S : S_Model) (m a k : Int32) (p : Nat → Int32) : g_Model_tree (mfv S m a k p) = g_Model_tree S := by
  unfold mfv
  rw [gs_tree_place, gs_tree_misfitNode, gs_tree_misfitAt, gs_tree_misfit]
theorem mfv_top (S : S_Model) (m a k : Int32) (p : Nat → Int32) : g_Model_top (mfv S m a k p) = g_Model_top S := by
  unfold mfv
  rw [gs_top_place, gs_top_misfitNode, gs_top_misfitAt, gs_top_misfit]
theorem mfv_place (S : S_Model) (m a k : Int32) (p : Nat → Int32) : g_Model_place (mfv S m a k p) = p := by
  unfold mfv
  rw [gs_place_place]
theorem mfv_order (S : S_Model) (m a k : Int32) (p : Nat → Int32) : g_Model_order (mfv S m a k p) = g_Model_order S := by
  unfold mfv
  rw [gs_order_place, gs_order_misfitNode, gs_order_misfitAt, gs_order_misfit]
theorem mfv_becameAny (S : S_Model) (m a k : Int32) (p : Nat → Int32) : g_Model_becameAny (mfv S m a k p) = g_Model_becameAny S := by
  unfold mfv
  rw [gs_becameAny_place, gs_becameAny_misfitNode, gs_becameAny_misfitAt, gs_becameAny_misfit]
theorem mfv_misfit (S : S_Model) (m a k : Int32) (p : Nat → Int32) : g_Model_misfit (mfv S m a k p) = m := by
  unfold mfv
  rw [gs_misfit_place, gs_misfit_misfitNode, gs_misfit_misfitAt, gs_misfit_misfit]
theorem mfv_misfitAt (S : S_Model) (m a k : Int32) (p : Nat → Int32) : g_Model_misfitAt (mfv S m a k p) = a := by
  unfold mfv
  rw [gs_misfitAt_place, gs_misfitAt_misfitNode, gs_misfitAt_misfitAt]
theorem mfv_misfitNode (S : S_Model) (m a k : Int32) (p : Nat → Int32) : g_Model_misfitNode (mfv S m a k p) = k := by
  unfold mfv
  rw [gs_misfitNode_place, gs_misfitNode_misfitNode]
theorem mfv_p (S : S_Model) (m a k : Int32) (p : Nat → Int32) (q : Nat → Int32) : s_Model_place (mfv S m a k p) q = mfv S m a k q :=
  s_ext (by rw [gs_now_place, mfv_now, mfv_now]) (by rw [gs_past_place, mfv_past, mfv_past]) (by rw [gs_kept_place, mfv_kept, mfv_kept]) (by rw [gs_text_place, mfv_text, mfv_text]) (by rw [gs_typed_place, mfv_typed, mfv_typed]) (by rw [gs_thrown_place, mfv_thrown, mfv_thrown]) (by rw [gs_at_place, mfv_at, mfv_at]) (by rw [gs_isFault_place, mfv_isFault, mfv_isFault]) (by rw [gs_kinds_place, mfv_kinds, mfv_kinds]) (by rw [gs_above_place, mfv_above, mfv_above]) (by rw [gs_letters_place, mfv_letters, mfv_letters]) (by rw [gs_begins_place, mfv_begins, mfv_begins]) (by rw [gs_ends_place, mfv_ends, mfv_ends]) (by rw [gs_used_place, mfv_used, mfv_used]) (by rw [gs_valued_place, mfv_valued, mfv_valued]) (by rw [gs_open_place, mfv_open, mfv_open]) (by rw [gs_deep_place, mfv_deep, mfv_deep]) (by rw [gs_deepest_place, mfv_deepest, mfv_deepest]) (by rw [gs_tree_place, mfv_tree, mfv_tree]) (by rw [gs_top_place, mfv_top, mfv_top]) (by rw [gs_place_place, mfv_place]) (by rw [gs_order_place, mfv_order, mfv_order]) (by rw [gs_becameAny_place, mfv_becameAny, mfv_becameAny]) (by rw [gs_misfit_place, mfv_misfit, mfv_misfit]) (by rw [gs_misfitAt_place, mfv_misfitAt, mfv_misfitAt]) (by rw [gs_misfitNode_place, mfv_misfitNode, mfv_misfitNode])
theorem mfv_m (S : S_Model) (m a k : Int32) (p : Nat → Int32) (m2 a2 k2 : Int32) : s_Model_misfitNode (s_Model_misfitAt (s_Model_misfit (mfv S m a k p) m2) a2) k2 = mfv S m2 a2 k2 p :=
  s_ext (by rw [gs_now_misfitNode, gs_now_misfitAt, gs_now_misfit, mfv_now, mfv_now]) (by rw [gs_past_misfitNode, gs_past_misfitAt, gs_past_misfit, mfv_past, mfv_past]) (by rw [gs_kept_misfitNode, gs_kept_misfitAt, gs_kept_misfit, mfv_kept, mfv_kept]) (by rw [gs_text_misfitNode, gs_text_misfitAt, gs_text_misfit, mfv_text, mfv_text]) (by rw [gs_typed_misfitNode, gs_typed_misfitAt, gs_typed_misfit, mfv_typed, mfv_typed]) (by rw [gs_thrown_misfitNode, gs_thrown_misfitAt, gs_thrown_misfit, mfv_thrown, mfv_thrown]) (by rw [gs_at_misfitNode, gs_at_misfitAt, gs_at_misfit, mfv_at, mfv_at]) (by rw [gs_isFault_misfitNode, gs_isFault_misfitAt, gs_isFault_misfit, mfv_isFault, mfv_isFault]) (by rw [gs_kinds_misfitNode, gs_kinds_misfitAt, gs_kinds_misfit, mfv_kinds, mfv_kinds]) (by rw [gs_above_misfitNode, gs_above_misfitAt, gs_above_misfit, mfv_above, mfv_above]) (by rw [gs_letters_misfitNode, gs_letters_misfitAt, gs_letters_misfit, mfv_letters, mfv_letters]) (by rw [gs_begins_misfitNode, gs_begins_misfitAt, gs_begins_misfit, mfv_begins, mfv_begins]) (by rw [gs_ends_misfitNode, gs_ends_misfitAt, gs_ends_misfit, mfv_ends, mfv_ends]) (by rw [gs_used_misfitNode, gs_used_misfitAt, gs_used_misfit, mfv_used, mfv_used]) (by rw [gs_valued_misfitNode, gs_valued_misfitAt, gs_valued_misfit, mfv_valued, mfv_valued]) (by rw [gs_open_misfitNode, gs_open_misfitAt, gs_open_misfit, mfv_open, mfv_open]) (by rw [gs_deep_misfitNode, gs_deep_misfitAt, gs_deep_misfit, mfv_deep, mfv_deep]) (by rw [gs_deepest_misfitNode, gs_deepest_misfitAt, gs_deepest_misfit, mfv_deepest, mfv_deepest]) (by rw [gs_tree_misfitNode, gs_tree_misfitAt, gs_tree_misfit, mfv_tree, mfv_tree]) (by rw [gs_top_misfitNode, gs_top_misfitAt, gs_top_misfit, mfv_top, mfv_top]) (by rw [gs_place_misfitNode, gs_place_misfitAt, gs_place_misfit, mfv_place, mfv_place]) (by rw [gs_order_misfitNode, gs_order_misfitAt, gs_order_misfit, mfv_order, mfv_order]) (by rw [gs_becameAny_misfitNode, gs_becameAny_misfitAt, gs_becameAny_misfit, mfv_becameAny, mfv_becameAny]) (by rw [gs_misfit_misfitNode, gs_misfit_misfitAt, gs_misfit_misfit, mfv_misfit]) (by rw [gs_misfitAt_misfitNode, gs_misfitAt_misfitAt, mfv_misfitAt]) (by rw [gs_misfitNode_misfitNode, mfv_misfitNode])
theorem mfv_0 (S : S_Model) (m2 a2 k2 : Int32) : s_Model_misfitNode (s_Model_misfitAt (s_Model_misfit S m2) a2) k2 = mfv S m2 a2 k2 (g_Model_place S) :=
  s_ext (by rw [gs_now_misfitNode, gs_now_misfitAt, gs_now_misfit, mfv_now]) (by rw [gs_past_misfitNode, gs_past_misfitAt, gs_past_misfit, mfv_past]) (by rw [gs_kept_misfitNode, gs_kept_misfitAt, gs_kept_misfit, mfv_kept]) (by rw [gs_text_misfitNode, gs_text_misfitAt, gs_text_misfit, mfv_text]) (by rw [gs_typed_misfitNode, gs_typed_misfitAt, gs_typed_misfit, mfv_typed]) (by rw [gs_thrown_misfitNode, gs_thrown_misfitAt, gs_thrown_misfit, mfv_thrown]) (by rw [gs_at_misfitNode, gs_at_misfitAt, gs_at_misfit, mfv_at]) (by rw [gs_isFault_misfitNode, gs_isFault_misfitAt, gs_isFault_misfit, mfv_isFault]) (by rw [gs_kinds_misfitNode, gs_kinds_misfitAt, gs_kinds_misfit, mfv_kinds]) (by rw [gs_above_misfitNode, gs_above_misfitAt, gs_above_misfit, mfv_above]) (by rw [gs_letters_misfitNode, gs_letters_misfitAt, gs_letters_misfit, mfv_letters]) (by rw [gs_begins_misfitNode, gs_begins_misfitAt, gs_begins_misfit, mfv_begins]) (by rw [gs_ends_misfitNode, gs_ends_misfitAt, gs_ends_misfit, mfv_ends]) (by rw [gs_used_misfitNode, gs_used_misfitAt, gs_used_misfit, mfv_used]) (by rw [gs_valued_misfitNode, gs_valued_misfitAt, gs_valued_misfit, mfv_valued]) (by rw [gs_open_misfitNode, gs_open_misfitAt, gs_open_misfit, mfv_open]) (by rw [gs_deep_misfitNode, gs_deep_misfitAt, gs_deep_misfit, mfv_deep]) (by rw [gs_deepest_misfitNode, gs_deepest_misfitAt, gs_deepest_misfit, mfv_deepest]) (by rw [gs_tree_misfitNode, gs_tree_misfitAt, gs_tree_misfit, mfv_tree]) (by rw [gs_top_misfitNode, gs_top_misfitAt, gs_top_misfit, mfv_top]) (by rw [gs_place_misfitNode, gs_place_misfitAt, gs_place_misfit, mfv_place]) (by rw [gs_order_misfitNode, gs_order_misfitAt, gs_order_misfit, mfv_order]) (by rw [gs_becameAny_misfitNode, gs_becameAny_misfitAt, gs_becameAny_misfit, mfv_becameAny]) (by rw [gs_misfit_misfitNode, gs_misfit_misfitAt, gs_misfit_misfit, mfv_misfit]) (by rw [gs_misfitAt_misfitNode, gs_misfitAt_misfitAt, mfv_misfitAt]) (by rw [gs_misfitNode_misfitNode, mfv_misfitNode])
