/-! ===== pure: states of the reference with another shape ===== -/
def bmv (S : S_Model) (f o : Nat → Int32) : S_Model := s_Model_now (s_Model_order S o) f
theorem bmv_now (S : S_Model) (f o : Nat → Int32) : g_Model_now (bmv S f o) = f := by
  unfold bmv
  rw [gs_now_now]
theorem bmv_past (S : S_Model) (f o : Nat → Int32) : g_Model_past (bmv S f o) = g_Model_past S := by
  unfold bmv
  rw [gs_past_now, gs_past_order]
theorem bmv_kept (S : S_Model) (f o : Nat → Int32) : g_Model_kept (bmv S f o) = g_Model_kept S := by
  unfold bmv
  rw [gs_kept_now, gs_kept_order]
theorem bmv_text (S : S_Model) (f o : Nat → Int32) : g_Model_text (bmv S f o) = g_Model_text S := by
  unfold bmv
  rw [gs_text_now, gs_text_order]
theorem bmv_typed (S : S_Model) (f o : Nat → Int32) : g_Model_typed (bmv S f o) = g_Model_typed S := by
  unfold bmv
  rw [gs_typed_now, gs_typed_order]
theorem bmv_thrown (S : S_Model) (f o : Nat → Int32) : g_Model_thrown (bmv S f o) = g_Model_thrown S := by
  unfold bmv
  rw [gs_thrown_now, gs_thrown_order]
theorem bmv_at (S : S_Model) (f o : Nat → Int32) : g_Model_at (bmv S f o) = g_Model_at S := by
  unfold bmv
  rw [gs_at_now, gs_at_order]
theorem bmv_isFault (S : S_Model) (f o : Nat → Int32) : g_Model_isFault (bmv S f o) = g_Model_isFault S := by
  unfold bmv
  rw [gs_isFault_now, gs_isFault_order]
theorem bmv_kinds (S : S_Model) (f o : Nat → Int32) : g_Model_kinds (bmv S f o) = g_Model_kinds S := by
  unfold bmv
  rw [gs_kinds_now, gs_kinds_order]
theorem bmv_above (S : S_Model) (f o : Nat → Int32) : g_Model_above (bmv S f o) = g_Model_above S := by
  unfold bmv
  rw [gs_above_now, gs_above_order]
theorem bmv_letters (S : S_Model) (f o : Nat → Int32) : g_Model_letters (bmv S f o) = g_Model_letters S := by
  unfold bmv
  rw [gs_letters_now, gs_letters_order]
theorem bmv_begins (S : S_Model) (f o : Nat → Int32) : g_Model_begins (bmv S f o) = g_Model_begins S := by
  unfold bmv
  rw [gs_begins_now, gs_begins_order]
theorem bmv_ends (S : S_Model) (f o : Nat → Int32) : g_Model_ends (bmv S f o) = g_Model_ends S := by
  unfold bmv
  rw [gs_ends_now, gs_ends_order]
theorem bmv_used (S : S_Model) (f o : Nat → Int32) : g_Model_used (bmv S f o) = g_Model_used S := by
  unfold bmv
  rw [gs_used_now, gs_used_order]
theorem bmv_valued (S : S_Model) (f o : Nat → Int32) : g_Model_valued (bmv S f o) = g_Model_valued S := by
  unfold bmv
  rw [gs_valued_now, gs_valued_order]
theorem bmv_open (S : S_Model) (f o : Nat → Int32) : g_Model_open (bmv S f o) = g_Model_open S := by
  unfold bmv
  rw [gs_open_now, gs_open_order]
theorem bmv_deep (S : S_Model) (f o : Nat → Int32) : g_Model_deep (bmv S f o) = g_Model_deep S := by
  unfold bmv
  rw [gs_deep_now, gs_deep_order]
theorem bmv_deepest (S : S_Model) (f o : Nat → Int32) : g_Model_deepest (bmv S f o) = g_Model_deepest S := by
  unfold bmv
  rw [gs_deepest_now, gs_deepest_order]
theorem bmv_tree (S : S_Model) (f o : Nat → Int32) : g_Model_tree (bmv S f o) = g_Model_tree S := by
  unfold bmv
  rw [gs_tree_now, gs_tree_order]
theorem bmv_top (S : S_Model) (f o : Nat → Int32) : g_Model_top (bmv S f o) = g_Model_top S := by
  unfold bmv
  rw [gs_top_now, gs_top_order]
theorem bmv_place (S : S_Model) (f o : Nat → Int32) : g_Model_place (bmv S f o) = g_Model_place S := by
  unfold bmv
  rw [gs_place_now, gs_place_order]
theorem bmv_order (S : S_Model) (f o : Nat → Int32) : g_Model_order (bmv S f o) = o := by
  unfold bmv
  rw [gs_order_now, gs_order_order]
theorem bmv_becameAny (S : S_Model) (f o : Nat → Int32) : g_Model_becameAny (bmv S f o) = g_Model_becameAny S := by
  unfold bmv
  rw [gs_becameAny_now, gs_becameAny_order]
theorem bmv_misfit (S : S_Model) (f o : Nat → Int32) : g_Model_misfit (bmv S f o) = g_Model_misfit S := by
  unfold bmv
  rw [gs_misfit_now, gs_misfit_order]
theorem bmv_misfitAt (S : S_Model) (f o : Nat → Int32) : g_Model_misfitAt (bmv S f o) = g_Model_misfitAt S := by
  unfold bmv
  rw [gs_misfitAt_now, gs_misfitAt_order]
theorem bmv_misfitNode (S : S_Model) (f o : Nat → Int32) : g_Model_misfitNode (bmv S f o) = g_Model_misfitNode S := by
  unfold bmv
  rw [gs_misfitNode_now, gs_misfitNode_order]
theorem bmv_eta (S : S_Model) : S = bmv S (g_Model_now S) (g_Model_order S) :=
  s_ext (by rw [bmv_now]) (by rw [bmv_past]) (by rw [bmv_kept]) (by rw [bmv_text]) (by rw [bmv_typed]) (by rw [bmv_thrown]) (by rw [bmv_at]) (by rw [bmv_isFault]) (by rw [bmv_kinds]) (by rw [bmv_above]) (by rw [bmv_letters]) (by rw [bmv_begins]) (by rw [bmv_ends]) (by rw [bmv_used]) (by rw [bmv_valued]) (by rw [bmv_open]) (by rw [bmv_deep]) (by rw [bmv_deepest]) (by rw [bmv_tree]) (by rw [bmv_top]) (by rw [bmv_place]) (by rw [bmv_order]) (by rw [bmv_becameAny]) (by rw [bmv_misfit]) (by rw [bmv_misfitAt]) (by rw [bmv_misfitNode])
theorem bmv_o (S : S_Model) (f o : Nat → Int32) (o2 : Nat → Int32) : s_Model_order (bmv S f o) o2 = bmv S f o2 :=
  s_ext (by rw [gs_now_order, bmv_now, bmv_now]) (by rw [gs_past_order, bmv_past, bmv_past]) (by rw [gs_kept_order, bmv_kept, bmv_kept]) (by rw [gs_text_order, bmv_text, bmv_text]) (by rw [gs_typed_order, bmv_typed, bmv_typed]) (by rw [gs_thrown_order, bmv_thrown, bmv_thrown]) (by rw [gs_at_order, bmv_at, bmv_at]) (by rw [gs_isFault_order, bmv_isFault, bmv_isFault]) (by rw [gs_kinds_order, bmv_kinds, bmv_kinds]) (by rw [gs_above_order, bmv_above, bmv_above]) (by rw [gs_letters_order, bmv_letters, bmv_letters]) (by rw [gs_begins_order, bmv_begins, bmv_begins]) (by rw [gs_ends_order, bmv_ends, bmv_ends]) (by rw [gs_used_order, bmv_used, bmv_used]) (by rw [gs_valued_order, bmv_valued, bmv_valued]) (by rw [gs_open_order, bmv_open, bmv_open]) (by rw [gs_deep_order, bmv_deep, bmv_deep]) (by rw [gs_deepest_order, bmv_deepest, bmv_deepest]) (by rw [gs_tree_order, bmv_tree, bmv_tree]) (by rw [gs_top_order, bmv_top, bmv_top]) (by rw [gs_place_order, bmv_place, bmv_place]) (by rw [gs_order_order, bmv_order]) (by rw [gs_becameAny_order, bmv_becameAny, bmv_becameAny]) (by rw [gs_misfit_order, bmv_misfit, bmv_misfit]) (by rw [gs_misfitAt_order, bmv_misfitAt, bmv_misfitAt]) (by rw [gs_misfitNode_order, bmv_misfitNode, bmv_misfitNode])
theorem bmv_n (S : S_Model) (f o : Nat → Int32) (f2 : Nat → Int32) : s_Model_now (bmv S f o) f2 = bmv S f2 o :=
  s_ext (by rw [gs_now_now, bmv_now]) (by rw [gs_past_now, bmv_past, bmv_past]) (by rw [gs_kept_now, bmv_kept, bmv_kept]) (by rw [gs_text_now, bmv_text, bmv_text]) (by rw [gs_typed_now, bmv_typed, bmv_typed]) (by rw [gs_thrown_now, bmv_thrown, bmv_thrown]) (by rw [gs_at_now, bmv_at, bmv_at]) (by rw [gs_isFault_now, bmv_isFault, bmv_isFault]) (by rw [gs_kinds_now, bmv_kinds, bmv_kinds]) (by rw [gs_above_now, bmv_above, bmv_above]) (by rw [gs_letters_now, bmv_letters, bmv_letters]) (by rw [gs_begins_now, bmv_begins, bmv_begins]) (by rw [gs_ends_now, bmv_ends, bmv_ends]) (by rw [gs_used_now, bmv_used, bmv_used]) (by rw [gs_valued_now, bmv_valued, bmv_valued]) (by rw [gs_open_now, bmv_open, bmv_open]) (by rw [gs_deep_now, bmv_deep, bmv_deep]) (by rw [gs_deepest_now, bmv_deepest, bmv_deepest]) (by rw [gs_tree_now, bmv_tree, bmv_tree]) (by rw [gs_top_now, bmv_top, bmv_top]) (by rw [gs_place_now, bmv_place, bmv_place]) (by rw [gs_order_now, bmv_order, bmv_order]) (by rw [gs_becameAny_now, bmv_becameAny, bmv_becameAny]) (by rw [gs_misfit_now, bmv_misfit, bmv_misfit]) (by rw [gs_misfitAt_now, bmv_misfitAt, bmv_misfitAt]) (by rw [gs_misfitNode_now, bmv_misfitNode, bmv_misfitNode])
theorem bmv_os (S : S_Model) (o : Nat → Int32) : s_Model_order S o = bmv S (g_Model_now S) o :=
  s_ext (by rw [gs_now_order, bmv_now]) (by rw [gs_past_order, bmv_past]) (by rw [gs_kept_order, bmv_kept]) (by rw [gs_text_order, bmv_text]) (by rw [gs_typed_order, bmv_typed]) (by rw [gs_thrown_order, bmv_thrown]) (by rw [gs_at_order, bmv_at]) (by rw [gs_isFault_order, bmv_isFault]) (by rw [gs_kinds_order, bmv_kinds]) (by rw [gs_above_order, bmv_above]) (by rw [gs_letters_order, bmv_letters]) (by rw [gs_begins_order, bmv_begins]) (by rw [gs_ends_order, bmv_ends]) (by rw [gs_used_order, bmv_used]) (by rw [gs_valued_order, bmv_valued]) (by rw [gs_open_order, bmv_open]) (by rw [gs_deep_order, bmv_deep]) (by rw [gs_deepest_order, bmv_deepest]) (by rw [gs_tree_order, bmv_tree]) (by rw [gs_top_order, bmv_top]) (by rw [gs_place_order, bmv_place]) (by rw [gs_order_order, bmv_order]) (by rw [gs_becameAny_order, bmv_becameAny]) (by rw [gs_misfit_order, bmv_misfit]) (by rw [gs_misfitAt_order, bmv_misfitAt]) (by rw [gs_misfitNode_order, bmv_misfitNode])
theorem bmv_ns (S : S_Model) (f : Nat → Int32) : s_Model_now S f = bmv S f (g_Model_order S) :=
  s_ext (by rw [gs_now_now, bmv_now]) (by rw [gs_past_now, bmv_past]) (by rw [gs_kept_now, bmv_kept]) (by rw [gs_text_now, bmv_text]) (by rw [gs_typed_now, bmv_typed]) (by rw [gs_thrown_now, bmv_thrown]) (by rw [gs_at_now, bmv_at]) (by rw [gs_isFault_now, bmv_isFault]) (by rw [gs_kinds_now, bmv_kinds]) (by rw [gs_above_now, bmv_above]) (by rw [gs_letters_now, bmv_letters]) (by rw [gs_begins_now, bmv_begins]) (by rw [gs_ends_now, bmv_ends]) (by rw [gs_used_now, bmv_used]) (by rw [gs_valued_now, bmv_valued]) (by rw [gs_open_now, bmv_open]) (by rw [gs_deep_now, bmv_deep]) (by rw [gs_deepest_now, bmv_deepest]) (by rw [gs_tree_now, bmv_tree]) (by rw [gs_top_now, bmv_top]) (by rw [gs_place_now, bmv_place]) (by rw [gs_order_now, bmv_order]) (by rw [gs_becameAny_now, bmv_becameAny]) (by rw [gs_misfit_now, bmv_misfit]) (by rw [gs_misfitAt_now, bmv_misfitAt]) (by rw [gs_misfitNode_now, bmv_misfitNode])
