/-! ===== pure: the fields of the reference's states ===== -/
theorem gs_now_now (S : S_Model) (v : Nat → Int32) : g_Model_now (s_Model_now S v) = v := rfl
theorem gs_past_now (S : S_Model) (v : Nat → Int32) : g_Model_past (s_Model_now S v) = g_Model_past S := rfl
theorem gs_kept_now (S : S_Model) (v : Nat → Int32) : g_Model_kept (s_Model_now S v) = g_Model_kept S := rfl
theorem gs_text_now (S : S_Model) (v : Nat → Int32) : g_Model_text (s_Model_now S v) = g_Model_text S := rfl
theorem gs_typed_now (S : S_Model) (v : Nat → Int32) : g_Model_typed (s_Model_now S v) = g_Model_typed S := rfl
theorem gs_thrown_now (S : S_Model) (v : Nat → Int32) : g_Model_thrown (s_Model_now S v) = g_Model_thrown S := rfl
theorem gs_at_now (S : S_Model) (v : Nat → Int32) : g_Model_at (s_Model_now S v) = g_Model_at S := rfl
theorem gs_isFault_now (S : S_Model) (v : Nat → Int32) : g_Model_isFault (s_Model_now S v) = g_Model_isFault S := rfl
theorem gs_kinds_now (S : S_Model) (v : Nat → Int32) : g_Model_kinds (s_Model_now S v) = g_Model_kinds S := rfl
theorem gs_above_now (S : S_Model) (v : Nat → Int32) : g_Model_above (s_Model_now S v) = g_Model_above S := rfl
theorem gs_letters_now (S : S_Model) (v : Nat → Int32) : g_Model_letters (s_Model_now S v) = g_Model_letters S := rfl
theorem gs_begins_now (S : S_Model) (v : Nat → Int32) : g_Model_begins (s_Model_now S v) = g_Model_begins S := rfl
theorem gs_ends_now (S : S_Model) (v : Nat → Int32) : g_Model_ends (s_Model_now S v) = g_Model_ends S := rfl
theorem gs_used_now (S : S_Model) (v : Nat → Int32) : g_Model_used (s_Model_now S v) = g_Model_used S := rfl
theorem gs_valued_now (S : S_Model) (v : Nat → Int32) : g_Model_valued (s_Model_now S v) = g_Model_valued S := rfl
theorem gs_open_now (S : S_Model) (v : Nat → Int32) : g_Model_open (s_Model_now S v) = g_Model_open S := rfl
theorem gs_deep_now (S : S_Model) (v : Nat → Int32) : g_Model_deep (s_Model_now S v) = g_Model_deep S := rfl
theorem gs_deepest_now (S : S_Model) (v : Nat → Int32) : g_Model_deepest (s_Model_now S v) = g_Model_deepest S := rfl
theorem gs_tree_now (S : S_Model) (v : Nat → Int32) : g_Model_tree (s_Model_now S v) = g_Model_tree S := rfl
theorem gs_top_now (S : S_Model) (v : Nat → Int32) : g_Model_top (s_Model_now S v) = g_Model_top S := rfl
theorem gs_place_now (S : S_Model) (v : Nat → Int32) : g_Model_place (s_Model_now S v) = g_Model_place S := rfl
theorem gs_order_now (S : S_Model) (v : Nat → Int32) : g_Model_order (s_Model_now S v) = g_Model_order S := rfl
theorem gs_becameAny_now (S : S_Model) (v : Nat → Int32) : g_Model_becameAny (s_Model_now S v) = g_Model_becameAny S := rfl
theorem gs_misfit_now (S : S_Model) (v : Nat → Int32) : g_Model_misfit (s_Model_now S v) = g_Model_misfit S := rfl
theorem gs_misfitAt_now (S : S_Model) (v : Nat → Int32) : g_Model_misfitAt (s_Model_now S v) = g_Model_misfitAt S := rfl
theorem gs_misfitNode_now (S : S_Model) (v : Nat → Int32) : g_Model_misfitNode (s_Model_now S v) = g_Model_misfitNode S := rfl
theorem gs_now_past (S : S_Model) (v : Nat → Int32) : g_Model_now (s_Model_past S v) = g_Model_now S := rfl
theorem gs_past_past (S : S_Model) (v : Nat → Int32) : g_Model_past (s_Model_past S v) = v := rfl
theorem gs_kept_past (S : S_Model) (v : Nat → Int32) : g_Model_kept (s_Model_past S v) = g_Model_kept S := rfl
theorem gs_text_past (S : S_Model) (v : Nat → Int32) : g_Model_text (s_Model_past S v) = g_Model_text S := rfl
theorem gs_typed_past (S : S_Model) (v : Nat → Int32) : g_Model_typed (s_Model_past S v) = g_Model_typed S := rfl
theorem gs_thrown_past (S : S_Model) (v : Nat → Int32) : g_Model_thrown (s_Model_past S v) = g_Model_thrown S := rfl
theorem gs_at_past (S : S_Model) (v : Nat → Int32) : g_Model_at (s_Model_past S v) = g_Model_at S := rfl
theorem gs_isFault_past (S : S_Model) (v : Nat → Int32) : g_Model_isFault (s_Model_past S v) = g_Model_isFault S := rfl
theorem gs_kinds_past (S : S_Model) (v : Nat → Int32) : g_Model_kinds (s_Model_past S v) = g_Model_kinds S := rfl
theorem gs_above_past (S : S_Model) (v : Nat → Int32) : g_Model_above (s_Model_past S v) = g_Model_above S := rfl
theorem gs_letters_past (S : S_Model) (v : Nat → Int32) : g_Model_letters (s_Model_past S v) = g_Model_letters S := rfl
theorem gs_begins_past (S : S_Model) (v : Nat → Int32) : g_Model_begins (s_Model_past S v) = g_Model_begins S := rfl
theorem gs_ends_past (S : S_Model) (v : Nat → Int32) : g_Model_ends (s_Model_past S v) = g_Model_ends S := rfl
theorem gs_used_past (S : S_Model) (v : Nat → Int32) : g_Model_used (s_Model_past S v) = g_Model_used S := rfl
theorem gs_valued_past (S : S_Model) (v : Nat → Int32) : g_Model_valued (s_Model_past S v) = g_Model_valued S := rfl
theorem gs_open_past (S : S_Model) (v : Nat → Int32) : g_Model_open (s_Model_past S v) = g_Model_open S := rfl
theorem gs_deep_past (S : S_Model) (v : Nat → Int32) : g_Model_deep (s_Model_past S v) = g_Model_deep S := rfl
theorem gs_deepest_past (S : S_Model) (v : Nat → Int32) : g_Model_deepest (s_Model_past S v) = g_Model_deepest S := rfl
theorem gs_tree_past (S : S_Model) (v : Nat → Int32) : g_Model_tree (s_Model_past S v) = g_Model_tree S := rfl
theorem gs_top_past (S : S_Model) (v : Nat → Int32) : g_Model_top (s_Model_past S v) = g_Model_top S := rfl
theorem gs_place_past (S : S_Model) (v : Nat → Int32) : g_Model_place (s_Model_past S v) = g_Model_place S := rfl
theorem gs_order_past (S : S_Model) (v : Nat → Int32) : g_Model_order (s_Model_past S v) = g_Model_order S := rfl
theorem gs_becameAny_past (S : S_Model) (v : Nat → Int32) : g_Model_becameAny (s_Model_past S v) = g_Model_becameAny S := rfl
theorem gs_misfit_past (S : S_Model) (v : Nat → Int32) : g_Model_misfit (s_Model_past S v) = g_Model_misfit S := rfl
theorem gs_misfitAt_past (S : S_Model) (v : Nat → Int32) : g_Model_misfitAt (s_Model_past S v) = g_Model_misfitAt S := rfl
theorem gs_misfitNode_past (S : S_Model) (v : Nat → Int32) : g_Model_misfitNode (s_Model_past S v) = g_Model_misfitNode S := rfl
theorem gs_now_kept (S : S_Model) (v : Int32) : g_Model_now (s_Model_kept S v) = g_Model_now S := rfl
theorem gs_past_kept (S : S_Model) (v : Int32) : g_Model_past (s_Model_kept S v) = g_Model_past S := rfl
theorem gs_kept_kept (S : S_Model) (v : Int32) : g_Model_kept (s_Model_kept S v) = v := rfl
theorem gs_text_kept (S : S_Model) (v : Int32) : g_Model_text (s_Model_kept S v) = g_Model_text S := rfl
theorem gs_typed_kept (S : S_Model) (v : Int32) : g_Model_typed (s_Model_kept S v) = g_Model_typed S := rfl
theorem gs_thrown_kept (S : S_Model) (v : Int32) : g_Model_thrown (s_Model_kept S v) = g_Model_thrown S := rfl
theorem gs_at_kept (S : S_Model) (v : Int32) : g_Model_at (s_Model_kept S v) = g_Model_at S := rfl
theorem gs_isFault_kept (S : S_Model) (v : Int32) : g_Model_isFault (s_Model_kept S v) = g_Model_isFault S := rfl
theorem gs_kinds_kept (S : S_Model) (v : Int32) : g_Model_kinds (s_Model_kept S v) = g_Model_kinds S := rfl
theorem gs_above_kept (S : S_Model) (v : Int32) : g_Model_above (s_Model_kept S v) = g_Model_above S := rfl
theorem gs_letters_kept (S : S_Model) (v : Int32) : g_Model_letters (s_Model_kept S v) = g_Model_letters S := rfl
theorem gs_begins_kept (S : S_Model) (v : Int32) : g_Model_begins (s_Model_kept S v) = g_Model_begins S := rfl
theorem gs_ends_kept (S : S_Model) (v : Int32) : g_Model_ends (s_Model_kept S v) = g_Model_ends S := rfl
theorem gs_used_kept (S : S_Model) (v : Int32) : g_Model_used (s_Model_kept S v) = g_Model_used S := rfl
theorem gs_valued_kept (S : S_Model) (v : Int32) : g_Model_valued (s_Model_kept S v) = g_Model_valued S := rfl
theorem gs_open_kept (S : S_Model) (v : Int32) : g_Model_open (s_Model_kept S v) = g_Model_open S := rfl
theorem gs_deep_kept (S : S_Model) (v : Int32) : g_Model_deep (s_Model_kept S v) = g_Model_deep S := rfl
theorem gs_deepest_kept (S : S_Model) (v : Int32) : g_Model_deepest (s_Model_kept S v) = g_Model_deepest S := rfl
theorem gs_tree_kept (S : S_Model) (v : Int32) : g_Model_tree (s_Model_kept S v) = g_Model_tree S := rfl
theorem gs_top_kept (S : S_Model) (v : Int32) : g_Model_top (s_Model_kept S v) = g_Model_top S := rfl
theorem gs_place_kept (S : S_Model) (v : Int32) : g_Model_place (s_Model_kept S v) = g_Model_place S := rfl
theorem gs_order_kept (S : S_Model) (v : Int32) : g_Model_order (s_Model_kept S v) = g_Model_order S := rfl
theorem gs_becameAny_kept (S : S_Model) (v : Int32) : g_Model_becameAny (s_Model_kept S v) = g_Model_becameAny S := rfl
theorem gs_misfit_kept (S : S_Model) (v : Int32) : g_Model_misfit (s_Model_kept S v) = g_Model_misfit S := rfl
theorem gs_misfitAt_kept (S : S_Model) (v : Int32) : g_Model_misfitAt (s_Model_kept S v) = g_Model_misfitAt S := rfl
theorem gs_misfitNode_kept (S : S_Model) (v : Int32) : g_Model_misfitNode (s_Model_kept S v) = g_Model_misfitNode S := rfl
theorem gs_now_text (S : S_Model) (v : Nat → Int32) : g_Model_now (s_Model_text S v) = g_Model_now S := rfl
theorem gs_past_text (S : S_Model) (v : Nat → Int32) : g_Model_past (s_Model_text S v) = g_Model_past S := rfl
theorem gs_kept_text (S : S_Model) (v : Nat → Int32) : g_Model_kept (s_Model_text S v) = g_Model_kept S := rfl
theorem gs_text_text (S : S_Model) (v : Nat → Int32) : g_Model_text (s_Model_text S v) = v := rfl
theorem gs_typed_text (S : S_Model) (v : Nat → Int32) : g_Model_typed (s_Model_text S v) = g_Model_typed S := rfl
theorem gs_thrown_text (S : S_Model) (v : Nat → Int32) : g_Model_thrown (s_Model_text S v) = g_Model_thrown S := rfl
theorem gs_at_text (S : S_Model) (v : Nat → Int32) : g_Model_at (s_Model_text S v) = g_Model_at S := rfl
theorem gs_isFault_text (S : S_Model) (v : Nat → Int32) : g_Model_isFault (s_Model_text S v) = g_Model_isFault S := rfl
theorem gs_kinds_text (S : S_Model) (v : Nat → Int32) : g_Model_kinds (s_Model_text S v) = g_Model_kinds S := rfl
theorem gs_above_text (S : S_Model) (v : Nat → Int32) : g_Model_above (s_Model_text S v) = g_Model_above S := rfl
theorem gs_letters_text (S : S_Model) (v : Nat → Int32) : g_Model_letters (s_Model_text S v) = g_Model_letters S := rfl
theorem gs_begins_text (S : S_Model) (v : Nat → Int32) : g_Model_begins (s_Model_text S v) = g_Model_begins S := rfl
theorem gs_ends_text (S : S_Model) (v : Nat → Int32) : g_Model_ends (s_Model_text S v) = g_Model_ends S := rfl
theorem gs_used_text (S : S_Model) (v : Nat → Int32) : g_Model_used (s_Model_text S v) = g_Model_used S := rfl
theorem gs_valued_text (S : S_Model) (v : Nat → Int32) : g_Model_valued (s_Model_text S v) = g_Model_valued S := rfl
theorem gs_open_text (S : S_Model) (v : Nat → Int32) : g_Model_open (s_Model_text S v) = g_Model_open S := rfl
theorem gs_deep_text (S : S_Model) (v : Nat → Int32) : g_Model_deep (s_Model_text S v) = g_Model_deep S := rfl
theorem gs_deepest_text (S : S_Model) (v : Nat → Int32) : g_Model_deepest (s_Model_text S v) = g_Model_deepest S := rfl
theorem gs_tree_text (S : S_Model) (v : Nat → Int32) : g_Model_tree (s_Model_text S v) = g_Model_tree S := rfl
theorem gs_top_text (S : S_Model) (v : Nat → Int32) : g_Model_top (s_Model_text S v) = g_Model_top S := rfl
theorem gs_place_text (S : S_Model) (v : Nat → Int32) : g_Model_place (s_Model_text S v) = g_Model_place S := rfl
theorem gs_order_text (S : S_Model) (v : Nat → Int32) : g_Model_order (s_Model_text S v) = g_Model_order S := rfl
theorem gs_becameAny_text (S : S_Model) (v : Nat → Int32) : g_Model_becameAny (s_Model_text S v) = g_Model_becameAny S := rfl
theorem gs_misfit_text (S : S_Model) (v : Nat → Int32) : g_Model_misfit (s_Model_text S v) = g_Model_misfit S := rfl
theorem gs_misfitAt_text (S : S_Model) (v : Nat → Int32) : g_Model_misfitAt (s_Model_text S v) = g_Model_misfitAt S := rfl
theorem gs_misfitNode_text (S : S_Model) (v : Nat → Int32) : g_Model_misfitNode (s_Model_text S v) = g_Model_misfitNode S := rfl
theorem gs_now_typed (S : S_Model) (v : Int32) : g_Model_now (s_Model_typed S v) = g_Model_now S := rfl
theorem gs_past_typed (S : S_Model) (v : Int32) : g_Model_past (s_Model_typed S v) = g_Model_past S := rfl
theorem gs_kept_typed (S : S_Model) (v : Int32) : g_Model_kept (s_Model_typed S v) = g_Model_kept S := rfl
theorem gs_text_typed (S : S_Model) (v : Int32) : g_Model_text (s_Model_typed S v) = g_Model_text S := rfl
theorem gs_typed_typed (S : S_Model) (v : Int32) : g_Model_typed (s_Model_typed S v) = v := rfl
theorem gs_thrown_typed (S : S_Model) (v : Int32) : g_Model_thrown (s_Model_typed S v) = g_Model_thrown S := rfl
theorem gs_at_typed (S : S_Model) (v : Int32) : g_Model_at (s_Model_typed S v) = g_Model_at S := rfl
theorem gs_isFault_typed (S : S_Model) (v : Int32) : g_Model_isFault (s_Model_typed S v) = g_Model_isFault S := rfl
theorem gs_kinds_typed (S : S_Model) (v : Int32) : g_Model_kinds (s_Model_typed S v) = g_Model_kinds S := rfl
theorem gs_above_typed (S : S_Model) (v : Int32) : g_Model_above (s_Model_typed S v) = g_Model_above S := rfl
theorem gs_letters_typed (S : S_Model) (v : Int32) : g_Model_letters (s_Model_typed S v) = g_Model_letters S := rfl
theorem gs_begins_typed (S : S_Model) (v : Int32) : g_Model_begins (s_Model_typed S v) = g_Model_begins S := rfl
theorem gs_ends_typed (S : S_Model) (v : Int32) : g_Model_ends (s_Model_typed S v) = g_Model_ends S := rfl
theorem gs_used_typed (S : S_Model) (v : Int32) : g_Model_used (s_Model_typed S v) = g_Model_used S := rfl
theorem gs_valued_typed (S : S_Model) (v : Int32) : g_Model_valued (s_Model_typed S v) = g_Model_valued S := rfl
theorem gs_open_typed (S : S_Model) (v : Int32) : g_Model_open (s_Model_typed S v) = g_Model_open S := rfl
theorem gs_deep_typed (S : S_Model) (v : Int32) : g_Model_deep (s_Model_typed S v) = g_Model_deep S := rfl
theorem gs_deepest_typed (S : S_Model) (v : Int32) : g_Model_deepest (s_Model_typed S v) = g_Model_deepest S := rfl
theorem gs_tree_typed (S : S_Model) (v : Int32) : g_Model_tree (s_Model_typed S v) = g_Model_tree S := rfl
theorem gs_top_typed (S : S_Model) (v : Int32) : g_Model_top (s_Model_typed S v) = g_Model_top S := rfl
theorem gs_place_typed (S : S_Model) (v : Int32) : g_Model_place (s_Model_typed S v) = g_Model_place S := rfl
theorem gs_order_typed (S : S_Model) (v : Int32) : g_Model_order (s_Model_typed S v) = g_Model_order S := rfl
theorem gs_becameAny_typed (S : S_Model) (v : Int32) : g_Model_becameAny (s_Model_typed S v) = g_Model_becameAny S := rfl
theorem gs_misfit_typed (S : S_Model) (v : Int32) : g_Model_misfit (s_Model_typed S v) = g_Model_misfit S := rfl
theorem gs_misfitAt_typed (S : S_Model) (v : Int32) : g_Model_misfitAt (s_Model_typed S v) = g_Model_misfitAt S := rfl
theorem gs_misfitNode_typed (S : S_Model) (v : Int32) : g_Model_misfitNode (s_Model_typed S v) = g_Model_misfitNode S := rfl
theorem gs_now_thrown (S : S_Model) (v : Int32) : g_Model_now (s_Model_thrown S v) = g_Model_now S := rfl
theorem gs_past_thrown (S : S_Model) (v : Int32) : g_Model_past (s_Model_thrown S v) = g_Model_past S := rfl
theorem gs_kept_thrown (S : S_Model) (v : Int32) : g_Model_kept (s_Model_thrown S v) = g_Model_kept S := rfl
theorem gs_text_thrown (S : S_Model) (v : Int32) : g_Model_text (s_Model_thrown S v) = g_Model_text S := rfl
theorem gs_typed_thrown (S : S_Model) (v : Int32) : g_Model_typed (s_Model_thrown S v) = g_Model_typed S := rfl
theorem gs_thrown_thrown (S : S_Model) (v : Int32) : g_Model_thrown (s_Model_thrown S v) = v := rfl
theorem gs_at_thrown (S : S_Model) (v : Int32) : g_Model_at (s_Model_thrown S v) = g_Model_at S := rfl
theorem gs_isFault_thrown (S : S_Model) (v : Int32) : g_Model_isFault (s_Model_thrown S v) = g_Model_isFault S := rfl
theorem gs_kinds_thrown (S : S_Model) (v : Int32) : g_Model_kinds (s_Model_thrown S v) = g_Model_kinds S := rfl
theorem gs_above_thrown (S : S_Model) (v : Int32) : g_Model_above (s_Model_thrown S v) = g_Model_above S := rfl
theorem gs_letters_thrown (S : S_Model) (v : Int32) : g_Model_letters (s_Model_thrown S v) = g_Model_letters S := rfl
theorem gs_begins_thrown (S : S_Model) (v : Int32) : g_Model_begins (s_Model_thrown S v) = g_Model_begins S := rfl
theorem gs_ends_thrown (S : S_Model) (v : Int32) : g_Model_ends (s_Model_thrown S v) = g_Model_ends S := rfl
theorem gs_used_thrown (S : S_Model) (v : Int32) : g_Model_used (s_Model_thrown S v) = g_Model_used S := rfl
theorem gs_valued_thrown (S : S_Model) (v : Int32) : g_Model_valued (s_Model_thrown S v) = g_Model_valued S := rfl
theorem gs_open_thrown (S : S_Model) (v : Int32) : g_Model_open (s_Model_thrown S v) = g_Model_open S := rfl
theorem gs_deep_thrown (S : S_Model) (v : Int32) : g_Model_deep (s_Model_thrown S v) = g_Model_deep S := rfl
theorem gs_deepest_thrown (S : S_Model) (v : Int32) : g_Model_deepest (s_Model_thrown S v) = g_Model_deepest S := rfl
theorem gs_tree_thrown (S : S_Model) (v : Int32) : g_Model_tree (s_Model_thrown S v) = g_Model_tree S := rfl
theorem gs_top_thrown (S : S_Model) (v : Int32) : g_Model_top (s_Model_thrown S v) = g_Model_top S := rfl
theorem gs_place_thrown (S : S_Model) (v : Int32) : g_Model_place (s_Model_thrown S v) = g_Model_place S := rfl
theorem gs_order_thrown (S : S_Model) (v : Int32) : g_Model_order (s_Model_thrown S v) = g_Model_order S := rfl
theorem gs_becameAny_thrown (S : S_Model) (v : Int32) : g_Model_becameAny (s_Model_thrown S v) = g_Model_becameAny S := rfl
theorem gs_misfit_thrown (S : S_Model) (v : Int32) : g_Model_misfit (s_Model_thrown S v) = g_Model_misfit S := rfl
theorem gs_misfitAt_thrown (S : S_Model) (v : Int32) : g_Model_misfitAt (s_Model_thrown S v) = g_Model_misfitAt S := rfl
theorem gs_misfitNode_thrown (S : S_Model) (v : Int32) : g_Model_misfitNode (s_Model_thrown S v) = g_Model_misfitNode S := rfl
theorem gs_now_at (S : S_Model) (v : Int32) : g_Model_now (s_Model_at S v) = g_Model_now S := rfl
theorem gs_past_at (S : S_Model) (v : Int32) : g_Model_past (s_Model_at S v) = g_Model_past S := rfl
theorem gs_kept_at (S : S_Model) (v : Int32) : g_Model_kept (s_Model_at S v) = g_Model_kept S := rfl
theorem gs_text_at (S : S_Model) (v : Int32) : g_Model_text (s_Model_at S v) = g_Model_text S := rfl
theorem gs_typed_at (S : S_Model) (v : Int32) : g_Model_typed (s_Model_at S v) = g_Model_typed S := rfl
theorem gs_thrown_at (S : S_Model) (v : Int32) : g_Model_thrown (s_Model_at S v) = g_Model_thrown S := rfl
theorem gs_at_at (S : S_Model) (v : Int32) : g_Model_at (s_Model_at S v) = v := rfl
theorem gs_isFault_at (S : S_Model) (v : Int32) : g_Model_isFault (s_Model_at S v) = g_Model_isFault S := rfl
theorem gs_kinds_at (S : S_Model) (v : Int32) : g_Model_kinds (s_Model_at S v) = g_Model_kinds S := rfl
theorem gs_above_at (S : S_Model) (v : Int32) : g_Model_above (s_Model_at S v) = g_Model_above S := rfl
theorem gs_letters_at (S : S_Model) (v : Int32) : g_Model_letters (s_Model_at S v) = g_Model_letters S := rfl
theorem gs_begins_at (S : S_Model) (v : Int32) : g_Model_begins (s_Model_at S v) = g_Model_begins S := rfl
theorem gs_ends_at (S : S_Model) (v : Int32) : g_Model_ends (s_Model_at S v) = g_Model_ends S := rfl
theorem gs_used_at (S : S_Model) (v : Int32) : g_Model_used (s_Model_at S v) = g_Model_used S := rfl
theorem gs_valued_at (S : S_Model) (v : Int32) : g_Model_valued (s_Model_at S v) = g_Model_valued S := rfl
theorem gs_open_at (S : S_Model) (v : Int32) : g_Model_open (s_Model_at S v) = g_Model_open S := rfl
theorem gs_deep_at (S : S_Model) (v : Int32) : g_Model_deep (s_Model_at S v) = g_Model_deep S := rfl
theorem gs_deepest_at (S : S_Model) (v : Int32) : g_Model_deepest (s_Model_at S v) = g_Model_deepest S := rfl
theorem gs_tree_at (S : S_Model) (v : Int32) : g_Model_tree (s_Model_at S v) = g_Model_tree S := rfl
theorem gs_top_at (S : S_Model) (v : Int32) : g_Model_top (s_Model_at S v) = g_Model_top S := rfl
theorem gs_place_at (S : S_Model) (v : Int32) : g_Model_place (s_Model_at S v) = g_Model_place S := rfl
theorem gs_order_at (S : S_Model) (v : Int32) : g_Model_order (s_Model_at S v) = g_Model_order S := rfl
theorem gs_becameAny_at (S : S_Model) (v : Int32) : g_Model_becameAny (s_Model_at S v) = g_Model_becameAny S := rfl
theorem gs_misfit_at (S : S_Model) (v : Int32) : g_Model_misfit (s_Model_at S v) = g_Model_misfit S := rfl
theorem gs_misfitAt_at (S : S_Model) (v : Int32) : g_Model_misfitAt (s_Model_at S v) = g_Model_misfitAt S := rfl
theorem gs_misfitNode_at (S : S_Model) (v : Int32) : g_Model_misfitNode (s_Model_at S v) = g_Model_misfitNode S := rfl
theorem gs_now_isFault (S : S_Model) (v : Int32) : g_Model_now (s_Model_isFault S v) = g_Model_now S := rfl
theorem gs_past_isFault (S : S_Model) (v : Int32) : g_Model_past (s_Model_isFault S v) = g_Model_past S := rfl
theorem gs_kept_isFault (S : S_Model) (v : Int32) : g_Model_kept (s_Model_isFault S v) = g_Model_kept S := rfl
theorem gs_text_isFault (S : S_Model) (v : Int32) : g_Model_text (s_Model_isFault S v) = g_Model_text S := rfl
theorem gs_typed_isFault (S : S_Model) (v : Int32) : g_Model_typed (s_Model_isFault S v) = g_Model_typed S := rfl
theorem gs_thrown_isFault (S : S_Model) (v : Int32) : g_Model_thrown (s_Model_isFault S v) = g_Model_thrown S := rfl
theorem gs_at_isFault (S : S_Model) (v : Int32) : g_Model_at (s_Model_isFault S v) = g_Model_at S := rfl
theorem gs_isFault_isFault (S : S_Model) (v : Int32) : g_Model_isFault (s_Model_isFault S v) = v := rfl
theorem gs_kinds_isFault (S : S_Model) (v : Int32) : g_Model_kinds (s_Model_isFault S v) = g_Model_kinds S := rfl
theorem gs_above_isFault (S : S_Model) (v : Int32) : g_Model_above (s_Model_isFault S v) = g_Model_above S := rfl
theorem gs_letters_isFault (S : S_Model) (v : Int32) : g_Model_letters (s_Model_isFault S v) = g_Model_letters S := rfl
theorem gs_begins_isFault (S : S_Model) (v : Int32) : g_Model_begins (s_Model_isFault S v) = g_Model_begins S := rfl
theorem gs_ends_isFault (S : S_Model) (v : Int32) : g_Model_ends (s_Model_isFault S v) = g_Model_ends S := rfl
theorem gs_used_isFault (S : S_Model) (v : Int32) : g_Model_used (s_Model_isFault S v) = g_Model_used S := rfl
theorem gs_valued_isFault (S : S_Model) (v : Int32) : g_Model_valued (s_Model_isFault S v) = g_Model_valued S := rfl
theorem gs_open_isFault (S : S_Model) (v : Int32) : g_Model_open (s_Model_isFault S v) = g_Model_open S := rfl
theorem gs_deep_isFault (S : S_Model) (v : Int32) : g_Model_deep (s_Model_isFault S v) = g_Model_deep S := rfl
theorem gs_deepest_isFault (S : S_Model) (v : Int32) : g_Model_deepest (s_Model_isFault S v) = g_Model_deepest S := rfl
theorem gs_tree_isFault (S : S_Model) (v : Int32) : g_Model_tree (s_Model_isFault S v) = g_Model_tree S := rfl
theorem gs_top_isFault (S : S_Model) (v : Int32) : g_Model_top (s_Model_isFault S v) = g_Model_top S := rfl
theorem gs_place_isFault (S : S_Model) (v : Int32) : g_Model_place (s_Model_isFault S v) = g_Model_place S := rfl
theorem gs_order_isFault (S : S_Model) (v : Int32) : g_Model_order (s_Model_isFault S v) = g_Model_order S := rfl
theorem gs_becameAny_isFault (S : S_Model) (v : Int32) : g_Model_becameAny (s_Model_isFault S v) = g_Model_becameAny S := rfl
theorem gs_misfit_isFault (S : S_Model) (v : Int32) : g_Model_misfit (s_Model_isFault S v) = g_Model_misfit S := rfl
theorem gs_misfitAt_isFault (S : S_Model) (v : Int32) : g_Model_misfitAt (s_Model_isFault S v) = g_Model_misfitAt S := rfl
theorem gs_misfitNode_isFault (S : S_Model) (v : Int32) : g_Model_misfitNode (s_Model_isFault S v) = g_Model_misfitNode S := rfl
theorem gs_now_kinds (S : S_Model) (v : Nat → Int32) : g_Model_now (s_Model_kinds S v) = g_Model_now S := rfl
theorem gs_past_kinds (S : S_Model) (v : Nat → Int32) : g_Model_past (s_Model_kinds S v) = g_Model_past S := rfl
theorem gs_kept_kinds (S : S_Model) (v : Nat → Int32) : g_Model_kept (s_Model_kinds S v) = g_Model_kept S := rfl
theorem gs_text_kinds (S : S_Model) (v : Nat → Int32) : g_Model_text (s_Model_kinds S v) = g_Model_text S := rfl
theorem gs_typed_kinds (S : S_Model) (v : Nat → Int32) : g_Model_typed (s_Model_kinds S v) = g_Model_typed S := rfl
theorem gs_thrown_kinds (S : S_Model) (v : Nat → Int32) : g_Model_thrown (s_Model_kinds S v) = g_Model_thrown S := rfl
theorem gs_at_kinds (S : S_Model) (v : Nat → Int32) : g_Model_at (s_Model_kinds S v) = g_Model_at S := rfl
theorem gs_isFault_kinds (S : S_Model) (v : Nat → Int32) : g_Model_isFault (s_Model_kinds S v) = g_Model_isFault S := rfl
theorem gs_kinds_kinds (S : S_Model) (v : Nat → Int32) : g_Model_kinds (s_Model_kinds S v) = v := rfl
theorem gs_above_kinds (S : S_Model) (v : Nat → Int32) : g_Model_above (s_Model_kinds S v) = g_Model_above S := rfl
theorem gs_letters_kinds (S : S_Model) (v : Nat → Int32) : g_Model_letters (s_Model_kinds S v) = g_Model_letters S := rfl
theorem gs_begins_kinds (S : S_Model) (v : Nat → Int32) : g_Model_begins (s_Model_kinds S v) = g_Model_begins S := rfl
theorem gs_ends_kinds (S : S_Model) (v : Nat → Int32) : g_Model_ends (s_Model_kinds S v) = g_Model_ends S := rfl
theorem gs_used_kinds (S : S_Model) (v : Nat → Int32) : g_Model_used (s_Model_kinds S v) = g_Model_used S := rfl
theorem gs_valued_kinds (S : S_Model) (v : Nat → Int32) : g_Model_valued (s_Model_kinds S v) = g_Model_valued S := rfl
theorem gs_open_kinds (S : S_Model) (v : Nat → Int32) : g_Model_open (s_Model_kinds S v) = g_Model_open S := rfl
theorem gs_deep_kinds (S : S_Model) (v : Nat → Int32) : g_Model_deep (s_Model_kinds S v) = g_Model_deep S := rfl
theorem gs_deepest_kinds (S : S_Model) (v : Nat → Int32) : g_Model_deepest (s_Model_kinds S v) = g_Model_deepest S := rfl
theorem gs_tree_kinds (S : S_Model) (v : Nat → Int32) : g_Model_tree (s_Model_kinds S v) = g_Model_tree S := rfl
theorem gs_top_kinds (S : S_Model) (v : Nat → Int32) : g_Model_top (s_Model_kinds S v) = g_Model_top S := rfl
theorem gs_place_kinds (S : S_Model) (v : Nat → Int32) : g_Model_place (s_Model_kinds S v) = g_Model_place S := rfl
theorem gs_order_kinds (S : S_Model) (v : Nat → Int32) : g_Model_order (s_Model_kinds S v) = g_Model_order S := rfl
theorem gs_becameAny_kinds (S : S_Model) (v : Nat → Int32) : g_Model_becameAny (s_Model_kinds S v) = g_Model_becameAny S := rfl
theorem gs_misfit_kinds (S : S_Model) (v : Nat → Int32) : g_Model_misfit (s_Model_kinds S v) = g_Model_misfit S := rfl
theorem gs_misfitAt_kinds (S : S_Model) (v : Nat → Int32) : g_Model_misfitAt (s_Model_kinds S v) = g_Model_misfitAt S := rfl
theorem gs_misfitNode_kinds (S : S_Model) (v : Nat → Int32) : g_Model_misfitNode (s_Model_kinds S v) = g_Model_misfitNode S := rfl
theorem gs_now_above (S : S_Model) (v : Nat → Int32) : g_Model_now (s_Model_above S v) = g_Model_now S := rfl
theorem gs_past_above (S : S_Model) (v : Nat → Int32) : g_Model_past (s_Model_above S v) = g_Model_past S := rfl
theorem gs_kept_above (S : S_Model) (v : Nat → Int32) : g_Model_kept (s_Model_above S v) = g_Model_kept S := rfl
theorem gs_text_above (S : S_Model) (v : Nat → Int32) : g_Model_text (s_Model_above S v) = g_Model_text S := rfl
theorem gs_typed_above (S : S_Model) (v : Nat → Int32) : g_Model_typed (s_Model_above S v) = g_Model_typed S := rfl
theorem gs_thrown_above (S : S_Model) (v : Nat → Int32) : g_Model_thrown (s_Model_above S v) = g_Model_thrown S := rfl
theorem gs_at_above (S : S_Model) (v : Nat → Int32) : g_Model_at (s_Model_above S v) = g_Model_at S := rfl
theorem gs_isFault_above (S : S_Model) (v : Nat → Int32) : g_Model_isFault (s_Model_above S v) = g_Model_isFault S := rfl
theorem gs_kinds_above (S : S_Model) (v : Nat → Int32) : g_Model_kinds (s_Model_above S v) = g_Model_kinds S := rfl
theorem gs_above_above (S : S_Model) (v : Nat → Int32) : g_Model_above (s_Model_above S v) = v := rfl
theorem gs_letters_above (S : S_Model) (v : Nat → Int32) : g_Model_letters (s_Model_above S v) = g_Model_letters S := rfl
theorem gs_begins_above (S : S_Model) (v : Nat → Int32) : g_Model_begins (s_Model_above S v) = g_Model_begins S := rfl
theorem gs_ends_above (S : S_Model) (v : Nat → Int32) : g_Model_ends (s_Model_above S v) = g_Model_ends S := rfl
theorem gs_used_above (S : S_Model) (v : Nat → Int32) : g_Model_used (s_Model_above S v) = g_Model_used S := rfl
theorem gs_valued_above (S : S_Model) (v : Nat → Int32) : g_Model_valued (s_Model_above S v) = g_Model_valued S := rfl
theorem gs_open_above (S : S_Model) (v : Nat → Int32) : g_Model_open (s_Model_above S v) = g_Model_open S := rfl
theorem gs_deep_above (S : S_Model) (v : Nat → Int32) : g_Model_deep (s_Model_above S v) = g_Model_deep S := rfl
theorem gs_deepest_above (S : S_Model) (v : Nat → Int32) : g_Model_deepest (s_Model_above S v) = g_Model_deepest S := rfl
theorem gs_tree_above (S : S_Model) (v : Nat → Int32) : g_Model_tree (s_Model_above S v) = g_Model_tree S := rfl
theorem gs_top_above (S : S_Model) (v : Nat → Int32) : g_Model_top (s_Model_above S v) = g_Model_top S := rfl
theorem gs_place_above (S : S_Model) (v : Nat → Int32) : g_Model_place (s_Model_above S v) = g_Model_place S := rfl
theorem gs_order_above (S : S_Model) (v : Nat → Int32) : g_Model_order (s_Model_above S v) = g_Model_order S := rfl
theorem gs_becameAny_above (S : S_Model) (v : Nat → Int32) : g_Model_becameAny (s_Model_above S v) = g_Model_becameAny S := rfl
theorem gs_misfit_above (S : S_Model) (v : Nat → Int32) : g_Model_misfit (s_Model_above S v) = g_Model_misfit S := rfl
theorem gs_misfitAt_above (S : S_Model) (v : Nat → Int32) : g_Model_misfitAt (s_Model_above S v) = g_Model_misfitAt S := rfl
theorem gs_misfitNode_above (S : S_Model) (v : Nat → Int32) : g_Model_misfitNode (s_Model_above S v) = g_Model_misfitNode S := rfl
theorem gs_now_letters (S : S_Model) (v : Nat → Int32) : g_Model_now (s_Model_letters S v) = g_Model_now S := rfl
theorem gs_past_letters (S : S_Model) (v : Nat → Int32) : g_Model_past (s_Model_letters S v) = g_Model_past S := rfl
theorem gs_kept_letters (S : S_Model) (v : Nat → Int32) : g_Model_kept (s_Model_letters S v) = g_Model_kept S := rfl
theorem gs_text_letters (S : S_Model) (v : Nat → Int32) : g_Model_text (s_Model_letters S v) = g_Model_text S := rfl
theorem gs_typed_letters (S : S_Model) (v : Nat → Int32) : g_Model_typed (s_Model_letters S v) = g_Model_typed S := rfl
theorem gs_thrown_letters (S : S_Model) (v : Nat → Int32) : g_Model_thrown (s_Model_letters S v) = g_Model_thrown S := rfl
theorem gs_at_letters (S : S_Model) (v : Nat → Int32) : g_Model_at (s_Model_letters S v) = g_Model_at S := rfl
theorem gs_isFault_letters (S : S_Model) (v : Nat → Int32) : g_Model_isFault (s_Model_letters S v) = g_Model_isFault S := rfl
theorem gs_kinds_letters (S : S_Model) (v : Nat → Int32) : g_Model_kinds (s_Model_letters S v) = g_Model_kinds S := rfl
theorem gs_above_letters (S : S_Model) (v : Nat → Int32) : g_Model_above (s_Model_letters S v) = g_Model_above S := rfl
theorem gs_letters_letters (S : S_Model) (v : Nat → Int32) : g_Model_letters (s_Model_letters S v) = v := rfl
theorem gs_begins_letters (S : S_Model) (v : Nat → Int32) : g_Model_begins (s_Model_letters S v) = g_Model_begins S := rfl
theorem gs_ends_letters (S : S_Model) (v : Nat → Int32) : g_Model_ends (s_Model_letters S v) = g_Model_ends S := rfl
theorem gs_used_letters (S : S_Model) (v : Nat → Int32) : g_Model_used (s_Model_letters S v) = g_Model_used S := rfl
theorem gs_valued_letters (S : S_Model) (v : Nat → Int32) : g_Model_valued (s_Model_letters S v) = g_Model_valued S := rfl
theorem gs_open_letters (S : S_Model) (v : Nat → Int32) : g_Model_open (s_Model_letters S v) = g_Model_open S := rfl
theorem gs_deep_letters (S : S_Model) (v : Nat → Int32) : g_Model_deep (s_Model_letters S v) = g_Model_deep S := rfl
theorem gs_deepest_letters (S : S_Model) (v : Nat → Int32) : g_Model_deepest (s_Model_letters S v) = g_Model_deepest S := rfl
theorem gs_tree_letters (S : S_Model) (v : Nat → Int32) : g_Model_tree (s_Model_letters S v) = g_Model_tree S := rfl
theorem gs_top_letters (S : S_Model) (v : Nat → Int32) : g_Model_top (s_Model_letters S v) = g_Model_top S := rfl
theorem gs_place_letters (S : S_Model) (v : Nat → Int32) : g_Model_place (s_Model_letters S v) = g_Model_place S := rfl
theorem gs_order_letters (S : S_Model) (v : Nat → Int32) : g_Model_order (s_Model_letters S v) = g_Model_order S := rfl
theorem gs_becameAny_letters (S : S_Model) (v : Nat → Int32) : g_Model_becameAny (s_Model_letters S v) = g_Model_becameAny S := rfl
theorem gs_misfit_letters (S : S_Model) (v : Nat → Int32) : g_Model_misfit (s_Model_letters S v) = g_Model_misfit S := rfl
theorem gs_misfitAt_letters (S : S_Model) (v : Nat → Int32) : g_Model_misfitAt (s_Model_letters S v) = g_Model_misfitAt S := rfl
theorem gs_misfitNode_letters (S : S_Model) (v : Nat → Int32) : g_Model_misfitNode (s_Model_letters S v) = g_Model_misfitNode S := rfl
theorem gs_now_begins (S : S_Model) (v : Nat → Int32) : g_Model_now (s_Model_begins S v) = g_Model_now S := rfl
theorem gs_past_begins (S : S_Model) (v : Nat → Int32) : g_Model_past (s_Model_begins S v) = g_Model_past S := rfl
theorem gs_kept_begins (S : S_Model) (v : Nat → Int32) : g_Model_kept (s_Model_begins S v) = g_Model_kept S := rfl
theorem gs_text_begins (S : S_Model) (v : Nat → Int32) : g_Model_text (s_Model_begins S v) = g_Model_text S := rfl
theorem gs_typed_begins (S : S_Model) (v : Nat → Int32) : g_Model_typed (s_Model_begins S v) = g_Model_typed S := rfl
theorem gs_thrown_begins (S : S_Model) (v : Nat → Int32) : g_Model_thrown (s_Model_begins S v) = g_Model_thrown S := rfl
theorem gs_at_begins (S : S_Model) (v : Nat → Int32) : g_Model_at (s_Model_begins S v) = g_Model_at S := rfl
theorem gs_isFault_begins (S : S_Model) (v : Nat → Int32) : g_Model_isFault (s_Model_begins S v) = g_Model_isFault S := rfl
theorem gs_kinds_begins (S : S_Model) (v : Nat → Int32) : g_Model_kinds (s_Model_begins S v) = g_Model_kinds S := rfl
theorem gs_above_begins (S : S_Model) (v : Nat → Int32) : g_Model_above (s_Model_begins S v) = g_Model_above S := rfl
theorem gs_letters_begins (S : S_Model) (v : Nat → Int32) : g_Model_letters (s_Model_begins S v) = g_Model_letters S := rfl
theorem gs_begins_begins (S : S_Model) (v : Nat → Int32) : g_Model_begins (s_Model_begins S v) = v := rfl
theorem gs_ends_begins (S : S_Model) (v : Nat → Int32) : g_Model_ends (s_Model_begins S v) = g_Model_ends S := rfl
theorem gs_used_begins (S : S_Model) (v : Nat → Int32) : g_Model_used (s_Model_begins S v) = g_Model_used S := rfl
theorem gs_valued_begins (S : S_Model) (v : Nat → Int32) : g_Model_valued (s_Model_begins S v) = g_Model_valued S := rfl
theorem gs_open_begins (S : S_Model) (v : Nat → Int32) : g_Model_open (s_Model_begins S v) = g_Model_open S := rfl
theorem gs_deep_begins (S : S_Model) (v : Nat → Int32) : g_Model_deep (s_Model_begins S v) = g_Model_deep S := rfl
theorem gs_deepest_begins (S : S_Model) (v : Nat → Int32) : g_Model_deepest (s_Model_begins S v) = g_Model_deepest S := rfl
theorem gs_tree_begins (S : S_Model) (v : Nat → Int32) : g_Model_tree (s_Model_begins S v) = g_Model_tree S := rfl
theorem gs_top_begins (S : S_Model) (v : Nat → Int32) : g_Model_top (s_Model_begins S v) = g_Model_top S := rfl
theorem gs_place_begins (S : S_Model) (v : Nat → Int32) : g_Model_place (s_Model_begins S v) = g_Model_place S := rfl
theorem gs_order_begins (S : S_Model) (v : Nat → Int32) : g_Model_order (s_Model_begins S v) = g_Model_order S := rfl
theorem gs_becameAny_begins (S : S_Model) (v : Nat → Int32) : g_Model_becameAny (s_Model_begins S v) = g_Model_becameAny S := rfl
theorem gs_misfit_begins (S : S_Model) (v : Nat → Int32) : g_Model_misfit (s_Model_begins S v) = g_Model_misfit S := rfl
theorem gs_misfitAt_begins (S : S_Model) (v : Nat → Int32) : g_Model_misfitAt (s_Model_begins S v) = g_Model_misfitAt S := rfl
theorem gs_misfitNode_begins (S : S_Model) (v : Nat → Int32) : g_Model_misfitNode (s_Model_begins S v) = g_Model_misfitNode S := rfl
theorem gs_now_ends (S : S_Model) (v : Nat → Int32) : g_Model_now (s_Model_ends S v) = g_Model_now S := rfl
theorem gs_past_ends (S : S_Model) (v : Nat → Int32) : g_Model_past (s_Model_ends S v) = g_Model_past S := rfl
theorem gs_kept_ends (S : S_Model) (v : Nat → Int32) : g_Model_kept (s_Model_ends S v) = g_Model_kept S := rfl
theorem gs_text_ends (S : S_Model) (v : Nat → Int32) : g_Model_text (s_Model_ends S v) = g_Model_text S := rfl
theorem gs_typed_ends (S : S_Model) (v : Nat → Int32) : g_Model_typed (s_Model_ends S v) = g_Model_typed S := rfl
theorem gs_thrown_ends (S : S_Model) (v : Nat → Int32) : g_Model_thrown (s_Model_ends S v) = g_Model_thrown S := rfl
theorem gs_at_ends (S : S_Model) (v : Nat → Int32) : g_Model_at (s_Model_ends S v) = g_Model_at S := rfl
theorem gs_isFault_ends (S : S_Model) (v : Nat → Int32) : g_Model_isFault (s_Model_ends S v) = g_Model_isFault S := rfl
theorem gs_kinds_ends (S : S_Model) (v : Nat → Int32) : g_Model_kinds (s_Model_ends S v) = g_Model_kinds S := rfl
theorem gs_above_ends (S : S_Model) (v : Nat → Int32) : g_Model_above (s_Model_ends S v) = g_Model_above S := rfl
theorem gs_letters_ends (S : S_Model) (v : Nat → Int32) : g_Model_letters (s_Model_ends S v) = g_Model_letters S := rfl
theorem gs_begins_ends (S : S_Model) (v : Nat → Int32) : g_Model_begins (s_Model_ends S v) = g_Model_begins S := rfl
theorem gs_ends_ends (S : S_Model) (v : Nat → Int32) : g_Model_ends (s_Model_ends S v) = v := rfl
theorem gs_used_ends (S : S_Model) (v : Nat → Int32) : g_Model_used (s_Model_ends S v) = g_Model_used S := rfl
theorem gs_valued_ends (S : S_Model) (v : Nat → Int32) : g_Model_valued (s_Model_ends S v) = g_Model_valued S := rfl
theorem gs_open_ends (S : S_Model) (v : Nat → Int32) : g_Model_open (s_Model_ends S v) = g_Model_open S := rfl
theorem gs_deep_ends (S : S_Model) (v : Nat → Int32) : g_Model_deep (s_Model_ends S v) = g_Model_deep S := rfl
theorem gs_deepest_ends (S : S_Model) (v : Nat → Int32) : g_Model_deepest (s_Model_ends S v) = g_Model_deepest S := rfl
theorem gs_tree_ends (S : S_Model) (v : Nat → Int32) : g_Model_tree (s_Model_ends S v) = g_Model_tree S := rfl
theorem gs_top_ends (S : S_Model) (v : Nat → Int32) : g_Model_top (s_Model_ends S v) = g_Model_top S := rfl
theorem gs_place_ends (S : S_Model) (v : Nat → Int32) : g_Model_place (s_Model_ends S v) = g_Model_place S := rfl
theorem gs_order_ends (S : S_Model) (v : Nat → Int32) : g_Model_order (s_Model_ends S v) = g_Model_order S := rfl
theorem gs_becameAny_ends (S : S_Model) (v : Nat → Int32) : g_Model_becameAny (s_Model_ends S v) = g_Model_becameAny S := rfl
theorem gs_misfit_ends (S : S_Model) (v : Nat → Int32) : g_Model_misfit (s_Model_ends S v) = g_Model_misfit S := rfl
theorem gs_misfitAt_ends (S : S_Model) (v : Nat → Int32) : g_Model_misfitAt (s_Model_ends S v) = g_Model_misfitAt S := rfl
theorem gs_misfitNode_ends (S : S_Model) (v : Nat → Int32) : g_Model_misfitNode (s_Model_ends S v) = g_Model_misfitNode S := rfl
theorem gs_now_used (S : S_Model) (v : Nat → Int32) : g_Model_now (s_Model_used S v) = g_Model_now S := rfl
theorem gs_past_used (S : S_Model) (v : Nat → Int32) : g_Model_past (s_Model_used S v) = g_Model_past S := rfl
theorem gs_kept_used (S : S_Model) (v : Nat → Int32) : g_Model_kept (s_Model_used S v) = g_Model_kept S := rfl
theorem gs_text_used (S : S_Model) (v : Nat → Int32) : g_Model_text (s_Model_used S v) = g_Model_text S := rfl
theorem gs_typed_used (S : S_Model) (v : Nat → Int32) : g_Model_typed (s_Model_used S v) = g_Model_typed S := rfl
theorem gs_thrown_used (S : S_Model) (v : Nat → Int32) : g_Model_thrown (s_Model_used S v) = g_Model_thrown S := rfl
theorem gs_at_used (S : S_Model) (v : Nat → Int32) : g_Model_at (s_Model_used S v) = g_Model_at S := rfl
theorem gs_isFault_used (S : S_Model) (v : Nat → Int32) : g_Model_isFault (s_Model_used S v) = g_Model_isFault S := rfl
theorem gs_kinds_used (S : S_Model) (v : Nat → Int32) : g_Model_kinds (s_Model_used S v) = g_Model_kinds S := rfl
theorem gs_above_used (S : S_Model) (v : Nat → Int32) : g_Model_above (s_Model_used S v) = g_Model_above S := rfl
theorem gs_letters_used (S : S_Model) (v : Nat → Int32) : g_Model_letters (s_Model_used S v) = g_Model_letters S := rfl
theorem gs_begins_used (S : S_Model) (v : Nat → Int32) : g_Model_begins (s_Model_used S v) = g_Model_begins S := rfl
theorem gs_ends_used (S : S_Model) (v : Nat → Int32) : g_Model_ends (s_Model_used S v) = g_Model_ends S := rfl
theorem gs_used_used (S : S_Model) (v : Nat → Int32) : g_Model_used (s_Model_used S v) = v := rfl
theorem gs_valued_used (S : S_Model) (v : Nat → Int32) : g_Model_valued (s_Model_used S v) = g_Model_valued S := rfl
theorem gs_open_used (S : S_Model) (v : Nat → Int32) : g_Model_open (s_Model_used S v) = g_Model_open S := rfl
theorem gs_deep_used (S : S_Model) (v : Nat → Int32) : g_Model_deep (s_Model_used S v) = g_Model_deep S := rfl
theorem gs_deepest_used (S : S_Model) (v : Nat → Int32) : g_Model_deepest (s_Model_used S v) = g_Model_deepest S := rfl
theorem gs_tree_used (S : S_Model) (v : Nat → Int32) : g_Model_tree (s_Model_used S v) = g_Model_tree S := rfl
theorem gs_top_used (S : S_Model) (v : Nat → Int32) : g_Model_top (s_Model_used S v) = g_Model_top S := rfl
theorem gs_place_used (S : S_Model) (v : Nat → Int32) : g_Model_place (s_Model_used S v) = g_Model_place S := rfl
theorem gs_order_used (S : S_Model) (v : Nat → Int32) : g_Model_order (s_Model_used S v) = g_Model_order S := rfl
theorem gs_becameAny_used (S : S_Model) (v : Nat → Int32) : g_Model_becameAny (s_Model_used S v) = g_Model_becameAny S := rfl
theorem gs_misfit_used (S : S_Model) (v : Nat → Int32) : g_Model_misfit (s_Model_used S v) = g_Model_misfit S := rfl
theorem gs_misfitAt_used (S : S_Model) (v : Nat → Int32) : g_Model_misfitAt (s_Model_used S v) = g_Model_misfitAt S := rfl
theorem gs_misfitNode_used (S : S_Model) (v : Nat → Int32) : g_Model_misfitNode (s_Model_used S v) = g_Model_misfitNode S := rfl
theorem gs_now_valued (S : S_Model) (v : Int32) : g_Model_now (s_Model_valued S v) = g_Model_now S := rfl
theorem gs_past_valued (S : S_Model) (v : Int32) : g_Model_past (s_Model_valued S v) = g_Model_past S := rfl
theorem gs_kept_valued (S : S_Model) (v : Int32) : g_Model_kept (s_Model_valued S v) = g_Model_kept S := rfl
theorem gs_text_valued (S : S_Model) (v : Int32) : g_Model_text (s_Model_valued S v) = g_Model_text S := rfl
theorem gs_typed_valued (S : S_Model) (v : Int32) : g_Model_typed (s_Model_valued S v) = g_Model_typed S := rfl
theorem gs_thrown_valued (S : S_Model) (v : Int32) : g_Model_thrown (s_Model_valued S v) = g_Model_thrown S := rfl
theorem gs_at_valued (S : S_Model) (v : Int32) : g_Model_at (s_Model_valued S v) = g_Model_at S := rfl
theorem gs_isFault_valued (S : S_Model) (v : Int32) : g_Model_isFault (s_Model_valued S v) = g_Model_isFault S := rfl
theorem gs_kinds_valued (S : S_Model) (v : Int32) : g_Model_kinds (s_Model_valued S v) = g_Model_kinds S := rfl
theorem gs_above_valued (S : S_Model) (v : Int32) : g_Model_above (s_Model_valued S v) = g_Model_above S := rfl
theorem gs_letters_valued (S : S_Model) (v : Int32) : g_Model_letters (s_Model_valued S v) = g_Model_letters S := rfl
theorem gs_begins_valued (S : S_Model) (v : Int32) : g_Model_begins (s_Model_valued S v) = g_Model_begins S := rfl
theorem gs_ends_valued (S : S_Model) (v : Int32) : g_Model_ends (s_Model_valued S v) = g_Model_ends S := rfl
theorem gs_used_valued (S : S_Model) (v : Int32) : g_Model_used (s_Model_valued S v) = g_Model_used S := rfl
theorem gs_valued_valued (S : S_Model) (v : Int32) : g_Model_valued (s_Model_valued S v) = v := rfl
theorem gs_open_valued (S : S_Model) (v : Int32) : g_Model_open (s_Model_valued S v) = g_Model_open S := rfl
theorem gs_deep_valued (S : S_Model) (v : Int32) : g_Model_deep (s_Model_valued S v) = g_Model_deep S := rfl
theorem gs_deepest_valued (S : S_Model) (v : Int32) : g_Model_deepest (s_Model_valued S v) = g_Model_deepest S := rfl
theorem gs_tree_valued (S : S_Model) (v : Int32) : g_Model_tree (s_Model_valued S v) = g_Model_tree S := rfl
theorem gs_top_valued (S : S_Model) (v : Int32) : g_Model_top (s_Model_valued S v) = g_Model_top S := rfl
theorem gs_place_valued (S : S_Model) (v : Int32) : g_Model_place (s_Model_valued S v) = g_Model_place S := rfl
theorem gs_order_valued (S : S_Model) (v : Int32) : g_Model_order (s_Model_valued S v) = g_Model_order S := rfl
theorem gs_becameAny_valued (S : S_Model) (v : Int32) : g_Model_becameAny (s_Model_valued S v) = g_Model_becameAny S := rfl
theorem gs_misfit_valued (S : S_Model) (v : Int32) : g_Model_misfit (s_Model_valued S v) = g_Model_misfit S := rfl
theorem gs_misfitAt_valued (S : S_Model) (v : Int32) : g_Model_misfitAt (s_Model_valued S v) = g_Model_misfitAt S := rfl
theorem gs_misfitNode_valued (S : S_Model) (v : Int32) : g_Model_misfitNode (s_Model_valued S v) = g_Model_misfitNode S := rfl
theorem gs_now_open (S : S_Model) (v : Nat → Int32) : g_Model_now (s_Model_open S v) = g_Model_now S := rfl
theorem gs_past_open (S : S_Model) (v : Nat → Int32) : g_Model_past (s_Model_open S v) = g_Model_past S := rfl
theorem gs_kept_open (S : S_Model) (v : Nat → Int32) : g_Model_kept (s_Model_open S v) = g_Model_kept S := rfl
theorem gs_text_open (S : S_Model) (v : Nat → Int32) : g_Model_text (s_Model_open S v) = g_Model_text S := rfl
theorem gs_typed_open (S : S_Model) (v : Nat → Int32) : g_Model_typed (s_Model_open S v) = g_Model_typed S := rfl
theorem gs_thrown_open (S : S_Model) (v : Nat → Int32) : g_Model_thrown (s_Model_open S v) = g_Model_thrown S := rfl
theorem gs_at_open (S : S_Model) (v : Nat → Int32) : g_Model_at (s_Model_open S v) = g_Model_at S := rfl
theorem gs_isFault_open (S : S_Model) (v : Nat → Int32) : g_Model_isFault (s_Model_open S v) = g_Model_isFault S := rfl
theorem gs_kinds_open (S : S_Model) (v : Nat → Int32) : g_Model_kinds (s_Model_open S v) = g_Model_kinds S := rfl
theorem gs_above_open (S : S_Model) (v : Nat → Int32) : g_Model_above (s_Model_open S v) = g_Model_above S := rfl
theorem gs_letters_open (S : S_Model) (v : Nat → Int32) : g_Model_letters (s_Model_open S v) = g_Model_letters S := rfl
theorem gs_begins_open (S : S_Model) (v : Nat → Int32) : g_Model_begins (s_Model_open S v) = g_Model_begins S := rfl
theorem gs_ends_open (S : S_Model) (v : Nat → Int32) : g_Model_ends (s_Model_open S v) = g_Model_ends S := rfl
theorem gs_used_open (S : S_Model) (v : Nat → Int32) : g_Model_used (s_Model_open S v) = g_Model_used S := rfl
theorem gs_valued_open (S : S_Model) (v : Nat → Int32) : g_Model_valued (s_Model_open S v) = g_Model_valued S := rfl
theorem gs_open_open (S : S_Model) (v : Nat → Int32) : g_Model_open (s_Model_open S v) = v := rfl
theorem gs_deep_open (S : S_Model) (v : Nat → Int32) : g_Model_deep (s_Model_open S v) = g_Model_deep S := rfl
theorem gs_deepest_open (S : S_Model) (v : Nat → Int32) : g_Model_deepest (s_Model_open S v) = g_Model_deepest S := rfl
theorem gs_tree_open (S : S_Model) (v : Nat → Int32) : g_Model_tree (s_Model_open S v) = g_Model_tree S := rfl
theorem gs_top_open (S : S_Model) (v : Nat → Int32) : g_Model_top (s_Model_open S v) = g_Model_top S := rfl
theorem gs_place_open (S : S_Model) (v : Nat → Int32) : g_Model_place (s_Model_open S v) = g_Model_place S := rfl
theorem gs_order_open (S : S_Model) (v : Nat → Int32) : g_Model_order (s_Model_open S v) = g_Model_order S := rfl
theorem gs_becameAny_open (S : S_Model) (v : Nat → Int32) : g_Model_becameAny (s_Model_open S v) = g_Model_becameAny S := rfl
theorem gs_misfit_open (S : S_Model) (v : Nat → Int32) : g_Model_misfit (s_Model_open S v) = g_Model_misfit S := rfl
theorem gs_misfitAt_open (S : S_Model) (v : Nat → Int32) : g_Model_misfitAt (s_Model_open S v) = g_Model_misfitAt S := rfl
theorem gs_misfitNode_open (S : S_Model) (v : Nat → Int32) : g_Model_misfitNode (s_Model_open S v) = g_Model_misfitNode S := rfl
theorem gs_now_deep (S : S_Model) (v : Int32) : g_Model_now (s_Model_deep S v) = g_Model_now S := rfl
theorem gs_past_deep (S : S_Model) (v : Int32) : g_Model_past (s_Model_deep S v) = g_Model_past S := rfl
theorem gs_kept_deep (S : S_Model) (v : Int32) : g_Model_kept (s_Model_deep S v) = g_Model_kept S := rfl
theorem gs_text_deep (S : S_Model) (v : Int32) : g_Model_text (s_Model_deep S v) = g_Model_text S := rfl
theorem gs_typed_deep (S : S_Model) (v : Int32) : g_Model_typed (s_Model_deep S v) = g_Model_typed S := rfl
theorem gs_thrown_deep (S : S_Model) (v : Int32) : g_Model_thrown (s_Model_deep S v) = g_Model_thrown S := rfl
theorem gs_at_deep (S : S_Model) (v : Int32) : g_Model_at (s_Model_deep S v) = g_Model_at S := rfl
theorem gs_isFault_deep (S : S_Model) (v : Int32) : g_Model_isFault (s_Model_deep S v) = g_Model_isFault S := rfl
theorem gs_kinds_deep (S : S_Model) (v : Int32) : g_Model_kinds (s_Model_deep S v) = g_Model_kinds S := rfl
theorem gs_above_deep (S : S_Model) (v : Int32) : g_Model_above (s_Model_deep S v) = g_Model_above S := rfl
theorem gs_letters_deep (S : S_Model) (v : Int32) : g_Model_letters (s_Model_deep S v) = g_Model_letters S := rfl
theorem gs_begins_deep (S : S_Model) (v : Int32) : g_Model_begins (s_Model_deep S v) = g_Model_begins S := rfl
theorem gs_ends_deep (S : S_Model) (v : Int32) : g_Model_ends (s_Model_deep S v) = g_Model_ends S := rfl
theorem gs_used_deep (S : S_Model) (v : Int32) : g_Model_used (s_Model_deep S v) = g_Model_used S := rfl
theorem gs_valued_deep (S : S_Model) (v : Int32) : g_Model_valued (s_Model_deep S v) = g_Model_valued S := rfl
theorem gs_open_deep (S : S_Model) (v : Int32) : g_Model_open (s_Model_deep S v) = g_Model_open S := rfl
theorem gs_deep_deep (S : S_Model) (v : Int32) : g_Model_deep (s_Model_deep S v) = v := rfl
theorem gs_deepest_deep (S : S_Model) (v : Int32) : g_Model_deepest (s_Model_deep S v) = g_Model_deepest S := rfl
theorem gs_tree_deep (S : S_Model) (v : Int32) : g_Model_tree (s_Model_deep S v) = g_Model_tree S := rfl
theorem gs_top_deep (S : S_Model) (v : Int32) : g_Model_top (s_Model_deep S v) = g_Model_top S := rfl
theorem gs_place_deep (S : S_Model) (v : Int32) : g_Model_place (s_Model_deep S v) = g_Model_place S := rfl
theorem gs_order_deep (S : S_Model) (v : Int32) : g_Model_order (s_Model_deep S v) = g_Model_order S := rfl
theorem gs_becameAny_deep (S : S_Model) (v : Int32) : g_Model_becameAny (s_Model_deep S v) = g_Model_becameAny S := rfl
theorem gs_misfit_deep (S : S_Model) (v : Int32) : g_Model_misfit (s_Model_deep S v) = g_Model_misfit S := rfl
theorem gs_misfitAt_deep (S : S_Model) (v : Int32) : g_Model_misfitAt (s_Model_deep S v) = g_Model_misfitAt S := rfl
theorem gs_misfitNode_deep (S : S_Model) (v : Int32) : g_Model_misfitNode (s_Model_deep S v) = g_Model_misfitNode S := rfl
theorem gs_now_deepest (S : S_Model) (v : Int32) : g_Model_now (s_Model_deepest S v) = g_Model_now S := rfl
theorem gs_past_deepest (S : S_Model) (v : Int32) : g_Model_past (s_Model_deepest S v) = g_Model_past S := rfl
theorem gs_kept_deepest (S : S_Model) (v : Int32) : g_Model_kept (s_Model_deepest S v) = g_Model_kept S := rfl
theorem gs_text_deepest (S : S_Model) (v : Int32) : g_Model_text (s_Model_deepest S v) = g_Model_text S := rfl
theorem gs_typed_deepest (S : S_Model) (v : Int32) : g_Model_typed (s_Model_deepest S v) = g_Model_typed S := rfl
theorem gs_thrown_deepest (S : S_Model) (v : Int32) : g_Model_thrown (s_Model_deepest S v) = g_Model_thrown S := rfl
theorem gs_at_deepest (S : S_Model) (v : Int32) : g_Model_at (s_Model_deepest S v) = g_Model_at S := rfl
theorem gs_isFault_deepest (S : S_Model) (v : Int32) : g_Model_isFault (s_Model_deepest S v) = g_Model_isFault S := rfl
theorem gs_kinds_deepest (S : S_Model) (v : Int32) : g_Model_kinds (s_Model_deepest S v) = g_Model_kinds S := rfl
theorem gs_above_deepest (S : S_Model) (v : Int32) : g_Model_above (s_Model_deepest S v) = g_Model_above S := rfl
theorem gs_letters_deepest (S : S_Model) (v : Int32) : g_Model_letters (s_Model_deepest S v) = g_Model_letters S := rfl
theorem gs_begins_deepest (S : S_Model) (v : Int32) : g_Model_begins (s_Model_deepest S v) = g_Model_begins S := rfl
theorem gs_ends_deepest (S : S_Model) (v : Int32) : g_Model_ends (s_Model_deepest S v) = g_Model_ends S := rfl
theorem gs_used_deepest (S : S_Model) (v : Int32) : g_Model_used (s_Model_deepest S v) = g_Model_used S := rfl
theorem gs_valued_deepest (S : S_Model) (v : Int32) : g_Model_valued (s_Model_deepest S v) = g_Model_valued S := rfl
theorem gs_open_deepest (S : S_Model) (v : Int32) : g_Model_open (s_Model_deepest S v) = g_Model_open S := rfl
theorem gs_deep_deepest (S : S_Model) (v : Int32) : g_Model_deep (s_Model_deepest S v) = g_Model_deep S := rfl
theorem gs_deepest_deepest (S : S_Model) (v : Int32) : g_Model_deepest (s_Model_deepest S v) = v := rfl
theorem gs_tree_deepest (S : S_Model) (v : Int32) : g_Model_tree (s_Model_deepest S v) = g_Model_tree S := rfl
theorem gs_top_deepest (S : S_Model) (v : Int32) : g_Model_top (s_Model_deepest S v) = g_Model_top S := rfl
theorem gs_place_deepest (S : S_Model) (v : Int32) : g_Model_place (s_Model_deepest S v) = g_Model_place S := rfl
theorem gs_order_deepest (S : S_Model) (v : Int32) : g_Model_order (s_Model_deepest S v) = g_Model_order S := rfl
theorem gs_becameAny_deepest (S : S_Model) (v : Int32) : g_Model_becameAny (s_Model_deepest S v) = g_Model_becameAny S := rfl
theorem gs_misfit_deepest (S : S_Model) (v : Int32) : g_Model_misfit (s_Model_deepest S v) = g_Model_misfit S := rfl
theorem gs_misfitAt_deepest (S : S_Model) (v : Int32) : g_Model_misfitAt (s_Model_deepest S v) = g_Model_misfitAt S := rfl
theorem gs_misfitNode_deepest (S : S_Model) (v : Int32) : g_Model_misfitNode (s_Model_deepest S v) = g_Model_misfitNode S := rfl
theorem gs_now_tree (S : S_Model) (v : Nat → Int32) : g_Model_now (s_Model_tree S v) = g_Model_now S := rfl
theorem gs_past_tree (S : S_Model) (v : Nat → Int32) : g_Model_past (s_Model_tree S v) = g_Model_past S := rfl
theorem gs_kept_tree (S : S_Model) (v : Nat → Int32) : g_Model_kept (s_Model_tree S v) = g_Model_kept S := rfl
theorem gs_text_tree (S : S_Model) (v : Nat → Int32) : g_Model_text (s_Model_tree S v) = g_Model_text S := rfl
theorem gs_typed_tree (S : S_Model) (v : Nat → Int32) : g_Model_typed (s_Model_tree S v) = g_Model_typed S := rfl
theorem gs_thrown_tree (S : S_Model) (v : Nat → Int32) : g_Model_thrown (s_Model_tree S v) = g_Model_thrown S := rfl
theorem gs_at_tree (S : S_Model) (v : Nat → Int32) : g_Model_at (s_Model_tree S v) = g_Model_at S := rfl
theorem gs_isFault_tree (S : S_Model) (v : Nat → Int32) : g_Model_isFault (s_Model_tree S v) = g_Model_isFault S := rfl
theorem gs_kinds_tree (S : S_Model) (v : Nat → Int32) : g_Model_kinds (s_Model_tree S v) = g_Model_kinds S := rfl
theorem gs_above_tree (S : S_Model) (v : Nat → Int32) : g_Model_above (s_Model_tree S v) = g_Model_above S := rfl
theorem gs_letters_tree (S : S_Model) (v : Nat → Int32) : g_Model_letters (s_Model_tree S v) = g_Model_letters S := rfl
theorem gs_begins_tree (S : S_Model) (v : Nat → Int32) : g_Model_begins (s_Model_tree S v) = g_Model_begins S := rfl
theorem gs_ends_tree (S : S_Model) (v : Nat → Int32) : g_Model_ends (s_Model_tree S v) = g_Model_ends S := rfl
theorem gs_used_tree (S : S_Model) (v : Nat → Int32) : g_Model_used (s_Model_tree S v) = g_Model_used S := rfl
theorem gs_valued_tree (S : S_Model) (v : Nat → Int32) : g_Model_valued (s_Model_tree S v) = g_Model_valued S := rfl
theorem gs_open_tree (S : S_Model) (v : Nat → Int32) : g_Model_open (s_Model_tree S v) = g_Model_open S := rfl
theorem gs_deep_tree (S : S_Model) (v : Nat → Int32) : g_Model_deep (s_Model_tree S v) = g_Model_deep S := rfl
theorem gs_deepest_tree (S : S_Model) (v : Nat → Int32) : g_Model_deepest (s_Model_tree S v) = g_Model_deepest S := rfl
theorem gs_tree_tree (S : S_Model) (v : Nat → Int32) : g_Model_tree (s_Model_tree S v) = v := rfl
theorem gs_top_tree (S : S_Model) (v : Nat → Int32) : g_Model_top (s_Model_tree S v) = g_Model_top S := rfl
theorem gs_place_tree (S : S_Model) (v : Nat → Int32) : g_Model_place (s_Model_tree S v) = g_Model_place S := rfl
theorem gs_order_tree (S : S_Model) (v : Nat → Int32) : g_Model_order (s_Model_tree S v) = g_Model_order S := rfl
theorem gs_becameAny_tree (S : S_Model) (v : Nat → Int32) : g_Model_becameAny (s_Model_tree S v) = g_Model_becameAny S := rfl
theorem gs_misfit_tree (S : S_Model) (v : Nat → Int32) : g_Model_misfit (s_Model_tree S v) = g_Model_misfit S := rfl
theorem gs_misfitAt_tree (S : S_Model) (v : Nat → Int32) : g_Model_misfitAt (s_Model_tree S v) = g_Model_misfitAt S := rfl
theorem gs_misfitNode_tree (S : S_Model) (v : Nat → Int32) : g_Model_misfitNode (s_Model_tree S v) = g_Model_misfitNode S := rfl
theorem gs_now_top (S : S_Model) (v : Int32) : g_Model_now (s_Model_top S v) = g_Model_now S := rfl
theorem gs_past_top (S : S_Model) (v : Int32) : g_Model_past (s_Model_top S v) = g_Model_past S := rfl
theorem gs_kept_top (S : S_Model) (v : Int32) : g_Model_kept (s_Model_top S v) = g_Model_kept S := rfl
theorem gs_text_top (S : S_Model) (v : Int32) : g_Model_text (s_Model_top S v) = g_Model_text S := rfl
theorem gs_typed_top (S : S_Model) (v : Int32) : g_Model_typed (s_Model_top S v) = g_Model_typed S := rfl
theorem gs_thrown_top (S : S_Model) (v : Int32) : g_Model_thrown (s_Model_top S v) = g_Model_thrown S := rfl
theorem gs_at_top (S : S_Model) (v : Int32) : g_Model_at (s_Model_top S v) = g_Model_at S := rfl
theorem gs_isFault_top (S : S_Model) (v : Int32) : g_Model_isFault (s_Model_top S v) = g_Model_isFault S := rfl
theorem gs_kinds_top (S : S_Model) (v : Int32) : g_Model_kinds (s_Model_top S v) = g_Model_kinds S := rfl
theorem gs_above_top (S : S_Model) (v : Int32) : g_Model_above (s_Model_top S v) = g_Model_above S := rfl
theorem gs_letters_top (S : S_Model) (v : Int32) : g_Model_letters (s_Model_top S v) = g_Model_letters S := rfl
theorem gs_begins_top (S : S_Model) (v : Int32) : g_Model_begins (s_Model_top S v) = g_Model_begins S := rfl
theorem gs_ends_top (S : S_Model) (v : Int32) : g_Model_ends (s_Model_top S v) = g_Model_ends S := rfl
theorem gs_used_top (S : S_Model) (v : Int32) : g_Model_used (s_Model_top S v) = g_Model_used S := rfl
theorem gs_valued_top (S : S_Model) (v : Int32) : g_Model_valued (s_Model_top S v) = g_Model_valued S := rfl
theorem gs_open_top (S : S_Model) (v : Int32) : g_Model_open (s_Model_top S v) = g_Model_open S := rfl
theorem gs_deep_top (S : S_Model) (v : Int32) : g_Model_deep (s_Model_top S v) = g_Model_deep S := rfl
theorem gs_deepest_top (S : S_Model) (v : Int32) : g_Model_deepest (s_Model_top S v) = g_Model_deepest S := rfl
theorem gs_tree_top (S : S_Model) (v : Int32) : g_Model_tree (s_Model_top S v) = g_Model_tree S := rfl
theorem gs_top_top (S : S_Model) (v : Int32) : g_Model_top (s_Model_top S v) = v := rfl
theorem gs_place_top (S : S_Model) (v : Int32) : g_Model_place (s_Model_top S v) = g_Model_place S := rfl
theorem gs_order_top (S : S_Model) (v : Int32) : g_Model_order (s_Model_top S v) = g_Model_order S := rfl
theorem gs_becameAny_top (S : S_Model) (v : Int32) : g_Model_becameAny (s_Model_top S v) = g_Model_becameAny S := rfl
theorem gs_misfit_top (S : S_Model) (v : Int32) : g_Model_misfit (s_Model_top S v) = g_Model_misfit S := rfl
theorem gs_misfitAt_top (S : S_Model) (v : Int32) : g_Model_misfitAt (s_Model_top S v) = g_Model_misfitAt S := rfl
theorem gs_misfitNode_top (S : S_Model) (v : Int32) : g_Model_misfitNode (s_Model_top S v) = g_Model_misfitNode S := rfl
theorem gs_now_place (S : S_Model) (v : Nat → Int32) : g_Model_now (s_Model_place S v) = g_Model_now S := rfl
theorem gs_past_place (S : S_Model) (v : Nat → Int32) : g_Model_past (s_Model_place S v) = g_Model_past S := rfl
theorem gs_kept_place (S : S_Model) (v : Nat → Int32) : g_Model_kept (s_Model_place S v) = g_Model_kept S := rfl
theorem gs_text_place (S : S_Model) (v : Nat → Int32) : g_Model_text (s_Model_place S v) = g_Model_text S := rfl
theorem gs_typed_place (S : S_Model) (v : Nat → Int32) : g_Model_typed (s_Model_place S v) = g_Model_typed S := rfl
theorem gs_thrown_place (S : S_Model) (v : Nat → Int32) : g_Model_thrown (s_Model_place S v) = g_Model_thrown S := rfl
theorem gs_at_place (S : S_Model) (v : Nat → Int32) : g_Model_at (s_Model_place S v) = g_Model_at S := rfl
theorem gs_isFault_place (S : S_Model) (v : Nat → Int32) : g_Model_isFault (s_Model_place S v) = g_Model_isFault S := rfl
theorem gs_kinds_place (S : S_Model) (v : Nat → Int32) : g_Model_kinds (s_Model_place S v) = g_Model_kinds S := rfl
theorem gs_above_place (S : S_Model) (v : Nat → Int32) : g_Model_above (s_Model_place S v) = g_Model_above S := rfl
theorem gs_letters_place (S : S_Model) (v : Nat → Int32) : g_Model_letters (s_Model_place S v) = g_Model_letters S := rfl
theorem gs_begins_place (S : S_Model) (v : Nat → Int32) : g_Model_begins (s_Model_place S v) = g_Model_begins S := rfl
theorem gs_ends_place (S : S_Model) (v : Nat → Int32) : g_Model_ends (s_Model_place S v) = g_Model_ends S := rfl
theorem gs_used_place (S : S_Model) (v : Nat → Int32) : g_Model_used (s_Model_place S v) = g_Model_used S := rfl
theorem gs_valued_place (S : S_Model) (v : Nat → Int32) : g_Model_valued (s_Model_place S v) = g_Model_valued S := rfl
theorem gs_open_place (S : S_Model) (v : Nat → Int32) : g_Model_open (s_Model_place S v) = g_Model_open S := rfl
theorem gs_deep_place (S : S_Model) (v : Nat → Int32) : g_Model_deep (s_Model_place S v) = g_Model_deep S := rfl
theorem gs_deepest_place (S : S_Model) (v : Nat → Int32) : g_Model_deepest (s_Model_place S v) = g_Model_deepest S := rfl
theorem gs_tree_place (S : S_Model) (v : Nat → Int32) : g_Model_tree (s_Model_place S v) = g_Model_tree S := rfl
theorem gs_top_place (S : S_Model) (v : Nat → Int32) : g_Model_top (s_Model_place S v) = g_Model_top S := rfl
theorem gs_place_place (S : S_Model) (v : Nat → Int32) : g_Model_place (s_Model_place S v) = v := rfl
theorem gs_order_place (S : S_Model) (v : Nat → Int32) : g_Model_order (s_Model_place S v) = g_Model_order S := rfl
theorem gs_becameAny_place (S : S_Model) (v : Nat → Int32) : g_Model_becameAny (s_Model_place S v) = g_Model_becameAny S := rfl
theorem gs_misfit_place (S : S_Model) (v : Nat → Int32) : g_Model_misfit (s_Model_place S v) = g_Model_misfit S := rfl
theorem gs_misfitAt_place (S : S_Model) (v : Nat → Int32) : g_Model_misfitAt (s_Model_place S v) = g_Model_misfitAt S := rfl
theorem gs_misfitNode_place (S : S_Model) (v : Nat → Int32) : g_Model_misfitNode (s_Model_place S v) = g_Model_misfitNode S := rfl
theorem gs_now_order (S : S_Model) (v : Nat → Int32) : g_Model_now (s_Model_order S v) = g_Model_now S := rfl
theorem gs_past_order (S : S_Model) (v : Nat → Int32) : g_Model_past (s_Model_order S v) = g_Model_past S := rfl
theorem gs_kept_order (S : S_Model) (v : Nat → Int32) : g_Model_kept (s_Model_order S v) = g_Model_kept S := rfl
theorem gs_text_order (S : S_Model) (v : Nat → Int32) : g_Model_text (s_Model_order S v) = g_Model_text S := rfl
theorem gs_typed_order (S : S_Model) (v : Nat → Int32) : g_Model_typed (s_Model_order S v) = g_Model_typed S := rfl
theorem gs_thrown_order (S : S_Model) (v : Nat → Int32) : g_Model_thrown (s_Model_order S v) = g_Model_thrown S := rfl
theorem gs_at_order (S : S_Model) (v : Nat → Int32) : g_Model_at (s_Model_order S v) = g_Model_at S := rfl
theorem gs_isFault_order (S : S_Model) (v : Nat → Int32) : g_Model_isFault (s_Model_order S v) = g_Model_isFault S := rfl
theorem gs_kinds_order (S : S_Model) (v : Nat → Int32) : g_Model_kinds (s_Model_order S v) = g_Model_kinds S := rfl
theorem gs_above_order (S : S_Model) (v : Nat → Int32) : g_Model_above (s_Model_order S v) = g_Model_above S := rfl
theorem gs_letters_order (S : S_Model) (v : Nat → Int32) : g_Model_letters (s_Model_order S v) = g_Model_letters S := rfl
theorem gs_begins_order (S : S_Model) (v : Nat → Int32) : g_Model_begins (s_Model_order S v) = g_Model_begins S := rfl
theorem gs_ends_order (S : S_Model) (v : Nat → Int32) : g_Model_ends (s_Model_order S v) = g_Model_ends S := rfl
theorem gs_used_order (S : S_Model) (v : Nat → Int32) : g_Model_used (s_Model_order S v) = g_Model_used S := rfl
theorem gs_valued_order (S : S_Model) (v : Nat → Int32) : g_Model_valued (s_Model_order S v) = g_Model_valued S := rfl
theorem gs_open_order (S : S_Model) (v : Nat → Int32) : g_Model_open (s_Model_order S v) = g_Model_open S := rfl
theorem gs_deep_order (S : S_Model) (v : Nat → Int32) : g_Model_deep (s_Model_order S v) = g_Model_deep S := rfl
theorem gs_deepest_order (S : S_Model) (v : Nat → Int32) : g_Model_deepest (s_Model_order S v) = g_Model_deepest S := rfl
theorem gs_tree_order (S : S_Model) (v : Nat → Int32) : g_Model_tree (s_Model_order S v) = g_Model_tree S := rfl
theorem gs_top_order (S : S_Model) (v : Nat → Int32) : g_Model_top (s_Model_order S v) = g_Model_top S := rfl
theorem gs_place_order (S : S_Model) (v : Nat → Int32) : g_Model_place (s_Model_order S v) = g_Model_place S := rfl
theorem gs_order_order (S : S_Model) (v : Nat → Int32) : g_Model_order (s_Model_order S v) = v := rfl
theorem gs_becameAny_order (S : S_Model) (v : Nat → Int32) : g_Model_becameAny (s_Model_order S v) = g_Model_becameAny S := rfl
theorem gs_misfit_order (S : S_Model) (v : Nat → Int32) : g_Model_misfit (s_Model_order S v) = g_Model_misfit S := rfl
theorem gs_misfitAt_order (S : S_Model) (v : Nat → Int32) : g_Model_misfitAt (s_Model_order S v) = g_Model_misfitAt S := rfl
theorem gs_misfitNode_order (S : S_Model) (v : Nat → Int32) : g_Model_misfitNode (s_Model_order S v) = g_Model_misfitNode S := rfl
theorem gs_now_becameAny (S : S_Model) (v : Int32) : g_Model_now (s_Model_becameAny S v) = g_Model_now S := rfl
theorem gs_past_becameAny (S : S_Model) (v : Int32) : g_Model_past (s_Model_becameAny S v) = g_Model_past S := rfl
theorem gs_kept_becameAny (S : S_Model) (v : Int32) : g_Model_kept (s_Model_becameAny S v) = g_Model_kept S := rfl
theorem gs_text_becameAny (S : S_Model) (v : Int32) : g_Model_text (s_Model_becameAny S v) = g_Model_text S := rfl
theorem gs_typed_becameAny (S : S_Model) (v : Int32) : g_Model_typed (s_Model_becameAny S v) = g_Model_typed S := rfl
theorem gs_thrown_becameAny (S : S_Model) (v : Int32) : g_Model_thrown (s_Model_becameAny S v) = g_Model_thrown S := rfl
theorem gs_at_becameAny (S : S_Model) (v : Int32) : g_Model_at (s_Model_becameAny S v) = g_Model_at S := rfl
theorem gs_isFault_becameAny (S : S_Model) (v : Int32) : g_Model_isFault (s_Model_becameAny S v) = g_Model_isFault S := rfl
theorem gs_kinds_becameAny (S : S_Model) (v : Int32) : g_Model_kinds (s_Model_becameAny S v) = g_Model_kinds S := rfl
theorem gs_above_becameAny (S : S_Model) (v : Int32) : g_Model_above (s_Model_becameAny S v) = g_Model_above S := rfl
theorem gs_letters_becameAny (S : S_Model) (v : Int32) : g_Model_letters (s_Model_becameAny S v) = g_Model_letters S := rfl
theorem gs_begins_becameAny (S : S_Model) (v : Int32) : g_Model_begins (s_Model_becameAny S v) = g_Model_begins S := rfl
theorem gs_ends_becameAny (S : S_Model) (v : Int32) : g_Model_ends (s_Model_becameAny S v) = g_Model_ends S := rfl
theorem gs_used_becameAny (S : S_Model) (v : Int32) : g_Model_used (s_Model_becameAny S v) = g_Model_used S := rfl
theorem gs_valued_becameAny (S : S_Model) (v : Int32) : g_Model_valued (s_Model_becameAny S v) = g_Model_valued S := rfl
theorem gs_open_becameAny (S : S_Model) (v : Int32) : g_Model_open (s_Model_becameAny S v) = g_Model_open S := rfl
theorem gs_deep_becameAny (S : S_Model) (v : Int32) : g_Model_deep (s_Model_becameAny S v) = g_Model_deep S := rfl
theorem gs_deepest_becameAny (S : S_Model) (v : Int32) : g_Model_deepest (s_Model_becameAny S v) = g_Model_deepest S := rfl
theorem gs_tree_becameAny (S : S_Model) (v : Int32) : g_Model_tree (s_Model_becameAny S v) = g_Model_tree S := rfl
theorem gs_top_becameAny (S : S_Model) (v : Int32) : g_Model_top (s_Model_becameAny S v) = g_Model_top S := rfl
theorem gs_place_becameAny (S : S_Model) (v : Int32) : g_Model_place (s_Model_becameAny S v) = g_Model_place S := rfl
theorem gs_order_becameAny (S : S_Model) (v : Int32) : g_Model_order (s_Model_becameAny S v) = g_Model_order S := rfl
theorem gs_becameAny_becameAny (S : S_Model) (v : Int32) : g_Model_becameAny (s_Model_becameAny S v) = v := rfl
theorem gs_misfit_becameAny (S : S_Model) (v : Int32) : g_Model_misfit (s_Model_becameAny S v) = g_Model_misfit S := rfl
theorem gs_misfitAt_becameAny (S : S_Model) (v : Int32) : g_Model_misfitAt (s_Model_becameAny S v) = g_Model_misfitAt S := rfl
theorem gs_misfitNode_becameAny (S : S_Model) (v : Int32) : g_Model_misfitNode (s_Model_becameAny S v) = g_Model_misfitNode S := rfl
theorem gs_now_misfit (S : S_Model) (v : Int32) : g_Model_now (s_Model_misfit S v) = g_Model_now S := rfl
theorem gs_past_misfit (S : S_Model) (v : Int32) : g_Model_past (s_Model_misfit S v) = g_Model_past S := rfl
theorem gs_kept_misfit (S : S_Model) (v : Int32) : g_Model_kept (s_Model_misfit S v) = g_Model_kept S := rfl
theorem gs_text_misfit (S : S_Model) (v : Int32) : g_Model_text (s_Model_misfit S v) = g_Model_text S := rfl
theorem gs_typed_misfit (S : S_Model) (v : Int32) : g_Model_typed (s_Model_misfit S v) = g_Model_typed S := rfl
theorem gs_thrown_misfit (S : S_Model) (v : Int32) : g_Model_thrown (s_Model_misfit S v) = g_Model_thrown S := rfl
theorem gs_at_misfit (S : S_Model) (v : Int32) : g_Model_at (s_Model_misfit S v) = g_Model_at S := rfl
theorem gs_isFault_misfit (S : S_Model) (v : Int32) : g_Model_isFault (s_Model_misfit S v) = g_Model_isFault S := rfl
theorem gs_kinds_misfit (S : S_Model) (v : Int32) : g_Model_kinds (s_Model_misfit S v) = g_Model_kinds S := rfl
theorem gs_above_misfit (S : S_Model) (v : Int32) : g_Model_above (s_Model_misfit S v) = g_Model_above S := rfl
theorem gs_letters_misfit (S : S_Model) (v : Int32) : g_Model_letters (s_Model_misfit S v) = g_Model_letters S := rfl
theorem gs_begins_misfit (S : S_Model) (v : Int32) : g_Model_begins (s_Model_misfit S v) = g_Model_begins S := rfl
theorem gs_ends_misfit (S : S_Model) (v : Int32) : g_Model_ends (s_Model_misfit S v) = g_Model_ends S := rfl
theorem gs_used_misfit (S : S_Model) (v : Int32) : g_Model_used (s_Model_misfit S v) = g_Model_used S := rfl
theorem gs_valued_misfit (S : S_Model) (v : Int32) : g_Model_valued (s_Model_misfit S v) = g_Model_valued S := rfl
theorem gs_open_misfit (S : S_Model) (v : Int32) : g_Model_open (s_Model_misfit S v) = g_Model_open S := rfl
theorem gs_deep_misfit (S : S_Model) (v : Int32) : g_Model_deep (s_Model_misfit S v) = g_Model_deep S := rfl
theorem gs_deepest_misfit (S : S_Model) (v : Int32) : g_Model_deepest (s_Model_misfit S v) = g_Model_deepest S := rfl
theorem gs_tree_misfit (S : S_Model) (v : Int32) : g_Model_tree (s_Model_misfit S v) = g_Model_tree S := rfl
theorem gs_top_misfit (S : S_Model) (v : Int32) : g_Model_top (s_Model_misfit S v) = g_Model_top S := rfl
theorem gs_place_misfit (S : S_Model) (v : Int32) : g_Model_place (s_Model_misfit S v) = g_Model_place S := rfl
theorem gs_order_misfit (S : S_Model) (v : Int32) : g_Model_order (s_Model_misfit S v) = g_Model_order S := rfl
theorem gs_becameAny_misfit (S : S_Model) (v : Int32) : g_Model_becameAny (s_Model_misfit S v) = g_Model_becameAny S := rfl
theorem gs_misfit_misfit (S : S_Model) (v : Int32) : g_Model_misfit (s_Model_misfit S v) = v := rfl
theorem gs_misfitAt_misfit (S : S_Model) (v : Int32) : g_Model_misfitAt (s_Model_misfit S v) = g_Model_misfitAt S := rfl
theorem gs_misfitNode_misfit (S : S_Model) (v : Int32) : g_Model_misfitNode (s_Model_misfit S v) = g_Model_misfitNode S := rfl
theorem gs_now_misfitAt (S : S_Model) (v : Int32) : g_Model_now (s_Model_misfitAt S v) = g_Model_now S := rfl
theorem gs_past_misfitAt (S : S_Model) (v : Int32) : g_Model_past (s_Model_misfitAt S v) = g_Model_past S := rfl
theorem gs_kept_misfitAt (S : S_Model) (v : Int32) : g_Model_kept (s_Model_misfitAt S v) = g_Model_kept S := rfl
theorem gs_text_misfitAt (S : S_Model) (v : Int32) : g_Model_text (s_Model_misfitAt S v) = g_Model_text S := rfl
theorem gs_typed_misfitAt (S : S_Model) (v : Int32) : g_Model_typed (s_Model_misfitAt S v) = g_Model_typed S := rfl
theorem gs_thrown_misfitAt (S : S_Model) (v : Int32) : g_Model_thrown (s_Model_misfitAt S v) = g_Model_thrown S := rfl
theorem gs_at_misfitAt (S : S_Model) (v : Int32) : g_Model_at (s_Model_misfitAt S v) = g_Model_at S := rfl
theorem gs_isFault_misfitAt (S : S_Model) (v : Int32) : g_Model_isFault (s_Model_misfitAt S v) = g_Model_isFault S := rfl
theorem gs_kinds_misfitAt (S : S_Model) (v : Int32) : g_Model_kinds (s_Model_misfitAt S v) = g_Model_kinds S := rfl
theorem gs_above_misfitAt (S : S_Model) (v : Int32) : g_Model_above (s_Model_misfitAt S v) = g_Model_above S := rfl
theorem gs_letters_misfitAt (S : S_Model) (v : Int32) : g_Model_letters (s_Model_misfitAt S v) = g_Model_letters S := rfl
theorem gs_begins_misfitAt (S : S_Model) (v : Int32) : g_Model_begins (s_Model_misfitAt S v) = g_Model_begins S := rfl
theorem gs_ends_misfitAt (S : S_Model) (v : Int32) : g_Model_ends (s_Model_misfitAt S v) = g_Model_ends S := rfl
theorem gs_used_misfitAt (S : S_Model) (v : Int32) : g_Model_used (s_Model_misfitAt S v) = g_Model_used S := rfl
theorem gs_valued_misfitAt (S : S_Model) (v : Int32) : g_Model_valued (s_Model_misfitAt S v) = g_Model_valued S := rfl
theorem gs_open_misfitAt (S : S_Model) (v : Int32) : g_Model_open (s_Model_misfitAt S v) = g_Model_open S := rfl
theorem gs_deep_misfitAt (S : S_Model) (v : Int32) : g_Model_deep (s_Model_misfitAt S v) = g_Model_deep S := rfl
theorem gs_deepest_misfitAt (S : S_Model) (v : Int32) : g_Model_deepest (s_Model_misfitAt S v) = g_Model_deepest S := rfl
theorem gs_tree_misfitAt (S : S_Model) (v : Int32) : g_Model_tree (s_Model_misfitAt S v) = g_Model_tree S := rfl
theorem gs_top_misfitAt (S : S_Model) (v : Int32) : g_Model_top (s_Model_misfitAt S v) = g_Model_top S := rfl
theorem gs_place_misfitAt (S : S_Model) (v : Int32) : g_Model_place (s_Model_misfitAt S v) = g_Model_place S := rfl
theorem gs_order_misfitAt (S : S_Model) (v : Int32) : g_Model_order (s_Model_misfitAt S v) = g_Model_order S := rfl
theorem gs_becameAny_misfitAt (S : S_Model) (v : Int32) : g_Model_becameAny (s_Model_misfitAt S v) = g_Model_becameAny S := rfl
theorem gs_misfit_misfitAt (S : S_Model) (v : Int32) : g_Model_misfit (s_Model_misfitAt S v) = g_Model_misfit S := rfl
theorem gs_misfitAt_misfitAt (S : S_Model) (v : Int32) : g_Model_misfitAt (s_Model_misfitAt S v) = v := rfl
theorem gs_misfitNode_misfitAt (S : S_Model) (v : Int32) : g_Model_misfitNode (s_Model_misfitAt S v) = g_Model_misfitNode S := rfl
theorem gs_now_misfitNode (S : S_Model) (v : Int32) : g_Model_now (s_Model_misfitNode S v) = g_Model_now S := rfl
theorem gs_past_misfitNode (S : S_Model) (v : Int32) : g_Model_past (s_Model_misfitNode S v) = g_Model_past S := rfl
theorem gs_kept_misfitNode (S : S_Model) (v : Int32) : g_Model_kept (s_Model_misfitNode S v) = g_Model_kept S := rfl
theorem gs_text_misfitNode (S : S_Model) (v : Int32) : g_Model_text (s_Model_misfitNode S v) = g_Model_text S := rfl
theorem gs_typed_misfitNode (S : S_Model) (v : Int32) : g_Model_typed (s_Model_misfitNode S v) = g_Model_typed S := rfl
theorem gs_thrown_misfitNode (S : S_Model) (v : Int32) : g_Model_thrown (s_Model_misfitNode S v) = g_Model_thrown S := rfl
theorem gs_at_misfitNode (S : S_Model) (v : Int32) : g_Model_at (s_Model_misfitNode S v) = g_Model_at S := rfl
theorem gs_isFault_misfitNode (S : S_Model) (v : Int32) : g_Model_isFault (s_Model_misfitNode S v) = g_Model_isFault S := rfl
theorem gs_kinds_misfitNode (S : S_Model) (v : Int32) : g_Model_kinds (s_Model_misfitNode S v) = g_Model_kinds S := rfl
theorem gs_above_misfitNode (S : S_Model) (v : Int32) : g_Model_above (s_Model_misfitNode S v) = g_Model_above S := rfl
theorem gs_letters_misfitNode (S : S_Model) (v : Int32) : g_Model_letters (s_Model_misfitNode S v) = g_Model_letters S := rfl
theorem gs_begins_misfitNode (S : S_Model) (v : Int32) : g_Model_begins (s_Model_misfitNode S v) = g_Model_begins S := rfl
theorem gs_ends_misfitNode (S : S_Model) (v : Int32) : g_Model_ends (s_Model_misfitNode S v) = g_Model_ends S := rfl
theorem gs_used_misfitNode (S : S_Model) (v : Int32) : g_Model_used (s_Model_misfitNode S v) = g_Model_used S := rfl
theorem gs_valued_misfitNode (S : S_Model) (v : Int32) : g_Model_valued (s_Model_misfitNode S v) = g_Model_valued S := rfl
theorem gs_open_misfitNode (S : S_Model) (v : Int32) : g_Model_open (s_Model_misfitNode S v) = g_Model_open S := rfl
theorem gs_deep_misfitNode (S : S_Model) (v : Int32) : g_Model_deep (s_Model_misfitNode S v) = g_Model_deep S := rfl
theorem gs_deepest_misfitNode (S : S_Model) (v : Int32) : g_Model_deepest (s_Model_misfitNode S v) = g_Model_deepest S := rfl
theorem gs_tree_misfitNode (S : S_Model) (v : Int32) : g_Model_tree (s_Model_misfitNode S v) = g_Model_tree S := rfl
theorem gs_top_misfitNode (S : S_Model) (v : Int32) : g_Model_top (s_Model_misfitNode S v) = g_Model_top S := rfl
theorem gs_place_misfitNode (S : S_Model) (v : Int32) : g_Model_place (s_Model_misfitNode S v) = g_Model_place S := rfl
theorem gs_order_misfitNode (S : S_Model) (v : Int32) : g_Model_order (s_Model_misfitNode S v) = g_Model_order S := rfl
theorem gs_becameAny_misfitNode (S : S_Model) (v : Int32) : g_Model_becameAny (s_Model_misfitNode S v) = g_Model_becameAny S := rfl
theorem gs_misfit_misfitNode (S : S_Model) (v : Int32) : g_Model_misfit (s_Model_misfitNode S v) = g_Model_misfit S := rfl
theorem gs_misfitAt_misfitNode (S : S_Model) (v : Int32) : g_Model_misfitAt (s_Model_misfitNode S v) = g_Model_misfitAt S := rfl
theorem gs_misfitNode_misfitNode (S : S_Model) (v : Int32) : g_Model_misfitNode (s_Model_misfitNode S v) = v := rfl
