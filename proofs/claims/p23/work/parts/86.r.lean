/-! ===== pure: states of the reference, put in one form ===== -/
theorem s_ext {S S' : S_Model} (h_now : g_Model_now S = g_Model_now S') (h_past : g_Model_past S = g_Model_past S') (h_kept : g_Model_kept S = g_Model_kept S') (h_text : g_Model_text S = g_Model_text S') (h_typed : g_Model_typed S = g_Model_typed S') (h_thrown : g_Model_thrown S = g_Model_thrown S') (h_at : g_Model_at S = g_Model_at S') (h_isFault : g_Model_isFault S = g_Model_isFault S') (h_kinds : g_Model_kinds S = g_Model_kinds S') (h_above : g_Model_above S = g_Model_above S') (h_letters : g_Model_letters S = g_Model_letters S') (h_begins : g_Model_begins S = g_Model_begins S') (h_ends : g_Model_ends S = g_Model_ends S') (h_used : g_Model_used S = g_Model_used S') (h_valued : g_Model_valued S = g_Model_valued S') (h_open : g_Model_open S = g_Model_open S') (h_deep : g_Model_deep S = g_Model_deep S') (h_deepest : g_Model_deepest S = g_Model_deepest S') (h_tree : g_Model_tree S = g_Model_tree S') (h_top : g_Model_top S = g_Model_top S') (h_place : g_Model_place S = g_Model_place S') (h_order : g_Model_order S = g_Model_order S') (h_becameAny : g_Model_becameAny S = g_Model_becameAny S') (h_misfit : g_Model_misfit S = g_Model_misfit S') (h_misfitAt : g_Model_misfitAt S = g_Model_misfitAt S') (h_misfitNode : g_Model_misfitNode S = g_Model_misfitNode S') : S = S' := by
  obtain ⟨a0, a1, a2, a3, a4, a5, a6, a7, a8, a9, a10, a11, a12, a13, a14, a15, a16, a17, a18, a19, a20, a21, a22, a23, a24, a25⟩ := S
  obtain ⟨b0, b1, b2, b3, b4, b5, b6, b7, b8, b9, b10, b11, b12, b13, b14, b15, b16, b17, b18, b19, b20, b21, b22, b23, b24, b25⟩ := S'
  have h_now : a0 = b0 := h_now
  have h_past : a1 = b1 := h_past
  have h_kept : a2 = b2 := h_kept
  have h_text : a3 = b3 := h_text
  have h_typed : a4 = b4 := h_typed
  have h_thrown : a5 = b5 := h_thrown
  have h_at : a6 = b6 := h_at
  have h_isFault : a7 = b7 := h_isFault
  have h_kinds : a8 = b8 := h_kinds
  have h_above : a9 = b9 := h_above
  have h_letters : a10 = b10 := h_letters
  have h_begins : a11 = b11 := h_begins
  have h_ends : a12 = b12 := h_ends
  have h_used : a13 = b13 := h_used
  have h_valued : a14 = b14 := h_valued
  have h_open : a15 = b15 := h_open
  have h_deep : a16 = b16 := h_deep
  have h_deepest : a17 = b17 := h_deepest
  have h_tree : a18 = b18 := h_tree
  have h_top : a19 = b19 := h_top
  have h_place : a20 = b20 := h_place
  have h_order : a21 = b21 := h_order
  have h_becameAny : a22 = b22 := h_becameAny
  have h_misfit : a23 = b23 := h_misfit
  have h_misfitAt : a24 = b24 := h_misfitAt
  have h_misfitNode : a25 = b25 := h_misfitNode
  subst h_now
  subst h_past
  subst h_kept
  subst h_text
  subst h_typed
  subst h_thrown
  subst h_at
  subst h_isFault
  subst h_kinds
  subst h_above
  subst h_letters
  subst h_begins
  subst h_ends
  subst h_used
  subst h_valued
  subst h_open
  subst h_deep
  subst h_deepest
  subst h_tree
  subst h_top
  subst h_place
  subst h_order
  subst h_becameAny
  subst h_misfit
  subst h_misfitAt
  subst h_misfitNode
  rfl
def stb (S : S_Model) (t : Nat → Int32) (b : Int32) : S_Model := s_Model_becameAny (s_Model_tree S t) b
def smv (S : S_Model) (t : Nat → Int32) (n : Nat) (b : Int32) (p : Nat → Int32) : S_Model := s_Model_place (s_Model_becameAny (s_Model_top (s_Model_tree S t) (nI n)) b) p
theorem stb_now (S : S_Model) (t : Nat → Int32) (b : Int32) : g_Model_now (stb S t b) = g_Model_now S := by
  unfold stb
  rw [gs_now_becameAny, gs_now_tree]
theorem smv_now (S : S_Model) (t : Nat → Int32) (n : Nat) (b : Int32) (p : Nat → Int32) : g_Model_now (smv S t n b p) = g_Model_now S := by
  unfold smv
  rw [gs_now_place, gs_now_becameAny, gs_now_top, gs_now_tree]
theorem stb_past (S : S_Model) (t : Nat → Int32) (b : Int32) : g_Model_past (stb S t b) = g_Model_past S := by
  unfold stb
  rw [gs_past_becameAny, gs_past_tree]
theorem smv_past (S : S_Model) (t : Nat → Int32) (n : Nat) (b : Int32) (p : Nat → Int32) : g_Model_past (smv S t n b p) = g_Model_past S := by
  unfold smv
  rw [gs_past_place, gs_past_becameAny, gs_past_top, gs_past_tree]
theorem stb_kept (S : S_Model) (t : Nat → Int32) (b : Int32) : g_Model_kept (stb S t b) = g_Model_kept S := by
  unfold stb
  rw [gs_kept_becameAny, gs_kept_tree]
theorem smv_kept (S : S_Model) (t : Nat → Int32) (n : Nat) (b : Int32) (p : Nat → Int32) : g_Model_kept (smv S t n b p) = g_Model_kept S := by
  unfold smv
  rw [gs_kept_place, gs_kept_becameAny, gs_kept_top, gs_kept_tree]
theorem stb_text (S : S_Model) (t : Nat → Int32) (b : Int32) : g_Model_text (stb S t b) = g_Model_text S := by
  unfold stb
  rw [gs_text_becameAny, gs_text_tree]
theorem smv_text (S : S_Model) (t : Nat → Int32) (n : Nat) (b : Int32) (p : Nat → Int32) : g_Model_text (smv S t n b p) = g_Model_text S := by
  unfold smv
  rw [gs_text_place, gs_text_becameAny, gs_text_top, gs_text_tree]
theorem stb_typed (S : S_Model) (t : Nat → Int32) (b : Int32) : g_Model_typed (stb S t b) = g_Model_typed S := by
  unfold stb
  rw [gs_typed_becameAny, gs_typed_tree]
theorem smv_typed (S : S_Model) (t : Nat → Int32) (n : Nat) (b : Int32) (p : Nat → Int32) : g_Model_typed (smv S t n b p) = g_Model_typed S := by
  unfold smv
  rw [gs_typed_place, gs_typed_becameAny, gs_typed_top, gs_typed_tree]
theorem stb_thrown (S : S_Model) (t : Nat → Int32) (b : Int32) : g_Model_thrown (stb S t b) = g_Model_thrown S := by
  unfold stb
  rw [gs_thrown_becameAny, gs_thrown_tree]
theorem smv_thrown (S : S_Model) (t : Nat → Int32) (n : Nat) (b : Int32) (p : Nat → Int32) : g_Model_thrown (smv S t n b p) = g_Model_thrown S := by
  unfold smv
  rw [gs_thrown_place, gs_thrown_becameAny, gs_thrown_top, gs_thrown_tree]
theorem stb_at (S : S_Model) (t : Nat → Int32) (b : Int32) : g_Model_at (stb S t b) = g_Model_at S := by
  unfold stb
  rw [gs_at_becameAny, gs_at_tree]
theorem smv_at (S : S_Model) (t : Nat → Int32) (n : Nat) (b : Int32) (p : Nat → Int32) : g_Model_at (smv S t n b p) = g_Model_at S := by
  unfold smv
  rw [gs_at_place, gs_at_becameAny, gs_at_top, gs_at_tree]
theorem stb_isFault (S : S_Model) (t : Nat → Int32) (b : Int32) : g_Model_isFault (stb S t b) = g_Model_isFault S := by
  unfold stb
  rw [gs_isFault_becameAny, gs_isFault_tree]
theorem smv_isFault (S : S_Model) (t : Nat → Int32) (n : Nat) (b : Int32) (p : Nat → Int32) : g_Model_isFault (smv S t n b p) = g_Model_isFault S := by
  unfold smv
  rw [gs_isFault_place, gs_isFault_becameAny, gs_isFault_top, gs_isFault_tree]
theorem stb_kinds (S : S_Model) (t : Nat → Int32) (b : Int32) : g_Model_kinds (stb S t b) = g_Model_kinds S := by
  unfold stb
  rw [gs_kinds_becameAny, gs_kinds_tree]
theorem smv_kinds (S : S_Model) (t : Nat → Int32) (n : Nat) (b : Int32) (p : Nat → Int32) : g_Model_kinds (smv S t n b p) = g_Model_kinds S := by
  unfold smv
  rw [gs_kinds_place, gs_kinds_becameAny, gs_kinds_top, gs_kinds_tree]
theorem stb_above (S : S_Model) (t : Nat → Int32) (b : Int32) : g_Model_above (stb S t b) = g_Model_above S := by
  unfold stb
  rw [gs_above_becameAny, gs_above_tree]
theorem smv_above (S : S_Model) (t : Nat → Int32) (n : Nat) (b : Int32) (p : Nat → Int32) : g_Model_above (smv S t n b p) = g_Model_above S := by
  unfold smv
  rw [gs_above_place, gs_above_becameAny, gs_above_top, gs_above_tree]
theorem stb_letters (S : S_Model) (t : Nat → Int32) (b : Int32) : g_Model_letters (stb S t b) = g_Model_letters S := by
  unfold stb
  rw [gs_letters_becameAny, gs_letters_tree]
theorem smv_letters (S : S_Model) (t : Nat → Int32) (n : Nat) (b : Int32) (p : Nat → Int32) : g_Model_letters (smv S t n b p) = g_Model_letters S := by
  unfold smv
  rw [gs_letters_place, gs_letters_becameAny, gs_letters_top, gs_letters_tree]
theorem stb_begins (S : S_Model) (t : Nat → Int32) (b : Int32) : g_Model_begins (stb S t b) = g_Model_begins S := by
  unfold stb
  rw [gs_begins_becameAny, gs_begins_tree]
theorem smv_begins (S : S_Model) (t : Nat → Int32) (n : Nat) (b : Int32) (p : Nat → Int32) : g_Model_begins (smv S t n b p) = g_Model_begins S := by
  unfold smv
  rw [gs_begins_place, gs_begins_becameAny, gs_begins_top, gs_begins_tree]
theorem stb_ends (S : S_Model) (t : Nat → Int32) (b : Int32) : g_Model_ends (stb S t b) = g_Model_ends S := by
  unfold stb
  rw [gs_ends_becameAny, gs_ends_tree]
theorem smv_ends (S : S_Model) (t : Nat → Int32) (n : Nat) (b : Int32) (p : Nat → Int32) : g_Model_ends (smv S t n b p) = g_Model_ends S := by
  unfold smv
  rw [gs_ends_place, gs_ends_becameAny, gs_ends_top, gs_ends_tree]
theorem stb_used (S : S_Model) (t : Nat → Int32) (b : Int32) : g_Model_used (stb S t b) = g_Model_used S := by
  unfold stb
  rw [gs_used_becameAny, gs_used_tree]
theorem smv_used (S : S_Model) (t : Nat → Int32) (n : Nat) (b : Int32) (p : Nat → Int32) : g_Model_used (smv S t n b p) = g_Model_used S := by
  unfold smv
  rw [gs_used_place, gs_used_becameAny, gs_used_top, gs_used_tree]
theorem stb_valued (S : S_Model) (t : Nat → Int32) (b : Int32) : g_Model_valued (stb S t b) = g_Model_valued S := by
  unfold stb
  rw [gs_valued_becameAny, gs_valued_tree]
theorem smv_valued (S : S_Model) (t : Nat → Int32) (n : Nat) (b : Int32) (p : Nat → Int32) : g_Model_valued (smv S t n b p) = g_Model_valued S := by
  unfold smv
  rw [gs_valued_place, gs_valued_becameAny, gs_valued_top, gs_valued_tree]
theorem stb_open (S : S_Model) (t : Nat → Int32) (b : Int32) : g_Model_open (stb S t b) = g_Model_open S := by
  unfold stb
  rw [gs_open_becameAny, gs_open_tree]
theorem smv_open (S : S_Model) (t : Nat → Int32) (n : Nat) (b : Int32) (p : Nat → Int32) : g_Model_open (smv S t n b p) = g_Model_open S := by
  unfold smv
  rw [gs_open_place, gs_open_becameAny, gs_open_top, gs_open_tree]
theorem stb_deep (S : S_Model) (t : Nat → Int32) (b : Int32) : g_Model_deep (stb S t b) = g_Model_deep S := by
  unfold stb
  rw [gs_deep_becameAny, gs_deep_tree]
theorem smv_deep (S : S_Model) (t : Nat → Int32) (n : Nat) (b : Int32) (p : Nat → Int32) : g_Model_deep (smv S t n b p) = g_Model_deep S := by
  unfold smv
  rw [gs_deep_place, gs_deep_becameAny, gs_deep_top, gs_deep_tree]
theorem stb_deepest (S : S_Model) (t : Nat → Int32) (b : Int32) : g_Model_deepest (stb S t b) = g_Model_deepest S := by
  unfold stb
  rw [gs_deepest_becameAny, gs_deepest_tree]
theorem smv_deepest (S : S_Model) (t : Nat → Int32) (n : Nat) (b : Int32) (p : Nat → Int32) : g_Model_deepest (smv S t n b p) = g_Model_deepest S := by
  unfold smv
  rw [gs_deepest_place, gs_deepest_becameAny, gs_deepest_top, gs_deepest_tree]
theorem stb_tree (S : S_Model) (t : Nat → Int32) (b : Int32) : g_Model_tree (stb S t b) = t := by
  unfold stb
  rw [gs_tree_becameAny, gs_tree_tree]
theorem smv_tree (S : S_Model) (t : Nat → Int32) (n : Nat) (b : Int32) (p : Nat → Int32) : g_Model_tree (smv S t n b p) = t := by
  unfold smv
  rw [gs_tree_place, gs_tree_becameAny, gs_tree_top, gs_tree_tree]
theorem stb_top (S : S_Model) (t : Nat → Int32) (b : Int32) : g_Model_top (stb S t b) = g_Model_top S := by
  unfold stb
  rw [gs_top_becameAny, gs_top_tree]
theorem smv_top (S : S_Model) (t : Nat → Int32) (n : Nat) (b : Int32) (p : Nat → Int32) : g_Model_top (smv S t n b p) = nI n := by
  unfold smv
  rw [gs_top_place, gs_top_becameAny, gs_top_top]
theorem stb_place (S : S_Model) (t : Nat → Int32) (b : Int32) : g_Model_place (stb S t b) = g_Model_place S := by
  unfold stb
  rw [gs_place_becameAny, gs_place_tree]
theorem smv_place (S : S_Model) (t : Nat → Int32) (n : Nat) (b : Int32) (p : Nat → Int32) : g_Model_place (smv S t n b p) = p := by
  unfold smv
  rw [gs_place_place]
theorem stb_order (S : S_Model) (t : Nat → Int32) (b : Int32) : g_Model_order (stb S t b) = g_Model_order S := by
  unfold stb
  rw [gs_order_becameAny, gs_order_tree]
theorem smv_order (S : S_Model) (t : Nat → Int32) (n : Nat) (b : Int32) (p : Nat → Int32) : g_Model_order (smv S t n b p) = g_Model_order S := by
  unfold smv
  rw [gs_order_place, gs_order_becameAny, gs_order_top, gs_order_tree]
theorem stb_becameAny (S : S_Model) (t : Nat → Int32) (b : Int32) : g_Model_becameAny (stb S t b) = b := by
  unfold stb
  rw [gs_becameAny_becameAny]
theorem smv_becameAny (S : S_Model) (t : Nat → Int32) (n : Nat) (b : Int32) (p : Nat → Int32) : g_Model_becameAny (smv S t n b p) = b := by
  unfold smv
  rw [gs_becameAny_place, gs_becameAny_becameAny]
theorem stb_misfit (S : S_Model) (t : Nat → Int32) (b : Int32) : g_Model_misfit (stb S t b) = g_Model_misfit S := by
  unfold stb
  rw [gs_misfit_becameAny, gs_misfit_tree]
theorem smv_misfit (S : S_Model) (t : Nat → Int32) (n : Nat) (b : Int32) (p : Nat → Int32) : g_Model_misfit (smv S t n b p) = g_Model_misfit S := by
  unfold smv
  rw [gs_misfit_place, gs_misfit_becameAny, gs_misfit_top, gs_misfit_tree]
theorem stb_misfitAt (S : S_Model) (t : Nat → Int32) (b : Int32) : g_Model_misfitAt (stb S t b) = g_Model_misfitAt S := by
  unfold stb
  rw [gs_misfitAt_becameAny, gs_misfitAt_tree]
theorem smv_misfitAt (S : S_Model) (t : Nat → Int32) (n : Nat) (b : Int32) (p : Nat → Int32) : g_Model_misfitAt (smv S t n b p) = g_Model_misfitAt S := by
  unfold smv
  rw [gs_misfitAt_place, gs_misfitAt_becameAny, gs_misfitAt_top, gs_misfitAt_tree]
theorem stb_misfitNode (S : S_Model) (t : Nat → Int32) (b : Int32) : g_Model_misfitNode (stb S t b) = g_Model_misfitNode S := by
  unfold stb
  rw [gs_misfitNode_becameAny, gs_misfitNode_tree]
theorem smv_misfitNode (S : S_Model) (t : Nat → Int32) (n : Nat) (b : Int32) (p : Nat → Int32) : g_Model_misfitNode (smv S t n b p) = g_Model_misfitNode S := by
  unfold smv
  rw [gs_misfitNode_place, gs_misfitNode_becameAny, gs_misfitNode_top, gs_misfitNode_tree]
theorem stb_def (S : S_Model) (t : Nat → Int32) (b : Int32) : s_Model_becameAny (s_Model_tree S t) b = stb S t b := rfl
theorem stb_eta (S : S_Model) : S = stb S (g_Model_tree S) (g_Model_becameAny S) :=
  s_ext (by rw [stb_now]) (by rw [stb_past]) (by rw [stb_kept]) (by rw [stb_text]) (by rw [stb_typed]) (by rw [stb_thrown]) (by rw [stb_at]) (by rw [stb_isFault]) (by rw [stb_kinds]) (by rw [stb_above]) (by rw [stb_letters]) (by rw [stb_begins]) (by rw [stb_ends]) (by rw [stb_used]) (by rw [stb_valued]) (by rw [stb_open]) (by rw [stb_deep]) (by rw [stb_deepest]) (by rw [stb_tree]) (by rw [stb_top]) (by rw [stb_place]) (by rw [stb_order]) (by rw [stb_becameAny]) (by rw [stb_misfit]) (by rw [stb_misfitAt]) (by rw [stb_misfitNode])
theorem stb_t (S : S_Model) (t : Nat → Int32) : s_Model_tree S t = stb S t (g_Model_becameAny S) :=
  s_ext (by rw [gs_now_tree, stb_now]) (by rw [gs_past_tree, stb_past]) (by rw [gs_kept_tree, stb_kept]) (by rw [gs_text_tree, stb_text]) (by rw [gs_typed_tree, stb_typed]) (by rw [gs_thrown_tree, stb_thrown]) (by rw [gs_at_tree, stb_at]) (by rw [gs_isFault_tree, stb_isFault]) (by rw [gs_kinds_tree, stb_kinds]) (by rw [gs_above_tree, stb_above]) (by rw [gs_letters_tree, stb_letters]) (by rw [gs_begins_tree, stb_begins]) (by rw [gs_ends_tree, stb_ends]) (by rw [gs_used_tree, stb_used]) (by rw [gs_valued_tree, stb_valued]) (by rw [gs_open_tree, stb_open]) (by rw [gs_deep_tree, stb_deep]) (by rw [gs_deepest_tree, stb_deepest]) (by rw [gs_tree_tree, stb_tree]) (by rw [gs_top_tree, stb_top]) (by rw [gs_place_tree, stb_place]) (by rw [gs_order_tree, stb_order]) (by rw [gs_becameAny_tree, stb_becameAny]) (by rw [gs_misfit_tree, stb_misfit]) (by rw [gs_misfitAt_tree, stb_misfitAt]) (by rw [gs_misfitNode_tree, stb_misfitNode])
theorem stb_t2 (S : S_Model) (t g : Nat → Int32) (b : Int32) : s_Model_tree (stb S t b) g = stb S g b :=
  s_ext (by rw [gs_now_tree, stb_now, stb_now]) (by rw [gs_past_tree, stb_past, stb_past]) (by rw [gs_kept_tree, stb_kept, stb_kept]) (by rw [gs_text_tree, stb_text, stb_text]) (by rw [gs_typed_tree, stb_typed, stb_typed]) (by rw [gs_thrown_tree, stb_thrown, stb_thrown]) (by rw [gs_at_tree, stb_at, stb_at]) (by rw [gs_isFault_tree, stb_isFault, stb_isFault]) (by rw [gs_kinds_tree, stb_kinds, stb_kinds]) (by rw [gs_above_tree, stb_above, stb_above]) (by rw [gs_letters_tree, stb_letters, stb_letters]) (by rw [gs_begins_tree, stb_begins, stb_begins]) (by rw [gs_ends_tree, stb_ends, stb_ends]) (by rw [gs_used_tree, stb_used, stb_used]) (by rw [gs_valued_tree, stb_valued, stb_valued]) (by rw [gs_open_tree, stb_open, stb_open]) (by rw [gs_deep_tree, stb_deep, stb_deep]) (by rw [gs_deepest_tree, stb_deepest, stb_deepest]) (by rw [gs_tree_tree, stb_tree]) (by rw [gs_top_tree, stb_top, stb_top]) (by rw [gs_place_tree, stb_place, stb_place]) (by rw [gs_order_tree, stb_order, stb_order]) (by rw [gs_becameAny_tree, stb_becameAny, stb_becameAny]) (by rw [gs_misfit_tree, stb_misfit, stb_misfit]) (by rw [gs_misfitAt_tree, stb_misfitAt, stb_misfitAt]) (by rw [gs_misfitNode_tree, stb_misfitNode, stb_misfitNode])
theorem smv_eta (S : S_Model) (n : Nat) (h : g_Model_top S = nI n) : S = smv S (g_Model_tree S) n (g_Model_becameAny S) (g_Model_place S) :=
  s_ext (by rw [smv_now]) (by rw [smv_past]) (by rw [smv_kept]) (by rw [smv_text]) (by rw [smv_typed]) (by rw [smv_thrown]) (by rw [smv_at]) (by rw [smv_isFault]) (by rw [smv_kinds]) (by rw [smv_above]) (by rw [smv_letters]) (by rw [smv_begins]) (by rw [smv_ends]) (by rw [smv_used]) (by rw [smv_valued]) (by rw [smv_open]) (by rw [smv_deep]) (by rw [smv_deepest]) (by rw [smv_tree]) (by rw [smv_top, h]) (by rw [smv_place]) (by rw [smv_order]) (by rw [smv_becameAny]) (by rw [smv_misfit]) (by rw [smv_misfitAt]) (by rw [smv_misfitNode])
theorem smv_p (S : S_Model) (t : Nat → Int32) (n : Nat) (b : Int32) (p : Nat → Int32) (p2 : Nat → Int32) : s_Model_place (smv S t n b p) p2 = smv S t n b p2 :=
  s_ext (by rw [gs_now_place, smv_now, smv_now]) (by rw [gs_past_place, smv_past, smv_past]) (by rw [gs_kept_place, smv_kept, smv_kept]) (by rw [gs_text_place, smv_text, smv_text]) (by rw [gs_typed_place, smv_typed, smv_typed]) (by rw [gs_thrown_place, smv_thrown, smv_thrown]) (by rw [gs_at_place, smv_at, smv_at]) (by rw [gs_isFault_place, smv_isFault, smv_isFault]) (by rw [gs_kinds_place, smv_kinds, smv_kinds]) (by rw [gs_above_place, smv_above, smv_above]) (by rw [gs_letters_place, smv_letters, smv_letters]) (by rw [gs_begins_place, smv_begins, smv_begins]) (by rw [gs_ends_place, smv_ends, smv_ends]) (by rw [gs_used_place, smv_used, smv_used]) (by rw [gs_valued_place, smv_valued, smv_valued]) (by rw [gs_open_place, smv_open, smv_open]) (by rw [gs_deep_place, smv_deep, smv_deep]) (by rw [gs_deepest_place, smv_deepest, smv_deepest]) (by rw [gs_tree_place, smv_tree, smv_tree]) (by rw [gs_top_place, smv_top, smv_top]) (by rw [gs_place_place, smv_place]) (by rw [gs_order_place, smv_order, smv_order]) (by rw [gs_becameAny_place, smv_becameAny, smv_becameAny]) (by rw [gs_misfit_place, smv_misfit, smv_misfit]) (by rw [gs_misfitAt_place, smv_misfitAt, smv_misfitAt]) (by rw [gs_misfitNode_place, smv_misfitNode, smv_misfitNode])
theorem smv_t (S : S_Model) (t : Nat → Int32) (n : Nat) (b : Int32) (p : Nat → Int32) (t2 : Nat → Int32) : s_Model_tree (smv S t n b p) t2 = smv S t2 n b p :=
  s_ext (by rw [gs_now_tree, smv_now, smv_now]) (by rw [gs_past_tree, smv_past, smv_past]) (by rw [gs_kept_tree, smv_kept, smv_kept]) (by rw [gs_text_tree, smv_text, smv_text]) (by rw [gs_typed_tree, smv_typed, smv_typed]) (by rw [gs_thrown_tree, smv_thrown, smv_thrown]) (by rw [gs_at_tree, smv_at, smv_at]) (by rw [gs_isFault_tree, smv_isFault, smv_isFault]) (by rw [gs_kinds_tree, smv_kinds, smv_kinds]) (by rw [gs_above_tree, smv_above, smv_above]) (by rw [gs_letters_tree, smv_letters, smv_letters]) (by rw [gs_begins_tree, smv_begins, smv_begins]) (by rw [gs_ends_tree, smv_ends, smv_ends]) (by rw [gs_used_tree, smv_used, smv_used]) (by rw [gs_valued_tree, smv_valued, smv_valued]) (by rw [gs_open_tree, smv_open, smv_open]) (by rw [gs_deep_tree, smv_deep, smv_deep]) (by rw [gs_deepest_tree, smv_deepest, smv_deepest]) (by rw [gs_tree_tree, smv_tree]) (by rw [gs_top_tree, smv_top, smv_top]) (by rw [gs_place_tree, smv_place, smv_place]) (by rw [gs_order_tree, smv_order, smv_order]) (by rw [gs_becameAny_tree, smv_becameAny, smv_becameAny]) (by rw [gs_misfit_tree, smv_misfit, smv_misfit]) (by rw [gs_misfitAt_tree, smv_misfitAt, smv_misfitAt]) (by rw [gs_misfitNode_tree, smv_misfitNode, smv_misfitNode])
theorem smv_tt (S : S_Model) (t : Nat → Int32) (n : Nat) (b : Int32) (p : Nat → Int32) (t2 : Nat → Int32) (n2 : Nat) : s_Model_top (s_Model_tree (smv S t n b p) t2) (nI n2) = smv S t2 n2 b p :=
  s_ext (by rw [gs_now_top, gs_now_tree, smv_now, smv_now]) (by rw [gs_past_top, gs_past_tree, smv_past, smv_past]) (by rw [gs_kept_top, gs_kept_tree, smv_kept, smv_kept]) (by rw [gs_text_top, gs_text_tree, smv_text, smv_text]) (by rw [gs_typed_top, gs_typed_tree, smv_typed, smv_typed]) (by rw [gs_thrown_top, gs_thrown_tree, smv_thrown, smv_thrown]) (by rw [gs_at_top, gs_at_tree, smv_at, smv_at]) (by rw [gs_isFault_top, gs_isFault_tree, smv_isFault, smv_isFault]) (by rw [gs_kinds_top, gs_kinds_tree, smv_kinds, smv_kinds]) (by rw [gs_above_top, gs_above_tree, smv_above, smv_above]) (by rw [gs_letters_top, gs_letters_tree, smv_letters, smv_letters]) (by rw [gs_begins_top, gs_begins_tree, smv_begins, smv_begins]) (by rw [gs_ends_top, gs_ends_tree, smv_ends, smv_ends]) (by rw [gs_used_top, gs_used_tree, smv_used, smv_used]) (by rw [gs_valued_top, gs_valued_tree, smv_valued, smv_valued]) (by rw [gs_open_top, gs_open_tree, smv_open, smv_open]) (by rw [gs_deep_top, gs_deep_tree, smv_deep, smv_deep]) (by rw [gs_deepest_top, gs_deepest_tree, smv_deepest, smv_deepest]) (by rw [gs_tree_top, gs_tree_tree, smv_tree]) (by rw [gs_top_top, smv_top]) (by rw [gs_place_top, gs_place_tree, smv_place, smv_place]) (by rw [gs_order_top, gs_order_tree, smv_order, smv_order]) (by rw [gs_becameAny_top, gs_becameAny_tree, smv_becameAny, smv_becameAny]) (by rw [gs_misfit_top, gs_misfit_tree, smv_misfit, smv_misfit]) (by rw [gs_misfitAt_top, gs_misfitAt_tree, smv_misfitAt, smv_misfitAt]) (by rw [gs_misfitNode_top, gs_misfitNode_tree, smv_misfitNode, smv_misfitNode])
theorem smv_stb (S : S_Model) (t : Nat → Int32) (n : Nat) (b : Int32) (p : Nat → Int32) (t2 : Nat → Int32) (b2 : Int32) : stb (smv S t n b p) t2 b2 = smv S t2 n b2 p :=
  s_ext (by rw [stb_now, smv_now, smv_now]) (by rw [stb_past, smv_past, smv_past]) (by rw [stb_kept, smv_kept, smv_kept]) (by rw [stb_text, smv_text, smv_text]) (by rw [stb_typed, smv_typed, smv_typed]) (by rw [stb_thrown, smv_thrown, smv_thrown]) (by rw [stb_at, smv_at, smv_at]) (by rw [stb_isFault, smv_isFault, smv_isFault]) (by rw [stb_kinds, smv_kinds, smv_kinds]) (by rw [stb_above, smv_above, smv_above]) (by rw [stb_letters, smv_letters, smv_letters]) (by rw [stb_begins, smv_begins, smv_begins]) (by rw [stb_ends, smv_ends, smv_ends]) (by rw [stb_used, smv_used, smv_used]) (by rw [stb_valued, smv_valued, smv_valued]) (by rw [stb_open, smv_open, smv_open]) (by rw [stb_deep, smv_deep, smv_deep]) (by rw [stb_deepest, smv_deepest, smv_deepest]) (by rw [stb_tree, smv_tree]) (by rw [stb_top, smv_top, smv_top]) (by rw [stb_place, smv_place, smv_place]) (by rw [stb_order, smv_order, smv_order]) (by rw [stb_becameAny, smv_becameAny]) (by rw [stb_misfit, smv_misfit, smv_misfit]) (by rw [stb_misfitAt, smv_misfitAt, smv_misfitAt]) (by rw [stb_misfitNode, smv_misfitNode, smv_misfitNode])
theorem smv_smv (S : S_Model) (t : Nat → Int32) (n : Nat) (b : Int32) (p : Nat → Int32) (t2 : Nat → Int32) (n2 : Nat) (b2 : Int32) (p2 : Nat → Int32) : smv (smv S t n b p) t2 n2 b2 p2 = smv S t2 n2 b2 p2 :=
  s_ext (by rw [smv_now, smv_now, smv_now]) (by rw [smv_past, smv_past, smv_past]) (by rw [smv_kept, smv_kept, smv_kept]) (by rw [smv_text, smv_text, smv_text]) (by rw [smv_typed, smv_typed, smv_typed]) (by rw [smv_thrown, smv_thrown, smv_thrown]) (by rw [smv_at, smv_at, smv_at]) (by rw [smv_isFault, smv_isFault, smv_isFault]) (by rw [smv_kinds, smv_kinds, smv_kinds]) (by rw [smv_above, smv_above, smv_above]) (by rw [smv_letters, smv_letters, smv_letters]) (by rw [smv_begins, smv_begins, smv_begins]) (by rw [smv_ends, smv_ends, smv_ends]) (by rw [smv_used, smv_used, smv_used]) (by rw [smv_valued, smv_valued, smv_valued]) (by rw [smv_open, smv_open, smv_open]) (by rw [smv_deep, smv_deep, smv_deep]) (by rw [smv_deepest, smv_deepest, smv_deepest]) (by rw [smv_tree, smv_tree]) (by rw [smv_top, smv_top]) (by rw [smv_place, smv_place]) (by rw [smv_order, smv_order, smv_order]) (by rw [smv_becameAny, smv_becameAny]) (by rw [smv_misfit, smv_misfit, smv_misfit]) (by rw [smv_misfitAt, smv_misfitAt, smv_misfitAt]) (by rw [smv_misfitNode, smv_misfitNode, smv_misfitNode])
theorem smv_lay (S : S_Model) (t : Nat → Int32) (n : Nat) (b : Int32) : s_Model_becameAny (s_Model_top (s_Model_tree S t) (nI n)) b = smv S t n b (g_Model_place S) :=
  s_ext (by rw [gs_now_becameAny, gs_now_top, gs_now_tree, smv_now]) (by rw [gs_past_becameAny, gs_past_top, gs_past_tree, smv_past]) (by rw [gs_kept_becameAny, gs_kept_top, gs_kept_tree, smv_kept]) (by rw [gs_text_becameAny, gs_text_top, gs_text_tree, smv_text]) (by rw [gs_typed_becameAny, gs_typed_top, gs_typed_tree, smv_typed]) (by rw [gs_thrown_becameAny, gs_thrown_top, gs_thrown_tree, smv_thrown]) (by rw [gs_at_becameAny, gs_at_top, gs_at_tree, smv_at]) (by rw [gs_isFault_becameAny, gs_isFault_top, gs_isFault_tree, smv_isFault]) (by rw [gs_kinds_becameAny, gs_kinds_top, gs_kinds_tree, smv_kinds]) (by rw [gs_above_becameAny, gs_above_top, gs_above_tree, smv_above]) (by rw [gs_letters_becameAny, gs_letters_top, gs_letters_tree, smv_letters]) (by rw [gs_begins_becameAny, gs_begins_top, gs_begins_tree, smv_begins]) (by rw [gs_ends_becameAny, gs_ends_top, gs_ends_tree, smv_ends]) (by rw [gs_used_becameAny, gs_used_top, gs_used_tree, smv_used]) (by rw [gs_valued_becameAny, gs_valued_top, gs_valued_tree, smv_valued]) (by rw [gs_open_becameAny, gs_open_top, gs_open_tree, smv_open]) (by rw [gs_deep_becameAny, gs_deep_top, gs_deep_tree, smv_deep]) (by rw [gs_deepest_becameAny, gs_deepest_top, gs_deepest_tree, smv_deepest]) (by rw [gs_tree_becameAny, gs_tree_top, gs_tree_tree, smv_tree]) (by rw [gs_top_becameAny, gs_top_top, smv_top]) (by rw [gs_place_becameAny, gs_place_top, gs_place_tree, smv_place]) (by rw [gs_order_becameAny, gs_order_top, gs_order_tree, smv_order]) (by rw [gs_becameAny_becameAny, smv_becameAny]) (by rw [gs_misfit_becameAny, gs_misfit_top, gs_misfit_tree, smv_misfit]) (by rw [gs_misfitAt_becameAny, gs_misfitAt_top, gs_misfitAt_tree, smv_misfitAt]) (by rw [gs_misfitNode_becameAny, gs_misfitNode_top, gs_misfitNode_tree, smv_misfitNode])
theorem tt_tt (S : S_Model) (t g : Nat → Int32) (n b : Int32) : s_Model_becameAny (s_Model_top (s_Model_tree (s_Model_tree S t) g) n) b = s_Model_becameAny (s_Model_top (s_Model_tree S g) n) b :=
  s_ext (by rw [gs_now_becameAny, gs_now_top, gs_now_tree, gs_now_tree, gs_now_becameAny, gs_now_top, gs_now_tree]) (by rw [gs_past_becameAny, gs_past_top, gs_past_tree, gs_past_tree, gs_past_becameAny, gs_past_top, gs_past_tree]) (by rw [gs_kept_becameAny, gs_kept_top, gs_kept_tree, gs_kept_tree, gs_kept_becameAny, gs_kept_top, gs_kept_tree]) (by rw [gs_text_becameAny, gs_text_top, gs_text_tree, gs_text_tree, gs_text_becameAny, gs_text_top, gs_text_tree]) (by rw [gs_typed_becameAny, gs_typed_top, gs_typed_tree, gs_typed_tree, gs_typed_becameAny, gs_typed_top, gs_typed_tree]) (by rw [gs_thrown_becameAny, gs_thrown_top, gs_thrown_tree, gs_thrown_tree, gs_thrown_becameAny, gs_thrown_top, gs_thrown_tree]) (by rw [gs_at_becameAny, gs_at_top, gs_at_tree, gs_at_tree, gs_at_becameAny, gs_at_top, gs_at_tree]) (by rw [gs_isFault_becameAny, gs_isFault_top, gs_isFault_tree, gs_isFault_tree, gs_isFault_becameAny, gs_isFault_top, gs_isFault_tree]) (by rw [gs_kinds_becameAny, gs_kinds_top, gs_kinds_tree, gs_kinds_tree, gs_kinds_becameAny, gs_kinds_top, gs_kinds_tree]) (by rw [gs_above_becameAny, gs_above_top, gs_above_tree, gs_above_tree, gs_above_becameAny, gs_above_top, gs_above_tree]) (by rw [gs_letters_becameAny, gs_letters_top, gs_letters_tree, gs_letters_tree, gs_letters_becameAny, gs_letters_top, gs_letters_tree]) (by rw [gs_begins_becameAny, gs_begins_top, gs_begins_tree, gs_begins_tree, gs_begins_becameAny, gs_begins_top, gs_begins_tree]) (by rw [gs_ends_becameAny, gs_ends_top, gs_ends_tree, gs_ends_tree, gs_ends_becameAny, gs_ends_top, gs_ends_tree]) (by rw [gs_used_becameAny, gs_used_top, gs_used_tree, gs_used_tree, gs_used_becameAny, gs_used_top, gs_used_tree]) (by rw [gs_valued_becameAny, gs_valued_top, gs_valued_tree, gs_valued_tree, gs_valued_becameAny, gs_valued_top, gs_valued_tree]) (by rw [gs_open_becameAny, gs_open_top, gs_open_tree, gs_open_tree, gs_open_becameAny, gs_open_top, gs_open_tree]) (by rw [gs_deep_becameAny, gs_deep_top, gs_deep_tree, gs_deep_tree, gs_deep_becameAny, gs_deep_top, gs_deep_tree]) (by rw [gs_deepest_becameAny, gs_deepest_top, gs_deepest_tree, gs_deepest_tree, gs_deepest_becameAny, gs_deepest_top, gs_deepest_tree]) (by rw [gs_tree_becameAny, gs_tree_top, gs_tree_tree, gs_tree_becameAny, gs_tree_top, gs_tree_tree]) (by rw [gs_top_becameAny, gs_top_top, gs_top_becameAny, gs_top_top]) (by rw [gs_place_becameAny, gs_place_top, gs_place_tree, gs_place_tree, gs_place_becameAny, gs_place_top, gs_place_tree]) (by rw [gs_order_becameAny, gs_order_top, gs_order_tree, gs_order_tree, gs_order_becameAny, gs_order_top, gs_order_tree]) (by rw [gs_becameAny_becameAny, gs_becameAny_becameAny]) (by rw [gs_misfit_becameAny, gs_misfit_top, gs_misfit_tree, gs_misfit_tree, gs_misfit_becameAny, gs_misfit_top, gs_misfit_tree]) (by rw [gs_misfitAt_becameAny, gs_misfitAt_top, gs_misfitAt_tree, gs_misfitAt_tree, gs_misfitAt_becameAny, gs_misfitAt_top, gs_misfitAt_tree]) (by rw [gs_misfitNode_becameAny, gs_misfitNode_top, gs_misfitNode_tree, gs_misfitNode_tree, gs_misfitNode_becameAny, gs_misfitNode_top, gs_misfitNode_tree])
