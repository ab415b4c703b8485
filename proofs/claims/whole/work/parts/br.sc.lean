/-! ===== pure: every method that may refuse, in one form ===== -/
section STEPS
variable {S : S_LS} {Z : Nat → S_State} {M : S_Model}
theorem learn_st (h : INV S Z M) (v1 : Int32) : ∃ res rr S' Z' M' r5, F_X4_learn S Z v1 = some res ∧ F_X5_learn M v1 = some (r5, M') ∧ INV S' Z' M' ∧ g_Model_thrown M' = rr ∧ (∀ r0 y, res = .inr (r0, y) → rr = 0 ∧ r0 = r5 ∧ y = (S', Z')) ∧ (∀ E y, res = .inl (E, y) → y = (S', Z') ∧ ¬ rr = 0 ∧ ((E = "java/lang/IndexOutOfBoundsException" ∧ rr = 1) ∨ (E = "java/lang/IllegalArgumentException" ∧ rr = 2) ∨ (E = "java/lang/IllegalStateException" ∧ rr = 3))) := by
  obtain ⟨M', ⟨e, c, S', e1, e2, e3, e4, e5⟩ | ⟨r, S', Z', e1, e2, e3, e4⟩⟩ := learn_ok h v1
  · refine ⟨_, _, S', Z, M', 0, e1, e2, e3, rfl, fun r0 y z => (nomatch z), fun E y z => ?_⟩
    cases z
    rcases e5 with ⟨rfl, rfl⟩ | ⟨rfl, rfl⟩ | ⟨rfl, rfl⟩
    · exact ⟨rfl, by rw [e4]; decide, Or.inl ⟨rfl, by rw [e4]; rfl⟩⟩
    · exact ⟨rfl, by rw [e4]; decide, Or.inr (Or.inl ⟨rfl, by rw [e4]; rfl⟩)⟩
    · exact ⟨rfl, by rw [e4]; decide, Or.inr (Or.inr (⟨rfl, by rw [e4]; rfl⟩))⟩
  · exact ⟨_, _, S', Z', M', r, e1, e2, e3, rfl, fun r0 y z => by cases z; exact ⟨e4, rfl, rfl⟩, fun E y z => (nomatch z)⟩
theorem join_st (h : INV S Z M) (v1 : Int32) : ∃ res rr S' Z' M' r5, F_X4_join S Z v1 = some res ∧ F_X5_join M v1 = some (r5, M') ∧ INV S' Z' M' ∧ g_Model_thrown M' = rr ∧ (∀ r0 y, res = .inr (r0, y) → rr = 0 ∧ r0 = r5 ∧ y = (S', Z')) ∧ (∀ E y, res = .inl (E, y) → y = (S', Z') ∧ ¬ rr = 0 ∧ ((E = "java/lang/IndexOutOfBoundsException" ∧ rr = 1) ∨ (E = "java/lang/IllegalStateException" ∧ rr = 2))) := by
  obtain ⟨M', ⟨e, c, S', e1, e2, e3, e4, e5⟩ | ⟨r, S', Z', e1, e2, e3, e4⟩⟩ := join_ok h v1
  · refine ⟨_, _, S', Z, M', 0, e1, e2, e3, rfl, fun r0 y z => (nomatch z), fun E y z => ?_⟩
    cases z
    rcases e5 with ⟨rfl, rfl⟩ | ⟨rfl, rfl⟩
    · exact ⟨rfl, by rw [e4]; decide, Or.inl ⟨rfl, by rw [e4]; rfl⟩⟩
    · exact ⟨rfl, by rw [e4]; decide, Or.inr (⟨rfl, by rw [e4]; rfl⟩)⟩
  · exact ⟨_, _, S', Z', M', r, e1, e2, e3, rfl, fun r0 y z => by cases z; exact ⟨e4, rfl, rfl⟩, fun E y z => (nomatch z)⟩
theorem forget_st (h : INV S Z M) (v1 : Int32) : ∃ res rr S' Z' M' r5, F_X4_forget S Z v1 = some res ∧ F_X5_forget M v1 = some (r5, M') ∧ INV S' Z' M' ∧ g_Model_thrown M' = rr ∧ (∀ r0 y, res = .inr (r0, y) → rr = 0 ∧ r0 = r5 ∧ y = (S', Z')) ∧ (∀ E y, res = .inl (E, y) → y = (S', Z') ∧ ¬ rr = 0 ∧ ((E = "java/lang/IndexOutOfBoundsException" ∧ rr = 1))) := by
  obtain ⟨M', ⟨e1, e2, e3, e4⟩ | ⟨r, S', Z', e1, e2, e3, e4⟩⟩ := forget_ok h v1
  · refine ⟨_, _, S, Z, M', 0, e1, e2, e3, rfl, fun r0 y z => (nomatch z), fun E y z => ?_⟩
    cases z
    exact ⟨rfl, by rw [e4]; decide, ⟨rfl, e4⟩⟩
  · exact ⟨_, _, S', Z', M', r, e1, e2, e3, rfl, fun r0 y z => by cases z; exact ⟨e4, rfl, rfl⟩, fun E y z => (nomatch z)⟩
theorem set_st (h : INV S Z M) (v1 : Int32) : ∃ res rr S' Z' M' r5, F_X4_set S Z v1 = some res ∧ F_X5_set M v1 = some (r5, M') ∧ INV S' Z' M' ∧ g_Model_thrown M' = rr ∧ (∀ r0 y, res = .inr (r0, y) → rr = 0 ∧ r0 = r5 ∧ y = (S', Z')) ∧ (∀ E y, res = .inl (E, y) → y = (S', Z') ∧ ¬ rr = 0 ∧ ((E = "java/lang/IllegalArgumentException" ∧ rr = 1))) := by
  obtain ⟨M', ⟨e1, e2, e3, e4⟩ | ⟨r, S', Z', e1, e2, e3, e4⟩⟩ := set_ok h v1
  · refine ⟨_, _, S, Z, M', 0, e1, e2, e3, rfl, fun r0 y z => (nomatch z), fun E y z => ?_⟩
    cases z
    exact ⟨rfl, by rw [e4]; decide, ⟨rfl, e4⟩⟩
  · exact ⟨_, _, S', Z', M', r, e1, e2, e3, rfl, fun r0 y z => by cases z; exact ⟨e4, rfl, rfl⟩, fun E y z => (nomatch z)⟩
theorem append_st (h : INV S Z M) (v1 : Int32) : ∃ res rr S' M' r5, F_X4_append S v1 = some res ∧ F_X5_append M v1 = some (r5, M') ∧ INV S' Z M' ∧ g_Model_thrown M' = rr ∧ (∀ r0 y, res = .inr (r0, y) → rr = 0 ∧ r0 = r5 ∧ y = S') ∧ (∀ E y, res = .inl (E, y) → y = S' ∧ ¬ rr = 0 ∧ ((E = "java/lang/IllegalArgumentException" ∧ rr = 1) ∨ (E = "java/lang/IllegalStateException" ∧ rr = 2))) := by
  obtain ⟨M', ⟨e, c, e1, e2, e3, e4, e5⟩ | ⟨r, S', e1, e2, e3, e4⟩⟩ := append_ok h v1
  · refine ⟨_, _, S, M', 0, e1, e2, e3, rfl, fun r0 y z => (nomatch z), fun E y z => ?_⟩
    cases z
    rcases e5 with ⟨rfl, rfl⟩ | ⟨rfl, rfl⟩
    · exact ⟨rfl, by rw [e4]; decide, Or.inl ⟨rfl, by rw [e4]; rfl⟩⟩
    · exact ⟨rfl, by rw [e4]; decide, Or.inr (⟨rfl, by rw [e4]; rfl⟩)⟩
  · exact ⟨_, _, S', M', r, e1, e2, e3, rfl, fun r0 y z => by cases z; exact ⟨e4, rfl, rfl⟩, fun E y z => (nomatch z)⟩
theorem undo_st (h : INV S Z M) : ∃ res rr S' M' r5, F_X4_undo S Z = some res ∧ F_X5_undo M = some (r5, M') ∧ INV S' Z M' ∧ g_Model_thrown M' = rr ∧ (∀ r0 y, res = .inr (r0, y) → rr = 0 ∧ r0 = r5 ∧ y = S') ∧ (∀ E y, res = .inl (E, y) → y = S' ∧ ¬ rr = 0 ∧ ((E = "java/lang/IllegalStateException" ∧ rr = 1))) := by
  obtain ⟨M', ⟨e1, e2, e3, e4⟩ | ⟨r, S', e1, e2, e3, e4⟩⟩ := undo_ok h 
  · refine ⟨_, _, S, M', 0, e1, e2, e3, rfl, fun r0 y z => (nomatch z), fun E y z => ?_⟩
    cases z
    exact ⟨rfl, by rw [e4]; decide, ⟨rfl, e4⟩⟩
  · exact ⟨_, _, S', M', r, e1, e2, e3, rfl, fun r0 y z => by cases z; exact ⟨e4, rfl, rfl⟩, fun E y z => (nomatch z)⟩
theorem node_st (h : INV S Z M) (v1 v2 v3 : Int32) : ∃ res rr M' r5, F_X4_node S v1 v2 v3 = some res ∧ F_X5_node M v1 v2 v3 = some (r5, M') ∧ INV S Z M' ∧ g_Model_thrown M' = rr ∧ (∀ r0, res = .inr r0 → rr = 0 ∧ r0 = r5) ∧ (∀ E y, res = .inl (E, y) → ¬ rr = 0 ∧ ((E = "java/lang/IndexOutOfBoundsException" ∧ rr = 1) ∨ (E = "java/lang/IllegalArgumentException" ∧ rr = 2))) := by
  obtain ⟨M', e3, ⟨e, c, e1, e2, e4, e5⟩ | ⟨r, e1, e2, e4⟩⟩ := node_ok h v1 v2 v3
  · refine ⟨_, _, M', 0, e1, e2, e3, rfl, fun r0 z => (nomatch z), fun E y z => ?_⟩
    cases z
    rcases e5 with ⟨rfl, rfl⟩ | ⟨rfl, rfl⟩
    · exact ⟨by rw [e4]; decide, Or.inl ⟨rfl, by rw [e4]; rfl⟩⟩
    · exact ⟨by rw [e4]; decide, Or.inr (⟨rfl, by rw [e4]; rfl⟩)⟩
  · exact ⟨_, _, M', r, e1, e2, e3, rfl, fun r0 z => by cases z; exact ⟨e4, rfl⟩, fun E y z => (nomatch z)⟩
theorem child_st (h : INV S Z M) (v1 v2 v3 : Int32) : ∃ res rr M' r5, F_X4_child S v1 v2 v3 = some res ∧ F_X5_child M v1 v2 v3 = some (r5, M') ∧ INV S Z M' ∧ g_Model_thrown M' = rr ∧ (∀ r0, res = .inr r0 → rr = 0 ∧ r0 = r5) ∧ (∀ E y, res = .inl (E, y) → ¬ rr = 0 ∧ ((E = "java/lang/IndexOutOfBoundsException" ∧ rr = 1) ∨ (E = "java/lang/IllegalArgumentException" ∧ rr = 2))) := by
  obtain ⟨M', e3, ⟨e, c, e1, e2, e4, e5⟩ | ⟨r, e1, e2, e4⟩⟩ := child_ok h v1 v2 v3
  · refine ⟨_, _, M', 0, e1, e2, e3, rfl, fun r0 z => (nomatch z), fun E y z => ?_⟩
    cases z
    rcases e5 with ⟨rfl, rfl⟩ | ⟨rfl, rfl⟩
    · exact ⟨by rw [e4]; decide, Or.inl ⟨rfl, by rw [e4]; rfl⟩⟩
    · exact ⟨by rw [e4]; decide, Or.inr (⟨rfl, by rw [e4]; rfl⟩)⟩
  · exact ⟨_, _, M', r, e1, e2, e3, rfl, fun r0 z => by cases z; exact ⟨e4, rfl⟩, fun E y z => (nomatch z)⟩
theorem shape_st (h : INV S Z M) (v1 v2 : Int32) : ∃ res rr M' r5, F_X4_shape S v1 v2 = some res ∧ F_X5_shape M v1 v2 = some (r5, M') ∧ INV S Z M' ∧ g_Model_thrown M' = rr ∧ (∀ r0, res = .inr r0 → rr = 0 ∧ r0 = r5) ∧ (∀ E y, res = .inl (E, y) → ¬ rr = 0 ∧ ((E = "java/lang/IndexOutOfBoundsException" ∧ rr = 1) ∨ (E = "java/lang/IllegalArgumentException" ∧ rr = 2))) := by
  obtain ⟨M', e3, ⟨e, c, e1, e2, e4, e5⟩ | ⟨r, e1, e2, e4⟩⟩ := shape_ok h v1 v2
  · refine ⟨_, _, M', 0, e1, e2, e3, rfl, fun r0 z => (nomatch z), fun E y z => ?_⟩
    cases z
    rcases e5 with ⟨rfl, rfl⟩ | ⟨rfl, rfl⟩
    · exact ⟨by rw [e4]; decide, Or.inl ⟨rfl, by rw [e4]; rfl⟩⟩
    · exact ⟨by rw [e4]; decide, Or.inr (⟨rfl, by rw [e4]; rfl⟩)⟩
  · exact ⟨_, _, M', r, e1, e2, e3, rfl, fun r0 z => by cases z; exact ⟨e4, rfl⟩, fun E y z => (nomatch z)⟩
theorem document_st (h : INV S Z M) (v1 : Int32) : ∃ res rr S' M' r5, F_X4_document S v1 = some res ∧ F_X5_document M v1 = some (r5, M') ∧ INV S' Z M' ∧ g_Model_thrown M' = rr ∧ (∀ r0 y, res = .inr (r0, y) → rr = 0 ∧ r0 = r5 ∧ y = S') ∧ (∀ E y, res = .inl (E, y) → y = S' ∧ ¬ rr = 0 ∧ ((E = "java/lang/IllegalArgumentException" ∧ rr = 1))) := by
  obtain ⟨M', ⟨e1, e2, e3, e4⟩ | ⟨r, S', e1, e2, e3, e4⟩⟩ := document_ok h v1
  · refine ⟨_, _, S, M', 0, e1, e2, e3, rfl, fun r0 y z => (nomatch z), fun E y z => ?_⟩
    cases z
    exact ⟨rfl, by rw [e4]; decide, ⟨rfl, e4⟩⟩
  · exact ⟨_, _, S', M', r, e1, e2, e3, rfl, fun r0 y z => by cases z; exact ⟨e4, rfl, rfl⟩, fun E y z => (nomatch z)⟩
theorem count_st (h : INV S Z M) (v1 : Int32) : ∃ res rr M' r5, F_X4_count S v1 = some res ∧ F_X5_count M v1 = some (r5, M') ∧ INV S Z M' ∧ g_Model_thrown M' = rr ∧ (∀ r0, res = .inr r0 → rr = 0 ∧ r0 = r5) ∧ (∀ E y, res = .inl (E, y) → ¬ rr = 0 ∧ ((E = "java/lang/IllegalArgumentException" ∧ rr = 1))) := by
  obtain ⟨M', e3, ⟨e1, e2, e4⟩ | ⟨r, e1, e2, e4⟩⟩ := count_ok h v1
  · refine ⟨_, _, M', 0, e1, e2, e3, rfl, fun r0 z => (nomatch z), fun E y z => ?_⟩
    cases z
    exact ⟨by rw [e4]; decide, ⟨rfl, e4⟩⟩
  · exact ⟨_, _, M', r, e1, e2, e3, rfl, fun r0 z => by cases z; exact ⟨e4, rfl⟩, fun E y z => (nomatch z)⟩
theorem fits_st (h : INV S Z M) (v1 v2 : Int32) : ∃ res rr S' M' r5, F_X4_fits S v1 v2 = some res ∧ F_X5_fits M v1 v2 = some (r5, M') ∧ INV S' Z M' ∧ g_Model_thrown M' = rr ∧ (∀ r0 y, res = .inr (r0, y) → rr = 0 ∧ r0 = r5 ∧ y = S') ∧ (∀ E y, res = .inl (E, y) → y = S' ∧ ¬ rr = 0 ∧ ((E = "java/lang/IndexOutOfBoundsException" ∧ rr = 1) ∨ (E = "java/lang/IllegalArgumentException" ∧ rr = 2))) := by
  obtain ⟨M', ⟨e, c, e1, e2, e3, e4, e5⟩ | ⟨r, S', e1, e2, e3, e4⟩⟩ := fits_ok h v1 v2
  · refine ⟨_, _, S, M', 0, e1, e2, e3, rfl, fun r0 y z => (nomatch z), fun E y z => ?_⟩
    cases z
    rcases e5 with ⟨rfl, rfl⟩ | ⟨rfl, rfl⟩
    · exact ⟨rfl, by rw [e4]; decide, Or.inl ⟨rfl, by rw [e4]; rfl⟩⟩
    · exact ⟨rfl, by rw [e4]; decide, Or.inr (⟨rfl, by rw [e4]; rfl⟩)⟩
  · exact ⟨_, _, S', M', r, e1, e2, e3, rfl, fun r0 y z => by cases z; exact ⟨e4, rfl, rfl⟩, fun E y z => (nomatch z)⟩
theorem ifLearned_st (h : INV S Z M) (v1 v2 : Int32) : ∃ res rr S' M' r5, F_X4_ifLearned S v1 v2 = some res ∧ F_X5_ifLearned M v1 v2 = some (r5, M') ∧ INV S' Z M' ∧ g_Model_thrown M' = rr ∧ (∀ r0 y, res = .inr (r0, y) → rr = 0 ∧ r0 = r5 ∧ y = S') ∧ (∀ E y, res = .inl (E, y) → y = S' ∧ ¬ rr = 0 ∧ ((E = "java/lang/IndexOutOfBoundsException" ∧ rr = 1) ∨ (E = "java/lang/IllegalArgumentException" ∧ rr = 2))) := by
  obtain ⟨M', ⟨e, c, e1, e2, e3, e4, e5⟩ | ⟨r, S', e1, e2, e3, e4⟩⟩ := ifLearned_ok h v1 v2
  · refine ⟨_, _, S, M', 0, e1, e2, e3, rfl, fun r0 y z => (nomatch z), fun E y z => ?_⟩
    cases z
    rcases e5 with ⟨rfl, rfl⟩ | ⟨rfl, rfl⟩
    · exact ⟨rfl, by rw [e4]; decide, Or.inl ⟨rfl, by rw [e4]; rfl⟩⟩
    · exact ⟨rfl, by rw [e4]; decide, Or.inr (⟨rfl, by rw [e4]; rfl⟩)⟩
  · exact ⟨_, _, S', M', r, e1, e2, e3, rfl, fun r0 y z => by cases z; exact ⟨e4, rfl, rfl⟩, fun E y z => (nomatch z)⟩
theorem covers_st (h : INV S Z M) (v1 : Int32) : ∃ res rr M' r5, F_X4_covers S v1 = some res ∧ F_X5_covers M v1 = some (r5, M') ∧ INV S Z M' ∧ g_Model_thrown M' = rr ∧ (∀ r0, res = .inr r0 → rr = 0 ∧ r0 = r5) ∧ (∀ E y, res = .inl (E, y) → ¬ rr = 0 ∧ ((E = "java/lang/IndexOutOfBoundsException" ∧ rr = 1))) := by
  obtain ⟨M', e3, ⟨e1, e2, e4⟩ | ⟨r, e1, e2, e4⟩⟩ := covers_ok h v1
  · refine ⟨_, _, M', 0, e1, e2, e3, rfl, fun r0 z => (nomatch z), fun E y z => ?_⟩
    cases z
    exact ⟨by rw [e4]; decide, ⟨rfl, e4⟩⟩
  · exact ⟨_, _, M', r, e1, e2, e3, rfl, fun r0 z => by cases z; exact ⟨e4, rfl⟩, fun E y z => (nomatch z)⟩
theorem sureShare_st (h : INV S Z M) (v1 : Int32) : ∃ res rr M' r5, F_X4_sureShare S v1 = some res ∧ F_X5_sureShare M v1 = some (r5, M') ∧ INV S Z M' ∧ g_Model_thrown M' = rr ∧ (∀ r0, res = .inr r0 → rr = 0 ∧ r0 = r5 ∧ ∃ a n, a ≤ n ∧ n ≤ 30 ∧ r0 = shr a n) ∧ (∀ E y, res = .inl (E, y) → ¬ rr = 0 ∧ ((E = "java/lang/IndexOutOfBoundsException" ∧ rr = 1))) := by
  obtain ⟨M', e3, ⟨x, e1, e2, e4⟩ | ⟨a, n, a1, a2, e1, e2, e4⟩⟩ := sureShare_ok h v1
  · refine ⟨_, _, M', x, e1, e2, e3, rfl, fun r0 z => (nomatch z), fun E y z => ?_⟩
    cases z
    exact ⟨by rw [e4]; decide, ⟨rfl, e4⟩⟩
  · exact ⟨_, _, M', _, e1, e2, e3, rfl, fun r0 z => by cases z; exact ⟨e4, rfl, a, n, a1, a2, rfl⟩, fun E y z => (nomatch z)⟩
end STEPS
theorem shr_cmp_tab : ∀ n, n < 31 → ∀ a, a < 31 → n < a ∨ Op.cmpValue (FP.dcmp (shr a n) (shr a n)) .l = 0 := by decide +kernel
theorem shr_cmp {a n : Nat} (h1 : a ≤ n) (h2 : n ≤ 30) : Op.cmpValue (FP.dcmp (shr a n) (shr a n)) .l = 0 := (shr_cmp_tab n (by omega) a (by omega)).resolve_left (by omega)
/-- a new object, and the reference's beginning -/
theorem INV_new : INV Z_LS (fun _ => Z_State) Z_Model := by
  have hz : ∀ T : S_Tree, g_Tree_size T = 0 → g_Tree_documents T = 0 → ∀ s, SHx T (g_Model_now Z_Model) s := fun T h1 h2 s => ⟨_, SH_no h1 h2 rfl rfl⟩
  refine ⟨⟨hz _ rfl rfl 0, hz _ rfl rfl 1, rfl⟩, ⟨0, by omega, rfl, rfl, fun j hj => absurd hj (Nat.not_lt_zero _)⟩, 0, fun _ => 0, rfl, ⟨by omega, fun i hi => absurd hi (Nat.not_lt_zero _)⟩, ⟨rfl, by omega, fun i hi => absurd hi (Nat.not_lt_zero _)⟩⟩
