/-! ===== pure: node, child, shape, covers, sureShare, alike ===== -/
section LOOK
variable {S : S_LS} {Z : Nat → S_State} {M : S_Model}
/-- the tree of shape s has row v, or not: both say it alike -/
theorem has_cases {T : S_Tree} {A : Mp} (hT : TR T A 10000) (v : Int32) : (∃ c d, A c = some d ∧ v = nI (ix A c) ∧ F_X3_has T v = some true ∧ F_X5_in v 0 (nI (ix A 10000) - 1) = some true) ∨ (F_X3_has T v = some false ∧ F_X5_in v 0 (nI (ix A 10000) - 1) = some false) := by
  have hle := hT.le
  unfold F_X3_has
  rw [hT.size]
  by_cases h1 : v < 0
  · rw [if_pos h1]
    exact Or.inr ⟨rfl, in_f (Or.inl h1)⟩
  · rw [if_neg h1]
    have h1i : ¬ v.toInt < 0 := fun z => h1 (Int32.lt_iff_toInt_lt.mpr (by rw [show (0 : Int32).toInt = 0 from rfl]; exact z))
    have hb : (nI (ix A 10000) - 1).toInt = (ix A 10000 : Int) - 1 := by
      rcases Nat.eq_zero_or_pos (ix A 10000) with z | z
      · rw [z]; rfl
      · rw [show (1 : Int32) = nI 1 from rfl, nI_sub z, nI_toInt (by omega)]
        omega
    by_cases h2 : nI (ix A 10000) ≤ v
    · rw [if_pos h2]
      refine Or.inr ⟨rfl, in_f (Or.inr ?_)⟩
      rw [Int32.lt_iff_toInt_lt, hb]
      rw [Int32.le_iff_toInt_le, nI_toInt (by omega)] at h2
      omega
    · rw [if_neg h2]
      rw [Int32.le_iff_toInt_le, nI_toInt (by omega)] at h2
      obtain ⟨i, hi⟩ : ∃ i : Nat, v.toInt = i := ⟨v.toInt.toNat, by omega⟩
      have hv : v = nI i := by
        rw [← Int32.toInt_inj, nI_toInt (by omega), hi]
      obtain ⟨c, d, g1, g2, g3⟩ := ix_at (M := A) (i := i) (b := 10000) (by omega)
      refine Or.inl ⟨c, d, g2, by rw [hv, g3], rfl, in_t h1 ?_⟩
      rw [Int32.lt_iff_toInt_lt, hb]
      omega
/-- the reference's isNode -/
theorem isNode_ok {s : Nat} {A : Mp} (hs : s ≤ 1) (hN : NR (g_Model_now M) s A) {v1 v : Int32} (h1 : v1 = nI s) (h2 : F_X5_isShape v1 = some true) {b : Bool} (hb : F_X5_in v 0 (nI (ix A 10000) - 1) = some b) : F_X5_isNode M v1 v = some b := by
  unfold F_X5_isNode
  rw [ob1_s h2, b2i_t, if_neg one_ne0, h1, show (3 : Int32) = nI 3 from rfl, nI_add, og_t (inb_nI (by omega) (by omega)), nI_clamp (by omega), hN.1, ob1_s hb]
  cases b
  · rw [b2i_f, if_pos rfl]
  · rw [b2i_t, if_neg one_ne0]
theorem isNode_no {v1 v : Int32} (h2 : F_X5_isShape v1 = some false) : F_X5_isNode M v1 v = some false := by
  unfold F_X5_isNode
  rw [ob1_s h2, b2i_f, if_pos rfl]
theorem node_num (h : INV S Z M) {k : Bool} {s : Nat} (hk : KS k s) {v1 : Int32} (hv1 : v1 = nI s) (hsh : F_X5_isShape v1 = some true) (v2 v3 : Int32) :
    (F_X3_has (g_State_tree k (g_LS_now S)) v2 = some false ∧ F_X5_isNode M v1 v2 = some false) ∨ (F_X3_has (g_State_tree k (g_LS_now S)) v2 = some true ∧ F_X5_isNode M v1 v2 = some true ∧ (¬ v3 < 0 → v3 ≤ 9 → ∃ r, F_X4_nodeNumber (g_State_tree k (g_LS_now S)) v2 v3 = some r ∧ F_X5_ofNode M v1 v2 v3 = some r) ∧ (¬ v3 < 0 → v3 ≤ 8 → ∃ r, F_X3_findBelow (g_State_tree k (g_LS_now S)) v2 v3 = some r ∧ F_X5_childOf M v1 v2 v3 = some r)) := by
  obtain ⟨A, hA⟩ := h.1.tree hk
  rcases has_cases hA.2.1 v2 with ⟨c, d, g1, g2, g3, g4⟩ | ⟨g3, g4⟩
  · refine Or.inr ⟨g3, isNode_ok hk.le hA.2.2.2.1 hv1 hsh g4, fun q1 q2 => ?_, fun q1 q2 => ?_⟩
    · obtain ⟨j, j1, j2, _⟩ := nI_between (v := v3) (a := 0) (b := 9) (by omega) (by omega) q1 q2
      rw [g2, j1, hv1]
      exact ⟨_, nodeNumber_ok hA g1 j j2, ofNode_ok hA.1 hA.2.2.2.1 hk.le g1 j j2⟩
    · obtain ⟨j, j1, j2, _⟩ := nI_between (v := v3) (a := 0) (b := 8) (by omega) (by omega) q1 q2
      rw [g2, j1, hv1]
      exact ⟨_, find_ok hA.1.wf0 hA.2.1 g1 (by omega), childOf_ok hA.1 hA.2.2.2.1 hk.le g1 (by omega)⟩
  · exact Or.inl ⟨g3, isNode_ok hk.le hA.2.2.2.1 hv1 hsh g4⟩
def exI (e : String) (c : Nat) : Prop := (c = 1 ∧ e = "java/lang/IndexOutOfBoundsException") ∨ (c = 2 ∧ e = "java/lang/IllegalArgumentException")
theorem node_ok (h : INV S Z M) (v1 v2 v3 : Int32) : ∃ M', INV S Z M' ∧ ((∃ e c, F_X4_node S v1 v2 v3 = some (.inl (e, ())) ∧ F_X5_node M v1 v2 v3 = some (0, M') ∧ g_Model_thrown M' = nI c ∧ exI e c) ∨ (∃ r, F_X4_node S v1 v2 v3 = some (.inr r) ∧ F_X5_node M v1 v2 v3 = some (r, M') ∧ g_Model_thrown M' = 0)) := by
  have h0 := h.thrown 0
  have hth : g_Model_thrown (s_Model_thrown M 0) = 0 := gs_thrown_thrown ..
  have hno1 : ∀ e, F_X4_node S v1 v2 v3 = some (.inl (e, ())) → F_X5_node M v1 v2 v3 = some (0, s_Model_thrown (s_Model_thrown M 0) 1) → e = "java/lang/IndexOutOfBoundsException" → ∃ M', INV S Z M' ∧ ((∃ e c, F_X4_node S v1 v2 v3 = some (.inl (e, ())) ∧ F_X5_node M v1 v2 v3 = some (0, M') ∧ g_Model_thrown M' = nI c ∧ exI e c) ∨ (∃ r, F_X4_node S v1 v2 v3 = some (.inr r) ∧ F_X5_node M v1 v2 v3 = some (r, M') ∧ g_Model_thrown M' = 0)) :=
    fun e a b d => ⟨_, h0.thrown 1, Or.inl ⟨e, 1, a, b, by rw [gs_thrown_thrown]; rfl, Or.inl ⟨rfl, d⟩⟩⟩
  have hno2 : ∀ e, F_X4_node S v1 v2 v3 = some (.inl (e, ())) → F_X5_node M v1 v2 v3 = some (0, s_Model_thrown (s_Model_thrown M 0) 2) → e = "java/lang/IllegalArgumentException" → ∃ M', INV S Z M' ∧ ((∃ e c, F_X4_node S v1 v2 v3 = some (.inl (e, ())) ∧ F_X5_node M v1 v2 v3 = some (0, M') ∧ g_Model_thrown M' = nI c ∧ exI e c) ∨ (∃ r, F_X4_node S v1 v2 v3 = some (.inr r) ∧ F_X5_node M v1 v2 v3 = some (r, M') ∧ g_Model_thrown M' = 0)) :=
    fun e a b d => ⟨_, h0.thrown 2, Or.inl ⟨e, 2, a, b, by rw [gs_thrown_thrown]; rfl, Or.inr ⟨rfl, d⟩⟩⟩
  rcases shape_cases v1 with ⟨hv, s1, s2⟩ | ⟨_, _, s1, s2⟩
  · rcases hv with rfl | rfl
    · rcases node_num h0 (k := false) (s := 0) (Or.inl ⟨rfl, rfl⟩) (v1 := 0) rfl s2 v2 v3 with ⟨n1, n2⟩ | ⟨n1, n2, n3, n4⟩
      · have n1' : F_X3_has (g_State_first (g_LS_now S)) v2 = some false := n1
        refine hno1 _ ?_ ?_ rfl
        · unfold F_X4_node; rw [ob1_s s1, b2i_t, if_neg one_ne0, if_pos rfl, ob1_s n1', b2i_f, if_pos rfl]
        · unfold F_X5_node; rw [ob1_s n2, b2i_f, if_pos rfl]; rfl
      · have n1' : F_X3_has (g_State_first (g_LS_now S)) v2 = some true := n1
        rcases in_cases (v := v3) (b := 9) (by omega) with ⟨q1, q3⟩ | ⟨q1, q2, q3⟩ | ⟨q1, q2, q3⟩
        · have q3' : F_X5_in v3 0 9 = some false := q3
          refine hno2 _ ?_ ?_ rfl
          · unfold F_X4_node; rw [ob1_s s1, b2i_t, if_neg one_ne0, if_pos rfl, ob1_s n1', b2i_t, if_neg one_ne0, if_pos q1]
          · unfold F_X5_node; rw [ob1_s n2, b2i_t, if_neg one_ne0, ob1_s q3', b2i_f, if_pos rfl]; rfl
        · have q3' : F_X5_in v3 0 9 = some true := q3
          have q2' : v3 ≤ 9 := q2
          obtain ⟨r, r1, r2⟩ := n3 q1 q2'
          have r1' : F_X4_nodeNumber (g_State_first (g_LS_now S)) v2 v3 = some r := r1
          refine ⟨_, h0, Or.inr ⟨r, ?_, ?_, hth⟩⟩
          · unfold F_X4_node; rw [ob1_s s1, b2i_t, if_neg one_ne0, if_pos rfl, ob1_s n1', b2i_t, if_neg one_ne0, if_neg q1, if_pos q2', ob1_s r1']
          · unfold F_X5_node; rw [ob1_s n2, b2i_t, if_neg one_ne0, ob1_s q3', b2i_t, if_neg one_ne0, ob1_s r2]
        · have q3' : F_X5_in v3 0 9 = some false := q3
          have q2' : ¬ v3 ≤ 9 := q2
          refine hno2 _ ?_ ?_ rfl
          · unfold F_X4_node; rw [ob1_s s1, b2i_t, if_neg one_ne0, if_pos rfl, ob1_s n1', b2i_t, if_neg one_ne0, if_neg q1, if_neg q2']
          · unfold F_X5_node; rw [ob1_s n2, b2i_t, if_neg one_ne0, ob1_s q3', b2i_f, if_pos rfl]; rfl
    · rcases node_num h0 (k := true) (s := 1) (Or.inr ⟨rfl, rfl⟩) (v1 := 1) rfl s2 v2 v3 with ⟨n1, n2⟩ | ⟨n1, n2, n3, n4⟩
      · have n1' : F_X3_has (g_State_second (g_LS_now S)) v2 = some false := n1
        refine hno1 _ ?_ ?_ rfl
        · unfold F_X4_node; rw [ob1_s s1, b2i_t, if_neg one_ne0, if_neg one_ne0, ob1_s n1', b2i_f, if_pos rfl]
        · unfold F_X5_node; rw [ob1_s n2, b2i_f, if_pos rfl]; rfl
      · have n1' : F_X3_has (g_State_second (g_LS_now S)) v2 = some true := n1
        rcases in_cases (v := v3) (b := 9) (by omega) with ⟨q1, q3⟩ | ⟨q1, q2, q3⟩ | ⟨q1, q2, q3⟩
        · have q3' : F_X5_in v3 0 9 = some false := q3
          refine hno2 _ ?_ ?_ rfl
          · unfold F_X4_node; rw [ob1_s s1, b2i_t, if_neg one_ne0, if_neg one_ne0, ob1_s n1', b2i_t, if_neg one_ne0, if_pos q1]
          · unfold F_X5_node; rw [ob1_s n2, b2i_t, if_neg one_ne0, ob1_s q3', b2i_f, if_pos rfl]; rfl
        · have q3' : F_X5_in v3 0 9 = some true := q3
          have q2' : v3 ≤ 9 := q2
          obtain ⟨r, r1, r2⟩ := n3 q1 q2'
          have r1' : F_X4_nodeNumber (g_State_second (g_LS_now S)) v2 v3 = some r := r1
          refine ⟨_, h0, Or.inr ⟨r, ?_, ?_, hth⟩⟩
          · unfold F_X4_node; rw [ob1_s s1, b2i_t, if_neg one_ne0, if_neg one_ne0, ob1_s n1', b2i_t, if_neg one_ne0, if_neg q1, if_pos q2', ob1_s r1']
          · unfold F_X5_node; rw [ob1_s n2, b2i_t, if_neg one_ne0, ob1_s q3', b2i_t, if_neg one_ne0, ob1_s r2]
        · have q3' : F_X5_in v3 0 9 = some false := q3
          have q2' : ¬ v3 ≤ 9 := q2
          refine hno2 _ ?_ ?_ rfl
          · unfold F_X4_node; rw [ob1_s s1, b2i_t, if_neg one_ne0, if_neg one_ne0, ob1_s n1', b2i_t, if_neg one_ne0, if_neg q1, if_neg q2']
          · unfold F_X5_node; rw [ob1_s n2, b2i_t, if_neg one_ne0, ob1_s q3', b2i_f, if_pos rfl]; rfl
  · refine hno1 _ ?_ ?_ rfl
    · unfold F_X4_node; rw [ob1_s s1, b2i_f, if_pos rfl]
    · unfold F_X5_node; rw [ob1_s (isNode_no s2), b2i_f, if_pos rfl]; rfl
theorem child_ok (h : INV S Z M) (v1 v2 v3 : Int32) : ∃ M', INV S Z M' ∧ ((∃ e c, F_X4_child S v1 v2 v3 = some (.inl (e, ())) ∧ F_X5_child M v1 v2 v3 = some (0, M') ∧ g_Model_thrown M' = nI c ∧ exI e c) ∨ (∃ r, F_X4_child S v1 v2 v3 = some (.inr r) ∧ F_X5_child M v1 v2 v3 = some (r, M') ∧ g_Model_thrown M' = 0)) := by
  have h0 := h.thrown 0
  have hth : g_Model_thrown (s_Model_thrown M 0) = 0 := gs_thrown_thrown ..
  have hno1 : ∀ e, F_X4_child S v1 v2 v3 = some (.inl (e, ())) → F_X5_child M v1 v2 v3 = some (0, s_Model_thrown (s_Model_thrown M 0) 1) → e = "java/lang/IndexOutOfBoundsException" → ∃ M', INV S Z M' ∧ ((∃ e c, F_X4_child S v1 v2 v3 = some (.inl (e, ())) ∧ F_X5_child M v1 v2 v3 = some (0, M') ∧ g_Model_thrown M' = nI c ∧ exI e c) ∨ (∃ r, F_X4_child S v1 v2 v3 = some (.inr r) ∧ F_X5_child M v1 v2 v3 = some (r, M') ∧ g_Model_thrown M' = 0)) :=
    fun e a b d => ⟨_, h0.thrown 1, Or.inl ⟨e, 1, a, b, by rw [gs_thrown_thrown]; rfl, Or.inl ⟨rfl, d⟩⟩⟩
  have hno2 : ∀ e, F_X4_child S v1 v2 v3 = some (.inl (e, ())) → F_X5_child M v1 v2 v3 = some (0, s_Model_thrown (s_Model_thrown M 0) 2) → e = "java/lang/IllegalArgumentException" → ∃ M', INV S Z M' ∧ ((∃ e c, F_X4_child S v1 v2 v3 = some (.inl (e, ())) ∧ F_X5_child M v1 v2 v3 = some (0, M') ∧ g_Model_thrown M' = nI c ∧ exI e c) ∨ (∃ r, F_X4_child S v1 v2 v3 = some (.inr r) ∧ F_X5_child M v1 v2 v3 = some (r, M') ∧ g_Model_thrown M' = 0)) :=
    fun e a b d => ⟨_, h0.thrown 2, Or.inl ⟨e, 2, a, b, by rw [gs_thrown_thrown]; rfl, Or.inr ⟨rfl, d⟩⟩⟩
  rcases shape_cases v1 with ⟨hv, s1, s2⟩ | ⟨_, _, s1, s2⟩
  · rcases hv with rfl | rfl
    · rcases node_num h0 (k := false) (s := 0) (Or.inl ⟨rfl, rfl⟩) (v1 := 0) rfl s2 v2 v3 with ⟨n1, n2⟩ | ⟨n1, n2, n3, n4⟩
      · have n1' : F_X3_has (g_State_first (g_LS_now S)) v2 = some false := n1
        refine hno1 _ ?_ ?_ rfl
        · unfold F_X4_child; rw [ob1_s s1, b2i_t, if_neg one_ne0, if_pos rfl, ob1_s n1', b2i_f, if_pos rfl]
        · unfold F_X5_child; rw [ob1_s n2, b2i_f, if_pos rfl]; rfl
      · have n1' : F_X3_has (g_State_first (g_LS_now S)) v2 = some true := n1
        rcases in_cases (v := v3) (b := 8) (by omega) with ⟨q1, q3⟩ | ⟨q1, q2, q3⟩ | ⟨q1, q2, q3⟩
        · have q3' : F_X5_in v3 0 8 = some false := q3
          refine hno2 _ ?_ ?_ rfl
          · unfold F_X4_child; rw [ob1_s s1, b2i_t, if_neg one_ne0, if_pos rfl, ob1_s n1', b2i_t, if_neg one_ne0, if_pos q1]
          · unfold F_X5_child; rw [ob1_s n2, b2i_t, if_neg one_ne0, ob1_s q3', b2i_f, if_pos rfl]; rfl
        · have q3' : F_X5_in v3 0 8 = some true := q3
          have q2' : v3 ≤ 8 := q2
          obtain ⟨r, r1, r2⟩ := n4 q1 q2'
          have r1' : F_X3_findBelow (g_State_first (g_LS_now S)) v2 v3 = some r := r1
          refine ⟨_, h0, Or.inr ⟨r, ?_, ?_, hth⟩⟩
          · unfold F_X4_child; rw [ob1_s s1, b2i_t, if_neg one_ne0, if_pos rfl, ob1_s n1', b2i_t, if_neg one_ne0, if_neg q1, if_pos q2', ob1_s r1']
          · unfold F_X5_child; rw [ob1_s n2, b2i_t, if_neg one_ne0, ob1_s q3', b2i_t, if_neg one_ne0, ob1_s r2]
        · have q3' : F_X5_in v3 0 8 = some false := q3
          have q2' : ¬ v3 ≤ 8 := q2
          refine hno2 _ ?_ ?_ rfl
          · unfold F_X4_child; rw [ob1_s s1, b2i_t, if_neg one_ne0, if_pos rfl, ob1_s n1', b2i_t, if_neg one_ne0, if_neg q1, if_neg q2']
          · unfold F_X5_child; rw [ob1_s n2, b2i_t, if_neg one_ne0, ob1_s q3', b2i_f, if_pos rfl]; rfl
    · rcases node_num h0 (k := true) (s := 1) (Or.inr ⟨rfl, rfl⟩) (v1 := 1) rfl s2 v2 v3 with ⟨n1, n2⟩ | ⟨n1, n2, n3, n4⟩
      · have n1' : F_X3_has (g_State_second (g_LS_now S)) v2 = some false := n1
        refine hno1 _ ?_ ?_ rfl
        · unfold F_X4_child; rw [ob1_s s1, b2i_t, if_neg one_ne0, if_neg one_ne0, ob1_s n1', b2i_f, if_pos rfl]
        · unfold F_X5_child; rw [ob1_s n2, b2i_f, if_pos rfl]; rfl
      · have n1' : F_X3_has (g_State_second (g_LS_now S)) v2 = some true := n1
        rcases in_cases (v := v3) (b := 8) (by omega) with ⟨q1, q3⟩ | ⟨q1, q2, q3⟩ | ⟨q1, q2, q3⟩
        · have q3' : F_X5_in v3 0 8 = some false := q3
          refine hno2 _ ?_ ?_ rfl
          · unfold F_X4_child; rw [ob1_s s1, b2i_t, if_neg one_ne0, if_neg one_ne0, ob1_s n1', b2i_t, if_neg one_ne0, if_pos q1]
          · unfold F_X5_child; rw [ob1_s n2, b2i_t, if_neg one_ne0, ob1_s q3', b2i_f, if_pos rfl]; rfl
        · have q3' : F_X5_in v3 0 8 = some true := q3
          have q2' : v3 ≤ 8 := q2
          obtain ⟨r, r1, r2⟩ := n4 q1 q2'
          have r1' : F_X3_findBelow (g_State_second (g_LS_now S)) v2 v3 = some r := r1
          refine ⟨_, h0, Or.inr ⟨r, ?_, ?_, hth⟩⟩
          · unfold F_X4_child; rw [ob1_s s1, b2i_t, if_neg one_ne0, if_neg one_ne0, ob1_s n1', b2i_t, if_neg one_ne0, if_neg q1, if_pos q2', ob1_s r1']
          · unfold F_X5_child; rw [ob1_s n2, b2i_t, if_neg one_ne0, ob1_s q3', b2i_t, if_neg one_ne0, ob1_s r2]
        · have q3' : F_X5_in v3 0 8 = some false := q3
          have q2' : ¬ v3 ≤ 8 := q2
          refine hno2 _ ?_ ?_ rfl
          · unfold F_X4_child; rw [ob1_s s1, b2i_t, if_neg one_ne0, if_neg one_ne0, ob1_s n1', b2i_t, if_neg one_ne0, if_neg q1, if_neg q2']
          · unfold F_X5_child; rw [ob1_s n2, b2i_t, if_neg one_ne0, ob1_s q3', b2i_f, if_pos rfl]; rfl
  · refine hno1 _ ?_ ?_ rfl
    · unfold F_X4_child; rw [ob1_s s1, b2i_f, if_pos rfl]
    · unfold F_X5_child; rw [ob1_s (isNode_no s2), b2i_f, if_pos rfl]; rfl
/-- a shape's numbers -/
theorem shape_num (h : INV S Z M) {k : Bool} {s : Nat} (hk : KS k s) {v1 : Int32} (hv1 : v1 = nI s) {v2 : Int32} (q1 : ¬ v2 < 0) (q2 : v2 ≤ 5) : ∃ r, F_X4_shapeNumber (g_State_tree k (g_LS_now S)) v2 = some r ∧ F_X5_ofShape M v1 v2 = some r := by
  obtain ⟨A, hA⟩ := h.1.tree hk
  obtain ⟨j, j1, j2, _⟩ := nI_between (v := v2) (a := 0) (b := 5) (by omega) (by omega) q1 q2
  obtain ⟨r, r1, r2⟩ := shapeNumber_ok hA hk.le j j2
  rw [j1, hv1]
  exact ⟨r, r1, r2⟩
theorem shape_ok (h : INV S Z M) (v1 v2 : Int32) : ∃ M', INV S Z M' ∧ ((∃ e c, F_X4_shape S v1 v2 = some (.inl (e, ())) ∧ F_X5_shape M v1 v2 = some (0, M') ∧ g_Model_thrown M' = nI c ∧ exI e c) ∨ (∃ r, F_X4_shape S v1 v2 = some (.inr r) ∧ F_X5_shape M v1 v2 = some (r, M') ∧ g_Model_thrown M' = 0)) := by
  have h0 := h.thrown 0
  have hth : g_Model_thrown (s_Model_thrown M 0) = 0 := gs_thrown_thrown ..
  unfold F_X4_shape F_X5_shape
  rcases shape_cases v1 with ⟨hv, s1, s2⟩ | ⟨_, _, s1, s2⟩
  · rw [ob1_s s1, ob1_s s2, b2i_t, if_neg one_ne0, if_neg one_ne0]
    rcases in_cases (v := v2) (b := 5) (by omega) with ⟨q1, q3⟩ | ⟨q1, q2, q3⟩ | ⟨q1, q2, q3⟩
    · have q3' : F_X5_in v2 0 5 = some false := q3
      rw [if_pos q1, ob1_s q3', b2i_f, if_pos rfl]
      exact ⟨_, h0.thrown 2, Or.inl ⟨_, 2, rfl, rfl, by rw [gs_thrown_thrown]; rfl, Or.inr ⟨rfl, rfl⟩⟩⟩
    · have q3' : F_X5_in v2 0 5 = some true := q3
      have q2' : v2 ≤ 5 := q2
      rw [if_neg q1, if_pos q2', ob1_s q3', b2i_t, if_neg one_ne0]
      rcases hv with rfl | rfl
      · obtain ⟨r, r1, r2⟩ := shape_num h0 (k := false) (s := 0) (Or.inl ⟨rfl, rfl⟩) (v1 := 0) rfl q1 q2'
        have r1' : F_X4_shapeNumber (g_State_first (g_LS_now S)) v2 = some r := r1
        rw [if_pos rfl, ob1_s r1', ob1_s r2]
        exact ⟨_, h0, Or.inr ⟨r, rfl, rfl, hth⟩⟩
      · obtain ⟨r, r1, r2⟩ := shape_num h0 (k := true) (s := 1) (Or.inr ⟨rfl, rfl⟩) (v1 := 1) rfl q1 q2'
        have r1' : F_X4_shapeNumber (g_State_second (g_LS_now S)) v2 = some r := r1
        rw [if_neg one_ne0, ob1_s r1', ob1_s r2]
        exact ⟨_, h0, Or.inr ⟨r, rfl, rfl, hth⟩⟩
    · have q3' : F_X5_in v2 0 5 = some false := q3
      have q2' : ¬ v2 ≤ 5 := q2
      rw [if_neg q1, if_neg q2', ob1_s q3', b2i_f, if_pos rfl]
      exact ⟨_, h0.thrown 2, Or.inl ⟨_, 2, rfl, rfl, by rw [gs_thrown_thrown]; rfl, Or.inr ⟨rfl, rfl⟩⟩⟩
  · rw [ob1_s s1, ob1_s s2, b2i_f, if_pos rfl, if_pos rfl]
    exact ⟨_, h0.thrown 1, Or.inl ⟨_, 1, rfl, rfl, by rw [gs_thrown_thrown]; rfl, Or.inl ⟨rfl, rfl⟩⟩⟩
/-- what covers what -/
theorem covers_num (h : INV S Z M) {k : Bool} {s : Nat} (hk : KS k s) : ∃ r p, F_X4_coversOther S (if k then 1 else 0) = some r ∧ F_X5_coversOf M (nI s) = some (b2i r, s_Model_place M p) ∧ INV S Z (s_Model_place M p) ∧ g_Model_thrown (s_Model_place M p) = g_Model_thrown M := by
  obtain ⟨A, hA⟩ := h.1.tree hk
  obtain ⟨B, hB⟩ := h.1.tree hk.other
  obtain ⟨r, r1, r2⟩ := class_covers hA.1 hB.1 hA.2.1 hA.2.2.1 hB.2.1 hB.2.2.1
  obtain ⟨r', p, r3, r4⟩ := model_covers hA.1 hB.1 hk.both hA.2.2.2.1 hB.2.2.2.1
  have hrr : r = r' := by
    cases r <;> cases r'
    · rfl
    · exact absurd (r2.mpr (r4.mp rfl)) (by decide)
    · exact absurd (r4.mpr (r2.mp rfl)) (by decide)
    · rfl
  subst hrr
  exact ⟨r, p, r1, r3, h.ext (gs_now_place ..) (gs_past_place ..) (gs_kept_place ..) (gs_text_place ..) (gs_typed_place ..), gs_thrown_place ..⟩
theorem covers_ok (h : INV S Z M) (v : Int32) : ∃ M', INV S Z M' ∧ ((F_X4_covers S v = some (.inl ("java/lang/IndexOutOfBoundsException", ())) ∧ F_X5_covers M v = some (0, M') ∧ g_Model_thrown M' = 1) ∨ (∃ r, F_X4_covers S v = some (.inr r) ∧ F_X5_covers M v = some (r, M') ∧ g_Model_thrown M' = 0)) := by
  have h0 := h.thrown 0
  have hth : g_Model_thrown (s_Model_thrown M 0) = 0 := gs_thrown_thrown ..
  unfold F_X4_covers F_X5_covers
  rcases shape_cases v with ⟨hv, s1, s2⟩ | ⟨_, _, s1, s2⟩
  · rw [ob1_s s1, ob1_s s2, b2i_t, if_neg one_ne0, if_neg one_ne0]
    have key : ∃ r p, F_X4_coversOther S v = some r ∧ F_X5_coversOf (s_Model_thrown M 0) v = some (b2i r, s_Model_place (s_Model_thrown M 0) p) ∧ INV S Z (s_Model_place (s_Model_thrown M 0) p) ∧ g_Model_thrown (s_Model_place (s_Model_thrown M 0) p) = g_Model_thrown (s_Model_thrown M 0) := by
      rcases hv with rfl | rfl
      · exact covers_num h0 (k := false) (s := 0) (Or.inl ⟨rfl, rfl⟩)
      · exact covers_num h0 (k := true) (s := 1) (Or.inr ⟨rfl, rfl⟩)
    obtain ⟨r, p, r1, r2, r3, r4⟩ := key
    rw [ob1_s r1, ob2_s r2]
    refine ⟨_, r3, Or.inr ⟨b2i r, ?_, rfl, r4.trans hth⟩⟩
    cases r
    · rw [b2i_f, if_pos rfl]
    · rw [b2i_t, if_neg one_ne0]
  · rw [ob1_s s1, ob1_s s2, b2i_f, if_pos rfl, if_pos rfl]
    exact ⟨_, h0.thrown 1, Or.inl ⟨rfl, rfl, by rw [gs_thrown_thrown]⟩⟩
/-- the share of sure nodes: the answer is a number of the table shr -/
theorem sureShare_ok (h : INV S Z M) (v : Int32) : ∃ M', INV S Z M' ∧ ((∃ x, F_X4_sureShare S v = some (.inl ("java/lang/IndexOutOfBoundsException", ())) ∧ F_X5_sureShare M v = some (x, M') ∧ g_Model_thrown M' = 1) ∨ (∃ a n, a ≤ n ∧ n ≤ 30 ∧ F_X4_sureShare S v = some (.inr (shr a n)) ∧ F_X5_sureShare M v = some (shr a n, M') ∧ g_Model_thrown M' = 0)) := by
  have h0 := h.thrown 0
  have hth : g_Model_thrown (s_Model_thrown M 0) = 0 := gs_thrown_thrown ..
  unfold F_X4_sureShare F_X5_sureShare
  rcases shape_cases v with ⟨hv, s1, s2⟩ | ⟨_, _, s1, s2⟩
  · rw [ob1_s s1, ob1_s s2, b2i_t, if_neg one_ne0, if_neg one_ne0]
    rcases hv with rfl | rfl
    · obtain ⟨A, hA⟩ := h0.1.tree (k := false) (s := 0) (Or.inl ⟨rfl, rfl⟩)
      obtain ⟨a, n, a1, a2, a3, a4⟩ := share_ok hA (by omega)
      have a3' : F_X4_shareOfSure (g_State_first (g_LS_now S)) = some (shr a n) := a3
      have a4' : F_X5_sure (s_Model_thrown M 0) 0 = some (shr a n) := a4
      rw [if_pos rfl, ob1_s a3', ob1_s a4']
      exact ⟨_, h0, Or.inr ⟨a, n, a1, a2, rfl, rfl, hth⟩⟩
    · obtain ⟨A, hA⟩ := h0.1.tree (k := true) (s := 1) (Or.inr ⟨rfl, rfl⟩)
      obtain ⟨a, n, a1, a2, a3, a4⟩ := share_ok hA (by omega)
      have a3' : F_X4_shareOfSure (g_State_second (g_LS_now S)) = some (shr a n) := a3
      have a4' : F_X5_sure (s_Model_thrown M 0) 1 = some (shr a n) := a4
      rw [if_neg one_ne0, ob1_s a3', ob1_s a4']
      exact ⟨_, h0, Or.inr ⟨a, n, a1, a2, rfl, rfl, hth⟩⟩
  · rw [ob1_s s1, ob1_s s2, b2i_f, if_pos rfl, if_pos rfl]
    exact ⟨_, h0.thrown 1, Or.inl ⟨_, rfl, rfl, by rw [gs_thrown_thrown]⟩⟩
end LOOK
