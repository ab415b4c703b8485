/-! ===== pure: join and ifJoined, alike ===== -/
section JOIN
variable {S : S_LS} {Z : Nat → S_State} {M : S_Model}
theorem KS.other {k : Bool} {s : Nat} (h : KS k s) : KS (!k) (1 - s) := by
  rcases h with ⟨rfl, rfl⟩ | ⟨rfl, rfl⟩
  · exact Or.inr ⟨rfl, rfl⟩
  · exact Or.inl ⟨rfl, rfl⟩
theorem KS.both {k : Bool} {s : Nat} (h : KS k s) : (s = 0 ∧ 1 - s = 1) ∨ (s = 1 ∧ 1 - s = 0) := by
  rcases h with ⟨rfl, rfl⟩ | ⟨rfl, rfl⟩ <;> omega
theorem joined_core {k : Bool} {s : Nat} (hk : KS k s) (h : INV S Z M) : ∃ A W t n b p ρ, Wf A ∧ F_X4_workOutJoined S k = some (s_LS_work S W) ∧ F_X5_joins M (nI s) = some (smv M t n b p) ∧ TR W A 10000 ∧ g_Tree_documents W = g_Model_now M (1 + s) + g_Model_now M (2 - s) ∧ MT t n ρ A ∧ (A 0 = none → n = 0) := by
  obtain ⟨A, hA⟩ := h.1.tree hk
  obtain ⟨B, hB⟩ := h.1.tree hk.other
  obtain ⟨W, e1, e2, e3⟩ := class_join hA.1 hB.1 hA.2.1 hB.2.1 hA.2.2.2.1.2.1 hB.2.2.2.1.2.1
  obtain ⟨t, n, b, p, ρ, f1, f2, f3⟩ := model_join hA.1 hB.1 hk.both hA.2.2.2.1 hB.2.2.2.1
  rw [hA.2.2.2.2] at e2 e3
  rw [hB.2.2.2.2] at e3
  have h2 : 1 + (1 - s) = 2 - s := by have := hk.le; omega
  rw [h2] at e3
  exact ⟨_, W, t, n, b, p, ρ, jm_wf hA.1 hB.1 _, e1, f1, e2, e3, f2, f3⟩
theorem join_run {k : Bool} {s : Nat} (hk : KS k s) (h : INV S Z M) (hth : g_Model_thrown M = 0) : ∃ S1 M1 c, F_X4_workOutJoined S k = some S1 ∧ F_X5_joins M (nI s) = some M1 ∧ g_Tree_size (g_LS_work S1) = nI c ∧ c ≤ 64 ∧ F_X5_nodes M1 = some (nI c) ∧ INV S1 Z M1 ∧ g_Model_thrown M1 = 0 ∧ (c ≤ 30 → ∃ S2 Z' S3 M2 M3, F_X4_saveState S1 Z = some (S2, Z') ∧ F_X4_takeWork S2 k = some S3 ∧ F_X5_saves M1 = some M2 ∧ F_X5_becomes M2 (nI s) = some M3 ∧ g_Model_thrown M3 = 0 ∧ g_Tree_size (g_State_tree k (g_LS_now S3)) = g_Model_now M3 (3 + s) ∧ INV S3 Z' (s_Model_now M3 (upd (g_Model_now M3) (1 + s) (g_Model_now M3 (1 + s) + g_Model_now M3 (2 - s))))) := by
  obtain ⟨A, W, t, n, b, p, ρ, hA, e1, e2, e3, e4, e5, e6⟩ := joined_core hk h
  have hI : INV (s_LS_work S W) Z (smv M t n b p) := (INV_smv h).work W
  refine ⟨_, _, ix A 10000, e1, e2, e3.1, e3.2.1, nodes_ok (S := smv M t n b p) hA.wf0 (by rw [smv_tree]; exact e5) (smv_top ..), hI, by rw [smv_thrown]; exact hth, fun hr => ?_⟩
  obtain ⟨q, Z', p', f, o, T, W', c1, c2, c3, c4, c5, c6, c7⟩ := take_core (k := k) (s := s) hk hI hA e3 (by rw [smv_tree]; exact e5) (smv_top ..) hr e6
  refine ⟨_, Z', _, _, _, c1, c2, c3, c4, ?_, ?_, c7 _ ?_ ?_⟩
  · rw [bmv_thrown, gs_thrown_kept, gs_thrown_past, smv_thrown]; exact hth
  · rw [bmv_now, ← c5]
    rcases hk with ⟨rfl, rfl⟩ | ⟨rfl, rfl⟩ <;> rfl
  · rw [upd_at, bmv_now, c6 _ (by have := hk.le; omega) (by omega), c6 _ (by omega) (by have := hk.le; omega), smv_now]
    exact e4.symm
  · intro i hi
    rw [upd_ne hi, bmv_now]
theorem join_ok (h : INV S Z M) (v : Int32) : ∃ M', (∃ e c S', F_X4_join S Z v = some (.inl (e, (S', Z))) ∧ F_X5_join M v = some (0, M') ∧ INV S' Z M' ∧ g_Model_thrown M' = nI c ∧ ((c = 1 ∧ e = "java/lang/IndexOutOfBoundsException") ∨ (c = 2 ∧ e = "java/lang/IllegalStateException"))) ∨ (∃ r S' Z', F_X4_join S Z v = some (.inr (r, S', Z')) ∧ F_X5_join M v = some (r, M') ∧ INV S' Z' M' ∧ g_Model_thrown M' = 0) := by
  have h0 := h.thrown 0
  unfold F_X4_join F_X5_join
  rcases shape_cases v with ⟨hv, s1, s2⟩ | ⟨_, _, s1, s2⟩
  · rw [ob1_s s1, ob1_s s2, b2i_t, if_neg one_ne0, if_neg one_ne0]
    have hth : g_Model_thrown (s_Model_thrown M 0) = 0 := gs_thrown_thrown ..
    rcases hv with rfl | rfl
    · obtain ⟨S1, M1, c, l1, l2, l3, l4, l5, l6, l7, l8⟩ := join_run (k := false) (s := 0) (Or.inl ⟨rfl, rfl⟩) h0 hth
      have l2' : F_X5_joins (s_Model_thrown M 0) 0 = some M1 := l2
      rw [if_pos rfl, if_neg (by decide), ob1_s l1, ob1_s l2', ob1_s l5, l3]
      by_cases z : c ≤ 30
      · obtain ⟨S2, Z', S3, M2, M3, c1, c2, c3, c4, c5, c6, c7⟩ := l8 z
        have c4' : F_X5_becomes M2 0 = some M3 := c4
        rw [if_pos (show nI c ≤ (30 : Int32) from nI_le (b := 30) z (by omega)), if_pos (show nI c ≤ (30 : Int32) from nI_le (b := 30) z (by omega)), ob2_s c1, ob1_s c2, ob1_s c3, ob1_s c4', og_t (by decide), og_t (by decide), og_t (by decide), og_t (by decide)]
        rw [show ((1 : Int32) + 0).toNatClampNeg = 1 + 0 from rfl, show ((3 : Int32) + 0).toNatClampNeg = 3 + 0 from rfl, show ((2 : Int32) - 0).toNatClampNeg = 2 - 0 from rfl, upd_ne (show 3 + 0 ≠ 1 + 0 by omega), ← c6]
        exact ⟨_, Or.inr ⟨_, _, _, rfl, rfl, c7, by rw [gs_thrown_now]; exact c5⟩⟩
      · rw [if_neg (show ¬ nI c ≤ (30 : Int32) from nI_ge (a := 30) (b := c) (by omega) (by omega)), if_neg (show ¬ nI c ≤ (30 : Int32) from nI_ge (a := 30) (b := c) (by omega) (by omega))]
        exact ⟨_, Or.inl ⟨_, 2, _, rfl, rfl, l6.thrown 2, by rw [gs_thrown_thrown]; rfl, Or.inr ⟨rfl, rfl⟩⟩⟩
    · obtain ⟨S1, M1, c, l1, l2, l3, l4, l5, l6, l7, l8⟩ := join_run (k := true) (s := 1) (Or.inr ⟨rfl, rfl⟩) h0 hth
      have l2' : F_X5_joins (s_Model_thrown M 0) 1 = some M1 := l2
      rw [if_neg one_ne0, if_pos (show (1 : Int32) - 1 = 0 by decide), ob1_s l1, ob1_s l2', ob1_s l5, l3]
      by_cases z : c ≤ 30
      · obtain ⟨S2, Z', S3, M2, M3, c1, c2, c3, c4, c5, c6, c7⟩ := l8 z
        have c4' : F_X5_becomes M2 1 = some M3 := c4
        rw [if_pos (show nI c ≤ (30 : Int32) from nI_le (b := 30) z (by omega)), if_pos (show nI c ≤ (30 : Int32) from nI_le (b := 30) z (by omega)), ob2_s c1, ob1_s c2, ob1_s c3, ob1_s c4', og_t (by decide), og_t (by decide), og_t (by decide), og_t (by decide)]
        rw [show ((1 : Int32) + 1).toNatClampNeg = 1 + 1 from rfl, show ((3 : Int32) + 1).toNatClampNeg = 3 + 1 from rfl, show ((2 : Int32) - 1).toNatClampNeg = 2 - 1 from rfl, upd_ne (show 3 + 1 ≠ 1 + 1 by omega), ← c6]
        exact ⟨_, Or.inr ⟨_, _, _, rfl, rfl, c7, by rw [gs_thrown_now]; exact c5⟩⟩
      · rw [if_neg (show ¬ nI c ≤ (30 : Int32) from nI_ge (a := 30) (b := c) (by omega) (by omega)), if_neg (show ¬ nI c ≤ (30 : Int32) from nI_ge (a := 30) (b := c) (by omega) (by omega))]
        exact ⟨_, Or.inl ⟨_, 2, _, rfl, rfl, l6.thrown 2, by rw [gs_thrown_thrown]; rfl, Or.inr ⟨rfl, rfl⟩⟩⟩
  · rw [ob1_s s1, ob1_s s2, b2i_f, if_pos rfl, if_pos rfl]
    exact ⟨_, Or.inl ⟨_, 1, _, rfl, rfl, h0.thrown 1, by rw [gs_thrown_thrown]; rfl, Or.inl ⟨rfl, rfl⟩⟩⟩
/-- the number of nodes that a joined shape has -/
theorem joinedNodes_ok (h : INV S Z M) : ∃ v S' M', F_X4_workOutJoined S false = some S' ∧ g_Tree_size (g_LS_work S') = v ∧ F_X5_joinedNodes M = some (v, M') ∧ INV S' Z M' ∧ g_Model_thrown M' = g_Model_thrown M ∧ ∃ W, S' = s_LS_work S W := by
  obtain ⟨A, W, t, n, b, p, ρ, hA, e1, e2, e3, e4, e5, e6⟩ := joined_core (k := false) (s := 0) (Or.inl ⟨rfl, rfl⟩) h
  have e2' : F_X5_joins M 0 = some (smv M t n b p) := e2
  have hn := nodes_ok (S := smv M t n b p) hA.wf0 (by rw [smv_tree]; exact e5) (smv_top ..)
  refine ⟨nI (ix A 10000), _, smv M t n b p, e1, e3.1, ?_, (INV_smv h).work W, by rw [smv_thrown], W, rfl⟩
  unfold F_X5_joinedNodes
  rw [ob1_s e2', ob1_s hn]
theorem ifJoined_ok (h : INV S Z M) : ∃ v S' M', F_X4_ifJoined S = some (v, S') ∧ F_X5_ifJoined M = some (v, M') ∧ INV S' Z M' ∧ g_Model_thrown M' = 0 := by
  obtain ⟨v, S', M', e1, e2, e3, e4, e5, W, e6⟩ := joinedNodes_ok (h.thrown 0)
  refine ⟨v, S', M', ?_, ?_, e4, by rw [e5, gs_thrown_thrown]⟩
  · unfold F_X4_ifJoined
    rw [ob1_s e1, e2]
  · unfold F_X5_ifJoined
    rw [ob2_s e3]
end JOIN
