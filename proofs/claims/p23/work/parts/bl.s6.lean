/-! ===== pure: learn, alike ===== -/
section LEARN
variable {S : S_LS} {Z : Nat → S_State} {M : S_Model}
theorem INV_smv {t : Nat → Int32} {n : Nat} {b : Int32} {p : Nat → Int32} (h : INV S Z M) : INV S Z (smv M t n b p) := h.ext (smv_now ..) (smv_past ..) (smv_kept ..) (smv_text ..) (smv_typed ..)
theorem INV.lsv (h : INV S Z M) (V W : S_Tree) : INV (lsv S V W) Z M := h
theorem INV.work (h : INV S Z M) (W : S_Tree) : INV (s_LS_work S W) Z M := h
theorem INV.misfit (h : INV S Z M) (W : S_Misfit) : INV (s_LS_misfit S W) Z M := h
/-- the text is emptied -/
theorem INV.nil (h : INV S Z M) : INV (s_LS_length S 0) Z (s_Model_typed M 0) := by
  obtain ⟨a1, a2, N, t, a3, a4, a5⟩ := h
  refine ⟨?_, ?_, 0, t, rfl, ⟨by omega, fun i hi => by omega⟩, ⟨?_, by omega, fun i hi => by omega⟩⟩
  · rw [gs_now_typed]; exact a1
  · unfold SVx at a2 ⊢
    rw [gs_past_typed, gs_kept_typed]; exact a2
  · rw [gs_typed_typed]; rfl
/-- which tree: the first is shape 0 -/
def KS (k : Bool) (s : Nat) : Prop := (k = false ∧ s = 0) ∨ (k = true ∧ s = 1)
theorem KS.le {k : Bool} {s : Nat} (h : KS k s) : s ≤ 1 := by rcases h with h | h <;> omega
theorem ST.tree {σ : S_State} {f : Nat → Int32} (h : ST σ f) {k : Bool} {s : Nat} (hk : KS k s) : ∃ A, SH (g_State_tree k σ) f s A := by
  rcases hk with ⟨rfl, rfl⟩ | ⟨rfl, rfl⟩
  · exact h.1
  · exact h.2.1
theorem learned_core {k : Bool} {s : Nat} {D : Dc} (hk : KS k s) (h : INV S Z M) (hD : DW D) (hC : CV (g_Reader_values (g_LS_reader S)) D) (hV : MV M D) : ∃ A V W t n b p ρ Mp pl, SH (g_State_tree k (g_LS_now S)) (g_Model_now M) s A ∧ Wf Mp ∧ F_X4_workOutLearned S k = some (lsv S V W) ∧ F_X5_shows M (nI s) = some (smv M t n b p) ∧ CI D A (g_Model_now M (1 + s) + 1) (dN D) V W Mp pl ∧ MI D A (dN D) t n b p ρ Mp pl := by
  obtain ⟨A, hA⟩ := h.1.tree hk
  obtain ⟨V, W, e1, e2⟩ := class_learn hD hA.1 hA.2.1 hA.2.2.2.1.2.1 hC
  obtain ⟨t, n, b, p, ρ, f1, f2⟩ := model_learn hD hA.1 hA.2.2.2.1 hk.le hV
  rw [hA.2.2.2.2] at e2
  exact ⟨A, V, W, t, n, b, p, ρ, _, _, hA, (lrun_LP hD hA.1 (dN D) (Nat.le_refl _)).1, e1, f1, e2, f2⟩
/-- what was worked out is taken, after the state was saved -/
theorem take_core {k : Bool} {s : Nat} (hk : KS k s) (h : INV S Z M) {A : Mp} {n : Nat} {ρ : Nat → Nat} (hA : Wf A) (hT : TR (g_LS_work S) A 10000) (hMT : MT (g_Model_tree M) n ρ A) (htop : g_Model_top M = nI n) (hl : ix A 10000 ≤ 30) (hz : A 0 = none → n = 0) : ∃ q Z' p f o T W,
    F_X4_saveState S Z = some (s_LS_savedStates S (nI q), Z') ∧
    F_X4_takeWork (s_LS_savedStates S (nI q)) k = some (s_LS_work (s_LS_now (s_LS_savedStates S (nI q)) (s_State_tree k (g_LS_now S) T)) W) ∧
    F_X5_saves M = some (s_Model_kept (s_Model_past M p) (nI q)) ∧
    F_X5_becomes (s_Model_kept (s_Model_past M p) (nI q)) (nI s) = some (bmv (s_Model_kept (s_Model_past M p) (nI q)) f o) ∧
    g_Tree_size T = f (3 + s) ∧ (∀ i, i < 5 → i ≠ 3 + s → f i = g_Model_now M i) ∧
    ∀ g : Nat → Int32, g (1 + s) = g_Tree_documents (g_LS_work S) → (∀ i, i ≠ 1 + s → g i = f i) → INV (s_LS_work (s_LS_now (s_LS_savedStates S (nI q)) (s_State_tree k (g_LS_now S) T)) W) Z' (s_Model_now (bmv (s_Model_kept (s_Model_past M p) (nI q)) f o) g) := by
  obtain ⟨b1, b2, N, t, b3, b4, b5⟩ := h
  obtain ⟨q, Z', p, e1, e2, e3, e4⟩ := saves_ok b1 b2
  obtain ⟨W, T, t1, t2, t3, t4⟩ := take_ok (S := s_LS_savedStates S (nI q)) (k := k) hA.wf0 hT
  obtain ⟨o, f, m1, m2, m3⟩ := becomes_ok (S := s_Model_kept (s_Model_past M p) (nI q)) (s := s) hk.le hA (by rw [gs_tree_kept, gs_tree_past]; exact hMT) (by rw [gs_top_kept, gs_top_past]; exact htop) hl hz
  have hnow : g_Model_now (s_Model_kept (s_Model_past M p) (nI q)) = g_Model_now M := by rw [gs_now_kept, gs_now_past]
  rw [hnow] at m3
  refine ⟨q, Z', p, f, o, T, W, e1, t1, e2, m1, t2.1.trans m2.1.symm, fun i hi hne => m3 i (Or.inl (by omega)) hne, fun g g1 g2 => ?_⟩
  have hsv : SVx (s_LS_work (s_LS_now (s_LS_savedStates S (nI q)) (s_State_tree k (g_LS_now S) T)) W) Z' (s_Model_now (bmv (s_Model_kept (s_Model_past M p) (nI q)) f o) g) := by
    refine ⟨q, e3, rfl, by rw [gs_kept_now, bmv_kept, gs_kept_kept], fun j hj => ?_⟩
    rw [gs_past_now, bmv_past, gs_past_kept, gs_past_past]
    exact e4 j hj
  have htx : TX (s_Model_now (bmv (s_Model_kept (s_Model_past M p) (nI q)) f o) g) N t := by
    unfold TX at b5 ⊢
    rw [gs_typed_now, bmv_typed, gs_typed_kept, gs_typed_past, gs_text_now, bmv_text, gs_text_kept, gs_text_past]
    exact b5
  refine ⟨?_, hsv, N, t, b3, b4, htx⟩
  rw [gs_now_now]
  have t4' : g_Tree_documents T = g_Tree_documents (g_LS_work S) := t4
  obtain ⟨⟨A0, hA0⟩, ⟨A1, hA1⟩, hset⟩ := b1
  rcases hk with ⟨rfl, rfl⟩ | ⟨rfl, rfl⟩
  · refine ⟨⟨A, hA, t2, t3, m2.ext hA (g2 _ (by omega)) (fun i _ _ => g2 i (by omega)), t4'.trans g1.symm⟩, ⟨A1, ?_⟩, ?_⟩
    · refine hA1.ext ?_ ?_ (fun i h1 h2 => ?_)
      · rw [g2 _ (by omega), m3 _ (by omega) (by omega)]
      · rw [g2 _ (by omega), m3 _ (by omega) (by omega)]
      · rw [g2 _ (by omega), m3 _ (by omega) (by omega)]
    · rw [g2 0 (by omega), m3 0 (by omega) (by omega)]; exact hset
  · refine ⟨⟨A0, ?_⟩, ⟨A, hA, t2, t3, m2.ext hA (g2 _ (by omega)) (fun i _ _ => g2 i (by omega)), t4'.trans g1.symm⟩, ?_⟩
    · refine hA0.ext ?_ ?_ (fun i h1 h2 => ?_)
      · rw [g2 _ (by omega), m3 _ (by omega) (by omega)]
      · rw [g2 _ (by omega), m3 _ (by omega) (by omega)]
      · rw [g2 _ (by omega), m3 _ (by omega) (by omega)]
    · rw [g2 0 (by omega), m3 0 (by omega) (by omega)]; exact hset
theorem learn_run {k : Bool} {s : Nat} {D : Dc} (hk : KS k s) (h : INV S Z M) (hth : g_Model_thrown M = 0) (hD : DW D) (hC : CV (g_Reader_values (g_LS_reader S)) D) (hV : MV M D) : ∃ S1 M1 r, F_X4_workOutLearned S k = some S1 ∧ F_X5_shows M (nI s) = some M1 ∧ F_X4_isRefused S1 k = some r ∧ F_X5_isRefused M1 = some r ∧ INV S1 Z M1 ∧ g_Model_thrown M1 = 0 ∧ (r = false → ∃ S2 Z' S3 M2 M3, F_X4_saveState S1 Z = some (S2, Z') ∧ F_X4_takeWork S2 k = some S3 ∧ F_X5_saves M1 = some M2 ∧ F_X5_becomes M2 (nI s) = some M3 ∧ g_Model_thrown M3 = 0 ∧ g_Tree_size (g_State_tree k (g_LS_now S3)) = g_Model_now M3 (3 + s) ∧ INV (s_LS_length S3 0) Z' (s_Model_typed (s_Model_now M3 (upd (g_Model_now M3) (1 + s) (g_Model_now M3 (1 + s) + 1))) 0)) := by
  obtain ⟨A, V, W, t, n, b, p, ρ, Mp, pl, hA, hM, e1, e2, e3, e4⟩ := learned_core hk h hD hC hV
  obtain ⟨r, r1, r2, r3⟩ := refused_ok hA.1 hM hA.2.1 e3 e4 h.1.2.2
  have hI : INV (lsv S V W) Z (smv M t n b p) := (INV_smv h).lsv V W
  refine ⟨_, _, r, e1, e2, r1, r2, hI, by rw [smv_thrown]; exact hth, fun hr => ?_⟩
  obtain ⟨q, Z', p', f, o, T, W', c1, c2, c3, c4, c5, c6, c7⟩ := take_core (k := k) (s := s) hk hI hM e3.2.1 (by rw [smv_tree]; exact e4.1) (smv_top ..) (r3 hr) e4.2.2.2.2.2.1
  refine ⟨_, Z', _, _, _, c1, c2, c3, c4, ?_, ?_, INV.nil (c7 _ ?_ ?_)⟩
  · rw [bmv_thrown, gs_thrown_kept, gs_thrown_past, smv_thrown]; exact hth
  · rw [bmv_now, ← c5]
    rcases hk with ⟨rfl, rfl⟩ | ⟨rfl, rfl⟩ <;> rfl
  · rw [upd_at, bmv_now, c6 _ (by have := hk.le; omega) (by omega), smv_now]
    exact e3.2.2.1.symm
  · intro i hi
    rw [upd_ne hi, bmv_now]
theorem learn_ok (h : INV S Z M) (v : Int32) : ∃ M', (∃ e c S', F_X4_learn S Z v = some (.inl (e, (S', Z))) ∧ F_X5_learn M v = some (0, M') ∧ INV S' Z M' ∧ g_Model_thrown M' = nI c ∧ ((c = 1 ∧ e = "java/lang/IndexOutOfBoundsException") ∨ (c = 2 ∧ e = "java/lang/IllegalArgumentException") ∨ (c = 3 ∧ e = "java/lang/IllegalStateException"))) ∨ (∃ r S' Z', F_X4_learn S Z v = some (.inr (r, S', Z')) ∧ F_X5_learn M v = some (r, M') ∧ INV S' Z' M' ∧ g_Model_thrown M' = 0) := by
  have h0 := h.thrown 0
  unfold F_X4_learn F_X5_learn
  rcases shape_cases v with ⟨hv, s1, s2⟩ | ⟨_, _, s1, s2⟩
  · rw [ob1_s s1, ob1_s s2, b2i_t, if_neg one_ne0, if_neg one_ne0]
    obtain ⟨N, t1, t2, hcase⟩ := INV_text h0
    rcases hcase with ⟨e, M', R', a1, a2, a3, a4, a5⟩ | ⟨D, x, M', R', K, U, L, B, E, W, O, a1, a2, a3, a4, a5, a6, a7, a8, a9⟩
    · obtain ⟨f1, f2, f3, f4, f5⟩ := FAILS_INV h0 a3
      rw [ob2_s a4, ob2_s a2, b2i_f, if_pos rfl, if_pos rfl]
      exact ⟨_, Or.inl ⟨_, 2, _, rfl, rfl, (f1.reader R').thrown 2, by rw [gs_thrown_thrown]; rfl, Or.inr (Or.inl ⟨rfl, rfl⟩)⟩⟩
    · have hI : INV (s_LS_reader S R') Z M' := by rw [a9]; exact (INV_pmv h0).reader R'
      have hth : g_Model_thrown M' = 0 := by rw [a9, pmv_thrown, gs_thrown_thrown]
      rw [ob2_s a2, ob2_s a1, b2i_t, if_neg one_ne0, if_neg one_ne0]
      rcases hv with rfl | rfl
      · obtain ⟨S1, M1, r, l1, l2, l3, l4, l5, l6, l7⟩ := learn_run (k := false) (s := 0) (Or.inl ⟨rfl, rfl⟩) hI hth a4 a6 a7
        have l2' : F_X5_shows M' 0 = some M1 := l2
        rw [if_pos rfl, ob1_s l1, ob1_s l3, ob1_s l2', ob1_s l4]
        cases r
        · obtain ⟨S2, Z', S3, M2, M3, c1, c2, c3, c4, c5, c6, c7⟩ := l7 rfl
          have c4' : F_X5_becomes M2 0 = some M3 := c4
          rw [b2i_f, if_pos rfl, if_pos rfl, ob2_s c1, ob1_s c2, ob1_s c3, ob1_s c4', og_t (by decide), og_t (by decide), og_t (by decide)]
          rw [show ((1 : Int32) + 0).toNatClampNeg = 1 + 0 from rfl, show ((3 : Int32) + 0).toNatClampNeg = 3 + 0 from rfl, upd_ne (show 3 + 0 ≠ 1 + 0 by omega), ← c6]
          exact ⟨_, Or.inr ⟨_, _, _, rfl, rfl, c7, by rw [gs_thrown_typed, gs_thrown_now]; exact c5⟩⟩
        · rw [b2i_t, if_neg one_ne0, if_neg one_ne0]
          exact ⟨_, Or.inl ⟨_, 3, _, rfl, rfl, l5.thrown 3, by rw [gs_thrown_thrown]; rfl, Or.inr (Or.inr ⟨rfl, rfl⟩)⟩⟩
      · obtain ⟨S1, M1, r, l1, l2, l3, l4, l5, l6, l7⟩ := learn_run (k := true) (s := 1) (Or.inr ⟨rfl, rfl⟩) hI hth a4 a6 a7
        have l2' : F_X5_shows M' 1 = some M1 := l2
        rw [if_neg one_ne0, ob1_s l1, ob1_s l3, ob1_s l2', ob1_s l4]
        cases r
        · obtain ⟨S2, Z', S3, M2, M3, c1, c2, c3, c4, c5, c6, c7⟩ := l7 rfl
          have c4' : F_X5_becomes M2 1 = some M3 := c4
          rw [b2i_f, if_pos rfl, if_pos rfl, ob2_s c1, ob1_s c2, ob1_s c3, ob1_s c4', og_t (by decide), og_t (by decide), og_t (by decide)]
          rw [show ((1 : Int32) + 1).toNatClampNeg = 1 + 1 from rfl, show ((3 : Int32) + 1).toNatClampNeg = 3 + 1 from rfl, upd_ne (show 3 + 1 ≠ 1 + 1 by omega), ← c6]
          exact ⟨_, Or.inr ⟨_, _, _, rfl, rfl, c7, by rw [gs_thrown_typed, gs_thrown_now]; exact c5⟩⟩
        · rw [b2i_t, if_neg one_ne0, if_neg one_ne0]
          exact ⟨_, Or.inl ⟨_, 3, _, rfl, rfl, l5.thrown 3, by rw [gs_thrown_thrown]; rfl, Or.inr (Or.inr ⟨rfl, rfl⟩)⟩⟩
  · rw [ob1_s s1, ob1_s s2, b2i_f, if_pos rfl, if_pos rfl]
    exact ⟨_, Or.inl ⟨_, 1, _, rfl, rfl, h0.thrown 1, by rw [gs_thrown_thrown]; rfl, Or.inl ⟨rfl, rfl⟩⟩⟩
end LEARN
