/-! ===== p23, pure: the class's states and what its methods do to them ===== -/
/-- a tree that holds the shape M, of n documents -/
def GT (T : S_Tree) (M : Mp) (n : Int) : Prop := GM M n ∧ TR T M 10000 ∧ OP T M ∧ ix M 10000 ≤ 30 ∧ (g_Tree_documents T).toInt = n
def GTx (T : S_Tree) (b : Int) : Prop := ∃ M n, GT T M n ∧ n ≤ b
def GSt (σ : S_State) (b : Int) : Prop := (∀ k, GTx (g_State_tree k σ) b) ∧ (g_State_setting σ = 0 ∨ g_State_setting σ = 1)
def GI (S : S_LS) (Z : Nat → S_State) (b : Int) : Prop := GSt (g_LS_now S) b ∧ (∀ j, GSt (Z j) b) ∧ ∃ q, q ≤ 6 ∧ g_LS_savedStates S = nI q
theorem ix_no : ∀ n, ix (fun _ => none) n = 0 := by
  intro n
  induction n with
  | zero => rfl
  | succ n ihr => simp [ix, has1, ihr]
theorem undo_cls {S : S_LS} {Z : Nat → S_State} {j : Nat} {σ : S_State} (hj : j < 6) (hs : g_LS_savedStates S = nI (j + 1)) (hc : F_X2_copyFrom (g_LS_now S) (Z j) = some σ) : F_X4_undo S Z = some (.inr (nI j, s_LS_savedStates (s_LS_now S σ) (nI j))) := by
  unfold F_X4_undo
  rw [hs, show nI (j + 1) - 1 = nI j from nI_sub (a := j + 1) (b := 1) (by omega)]
  rcases (show j = 0 ∨ j = 1 ∨ j = 2 ∨ j = 3 ∨ j = 4 ∨ j = 5 by omega) with rfl | rfl | rfl | rfl | rfl | rfl
  · rw [if_pos (by decide), if_neg (by decide), ob1_s hc]
  · rw [if_neg (by decide), if_pos (by decide), if_neg (by decide), ob1_s hc]
  · rw [if_neg (by decide), if_neg (by decide), if_pos (by decide), if_neg (by decide), ob1_s hc]
  · rw [if_neg (by decide), if_neg (by decide), if_neg (by decide), if_pos (by decide), if_neg (by decide), ob1_s hc]
  · rw [if_neg (by decide), if_neg (by decide), if_neg (by decide), if_neg (by decide), if_pos (by decide), if_neg (by decide), ob1_s hc]
  · rw [if_neg (by decide), if_neg (by decide), if_neg (by decide), if_neg (by decide), if_neg (by decide), if_pos (by decide), if_neg (by decide), ob1_s hc]
theorem GTx.mono {T : S_Tree} {b b' : Int} (h : GTx T b) (hb : b ≤ b') : GTx T b' := by
  obtain ⟨M, n, h1, h2⟩ := h
  exact ⟨M, n, h1, by omega⟩
theorem GSt.mono {σ : S_State} {b b' : Int} (h : GSt σ b) (hb : b ≤ b') : GSt σ b' := ⟨fun k => (h.1 k).mono hb, h.2⟩
theorem GI.mono {S : S_LS} {Z : Nat → S_State} {b b' : Int} (h : GI S Z b) (hb : b ≤ b') : GI S Z b' := ⟨h.1.mono hb, fun j => (h.2.1 j).mono hb, h.2.2⟩
theorem GT_none {T : S_Tree} (h1 : g_Tree_size T = 0) (h2 : g_Tree_documents T = 0) : GT T (fun _ => none) 0 := ⟨GM_none, ⟨by rw [ix_no, h1]; rfl, by rw [ix_no]; omega, fun c d _ h => (nomatch h)⟩, fun c d h => (nomatch h), by rw [ix_no]; omega, by rw [h2]; rfl⟩
theorem GSt_new : GSt Z_State 0 := ⟨fun k => ⟨_, 0, by cases k <;> exact GT_none rfl rfl, Int.le_refl _⟩, Or.inl rfl⟩
theorem GI_new : GI Z_LS (fun _ => Z_State) 0 := ⟨GSt_new, fun _ => GSt_new, 0, by omega, rfl⟩
theorem copy_GT {U T : S_Tree} {M : Mp} {n : Int} (h : GT T M n) : ∃ T', F_X3_copyFrom U T = some T' ∧ GT T' M n ∧ g_Tree_documents T' = g_Tree_documents T := by
  obtain ⟨h1, h2, h3, h4, h5⟩ := h
  obtain ⟨T', e1, e2, e3, e4⟩ := copy_TR (U := U) h1.1.wf0 h2 h3
  exact ⟨T', e1, ⟨h1, e2, e3, h4, by rw [e4]; exact h5⟩, e4⟩
theorem copy_GSt {A B : S_State} {b : Int} (h : GSt B b) : ∃ A', F_X2_copyFrom A B = some A' ∧ GSt A' b := by
  obtain ⟨h1, h2⟩ := h
  obtain ⟨M, n, a1, a2⟩ := h1 false
  obtain ⟨N, m, b1, b2⟩ := h1 true
  obtain ⟨T, e1, e2, -⟩ := copy_GT (U := g_State_first A) a1
  obtain ⟨T2, f1, f2, -⟩ := copy_GT (U := g_State_second A) b1
  have e1' : F_X3_copyFrom (g_State_first A) (g_State_first B) = some T := e1
  have f1' : F_X3_copyFrom (g_State_second A) (g_State_second B) = some T2 := f1
  refine ⟨s_State_setting (s_State_second (s_State_first A T) T2) (g_State_setting B), ?_, fun k => ?_, h2⟩
  · unfold F_X2_copyFrom
    rw [ob1_s e1', ob1_s f1']
  · cases k with
    | false => exact ⟨M, n, e2, a2⟩
    | true => exact ⟨N, m, f2, b2⟩
theorem mk6_all {b : Int} {x0 x1 x2 x3 x4 x5 : S_State} (h0 : GSt x0 b) (h1 : GSt x1 b) (h2 : GSt x2 b) (h3 : GSt x3 b) (h4 : GSt x4 b) (h5 : GSt x5 b) : ∀ j, GSt (mk6 x0 x1 x2 x3 x4 x5 j) b := fun j =>
  match j with
  | 0 => h0
  | 1 => h1
  | 2 => h2
  | 3 => h3
  | 4 => h4
  | _ + 5 => h5
/-- the state is saved -/
theorem save_G {S : S_LS} {Z : Nat → S_State} {b : Int} (h : GI S Z b) : ∃ q Z', q ≤ 6 ∧ F_X4_saveState S Z = some (s_LS_savedStates S (nI q), Z') ∧ ∀ j, GSt (Z' j) b := by
  obtain ⟨hT, hZ, q, hq, hs⟩ := h
  unfold F_X4_saveState
  rcases (show q = 0 ∨ q = 1 ∨ q = 2 ∨ q = 3 ∨ q = 4 ∨ q = 5 ∨ q = 6 by omega) with h | h | h | h | h | h | h <;> subst h
  · obtain ⟨u, e1, e2⟩ := copy_GSt (A := Z 0) hT
    rw [hs, if_pos (by decide), if_pos (by decide), ob1_s e1, nI_1]
    exact ⟨1, _, by omega, rfl, mk6_all e2 (hZ 1) (hZ 2) (hZ 3) (hZ 4) (hZ 5)⟩
  · obtain ⟨u, e1, e2⟩ := copy_GSt (A := Z 1) hT
    rw [hs, if_pos (by decide), if_neg (by decide), if_pos (by decide), ob1_s e1, nI_1]
    exact ⟨2, _, by omega, rfl, mk6_all (hZ 0) e2 (hZ 2) (hZ 3) (hZ 4) (hZ 5)⟩
  · obtain ⟨u, e1, e2⟩ := copy_GSt (A := Z 2) hT
    rw [hs, if_pos (by decide), if_neg (by decide), if_neg (by decide), if_pos (by decide), ob1_s e1, nI_1]
    exact ⟨3, _, by omega, rfl, mk6_all (hZ 0) (hZ 1) e2 (hZ 3) (hZ 4) (hZ 5)⟩
  · obtain ⟨u, e1, e2⟩ := copy_GSt (A := Z 3) hT
    rw [hs, if_pos (by decide), if_neg (by decide), if_neg (by decide), if_neg (by decide), if_pos (by decide), ob1_s e1, nI_1]
    exact ⟨4, _, by omega, rfl, mk6_all (hZ 0) (hZ 1) (hZ 2) e2 (hZ 4) (hZ 5)⟩
  · obtain ⟨u, e1, e2⟩ := copy_GSt (A := Z 4) hT
    rw [hs, if_pos (by decide), if_neg (by decide), if_neg (by decide), if_neg (by decide), if_neg (by decide), if_pos (by decide), ob1_s e1, nI_1]
    exact ⟨5, _, by omega, rfl, mk6_all (hZ 0) (hZ 1) (hZ 2) (hZ 3) e2 (hZ 5)⟩
  · obtain ⟨u, e1, e2⟩ := copy_GSt (A := Z 5) hT
    rw [hs, if_pos (by decide), if_neg (by decide), if_neg (by decide), if_neg (by decide), if_neg (by decide), if_neg (by decide), if_pos (by decide), ob1_s e1, nI_1]
    exact ⟨6, _, by omega, rfl, mk6_all (hZ 0) (hZ 1) (hZ 2) (hZ 3) (hZ 4) e2⟩
  · obtain ⟨u, e1, e2⟩ := copy_GSt (A := mk6 (Z 1) (Z 2) (Z 3) (Z 4) (Z 5) (Z 0) 5) hT
    have hS : g_LS_savedStates (s_LS_savedStates S (nI 5)) = nI 5 := rfl
    have hN : g_LS_now (s_LS_savedStates S (nI 5)) = g_LS_now S := rfl
    unfold F_X4_dropOldest
    rw [hs, if_neg (by decide), show nI 6 - 1 = nI 5 by decide, ob2_e, hS, if_neg (by decide), if_neg (by decide), if_neg (by decide), if_neg (by decide), if_neg (by decide), if_pos (by decide), hN, ob1_s e1, show nI 5 + 1 = nI 6 by decide]
    exact ⟨6, _, by omega, rfl, mk6_all (hZ 1) (hZ 2) (hZ 3) (hZ 4) (hZ 5) e2⟩
/-- whether learning or joining is refused -/
def RF (set : Int32) (B M : Mp) : Prop := 30 < ix M 10000 ∨ (set = 1 ∧ BA B M)
theorem refused_cl {S : S_LS} {k : Bool} {B M : Mp} (hM : Wf0 M) (hW : TR (g_LS_work S) M 10000) (hB : TR (g_State_tree k (g_LS_now S)) B 10000) (hBw : Wf0 B) (hO : ∀ x e, M x = some e → tc (g_LS_work S) (ix M x) 7 = rn B x) : ∃ r, F_X4_isRefused S k = some r ∧ (r = true ↔ RF (g_State_setting (g_LS_now S)) B M) := by
  obtain ⟨r, r1, r2⟩ := brings_ok hM hW hB hBw hO
  have hle := hW.le
  unfold F_X4_isRefused
  rw [hW.size]
  by_cases z : 30 < ix M 10000
  · rw [if_pos (show (30 : Int32) < nI (ix M 10000) from nI_lt (a := 30) z (by omega))]
    exact ⟨true, rfl, fun _ => Or.inl z, fun _ => rfl⟩
  · rw [if_neg (show ¬ (30 : Int32) < nI (ix M 10000) from nI_nlt (a := 30) (b := ix M 10000) (by omega) (by omega))]
    by_cases y : g_State_setting (g_LS_now S) = 1
    · rw [if_pos y, ob1_s r1]
      cases r with
      | false =>
        rw [b2i_f, if_pos rfl]
        refine ⟨false, rfl, fun w => (nomatch w), fun w => ?_⟩
        rcases w with w | w
        · exact absurd w z
        · exact r2.mpr w.2
      | true =>
        rw [b2i_t, if_neg one_ne0]
        exact ⟨true, rfl, fun _ => Or.inr ⟨y, r2.mp rfl⟩, fun _ => rfl⟩
    · rw [if_neg y]
      refine ⟨false, rfl, fun w => (nomatch w), fun w => ?_⟩
      rcases w with w | w
      · exact absurd w z
      · exact absurd w.1 y
section CLS
variable {S : S_LS} {Z : Nat → S_State} {b : Int} {k : Bool} {M : Mp} {n : Int} {D : Dc} {R' : S_Reader}
/-- the shape that learning makes -/
def lrn (D : Dc) (doc : Int32) (M : Mp) : Mp := (lrun D doc M (dN D)).1
/-- what learning works out -/
theorem work_cl (hT : GT (g_State_tree k (g_LS_now S)) M n) (hC : CV (g_Reader_values R') D) (hD : DW D) : ∃ V W r, F_X4_workOutLearned (s_LS_reader S R') k = some (lsv (s_LS_reader S R') V W) ∧ TR W (lrn D (g_Tree_documents (g_State_tree k (g_LS_now S)) + 1) M) 10000 ∧ g_Tree_documents W = g_Tree_documents (g_State_tree k (g_LS_now S)) + 1 ∧ F_X4_isRefused (lsv (s_LS_reader S R') V W) k = some r ∧ (r = true ↔ RF (g_State_setting (g_LS_now S)) M (lrn D (g_Tree_documents (g_State_tree k (g_LS_now S)) + 1) M)) := by
  obtain ⟨h1, h2, h3, h4, h5⟩ := hT
  obtain ⟨V, W, e1, e2⟩ := class_learn (S := s_LS_reader S R') (k := k) hD h1.1 h2 h4 hC
  obtain ⟨c1, c2, c3, c4, c5⟩ := e2
  have hwf := (lrun_LP (doc := g_Tree_documents (g_State_tree k (g_LS_now S)) + 1) hD h1.1 (dN D) (Nat.le_refl _)).1
  obtain ⟨r, r1, r2⟩ := refused_cl (S := lsv (s_LS_reader S R') V W) (k := k) hwf.wf0 c2 h2 h1.1.wf0 c4
  exact ⟨V, W, r, e1, c2, c3, r1, r2⟩
theorem ifl_cl (hr : F_X1_read (g_LS_reader S) (g_LS_codes S) (g_LS_length S) = some (true, R')) (hT : GT (g_State_tree k (g_LS_now S)) M n) (hC : CV (g_Reader_values R') D) (hD : DW D) : ∃ V W r, (r = true ↔ RF (g_State_setting (g_LS_now S)) M (lrn D (g_Tree_documents (g_State_tree k (g_LS_now S)) + 1) M)) ∧ F_X4_ifLearned S (b2i k) 4 = some (.inr (b2i r, lsv (s_LS_reader S R') V W)) ∧ F_X4_ifLearned S (b2i k) 0 = some (.inr (nI (ix (lrn D (g_Tree_documents (g_State_tree k (g_LS_now S)) + 1) M) 10000), lsv (s_LS_reader S R') V W)) := by
  obtain ⟨V, W, r, e1, e2, e3, e4, e5⟩ := work_cl (R' := R') hT hC hD
  refine ⟨V, W, r, e5, ?_, ?_⟩
  · unfold F_X4_ifLearned
    rw [ob1_s (b2i_shape k), b2i_t, if_neg one_ne0, if_neg (by decide), if_pos (by decide), ob2_s hr, b2i_t, if_neg one_ne0]
    have ho : F_X4_outlookNumber (lsv (s_LS_reader S R') V W) k 4 = some (b2i r) := by
      unfold F_X4_outlookNumber
      rw [if_neg (by decide), if_pos rfl, ob1_s e4]
      cases r
      · rw [b2i_f, if_pos rfl]
      · rw [b2i_t, if_neg one_ne0]
    cases k with
    | false => rw [b2i_f, if_pos rfl, ob1_s e1, ob1_s ho]
    | true => rw [b2i_t, if_neg one_ne0, ob1_s e1, ob1_s ho]
  · unfold F_X4_ifLearned
    rw [ob1_s (b2i_shape k), b2i_t, if_neg one_ne0, if_neg (by decide), if_pos (by decide), ob2_s hr, b2i_t, if_neg one_ne0]
    have ho : F_X4_outlookNumber (lsv (s_LS_reader S R') V W) k 0 = some (nI (ix (lrn D (g_Tree_documents (g_State_tree k (g_LS_now S)) + 1) M) 10000)) := by
      unfold F_X4_outlookNumber
      rw [if_pos rfl]
      exact congrArg some e2.1
    cases k with
    | false => rw [b2i_f, if_pos rfl, ob1_s e1, ob1_s ho]
    | true => rw [b2i_t, if_neg one_ne0, ob1_s e1, ob1_s ho]
/-- a state with another tree -/
theorem GSt.tree {σ : S_State} (h : GSt σ b) {T : S_Tree} {b' : Int} (hT : GTx T b') (hb : b ≤ b') : GSt (s_State_tree k σ T) b' := by
  refine ⟨fun j => ?_, ?_⟩
  · cases k <;> cases j
    · exact hT
    · exact (h.1 true).mono hb
    · exact (h.1 false).mono hb
    · exact hT
  · cases k <;> exact h.2
theorem tree_same {σ : S_State} {T : S_Tree} : g_State_tree k (s_State_tree k σ T) = T := by cases k <;> rfl
theorem tree_other {σ : S_State} {T : S_Tree} : g_State_tree (!k) (s_State_tree k σ T) = g_State_tree (!k) σ := by cases k <;> rfl
/-- learning -/
theorem learn_cl (h : GI S Z b) (hb : b + 1 ≤ 1000000) (hr : F_X1_read (g_LS_reader S) (g_LS_codes S) (g_LS_length S) = some (true, R')) (hT : GT (g_State_tree k (g_LS_now S)) M n) (hn : n ≤ b) (hC : CV (g_Reader_values R') D) (hD : DW D) (hL : DL D) :
    (RF (g_State_setting (g_LS_now S)) M (lrn D (g_Tree_documents (g_State_tree k (g_LS_now S)) + 1) M) ∧ ∃ S', F_X4_learn S Z (b2i k) = some (.inl ("java/lang/IllegalStateException", (S', Z))) ∧ g_LS_now S' = g_LS_now S ∧ g_LS_savedStates S' = g_LS_savedStates S) ∨
    (¬ RF (g_State_setting (g_LS_now S)) M (lrn D (g_Tree_documents (g_State_tree k (g_LS_now S)) + 1) M) ∧ ∃ S' Z', F_X4_learn S Z (b2i k) = some (.inr (nI (ix (lrn D (g_Tree_documents (g_State_tree k (g_LS_now S)) + 1) M) 10000), S', Z')) ∧ GI S' Z' (b + 1) ∧ g_Tree_documents (g_State_tree k (g_LS_now S')) = g_Tree_documents (g_State_tree k (g_LS_now S)) + 1 ∧ g_State_tree (!k) (g_LS_now S') = g_State_tree (!k) (g_LS_now S)) := by
  obtain ⟨V, W, r, e1, e2, e3, e4, e5⟩ := work_cl (R' := R') hT hC hD
  have hG := hT.1
  have hd := hT.2.2.2.2
  have hdoc : (g_Tree_documents (g_State_tree k (g_LS_now S)) + 1).toInt = n + 1 := by rw [add_1 (by rw [hd]; exact hG.2.1) (by rw [hd]; have := hG.2.2.1; omega), hd]
  have hNG := learn_GM hD hL hG (by omega) hdoc
  generalize hM' : lrn D (g_Tree_documents (g_State_tree k (g_LS_now S)) + 1) M = M' at *
  have hNG : GM M' (n + 1) := by rw [← hM']; exact hNG
  cases r with
  | true =>
    refine Or.inl ⟨e5.mp rfl, lsv (s_LS_reader S R') V W, ?_, rfl, rfl⟩
    unfold F_X4_learn
    rw [ob1_s (b2i_shape k), b2i_t, if_neg one_ne0, ob2_s hr, b2i_t, if_neg one_ne0]
    cases k with
    | false => rw [b2i_f, if_pos rfl, ob1_s e1, ob1_s e4, b2i_t, if_neg one_ne0]
    | true => rw [b2i_t, if_neg one_ne0, ob1_s e1, ob1_s e4, b2i_t, if_neg one_ne0]
  | false =>
    have hnr : ¬ RF (g_State_setting (g_LS_now S)) M M' := fun w => (nomatch e5.mpr w)
    have h30 : ix M' 10000 ≤ 30 := by
      rcases Nat.lt_or_ge 30 (ix M' 10000) with z | z
      · exact absurd (Or.inl z) hnr
      · exact z
    have hI : GI (lsv (s_LS_reader S R') V W) Z b := h
    obtain ⟨q, Z', q1, q2, q3⟩ := save_G hI
    obtain ⟨W', T, t1, t2, t3, t4⟩ := take_ok (S := s_LS_savedStates (lsv (s_LS_reader S R') V W) (nI q)) (k := k) hNG.1.wf0 e2
    have t4' : g_Tree_documents T = g_Tree_documents W := t4
    have hGT : GTx T (b + 1) := ⟨M', n + 1, ⟨hNG, t2, t3, h30, by rw [t4', e3]; exact hdoc⟩, by omega⟩
    refine Or.inr ⟨hnr, s_LS_length (s_LS_work (s_LS_now (s_LS_savedStates (lsv (s_LS_reader S R') V W) (nI q)) (s_State_tree k (g_LS_now S) T)) W') 0, Z', ?_, ⟨?_, fun j => (q3 j).mono (by omega), q, q1, rfl⟩, ?_, ?_⟩
    · unfold F_X4_learn
      rw [ob1_s (b2i_shape k), b2i_t, if_neg one_ne0, ob2_s hr, b2i_t, if_neg one_ne0]
      cases k with
      | false =>
        rw [b2i_f, if_pos rfl, ob1_s e1, ob1_s e4, b2i_f, if_pos rfl, ob2_s q2, ob1_s t1]
        exact congrArg (fun z => some (Sum.inr (z, _, _))) t2.1
      | true =>
        rw [b2i_t, if_neg one_ne0, ob1_s e1, ob1_s e4, b2i_f, if_pos rfl, ob2_s q2, ob1_s t1]
        exact congrArg (fun z => some (Sum.inr (z, _, _))) t2.1
    · exact GSt.tree (k := k) h.1 hGT (by omega)
    · show g_Tree_documents (g_State_tree k (s_State_tree k (g_LS_now S) T)) = _
      rw [tree_same, t4', e3]
    · exact tree_other
/-- joining -/
theorem join_cl {N : Mp} {m : Int} (h : GI S Z b) (hb : b + b ≤ 1000000) (hT : GT (g_State_tree k (g_LS_now S)) M n) (hn : n ≤ b) (hU : GT (g_State_tree (!k) (g_LS_now S)) N m) (hm : m ≤ b) :
    (∃ S', F_X4_join S Z (b2i k) = some (.inl ("java/lang/IllegalStateException", (S', Z))) ∧ g_LS_now S' = g_LS_now S ∧ g_LS_savedStates S' = g_LS_savedStates S) ∨
    (∃ S' Z' v, F_X4_join S Z (b2i k) = some (.inr (nI v, S', Z')) ∧ v ≤ 30 ∧ GI S' Z' (b + b) ∧ g_Tree_documents (g_State_tree k (g_LS_now S')) = g_Tree_documents (g_State_tree k (g_LS_now S)) + g_Tree_documents (g_State_tree (!k) (g_LS_now S)) ∧ g_State_tree (!k) (g_LS_now S') = g_State_tree (!k) (g_LS_now S) ∧ GT (g_State_tree k (g_LS_now S')) (jm M N (g_Tree_documents (g_State_tree k (g_LS_now S)))) (n + m)) := by
  obtain ⟨W, e1, e2, e3⟩ := class_join hT.1.1 hU.1.1 hT.2.1 hU.2.1 hT.2.2.2.1 hU.2.2.2.1
  have hd := hT.2.2.2.2
  have hd2 := hU.2.2.2.2
  have n0 := hT.1.2.1
  have m0 := hU.1.2.1
  have hNG := jm_GM hT.1 hU.1 hd (by omega)
  generalize hM' : jm M N (g_Tree_documents (g_State_tree k (g_LS_now S))) = M' at *
  have hle := e2.le
  have hsub : ∀ j : Bool, (1 : Int32) - b2i j = b2i (!j) := fun j => by cases j <;> rfl
  by_cases z : ix M' 10000 ≤ 30
  · have hI : GI (s_LS_work S W) Z b := h
    obtain ⟨q, Z', q1, q2, q3⟩ := save_G hI
    obtain ⟨W', T, t1, t2, t3, t4⟩ := take_ok (S := s_LS_savedStates (s_LS_work S W) (nI q)) (k := k) hNG.1.wf0 e2
    have t4' : g_Tree_documents T = g_Tree_documents W := t4
    have hdT : (g_Tree_documents T).toInt = n + m := by rw [t4', e3, add_small (by omega) (by omega) (by omega) (by omega), hd, hd2]
    have hGT : GT T M' (n + m) := ⟨hNG, t2, t3, z, hdT⟩
    refine Or.inr ⟨s_LS_work (s_LS_now (s_LS_savedStates (s_LS_work S W) (nI q)) (s_State_tree k (g_LS_now S) T)) W', Z', ix M' 10000, ?_, z, ⟨GSt.tree (k := k) h.1 ⟨M', n + m, hGT, by omega⟩ (by omega), fun j => (q3 j).mono (by omega), q, q1, rfl⟩, ?_, tree_other, ?_⟩
    · unfold F_X4_join
      rw [ob1_s (b2i_shape k), b2i_t, if_neg one_ne0]
      have hs : g_Tree_size (g_LS_work (s_LS_work S W)) = nI (ix M' 10000) := e2.1
      cases k with
      | false =>
        rw [hsub, b2i_f, if_pos rfl, show (!false) = true from rfl, b2i_t, if_neg one_ne0, ob1_s e1, hs, if_pos (show nI (ix M' 10000) ≤ (30 : Int32) from nI_le (b := 30) z (by omega)), ob2_s q2, ob1_s t1]
        exact congrArg (fun z => some (Sum.inr (z, _, _))) t2.1
      | true =>
        rw [hsub, b2i_t, if_neg one_ne0, show (!true) = false from rfl, b2i_f, if_pos rfl, ob1_s e1, hs, if_pos (show nI (ix M' 10000) ≤ (30 : Int32) from nI_le (b := 30) z (by omega)), ob2_s q2, ob1_s t1]
        exact congrArg (fun z => some (Sum.inr (z, _, _))) t2.1
    · show g_Tree_documents (g_State_tree k (s_State_tree k (g_LS_now S) T)) = _
      rw [tree_same, t4', e3]
    · show GT (g_State_tree k (s_State_tree k (g_LS_now S) T)) M' (n + m)
      rw [tree_same]
      exact hGT
  · refine Or.inl ⟨s_LS_work S W, ?_, rfl, rfl⟩
    unfold F_X4_join
    rw [ob1_s (b2i_shape k), b2i_t, if_neg one_ne0]
    have hs : g_Tree_size (g_LS_work (s_LS_work S W)) = nI (ix M' 10000) := e2.1
    cases k with
    | false => rw [hsub, b2i_f, if_pos rfl, show (!false) = true from rfl, b2i_t, if_neg one_ne0, ob1_s e1, hs, if_neg (show ¬ nI (ix M' 10000) ≤ (30 : Int32) from nI_ge (a := 30) (b := ix M' 10000) (by omega) (by omega))]
    | true => rw [hsub, b2i_t, if_neg one_ne0, show (!true) = false from rfl, b2i_f, if_pos rfl, ob1_s e1, hs, if_neg (show ¬ nI (ix M' 10000) ≤ (30 : Int32) from nI_ge (a := 30) (b := ix M' 10000) (by omega) (by omega))]
/-- forgetting -/
theorem forget_cl (h : GI S Z b) (hb : 0 ≤ b) : ∃ S' Z' v, F_X4_forget S Z (b2i k) = some (.inr (v, S', Z')) ∧ 0 ≤ v.toInt ∧ GI S' Z' b ∧ g_Tree_size (g_State_tree k (g_LS_now S')) = 0 := by
  obtain ⟨q, Z', q1, q2, q3⟩ := save_G h
  obtain ⟨M, n, hT, hn⟩ := h.1.1 k
  have hsz : 0 ≤ (g_Tree_size (g_State_tree k (g_LS_now S))).toInt := by
    rw [hT.2.1.size, nI_toInt (by have := hT.2.1.le; omega)]; omega
  have hcl : ∀ T : S_Tree, F_X3_clear T = some (s_Tree_documents (s_Tree_size T 0) 0) := fun T => rfl
  have hno : ∀ T : S_Tree, GTx (s_Tree_documents (s_Tree_size T 0) 0) b := fun T => ⟨_, 0, GT_none rfl rfl, hb⟩
  refine ⟨s_LS_now (s_LS_savedStates S (nI q)) (s_State_tree k (g_LS_now S) (s_Tree_documents (s_Tree_size (g_State_tree k (g_LS_now S)) 0) 0)), Z', g_Tree_size (g_State_tree k (g_LS_now S)), ?_, hsz, ⟨GSt.tree (k := k) h.1 (hno _) (Int.le_refl _), q3, q, q1, rfl⟩, ?_⟩
  · unfold F_X4_forget
    rw [ob1_s (b2i_shape k), b2i_t, if_neg one_ne0, ob2_s q2]
    cases k with
    | false => rw [b2i_f, if_pos rfl, ob1_s (hcl _)]; rfl
    | true => rw [b2i_t, if_neg one_ne0, ob1_s (hcl _)]; rfl
  · show g_Tree_size (g_State_tree k (s_State_tree k (g_LS_now S) _)) = 0
    rw [tree_same]; rfl
/-- exchanging -/
theorem swap_cl (h : GI S Z b) : ∃ S' Z' v, F_X4_swap S Z = some (v, S', Z') ∧ 0 ≤ v.toInt ∧ GI S' Z' b := by
  obtain ⟨q, Z', q1, q2, q3⟩ := save_G h
  obtain ⟨A, n, hA, hn⟩ := h.1.1 false
  obtain ⟨B, m, hB, hm⟩ := h.1.1 true
  obtain ⟨T4, c1, c2, -⟩ := copy_GT (U := g_LS_work S) hA
  obtain ⟨T6, c3, c4, -⟩ := copy_GT (U := g_State_first (g_LS_now S)) hB
  obtain ⟨T8, c5, c6, -⟩ := copy_GT (U := g_State_second (g_LS_now S)) c2
  have d1 : F_X3_copyFrom (g_LS_work (s_LS_savedStates S (nI q))) (g_State_first (g_LS_now (s_LS_savedStates S (nI q)))) = some T4 := c1
  have d2 : F_X3_copyFrom (g_State_first (g_LS_now (s_LS_savedStates S (nI q)))) (g_State_second (g_LS_now (s_LS_savedStates S (nI q)))) = some T6 := c3
  have d3 : F_X3_copyFrom (g_State_second (g_LS_now (s_LS_savedStates S (nI q)))) T4 = some T8 := c5
  unfold F_X4_swap
  rw [ob2_s q2, ob1_s d1, ob1_s d2, ob1_s d3]
  refine ⟨_, _, _, rfl, ?_, ⟨⟨fun k => ?_, h.1.2⟩, q3, q, q1, rfl⟩⟩
  · rw [c4.2.1.size, nI_toInt (by have := c4.2.1.le; omega)]; omega
  · cases k with
    | false => exact ⟨B, m, c4, hm⟩
    | true => exact ⟨A, n, c6, hn⟩
/-- another setting -/
theorem set_cl (h : GI S Z b) : ∃ S' Z' v, F_X4_set S Z (b2i k) = some (.inr (v, S', Z')) ∧ 0 ≤ v.toInt ∧ GI S' Z' b := by
  obtain ⟨q, Z', q1, q2, q3⟩ := save_G h
  have hv : 0 ≤ (g_State_setting (g_LS_now S)).toInt := by rcases h.1.2 with z | z <;> rw [z] <;> decide
  have hk : GSt (s_State_setting (g_LS_now S) (b2i k)) b := by
    refine ⟨fun j => ?_, ?_⟩
    · cases j with
      | false => exact h.1.1 false
      | true => exact h.1.1 true
    · cases k with
      | false => exact Or.inl rfl
      | true => exact Or.inr rfl
  refine ⟨s_LS_now (s_LS_savedStates S (nI q)) (s_State_setting (g_LS_now S) (b2i k)), Z', g_State_setting (g_LS_now S), ?_, hv, ⟨hk, q3, q, q1, rfl⟩⟩
  unfold F_X4_set
  cases k with
  | false => rw [b2i_f, if_neg (by decide), if_pos (by decide), ob2_s q2]; rfl
  | true => rw [b2i_t, if_neg (by decide), if_pos (by decide), ob2_s q2]; rfl
/-- a state comes back -/
theorem undo_cl (h : GI S Z b) : (F_X4_undo S Z = some (.inl ("java/lang/IllegalStateException", S))) ∨ (∃ S' v, F_X4_undo S Z = some (.inr (v, S')) ∧ 0 ≤ v.toInt ∧ GI S' Z b) := by
  obtain ⟨h1, h2, q, q1, q2⟩ := h
  rcases Nat.eq_zero_or_pos q with z | z
  · subst z
    refine Or.inl ?_
    unfold F_X4_undo
    rw [q2, if_neg (by decide), if_neg (by decide), if_neg (by decide), if_neg (by decide), if_neg (by decide), if_neg (by decide), og_t (by decide), if_pos (by decide)]
  · obtain ⟨j, rfl⟩ : ∃ j, q = j + 1 := ⟨q - 1, by omega⟩
    obtain ⟨σ, s1, s2⟩ := copy_GSt (A := g_LS_now S) (h2 j)
    exact Or.inr ⟨_, _, undo_cls (by omega) q2 s1, by rw [nI_toInt (by omega)]; omega, s2, h2, j, by omega, rfl⟩
/-- covering -/
theorem covers_cl {N : Mp} {m : Int} (hT : GT (g_State_tree k (g_LS_now S)) M n) (hU : GT (g_State_tree (!k) (g_LS_now S)) N m) (hcv : cva M N) : F_X4_covers S (b2i k) = some (.inr 1) := by
  obtain ⟨r, r1, r2⟩ := class_covers (S := S) hT.1.1 hU.1.1 (k := k) hT.2.1 hT.2.2.1 hU.2.1 hU.2.2.1
  have hr := r2.mpr hcv
  subst hr
  have r1' : F_X4_coversOther S (b2i k) = some true := by cases k <;> exact r1
  unfold F_X4_covers
  rw [ob1_s (b2i_shape k), b2i_t, if_neg one_ne0, ob1_s r1', b2i_t, if_neg one_ne0]
end CLS
