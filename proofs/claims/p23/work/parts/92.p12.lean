/-! ===== pure: learning, begun and ended, on both sides ===== -/
theorem origin_loop {S0 : S_LS} {n : Nat} (hn : n ≤ 64) : ∀ (f i : Nat) (W : S_Tree), i ≤ n → n - i < f → g_Tree_size W = nI n → ∃ W', F_X4_workOutLearned_31 f (s_LS_work S0 W) (nI i) = F_X4_workOutLearned_67 5000 (s_LS_work S0 W') (g_Tree_size (g_Reader_values (g_LS_reader S0))) 0 ∧ g_Tree_size W' = nI n ∧ g_Tree_documents W' = g_Tree_documents W ∧ (∀ r k, k < 9 → k ≠ 7 → tc W' r k = tc W r k) ∧ (∀ r, i ≤ r → r < n → tc W' r 7 = nI r) ∧ (∀ r, r < i → tc W' r 7 = tc W r 7)
  | 0, i, _, _, h, _ => absurd h (Nat.not_lt_zero _)
  | f + 1, i, W, h1, h2, hs => by
    rw [F_X4_workOutLearned_31_s, show g_LS_work (s_LS_work S0 W) = W from rfl, hs]
    by_cases q : i = n
    · rw [if_pos (by rw [q]; exact nI_le (Nat.le_refl _) (by omega))]
      exact ⟨W, rfl, hs, rfl, fun _ _ _ _ => rfl, fun r h3 h4 => by omega, fun _ _ => rfl⟩
    · have s1 : g_Tree_size (tput W i 7 (nI i)) = nI n := hs
      obtain ⟨W', e1, e2, e3, e4, e5, e6⟩ := origin_loop (S0 := S0) hn f (i + 1) (tput W i 7 (nI i)) (by omega) (by omega) s1
      rw [if_neg (nI_ge (by omega) (by omega)), ob1_s (put_7 i hs hn (by omega)), nI_1]
      refine ⟨W', e1, e2, e3, ?_, ?_, ?_⟩
      · intro r k h3 h4
        rw [e4 r k h3 h4, tc_tput (by omega) h3, if_neg (by omega)]
      · intro r h3 h4
        by_cases z : r = i
        · rw [e6 r (by omega), tc_tput (by omega) (by omega), if_pos ⟨z, rfl⟩, z]
        · exact e5 r (by omega) h4
      · intro r h3
        rw [e6 r (by omega), tc_tput (by omega) (by omega), if_neg (by omega)]
theorem TR.cells {T T' : S_Tree} {M : Mp} (h : TR T M 10000) (hM : Wf0 M) (hs : g_Tree_size T' = g_Tree_size T) (hr : ∀ r k, r < ix M 10000 → k < 7 → tc T' r k = tc T r k) : TR T' M 10000 := by
  obtain ⟨h1, h2, h3⟩ := h
  refine ⟨by rw [hs]; exact h1, h2, fun c d hc hd => ?_⟩
  have hl := ix_lt hd hc
  have := h3 c d hc hd
  unfold rowIs at this ⊢
  rw [hr _ 0 hl (by omega), hr _ 1 hl (by omega), hr _ 2 hl (by omega), hr _ 3 hl (by omega), hr _ 4 hl (by omega), hr _ 5 hl (by omega), hr _ 6 hl (by omega)]
  exact this
theorem class_learn {S : S_LS} {k : Bool} {B : Mp} {D : Dc} (hD : DW D) (hB : Wf B) (hT : TR (g_State_tree k (g_LS_now S)) B 10000) (hl : ix B 10000 ≤ 30) (hV : CV (g_Reader_values (g_LS_reader S)) D) :
    ∃ V W, F_X4_workOutLearned S k = some (lsv S V W) ∧ CI D B (g_Tree_documents (g_State_tree k (g_LS_now S)) + 1) (dN D) V W (lrun D (g_Tree_documents (g_State_tree k (g_LS_now S)) + 1) B (dN D)).1 (lrun D (g_Tree_documents (g_State_tree k (g_LS_now S)) + 1) B (dN D)).2 := by
  obtain ⟨U, u1, u2, u3, u4⟩ := copy_ok (g_LS_work S) hT.size hT.le
  have s1 : g_Tree_size (s_Tree_documents U (g_Tree_documents (g_State_tree k (g_LS_now S)) + 1)) = nI (ix B 10000) := u2
  obtain ⟨W, e1, e2, e3, e4, e5, e6⟩ := origin_loop (S0 := S) hT.le 5000 0 (s_Tree_documents U (g_Tree_documents (g_State_tree k (g_LS_now S)) + 1)) (by omega) (by have := hT.le; omega) s1
  have hTW : TR W B 10000 := hT.cells hB.wf0 (e2.trans hT.size.symm) (fun r j h1 h2 => by
    rw [e4 r j (by omega) (by omega)]
    exact u4 r j h1 (by omega))
  have hC0 : CI D B (g_Tree_documents (g_State_tree k (g_LS_now S)) + 1) 0 (g_Reader_values (g_LS_reader S)) W (lrun D (g_Tree_documents (g_State_tree k (g_LS_now S)) + 1) B 0).1 (lrun D (g_Tree_documents (g_State_tree k (g_LS_now S)) + 1) B 0).2 := by
    refine ⟨hV, hTW, e3, fun x e hx => ?_, fun u hu => absurd hu.1 (Nat.not_lt_zero _)⟩
    have hx2 : B x = some e := hx
    show tc W (ix B x) 7 = rn B x
    rw [rn_some hx2]
    exact e5 _ (Nat.zero_le _) (ix_lt hx2 (hB.lt hx2))
  obtain ⟨V', W', l1, l2⟩ := class_loop (S0 := S) hD hB hl 5000 0 _ W (Nat.zero_le _) (by have := hD.2.1; omega) hC0
  refine ⟨V', W', ?_, l2⟩
  unfold F_X4_workOutLearned
  rw [ob1_s u1]
  refine Eq.trans e1 ?_
  rw [hV.1]
  exact l1
theorem BA_self (B : Mp) : ¬ BA B B := by
  rintro ⟨c, d, h1, h2, h3⟩
  exact h3 d h1 h2
theorem model_loop {S0 : S_Model} {D : Dc} (hD : DW D) {B : Mp} {doc : Int32} (hB : Wf B) (hBl : ix B 10000 ≤ 30) (hMV : MV S0 D) : ∀ (f v : Nat) (t : Nat → Int32) (n : Nat) (b : Int32) (p ρ : _), v ≤ dN D → dN D - v < f → MI D B v t n b p ρ (lrun D doc B v).1 (lrun D doc B v).2 → ∃ t' n' b' p' ρ', F_X5_shows_18 f (smv S0 t n b p) doc (nI v) = some (smv S0 t' n' b' p') ∧ MI D B (dN D) t' n' b' p' ρ' (lrun D doc B (dN D)).1 (lrun D doc B (dN D)).2
  | 0, v, _, _, _, _, _, _, h, _ => absurd h (Nat.not_lt_zero _)
  | f + 1, v, t, n, b, p, ρ, h1, h2, hI => by
    have hn := hD.2.1
    by_cases q : v = dN D
    · rw [F_X5_shows_18_s, smv_valued, hMV.1, if_pos (by rw [q]; exact nI_le (Nat.le_refl _) (by omega))]
      rw [q] at hI
      exact ⟨t, n, b, p, ρ, rfl, hI⟩
    · obtain ⟨t1, n1, b1, p1, ρ1, e1, e2⟩ := model_step (doc := doc) hD hBl hMV (lrun_LP hD hB v h1) hI (by omega) f
      rw [e1]
      exact model_loop hD hB hBl hMV f (v + 1) t1 n1 b1 p1 ρ1 (by omega) (by omega) e2
theorem model_learn {S : S_Model} {s : Nat} {B : Mp} {D : Dc} (hD : DW D) (hB : Wf B) (hN : NR (g_Model_now S) s B) (hs : s ≤ 1) (hV : MV S D) :
    ∃ t n b p ρ, F_X5_shows S (nI s) = some (smv S t n b p) ∧ MI D B (dN D) t n b p ρ (lrun D (g_Model_now S (1 + s) + 1) B (dN D)).1 (lrun D (g_Model_now S (1 + s) + 1) B (dN D)).2 := by
  obtain ⟨g, e1, e2⟩ := lays_ok hB hN hs
  rw [smv_lay] at e1
  have hI0 : MI D B 0 g (ix B 10000) 0 (g_Model_place S) (ix B) (lrun D (g_Model_now S (1 + s) + 1) B 0).1 (lrun D (g_Model_now S (1 + s) + 1) B 0).2 := by
    refine ⟨e2, by omega, ?_, Or.inr ⟨rfl, BA_self B⟩, Nat.le_refl _, ?_, fun u hu => absurd hu.1 (Nat.not_lt_zero _)⟩
    · intro c d hc
      have hc2 : B c = some d := hc
      exact ⟨fun _ _ => rfl, fun z => by rw [hc2] at z; cases z⟩
    · intro hz
      have hz2 : B 0 = none := hz
      rcases Nat.eq_zero_or_pos (ix B 10000) with w | w
      · exact w
      · obtain ⟨x, e, g1, g2, g3⟩ := ix_at w
        obtain ⟨d0, g0⟩ := hB.root (dp x) rfl g2
        rw [hz2] at g0; cases g0
  obtain ⟨t, n, b, p, ρ, l1, l2⟩ := model_loop (S0 := S) hD hB hN.2.1 hV 5000 0 g _ 0 _ _ (Nat.zero_le _) (by have := hD.2.1; omega) hI0
  refine ⟨t, n, b, p, ρ, ?_, l2⟩
  unfold F_X5_shows
  rw [ob1_s e1, show (1 : Int32) = nI 1 from rfl, nI_add, og_t (inb_nI (by omega) (by omega)), nI_clamp (by omega), smv_now]
  exact l1
/-- refused or not -/
theorem refused_ok {S : S_LS} {S5 : S_Model} {k : Bool} {B M : Mp} {D : Dc} {V : S_Tree} {doc : Int32} {v : Nat} {pl : Nat → Option Nat} {t p : Nat → Int32} {n : Nat} {b : Int32} {ρ : Nat → Nat} {W : S_Tree} (hB : Wf B) (hM : Wf M) (hTB : TR (g_State_tree k (g_LS_now S)) B 10000) (hC : CI D B doc v V W M pl) (hI : MI D B v t n b p ρ M pl) (hset : g_State_setting (g_LS_now S) = g_Model_now S5 0) :
    ∃ r, F_X4_isRefused (lsv S V W) k = some r ∧ F_X5_isRefused (smv S5 t n b p) = some r ∧ (r = false → ix M 10000 ≤ 30) := by
  obtain ⟨c1, c2, c3, c4, c5⟩ := hC
  obtain ⟨i1, i2, i3, i4, i5, i0, i6⟩ := hI
  have hle := c2.le
  obtain ⟨r, r1, r2⟩ := brings_ok (S := lsv S V W) (k := k) hM.wf0 c2 hTB hB.wf0 c4
  unfold F_X4_isRefused F_X5_isRefused
  rw [ob1_s (nodes_ok (S := smv S5 t n b p) hM.wf0 (by rw [smv_tree]; exact i1) (smv_top _ _ _ _ _)), show g_LS_work (lsv S V W) = W from rfl, c2.size, show g_State_setting (g_LS_now (lsv S V W)) = g_State_setting (g_LS_now S) from rfl, hset, smv_now, smv_becameAny]
  by_cases q : 30 < ix M 10000
  · rw [if_pos (show (30 : Int32) < nI (ix M 10000) from nI_lt (a := 30) q (by omega)), if_pos (show (30 : Int32) < nI (ix M 10000) from nI_lt (a := 30) q (by omega))]
    exact ⟨true, rfl, rfl, fun z => by cases z⟩
  · rw [if_neg (show ¬ (30 : Int32) < nI (ix M 10000) from nI_nlt (a := 30) (b := ix M 10000) (by omega) (by omega)), if_neg (show ¬ (30 : Int32) < nI (ix M 10000) from nI_nlt (a := 30) (b := ix M 10000) (by omega) (by omega)), show (0 : Int32) = nI 0 from rfl, og_t (inb_nI (by omega) (by omega)), nI_clamp (by omega)]
    by_cases q1 : g_Model_now S5 0 = 1
    · rw [if_pos q1, if_pos q1, ob1_s r1]
      rcases i4 with ⟨b1, b2⟩ | ⟨b1, b2⟩
      · have : r = true := r2.mpr b2
        rw [this, b1, b2i_t, if_neg (show ¬ (1 : Int32) = nI 0 by decide)]
        exact ⟨true, rfl, rfl, fun z => by cases z⟩
      · have : r = false := by
          cases r with
          | false => rfl
          | true => exact absurd (r2.mp rfl) b2
        rw [this, b1, b2i_f, if_pos (show (0 : Int32) = nI 0 from rfl)]
        exact ⟨false, rfl, rfl, fun _ => by omega⟩
    · rw [if_neg q1, if_neg q1]
      exact ⟨false, rfl, rfl, fun _ => by omega⟩
theorem all4 {P : Nat → Prop} (h0 : P 0) (h1 : P 1) (h2 : P 2) (h3 : P 3) (h4 : P 4) : ∀ j, j ≤ 4 → P j := by
  intro j hj
  have : j = 0 ∨ j = 1 ∨ j = 2 ∨ j = 3 ∨ j = 4 := by omega
  rcases this with h | h | h | h | h <;> subst h <;> assumption
/-- what learning would bring -/
theorem outlook_ok {S : S_LS} {S5 : S_Model} {k : Bool} {s : Nat} {B M : Mp} {D : Dc} {V : S_Tree} {doc : Int32} {v : Nat} {pl : Nat → Option Nat} {t p : Nat → Int32} {n : Nat} {b : Int32} {ρ : Nat → Nat} {W : S_Tree} (hB : Wf B) (hM : Wf M) (hTB : TR (g_State_tree k (g_LS_now S)) B 10000) (hN : NR (g_Model_now S5) s B) (hs : s ≤ 1) (hC : CI D B doc v V W M pl) (hI : MI D B v t n b p ρ M pl) (hset : g_State_setting (g_LS_now S) = g_Model_now S5 0)
    (u5 : S_Model) (hu : u5 = smv S5 t n b p) : ∀ w, w ≤ 4 → ∃ a, F_X4_outlookNumber (lsv S V W) k (nI w) = some a ∧ (if nI w = 0 then (if nI w = 0 then (ob1 (F_X5_nodes u5) fun r12 => some (r12, u5)) else (ob1 (F_X5_isRefused u5) fun r9 => (if (b2i r9) = 0 then some ((0 : Int32), u5) else some ((1 : Int32), u5)))) else (if nI w = 4 then (if nI w = 0 then (ob1 (F_X5_nodes u5) fun r19 => some (r19, u5)) else (ob1 (F_X5_isRefused u5) fun r16 => (if (b2i r16) = 0 then some ((0 : Int32), u5) else some ((1 : Int32), u5)))) else (F_X5_learnedOf_52 (nI s) (nI w) 5000 u5 0 0))) = some (a, u5) := by
  subst hu
  obtain ⟨r, r1, r2, r3⟩ := refused_ok hB hM hTB hC hI hset
  obtain ⟨c1, c2, c3, c4, c5⟩ := hC
  obtain ⟨i1, i2, i3, i4, i5, i0, i6⟩ := hI
  have hle := c2.le
  have hle30 := hN.2.1
  have ol := fun v2 => outlook_loop (S := lsv S V W) (k := k) (v2 := v2) hM.wf0 c2 hTB hB.wf0 c4 5000 0 (by omega) (by omega)
  apply all4
  · unfold F_X4_outlookNumber
    rw [if_pos (by decide), if_pos (by decide), if_pos (by decide), ob1_s (nodes_ok (S := smv S5 t n b p) hM.wf0 (by rw [smv_tree]; exact i1) (smv_top _ _ _ _ _)), show g_LS_work (lsv S V W) = W from rfl, c2.size]
    exact ⟨_, rfl, rfl⟩
  · unfold F_X4_outlookNumber
    rw [if_neg (by decide), if_neg (by decide), if_neg (by decide), if_neg (by decide)]
    refine ⟨nI (cb (pC B M) 10000), ?_, ?_⟩
    · refine Eq.trans (ol (nI 1)) ?_
      rw [if_pos (by decide)]
    · exact learned_loop (S := smv S5 t n b p) hB (by rw [smv_now]; exact hN) hs hM.wf0 (by rw [smv_tree]; exact i1) i5 i3 1 _ (Or.inl ⟨rfl, rfl⟩) 5000 0 (by omega) (by omega)
  · unfold F_X4_outlookNumber
    rw [if_neg (by decide), if_neg (by decide), if_neg (by decide), if_neg (by decide)]
    refine ⟨nI (cb (pA B M) 10000), ?_, ?_⟩
    · refine Eq.trans (ol (nI 2)) ?_
      rw [if_neg (by decide), if_pos (by decide)]
    · exact learned_loop (S := smv S5 t n b p) hB (by rw [smv_now]; exact hN) hs hM.wf0 (by rw [smv_tree]; exact i1) i5 i3 2 _ (Or.inr (Or.inl ⟨rfl, rfl⟩)) 5000 0 (by omega) (by omega)
  · unfold F_X4_outlookNumber
    rw [if_neg (by decide), if_neg (by decide), if_neg (by decide), if_neg (by decide)]
    refine ⟨nI (cb (pG B M) 10000), ?_, ?_⟩
    · refine Eq.trans (ol (nI 3)) ?_
      rw [if_neg (by decide), if_neg (by decide)]
    · exact learned_loop (S := smv S5 t n b p) hB (by rw [smv_now]; exact hN) hs hM.wf0 (by rw [smv_tree]; exact i1) i5 i3 3 _ (Or.inr (Or.inr ⟨rfl, rfl⟩)) 5000 0 (by omega) (by omega)
  · unfold F_X4_outlookNumber
    rw [if_neg (by decide), if_pos (by decide), if_neg (by decide), if_pos (by decide), if_neg (by decide), ob1_s r1, ob1_s r2]
    cases r
    · exact ⟨_, rfl, rfl⟩
    · exact ⟨_, rfl, rfl⟩
