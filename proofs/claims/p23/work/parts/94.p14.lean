/-! ===== pure: the class takes what it has worked out ===== -/
theorem mark_57 {k2 : S_Tree → Int32 → Option S_Tree} {W : S_Tree} {n r : Nat} (hs : g_Tree_size W = nI n) (hn : n ≤ 64) (hr : r < n) (x3 t0 : Bool) : F_X3_markOptional_57 k2 W (nI r) x3 t0 = k2 (tput W r 8 (b2i (x3 && t0))) (nI (r + 1)) := by
  unfold F_X3_markOptional_57
  cases x3
  · rw [b2i_f, if_pos rfl, ob1_s (put_8 r hs hn hr), nI_1]; rfl
  · rw [b2i_t, if_neg one_ne0]
    cases t0
    · rw [b2i_f, if_pos rfl, ob1_s (put_8 r hs hn hr), nI_1]; rfl
    · rw [b2i_t, if_neg one_ne0, ob1_s (put_8 r hs hn hr), nI_1]; rfl
theorem mark_loop {M : Mp} (hM : Wf0 M) (hle : ix M 10000 ≤ 64) : ∀ (f a : Nat) (W : S_Tree), a ≤ 10000 → ix M 10000 - ix M a < f → TR W M 10000 → (∀ c d, c < a → M c = some d → tc W (ix M c) 8 = b2i (opt M c d)) → ∃ W', F_X3_markOptional_2 f W (nI (ix M a)) = some W' ∧ TR W' M 10000 ∧ OP W' M ∧ g_Tree_documents W' = g_Tree_documents W
  | 0, a, _, _, h, _, _ => absurd h (Nat.not_lt_zero _)
  | f + 1, a, W, h1, h2, hW, hO => by
    have hm := @ix_mono M a 10000 h1
    rw [F_X3_markOptional_2_s, hW.size]
    by_cases q : ix M a < ix M 10000
    · obtain ⟨x, e, g1, g2, g3, g4, g5⟩ := ix_next q
      have hrow := hW.row g3 g2
      have hlt := ix_lt g3 g2
      have hix : ix M (x + 1) = ix M a + 1 := by rw [ix_some g3, g4]
      have step : ∀ b : Bool, b = opt M x e → ∃ W', F_X3_markOptional_2 f (tput W (ix M x) 8 (b2i b)) (nI (ix M x + 1)) = some W' ∧ TR W' M 10000 ∧ OP W' M ∧ g_Tree_documents W' = g_Tree_documents W := by
        intro b hb
        have hW2 : TR (tput W (ix M x) 8 (b2i b)) M 10000 := hW.cells hM rfl (fun r k hr hk => by rw [tc_tput (by omega) (by omega), if_neg (by omega)])
        have := mark_loop hM hle f (x + 1) (tput W (ix M x) 8 (b2i b)) (by omega) (by omega) hW2 (by
          intro c d hc hd
          by_cases z : c = x
          · rw [z] at hd ⊢
            rw [g3] at hd
            cases hd
            rw [tc_tput (by omega) (by omega), if_pos ⟨rfl, rfl⟩, hb]
          · have hcx : c < a := by
              rcases Nat.lt_or_ge c a with y | y
              · exact y
              · rw [g5 c y (by omega)] at hd; cases hd
            have := ix_lt hd (show c < x by omega)
            rw [tc_tput (by omega) (by omega), if_neg (by omega)]
            exact hO c d hcx hd)
        rw [hix, ← g4] at this
        exact this
      have h32 : ∀ t0 : Bool, t0 = decide (x ≠ 0 ∧ ltr x < 8) → ∃ W', F_X3_markOptional_32 (F_X3_markOptional_2 f) W (nI (ix M x)) t0 = some W' ∧ TR W' M 10000 ∧ OP W' M ∧ g_Tree_documents W' = g_Tree_documents W := by
        intro t0 ht0
        unfold F_X3_markOptional_32
        rw [ob1_s (hW.g3 g3 g2), hrow.2.2.2.1, ob1_s (above_ok hM hW g3)]
        by_cases h0 : x = 0
        · have hf : t0 = false := by rw [ht0]; exact decide_eq_false (fun z => z.1 h0)
          have ho : opt M x e = false := decide_eq_false (fun z => z.1 h0)
          rw [if_pos h0, ob1_s get_none, hf]
          by_cases z : (0 : Int32) ≤ e.2.1
          · rw [if_pos z, mark_57 hW.size hle hlt]
            exact step (false && false) ho.symm
          · rw [if_neg z, mark_57 hW.size hle hlt]
            exact step (false && true) ho.symm
        · obtain ⟨d', u1⟩ := hM.up g3 h0
          have hu := hM.lt u1
          rw [if_neg h0, ob1_s (hW.g5 u1 hu), (hW.row u1 hu).2.2.2.2.2.1]
          by_cases z : d'.2.2.2.1 ≤ e.2.1
          · rw [if_pos z, mark_57 hW.size hle hlt]
            refine step (t0 && false) ?_
            have ho : opt M x e = false := decide_eq_false (fun y => by
              have := y.2.2
              rw [grp_some u1] at this
              exact absurd z (Int32.not_le.mpr this))
            rw [ho]; cases t0 <;> rfl
          · rw [if_neg z, mark_57 hW.size hle hlt]
            refine step (t0 && true) ?_
            rw [Bool.and_true, ht0]
            unfold opt
            by_cases w : ltr x < 8
            · rw [decide_eq_true (show x ≠ 0 ∧ ltr x < 8 from ⟨h0, w⟩)]
              exact (decide_eq_true ⟨h0, w, by rw [grp_some u1]; exact Int32.not_le.mp z⟩).symm
            · rw [decide_eq_false (show ¬ (x ≠ 0 ∧ ltr x < 8) from fun y => w y.2)]
              exact (decide_eq_false (fun y => w y.2.1)).symm
      rw [if_neg (nI_ge q (by omega)), ← g4, ob1_s (hW.g1 g3 g2), hrow.2.1]
      by_cases h0 : x = 0
      · have : l32 x = -1 := by unfold l32; rw [if_pos h0]
        rw [this, if_pos (by decide)]
        exact h32 false (decide_eq_false (fun z => z.1 h0)).symm
      · have h9 := lt_le x
        rw [l32_nI h0, if_neg (nI_pos (by omega))]
        by_cases w : ltr x < 8
        · rw [if_neg (show ¬ (8 : Int32) ≤ nI (ltr x) from nI_ge (a := ltr x) (b := 8) w (by omega))]
          exact h32 true (decide_eq_true ⟨h0, w⟩).symm
        · rw [if_pos (show (8 : Int32) ≤ nI (ltr x) from nI_le (a := 8) (b := ltr x) (by omega) (by omega))]
          exact h32 false (decide_eq_false (fun z => w z.2)).symm
    · rw [if_pos (nI_le (by omega) (by omega))]
      refine ⟨W, rfl, hW, fun c d hd => hO c d ?_ hd, rfl⟩
      rcases Nat.lt_or_ge c a with y | y
      · exact y
      · have := ix_lt hd (hM.lt hd)
        have := @ix_mono M a c y
        omega
theorem mark_ok {M : Mp} {W : S_Tree} (hM : Wf0 M) (hW : TR W M 10000) : ∃ W', F_X3_markOptional W = some W' ∧ TR W' M 10000 ∧ OP W' M ∧ g_Tree_documents W' = g_Tree_documents W :=
  mark_loop hM hW.le 5000 0 W (by omega) (by have := hW.le; omega) hW (fun c d hc => absurd hc (Nat.not_lt_zero _))
/-- a tree is copied -/
theorem copy_TR {U T : S_Tree} {M : Mp} (hM : Wf0 M) (hT : TR T M 10000) (hO : OP T M) : ∃ T', F_X3_copyFrom U T = some T' ∧ TR T' M 10000 ∧ OP T' M ∧ g_Tree_documents T' = g_Tree_documents T := by
  obtain ⟨T', e1, e2, e3, e4⟩ := copy_ok U hT.size hT.le
  refine ⟨T', e1, hT.cells hM (e2.trans hT.size.symm) (fun r k hr hk => e4 r k hr (by omega)), ?_, e3⟩
  intro c d hd
  rw [e4 _ 8 (ix_lt hd (hM.lt hd)) (by omega)]
  exact hO c d hd
theorem take_ok {S : S_LS} {k : Bool} {M : Mp} (hM : Wf0 M) (hW : TR (g_LS_work S) M 10000) : ∃ W T, F_X4_takeWork S k = some (s_LS_work (s_LS_now S (s_State_tree k (g_LS_now S) T)) W) ∧ TR T M 10000 ∧ OP T M ∧ g_Tree_documents T = g_Tree_documents (g_LS_work S) := by
  obtain ⟨W, e1, e2, e3, e4⟩ := mark_ok hM hW
  obtain ⟨T, f1, f2, f3, f4⟩ := copy_TR (U := g_State_tree k (g_LS_now S)) hM e2 e3
  refine ⟨W, T, ?_, f2, f3, f4.trans e4⟩
  unfold F_X4_takeWork
  rw [ob1_s e1, ob1_s f1]
/-! ===== pure: states ===== -/
def SHx (T : S_Tree) (f : Nat → Int32) (s : Nat) : Prop := ∃ M, SH T f s M
def ST (σ : S_State) (f : Nat → Int32) : Prop := SHx (g_State_first σ) f 0 ∧ SHx (g_State_second σ) f 1 ∧ g_State_setting σ = f 0
theorem NR.ext {f g : Nat → Int32} {s : Nat} {M : Mp} (hM : Wf M) (h : NR f s M) (h3 : g (3 + s) = f (3 + s)) (hg : ∀ i, 5 + 210 * s ≤ i → i < 5 + 210 * s + 210 → g i = f i) : NR g s M := by
  obtain ⟨h1, h2, h4⟩ := h
  refine ⟨by rw [h3]; exact h1, h2, fun c d hc => ?_⟩
  have hl := ix_lt hc (hM.lt hc)
  have := h4 c d hc
  unfold nrow nw at this ⊢
  rw [hg _ (by omega) (by omega), hg _ (by omega) (by omega), hg _ (by omega) (by omega), hg _ (by omega) (by omega), hg _ (by omega) (by omega), hg _ (by omega) (by omega), hg _ (by omega) (by omega)]
  exact this
theorem SH.ext {T : S_Tree} {f g : Nat → Int32} {s : Nat} {M : Mp} (h : SH T f s M) (h1 : g (1 + s) = f (1 + s)) (h3 : g (3 + s) = f (3 + s)) (hg : ∀ i, 5 + 210 * s ≤ i → i < 5 + 210 * s + 210 → g i = f i) : SH T g s M := by
  obtain ⟨a1, a2, a3, a4, a5⟩ := h
  exact ⟨a1, a2, a3, a4.ext a1 h3 hg, by rw [h1]; exact a5⟩
theorem ST.ext {σ : S_State} {f g : Nat → Int32} (h : ST σ f) (hg : ∀ i, i < 425 → g i = f i) : ST σ g := by
  obtain ⟨⟨M, h1⟩, ⟨N, h2⟩, h3⟩ := h
  refine ⟨⟨M, h1.ext (hg _ (by omega)) (hg _ (by omega)) (fun i _ _ => hg i (by omega))⟩, ⟨N, h2.ext (hg _ (by omega)) (hg _ (by omega)) (fun i _ _ => hg i (by omega))⟩, by rw [hg 0 (by omega)]; exact h3⟩
theorem copy_SH {U T : S_Tree} {f : Nat → Int32} {s : Nat} {M : Mp} (h : SH T f s M) : ∃ T', F_X3_copyFrom U T = some T' ∧ SH T' f s M := by
  obtain ⟨a1, a2, a3, a4, a5⟩ := h
  obtain ⟨T', e1, e2, e3, e4⟩ := copy_TR (U := U) a1.wf0 a2 a3
  exact ⟨T', e1, a1, e2, e3, a4, e4.trans a5⟩
theorem copy_ST {A B : S_State} {f : Nat → Int32} (h : ST B f) : ∃ A', F_X2_copyFrom A B = some A' ∧ ST A' f := by
  obtain ⟨⟨M, h1⟩, ⟨N, h2⟩, h3⟩ := h
  obtain ⟨T, e1, e2⟩ := copy_SH (U := g_State_first A) h1
  obtain ⟨T2, f1, f2⟩ := copy_SH (U := g_State_second A) h2
  refine ⟨s_State_setting (s_State_second (s_State_first A T) T2) (g_State_setting B), ?_, ⟨M, e2⟩, ⟨N, f2⟩, h3⟩
  unfold F_X2_copyFrom
  rw [ob1_s e1, ob1_s f1]
