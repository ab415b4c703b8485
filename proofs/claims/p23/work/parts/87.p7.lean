/-! ===== pure: how many nodes the working tree has ===== -/
def lc (f : Nat → Int32) : Nat → Nat
  | 0 => 0
  | k + 1 => lc f k + (if f (7 * k) = -1 then 0 else 1)
theorem lc_s (f : Nat → Int32) (k : Nat) : lc f (k + 1) = lc f k + (if f (7 * k) = -1 then 0 else 1) := rfl
theorem lc_le (f : Nat → Int32) : ∀ k, lc f k ≤ k
  | 0 => Nat.le_refl _
  | k + 1 => by
    have := lc_le f k
    rw [lc_s]
    split <;> omega
theorem lc_len (f : Nat → Int32) : ∀ k, ((List.range k).filter (fun j => decide (¬ f (7 * j) = -1))).length = lc f k
  | 0 => rfl
  | k + 1 => by
    rw [List.range_succ, List.filter_append, List.length_append, lc_len f k, lc_s]
    congr 1
    by_cases h : f (7 * k) = -1
    · rw [if_pos h, List.filter_cons_of_neg (by simp [h])]; rfl
    · rw [if_neg h, List.filter_cons_of_pos (by simp [h])]; rfl
theorem ix_len (M : Mp) : ∀ x, ((List.range x).filter (fun c => (M c).isSome)).length = ix M x
  | 0 => rfl
  | x + 1 => by
    rw [List.range_succ, List.filter_append, List.length_append, ix_len M x, ix_s]
    congr 1
    unfold has1
    cases h : (M x).isSome
    · rw [List.filter_cons_of_neg (by simp [h])]; rfl
    · rw [List.filter_cons_of_pos (by simp [h])]; rfl
theorem MT.count {f : Nat → Int32} {n : Nat} {ρ : Nat → Nat} {M : Mp} (hM : Wf0 M) (h : MT f n ρ M) : lc f n = ix M 10000 := by
  rw [← lc_len, ← ix_len]
  have hp : (((List.range 10000).filter (fun c => (M c).isSome)).map ρ).Perm ((List.range n).filter (fun j => decide (¬ f (7 * j) = -1))) := by
    rw [List.perm_ext_iff_of_nodup]
    · intro k
      rw [List.mem_map, List.mem_filter, List.mem_range]
      constructor
      · rintro ⟨c, h1, rfl⟩
        rw [List.mem_filter] at h1
        obtain ⟨d, hd⟩ := Option.isSome_iff_exists.mp h1.2
        refine ⟨h.lt hd, decide_eq_true ?_⟩
        rw [(h.row hd).1]
        exact isK_m1 (hM c d hd).2.1
      · rintro ⟨h1, h2⟩
        rcases h.2.1 k h1 with z | ⟨c, d, z1, z2⟩
        · exact absurd z (of_decide_eq_true h2)
        · refine ⟨c, ?_, z2⟩
          rw [List.mem_filter, List.mem_range]
          exact ⟨(hM c d z1).1.1, by rw [z1]; rfl⟩
    · unfold List.Nodup
      rw [List.pairwise_map]
      refine List.Pairwise.imp_of_mem ?_ (List.Pairwise.filter _ (List.nodup_range (n := 10000)))
      intro a b ha hb hab hρ
      rw [List.mem_filter] at ha hb
      obtain ⟨d, hd⟩ := Option.isSome_iff_exists.mp ha.2
      obtain ⟨e, he⟩ := Option.isSome_iff_exists.mp hb.2
      exact hab (h.inj hd he hρ)
    · exact List.Pairwise.filter _ List.nodup_range
  have := hp.length_eq
  rw [List.length_map] at this
  exact this.symm
theorem nodes_loop {S : S_Model} {n : Nat} (hn : n ≤ 64) (ht : g_Model_top S = nI n) : ∀ (f k : Nat), k ≤ n → n - k < f → F_X5_nodes_4 S f (nI (lc (g_Model_tree S) k)) (nI k) = some (nI (lc (g_Model_tree S) n))
  | 0, k, _, h => absurd h (Nat.not_lt_zero _)
  | f + 1, k, h1, h2 => by
    rw [F_X5_nodes_4_s, ht]
    by_cases q : k = n
    · subst q
      rw [if_pos (nI_le (Nat.le_refl _) (by omega))]
    · have ihr := nodes_loop hn ht f (k + 1) (by omega) (by omega)
      rw [if_neg (nI_ge (by omega) (by omega)), ix7, og_t (inb_nI (by omega) (by omega)), nI_clamp (by omega)]
      rw [lc_s] at ihr
      by_cases z : g_Model_tree S (7 * k) = -1
      · rw [if_pos z, Int32.add_zero, nI_1]
        rw [if_pos z] at ihr; exact ihr
      · rw [if_neg z, nI_1, nI_1]
        rw [if_neg z] at ihr; exact ihr
theorem nodes_ok {S : S_Model} {n : Nat} {ρ : Nat → Nat} {M : Mp} (hM : Wf0 M) (h : MT (g_Model_tree S) n ρ M) (ht : g_Model_top S = nI n) : F_X5_nodes S = some (nI (ix M 10000)) := by
  rw [← h.count hM]
  exact nodes_loop h.le ht 5000 0 (by omega) (by have := h.le; omega)
/-! ===== pure: the reference lays a shape into its working tree ===== -/
theorem lays_loop {s : Nat} (hs : s ≤ 1) : ∀ (f k : Nat) (S : S_Model), k ≤ 210 → 210 - k < f → ∃ g, F_X5_lays_2 (nI s) f S (nI k) = some (s_Model_becameAny (s_Model_top (s_Model_tree S g) (g_Model_now S (3 + s))) 0) ∧ (∀ j, j < k → g j = g_Model_tree S j) ∧ (∀ j, k ≤ j → j < 210 → g j = g_Model_now S (5 + 210 * s + j))
  | 0, k, _, _, h => absurd h (Nat.not_lt_zero _)
  | f + 1, k, S, h1, h2 => by
    rw [F_X5_lays_2_s]
    by_cases q : k = 210
    · subst q
      rw [if_pos (by decide), show (3 : Int32) = nI 3 from rfl, nI_add, og_t (inb_nI (by omega) (by omega)), nI_clamp (by omega)]
      exact ⟨g_Model_tree S, rfl, fun _ _ => rfl, fun j h3 h4 => by omega⟩
    · rw [if_neg (show ¬ (210 : Int32) ≤ nI k from nI_ge (a := k) (b := 210) (by omega) (by omega)), show (5 : Int32) = nI 5 from rfl, show (210 : Int32) = nI 210 from rfl, nI_mul, nI_add, nI_add, og_t (inb_nI (by omega) (by omega)), og_t (inb_nI (by omega) (by omega)), nI_clamp (by omega), nI_clamp (by omega), nI_1]
      obtain ⟨g, e1, e2, e3⟩ := lays_loop hs f (k + 1) (s_Model_tree S (upd (g_Model_tree S) k (g_Model_now S (5 + 210 * s + k)))) (by omega) (by omega)
      refine ⟨g, by rw [e1]; rfl, ?_, ?_⟩
      · intro j hj
        rw [e2 j (by omega)]
        exact upd_ne (by omega)
      · intro j h3 h4
        by_cases z : j = k
        · subst z
          rw [e2 j (by omega)]
          exact upd_at
        · rw [e3 j (by omega) h4]
          rfl
theorem lays_ok {S : S_Model} {s : Nat} {M : Mp} (hM : Wf M) (h : NR (g_Model_now S) s M) (hs : s ≤ 1) : ∃ g, F_X5_lays S (nI s) = some (s_Model_becameAny (s_Model_top (s_Model_tree S g) (nI (ix M 10000))) 0) ∧ MT g (ix M 10000) (ix M) M := by
  obtain ⟨g, e1, e2, e3⟩ := lays_loop hs 5000 0 S (by omega) (by omega)
  rw [h.1] at e1
  have hle := h.2.1
  have hg : ∀ i k, i < 30 → k < 7 → g (7 * i + k) = nw (g_Model_now S) s i k := fun i k h1 h2 => by
    rw [e3 _ (by omega) (by omega)]
    unfold nw
    congr 1
    omega
  have hrow : ∀ c d, M c = some d → ix M c < ix M 10000 ∧ trow g (ix M) c d := fun c d hc => by
    have hl := ix_lt hc (hM.lt hc)
    obtain ⟨r1, r2, r3, r4, r5, r6, r7⟩ := h.row hc
    refine ⟨hl, ?_⟩
    unfold trow
    rw [show 7 * ix M c = 7 * ix M c + 0 from rfl, hg _ 0 (by omega) (by omega), hg _ 1 (by omega) (by omega), hg _ 2 (by omega) (by omega), hg _ 3 (by omega) (by omega), hg _ 4 (by omega) (by omega), hg _ 5 (by omega) (by omega), hg _ 6 (by omega) (by omega)]
    exact ⟨r1, r2, r3, r4, r5, r6, r7⟩
  refine ⟨g, e1, hrow, ?_, ?_, ?_, ?_, fun _ _ => rfl, by omega⟩
  · intro k hk
    obtain ⟨c, d, g1, g2, g3⟩ := ix_at hk
    exact Or.inr ⟨c, d, g2, g3⟩
  · intro k hk
    obtain ⟨c, d, g1, g2, g3⟩ := ix_at hk
    have := (hrow c d g2).2.2.1
    rw [g3] at this
    rw [this]
    by_cases h0 : c = 0
    · exact Or.inl (by unfold upR; rw [if_pos h0])
    · obtain ⟨d', u1, -⟩ := hM.up g2 h0
      refine Or.inr ⟨ix M (pa c), ?_, upR_up h0⟩
      rw [← g3]
      exact ix_lt u1 (ch_pa (hM.vd g2) h0).2.2.2.2
  · intro c d hc h0
    obtain ⟨d', u1, -⟩ := hM.up hc h0
    exact ix_lt u1 (ch_pa (hM.vd hc) h0).2.2.2.2
  · intro a b d e ha hb hab
    exact ix_inj ha hb hab
/-! ===== pure: a node's kind widens ===== -/
def wd (d : Dt) (k doc : Int32) : Dt := if k = d.1 then d else (k, d.2.1, d.2.2.1, d.2.2.2.1, doc)
/-- a node takes its new numbers, and what is below any goes -/
def shM (M : Mp) (c : Nat) (d : Dt) : Mp := if d.1 = 7 then cutM (setM M c d) c else setM M c d
theorem setM_setM {M : Mp} {c : Nat} {d e : Dt} : setM (setM M c d) c e = setM M c e := by
  funext x
  unfold setM
  split <;> rfl
theorem cut_any {M : Mp} (hM : Wf M) {c : Nat} {d e : Dt} (hc : M c = some d) (h7 : d.1 = 7) : cutM (setM M c e) c = setM M c e := by
  funext x
  by_cases q : c < x ∧ x < c + wt c
  · rw [cutM_in q.1 q.2, setM_ne (by omega), hM.any hc h7 q.1 q.2]
  · rw [cutM_out q]
theorem wd_1 (d : Dt) (k doc : Int32) : (wd d k doc).1 = k := by
  unfold wd
  split
  · rename_i h; exact h.symm
  · rfl
theorem widens_ok {S : S_Model} {n : Nat} {ρ : Nat → Nat} {M M0 : Mp} {d0 : Dt} {c : Nat} {d : Dt} (hM0 : Wf M0) (hc0 : M0 c = some d0) (hd0 : d0.1 = d.1) (e0 : M = setM M0 c d) (h : MT (g_Model_tree S) n ρ M) (ht : g_Model_top S = nI n) {k doc : Int32} (hk : isK k) :
    ∃ g ba, F_X5_widens S (nI (ρ c)) k doc = some (stb S g ba) ∧ MT g n ρ (shM M0 c (wd d k doc)) ∧ ba = (if ¬ k = d.1 ∧ k = 7 then 1 else g_Model_becameAny S) := by
  subst e0
  have hc : setM M0 c d c = some d := setM_at
  have hl := h.lt hc
  have hn := h.le
  have hrow := h.row hc
  unfold F_X5_widens
  rw [ix7_6, ix7, og_t (inb_nI (n := 448) (i := 7 * ρ c) (by omega) (by omega)), nI_clamp (n := 7 * ρ c) (by omega), hrow.1]
  by_cases q : k = d.1
  · rw [if_pos q]
    refine ⟨g_Model_tree S, g_Model_becameAny S, congrArg some (stb_eta S), ?_, by rw [if_neg (fun z => z.1 q)]⟩
    have : shM M0 c (wd d k doc) = setM M0 c d := by
      unfold shM wd
      rw [if_pos q]
      by_cases z : d.1 = 7
      · rw [if_pos z, cut_any hM0 hc0 (hd0.trans z)]
      · rw [if_neg z]
    rw [this]; exact h
  · rw [if_neg q, og_t (inb_nI (n := 448) (i := 7 * ρ c) (by omega) (by omega)), og_t (inb_nI (n := 448) (i := 7 * ρ c + 6) (by omega) (by omega)), nI_clamp (n := 7 * ρ c + 6) (by omega)]
    have hwd : wd d k doc = (k, d.2.1, d.2.2.1, d.2.2.2.1, doc) := by unfold wd; rw [if_neg q]
    have hmt : MT (upd (upd (g_Model_tree S) (7 * ρ c) k) (7 * ρ c + 6) doc) n ρ (setM M0 c (wd d k doc)) := by
      have := h.upd (g := upd (upd (g_Model_tree S) (7 * ρ c) k) (7 * ρ c + 6) doc) (d' := wd d k doc) hc (by rw [wd_1]; exact isK_m1 hk) (fun j hj => by rw [upd_ne (by omega), upd_ne (by omega)]) (by
        obtain ⟨r1, r2, r3, r4, r5, r6, r7⟩ := hrow
        unfold trow
        rw [hwd, upd_ne (by omega), upd_at, upd_ne (by omega), upd_ne (by omega), upd_ne (by omega), upd_ne (by omega), upd_ne (by omega), upd_ne (by omega), upd_ne (by omega), upd_ne (by omega), upd_ne (by omega), upd_ne (by omega), upd_at]
        exact ⟨rfl, r2, r3, r4, r5, r6, rfl⟩)
      rw [setM_setM] at this
      exact this
    generalize upd (upd (g_Model_tree S) (7 * ρ c) k) (7 * ρ c + 6) doc = X at hmt ⊢
    by_cases z : k = 7
    · rw [if_pos z, stb_def]
      have hw0 : Wf0 (setM M0 c (wd d k doc)) := hM0.wf0.upd hc0 (by rw [wd_1]; exact hk)
      obtain ⟨g, e1, e2⟩ := bares_ok (S := stb S X 1) hw0 (by rw [stb_tree]; exact hmt) (by rw [stb_top]; exact ht) setM_at
      rw [ob1_s e1, stb_t2]
      refine ⟨g, 1, rfl, ?_, by rw [if_pos ⟨q, z⟩]⟩
      unfold shM
      rw [wd_1, if_pos z]
      exact e2
    · rw [if_neg z, stb_t]
      refine ⟨X, g_Model_becameAny S, rfl, ?_, by rw [if_neg (fun y => z y.2)]⟩
      unfold shM
      rw [wd_1, if_neg z]
      exact hmt
