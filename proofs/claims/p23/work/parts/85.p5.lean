/-! ===== pure: the looks at a shape answer alike ===== -/
def ndv (M : Mp) (c : Nat) (d : Dt) (k : Nat) : Int32 := match k with | 0 => d.1 | 1 => l32 c | 2 => upI M c | 3 => nI (dp c) | 4 => d.2.1 | 5 => d.2.2.1 | 6 => d.2.2.2.1 | 7 => b2i (opt M c d) | 8 => d.2.2.2.2 | _ => nI (kc M c 10000)
theorem all10 {P : Nat → Prop} (h0 : P 0) (h1 : P 1) (h2 : P 2) (h3 : P 3) (h4 : P 4) (h5 : P 5) (h6 : P 6) (h7 : P 7) (h8 : P 8) (h9 : P 9) : ∀ j, j ≤ 9 → P j := by
  intro j hj
  have : j = 0 ∨ j = 1 ∨ j = 2 ∨ j = 3 ∨ j = 4 ∨ j = 5 ∨ j = 6 ∨ j = 7 ∨ j = 8 ∨ j = 9 := by omega
  rcases this with h | h | h | h | h | h | h | h | h | h <;> subst h <;> assumption
theorem nodeNumber_ok {T : S_Tree} {f : Nat → Int32} {s : Nat} {M : Mp} (h : SH T f s M) {c : Nat} {d : Dt} (hc : M c = some d) : ∀ k, k ≤ 9 → F_X4_nodeNumber T (nI (ix M c)) (nI k) = some (ndv M c d k) := by
  obtain ⟨hM, hT, hO, -, -⟩ := h
  have hl := hM.lt hc
  have hrow := hT.row hc hl
  apply all10
  · unfold F_X4_nodeNumber
    rw [if_pos (by decide), ob1_s (hT.g0 hc hl), hrow.1]
    try rfl
  · unfold F_X4_nodeNumber
    rw [if_neg (by decide), if_pos (by decide), ob1_s (hT.g1 hc hl), hrow.2.1]
    try rfl
  · unfold F_X4_nodeNumber
    rw [if_neg (by decide), if_neg (by decide), if_pos (by decide), ob1_s (above_ok hM.wf0 hT hc)]
    rfl
  · unfold F_X4_nodeNumber
    rw [if_neg (by decide), if_neg (by decide), if_neg (by decide), if_pos (by decide), ob1_s (hT.g2 hc hl), hrow.2.2.1]
    try rfl
  · unfold F_X4_nodeNumber
    rw [if_neg (by decide), if_neg (by decide), if_neg (by decide), if_neg (by decide), if_pos (by decide), ob1_s (hT.g3 hc hl), hrow.2.2.2.1]
    try rfl
  · unfold F_X4_nodeNumber
    rw [if_neg (by decide), if_neg (by decide), if_neg (by decide), if_neg (by decide), if_neg (by decide), if_pos (by decide), ob1_s (hT.g4 hc hl), hrow.2.2.2.2.1]
    try rfl
  · unfold F_X4_nodeNumber
    rw [if_neg (by decide), if_neg (by decide), if_neg (by decide), if_neg (by decide), if_neg (by decide), if_neg (by decide), if_pos (by decide), ob1_s (hT.g5 hc hl), hrow.2.2.2.2.2.1]
    try rfl
  · unfold F_X4_nodeNumber
    rw [if_neg (by decide), if_neg (by decide), if_neg (by decide), if_neg (by decide), if_neg (by decide), if_neg (by decide), if_neg (by decide), if_pos (by decide), ob1_s (hT.g8 hc hl), hO c d hc]
    try rfl
  · unfold F_X4_nodeNumber
    rw [if_neg (by decide), if_neg (by decide), if_neg (by decide), if_neg (by decide), if_neg (by decide), if_neg (by decide), if_neg (by decide), if_neg (by decide), if_pos (by decide), ob1_s (hT.g6 hc hl), hrow.2.2.2.2.2.2]
    try rfl
  · unfold F_X4_nodeNumber
    rw [if_neg (by decide), if_neg (by decide), if_neg (by decide), if_neg (by decide), if_neg (by decide), if_neg (by decide), if_neg (by decide), if_neg (by decide), if_neg (by decide), ob1_s (countBelow_ok hM.wf0 hT hc)]
    rfl
theorem ofNode_ok {S : S_Model} {s : Nat} {M : Mp} (hM : Wf M) (h : NR (g_Model_now S) s M) (hs : s ≤ 1) {c : Nat} {d : Dt} (hc : M c = some d) : ∀ k, k ≤ 9 → F_X5_ofNode S (nI s) (nI (ix M c)) (nI k) = some (ndv M c d k) := by
  have hrow := h.row hc
  have hle := h.2.1
  have hlt := ix_lt hc (hM.lt hc)
  apply all10
  · unfold F_X5_ofNode
    rw [if_pos (by decide), ob1_s (h.a0 hM hs hc), hrow.1]
    try rfl
  · unfold F_X5_ofNode
    rw [if_neg (by decide), if_pos (by decide)]
    by_cases h0 : c = 0
    · subst h0
      rw [if_pos (show nI (ix M 0) = 0 from rfl)]
      rfl
    · obtain ⟨d0, g0⟩ := hM.root (dp c) rfl hc
      have := ix_lt g0 (show 0 < c by omega)
      rw [if_neg (nI_ne0 (by omega) (by omega)), ob1_s (h.a2 hM hs hc), hrow.2.2.1]
      rfl
  · unfold F_X5_ofNode
    rw [if_neg (by decide), if_neg (by decide), if_pos (by decide), ob1_s (h.a1 hM hs hc), hrow.2.1]
    try rfl
  · unfold F_X5_ofNode
    rw [if_neg (by decide), if_neg (by decide), if_neg (by decide), if_pos (by decide), ob1_s (depth_ok hM h hs hc)]
    try rfl
  · unfold F_X5_ofNode
    rw [if_neg (by decide), if_neg (by decide), if_neg (by decide), if_neg (by decide), if_pos (by decide), show nI 4 - 1 = (3 : Int32) by decide, ob1_s (h.a3 hM hs hc), hrow.2.2.2.1]
    try rfl
  · unfold F_X5_ofNode
    rw [if_neg (by decide), if_neg (by decide), if_neg (by decide), if_neg (by decide), if_neg (by decide), if_pos (by decide), show nI 5 - 1 = (4 : Int32) by decide, ob1_s (h.a4 hM hs hc), hrow.2.2.2.2.1]
    try rfl
  · unfold F_X5_ofNode
    rw [if_neg (by decide), if_neg (by decide), if_neg (by decide), if_neg (by decide), if_neg (by decide), if_neg (by decide), if_pos (by decide), show nI 6 - 1 = (5 : Int32) by decide, ob1_s (h.a5 hM hs hc), hrow.2.2.2.2.2.1]
    try rfl
  · unfold F_X5_ofNode
    rw [if_neg (by decide), if_neg (by decide), if_neg (by decide), if_neg (by decide), if_neg (by decide), if_neg (by decide), if_neg (by decide), if_pos (by decide), ob1_s (canMiss_ok hM h hs hc)]
    show _ = some (b2i (opt M c d))
    cases opt M c d <;> rfl
  · unfold F_X5_ofNode
    rw [if_neg (by decide), if_neg (by decide), if_neg (by decide), if_neg (by decide), if_neg (by decide), if_neg (by decide), if_neg (by decide), if_neg (by decide), if_pos (by decide), ob1_s (h.a6 hM hs hc), hrow.2.2.2.2.2.2]
    try rfl
  · unfold F_X5_ofNode
    rw [if_neg (by decide), if_neg (by decide), if_neg (by decide), if_neg (by decide), if_neg (by decide), if_neg (by decide), if_neg (by decide), if_neg (by decide), if_neg (by decide), if_pos (by decide), ob1_s (children_ok hM h hs hc)]
    try rfl
theorem shape_loop2 {T : S_Tree} {S : S_Model} {s : Nat} {M : Mp} (h : SH T (g_Model_now S) s M) (hs : s ≤ 1) : ∀ (f i : Nat) (x : Int32), i ≤ ix M 10000 → ix M 10000 - i < f → ∃ v, F_X4_shapeNumber_32 (nI 2) T f x (nI i) = some v ∧ F_X5_ofShape_43 (nI s) (nI 2) S f x (nI i) = some v
  | 0, i, _, _, h => absurd h (Nat.not_lt_zero _)
  | f + 1, i, x, hi, hf => by
    have h' := h
    obtain ⟨hM, hT, hO, hN, hD⟩ := h'
    have hle := hN.2.1
    rw [F_X4_shapeNumber_32_s, F_X5_ofShape_43_s, hT.size, show (3 : Int32) = nI 3 from rfl, nI_add, og_t (inb_nI (by omega) (by omega)), nI_clamp (by omega), hN.1, nI_1]
    by_cases q : i < ix M 10000
    · rw [if_neg (nI_ge q (by omega)), if_neg (nI_ge q (by omega))]
      obtain ⟨c, d, g1, g2, g3⟩ := ix_at q
      have hl := hM.lt g2
      have hrow := hT.row g2 hl
      have hrow2 := hN.row g2
      have ihr := fun y => shape_loop2 h hs f (i + 1) y (by omega) (by omega)
      rw [if_neg (by decide), if_pos (by decide), if_neg (by decide), if_pos (by decide), ← g3, ob1_s (hT.g0 g2 hl), hrow.1, ob1_s (hN.a0 hM hs g2), hrow2.1, g3, Int32.add_zero]
      by_cases r : d.1 = 7
      · rw [if_pos r, if_pos r]
        exact ihr _
      · rw [if_neg r, if_neg r]
        unfold F_X4_shapeNumber_75
        rw [if_neg (by decide), if_neg (by decide), nI_1]
        exact ihr _
    · rw [if_pos (nI_le (by omega) (by omega)), if_pos (nI_le (by omega) (by omega))]
      exact ⟨x, rfl, rfl⟩
theorem shape_loop3 {T : S_Tree} {S : S_Model} {s : Nat} {M : Mp} (h : SH T (g_Model_now S) s M) (hs : s ≤ 1) : ∀ (f i : Nat) (x : Int32), i ≤ ix M 10000 → ix M 10000 - i < f → ∃ v, F_X4_shapeNumber_32 (nI 3) T f x (nI i) = some v ∧ F_X5_ofShape_43 (nI s) (nI 3) S f x (nI i) = some v
  | 0, i, _, _, h => absurd h (Nat.not_lt_zero _)
  | f + 1, i, x, hi, hf => by
    have h' := h
    obtain ⟨hM, hT, hO, hN, hD⟩ := h'
    have hle := hN.2.1
    rw [F_X4_shapeNumber_32_s, F_X5_ofShape_43_s, hT.size, show (3 : Int32) = nI 3 from rfl, nI_add, og_t (inb_nI (by omega) (by omega)), nI_clamp (by omega), hN.1, nI_1]
    by_cases q : i < ix M 10000
    · rw [if_neg (nI_ge q (by omega)), if_neg (nI_ge q (by omega))]
      obtain ⟨c, d, g1, g2, g3⟩ := ix_at q
      have hl := hM.lt g2
      have hrow := hT.row g2 hl
      have hrow2 := hN.row g2
      have ihr := fun y => shape_loop3 h hs f (i + 1) y (by omega) (by omega)
      rw [if_neg (by decide), if_neg (by decide), if_neg (by decide), if_neg (by decide), if_pos (show nI 3 = nI 3 from rfl)]
      unfold F_X4_shapeNumber_75
      rw [if_pos (by decide), ← g3, ob1_s (hT.g8 g2 hl), hO c d g2, ob1_s (canMiss_ok hM hN hs g2), g3, Int32.add_zero, nI_1]
      cases opt M c d with
      | false =>
        rw [if_neg (by decide), if_neg (by decide), if_pos (by decide)]
        exact ihr _
      | true =>
        rw [if_pos (by decide), if_neg (by decide)]
        exact ihr _
    · rw [if_pos (nI_le (by omega) (by omega)), if_pos (nI_le (by omega) (by omega))]
      exact ⟨x, rfl, rfl⟩
theorem shape_loop4 {T : S_Tree} {S : S_Model} {s : Nat} {M : Mp} (h : SH T (g_Model_now S) s M) (hs : s ≤ 1) : ∀ (f i : Nat) (x : Int32), i ≤ ix M 10000 → ix M 10000 - i < f → ∃ v, F_X4_shapeNumber_32 (nI 4) T f x (nI i) = some v ∧ F_X5_ofShape_43 (nI s) (nI 4) S f x (nI i) = some v
  | 0, i, _, _, h => absurd h (Nat.not_lt_zero _)
  | f + 1, i, x, hi, hf => by
    have h' := h
    obtain ⟨hM, hT, hO, hN, hD⟩ := h'
    have hle := hN.2.1
    rw [F_X4_shapeNumber_32_s, F_X5_ofShape_43_s, hT.size, show (3 : Int32) = nI 3 from rfl, nI_add, og_t (inb_nI (by omega) (by omega)), nI_clamp (by omega), hN.1, nI_1]
    by_cases q : i < ix M 10000
    · rw [if_neg (nI_ge q (by omega)), if_neg (nI_ge q (by omega))]
      obtain ⟨c, d, g1, g2, g3⟩ := ix_at q
      have hl := hM.lt g2
      have hrow := hT.row g2 hl
      have hrow2 := hN.row g2
      have ihr := fun y => shape_loop4 h hs f (i + 1) y (by omega) (by omega)
      rw [if_neg (by decide), if_neg (by decide), if_neg (by decide), if_neg (by decide), if_neg (by decide)]
      unfold F_X4_shapeNumber_75
      rw [if_neg (by decide), if_pos (by decide), ← g3, ob1_s (hT.g4 g2 hl), hrow.2.2.2.2.1, ob1_s (hN.a4 hM hs g2), hrow2.2.2.2.2.1, g3, Int32.add_zero, nI_1]
      by_cases r : d.2.2.1 = 1
      · rw [if_pos r, if_pos r]
        exact ihr _
      · rw [if_neg r, if_neg r]
        exact ihr _
    · rw [if_pos (nI_le (by omega) (by omega)), if_pos (nI_le (by omega) (by omega))]
      exact ⟨x, rfl, rfl⟩
theorem shape_loop5 {T : S_Tree} {S : S_Model} {s : Nat} {M : Mp} (h : SH T (g_Model_now S) s M) (hs : s ≤ 1) : ∀ (f i : Nat) (x : Int32), i ≤ ix M 10000 → ix M 10000 - i < f → ∃ v, F_X4_shapeNumber_32 (nI 5) T f x (nI i) = some v ∧ F_X5_ofShape_43 (nI s) (nI 5) S f x (nI i) = some v
  | 0, i, _, _, h => absurd h (Nat.not_lt_zero _)
  | f + 1, i, x, hi, hf => by
    have h' := h
    obtain ⟨hM, hT, hO, hN, hD⟩ := h'
    have hle := hN.2.1
    rw [F_X4_shapeNumber_32_s, F_X5_ofShape_43_s, hT.size, show (3 : Int32) = nI 3 from rfl, nI_add, og_t (inb_nI (by omega) (by omega)), nI_clamp (by omega), hN.1, nI_1]
    by_cases q : i < ix M 10000
    · rw [if_neg (nI_ge q (by omega)), if_neg (nI_ge q (by omega))]
      obtain ⟨c, d, g1, g2, g3⟩ := ix_at q
      have hl := hM.lt g2
      have hrow := hT.row g2 hl
      have hrow2 := hN.row g2
      have ihr := fun y => shape_loop5 h hs f (i + 1) y (by omega) (by omega)
      rw [if_pos (by decide), if_pos (by decide), ← g3, ob1_s (hT.g2 g2 hl), hrow.2.2.1, ob1_s (depth_ok hM hN hs g2), g3]
      by_cases r : nI (dp c) ≤ x
      · rw [if_pos r, if_neg (Int32.not_lt.mpr r)]
        exact ihr x
      · rw [if_neg r, if_pos (Int32.not_le.mp r), ← g3, ob1_s (depth_ok hM hN hs g2), g3]
        exact ihr _
    · rw [if_pos (nI_le (by omega) (by omega)), if_pos (nI_le (by omega) (by omega))]
      exact ⟨x, rfl, rfl⟩
theorem all6 {P : Nat → Prop} (h0 : P 0) (h1 : P 1) (h2 : P 2) (h3 : P 3) (h4 : P 4) (h5 : P 5) : ∀ j, j ≤ 5 → P j := by
  intro j hj
  have : j = 0 ∨ j = 1 ∨ j = 2 ∨ j = 3 ∨ j = 4 ∨ j = 5 := by omega
  rcases this with h | h | h | h | h | h <;> subst h <;> assumption
theorem shapeNumber_ok {T : S_Tree} {S : S_Model} {s : Nat} {M : Mp} (h : SH T (g_Model_now S) s M) (hs : s ≤ 1) : ∀ k, k ≤ 5 → ∃ v, F_X4_shapeNumber T (nI k) = some v ∧ F_X5_ofShape S (nI s) (nI k) = some v := by
  have h0 := h
  obtain ⟨hM, hT, hO, hN, hD⟩ := h0
  have hle := hN.2.1
  apply all6
  · unfold F_X4_shapeNumber F_X5_ofShape
    rw [if_pos (by decide), if_neg (by decide), if_pos (by decide), show (1 : Int32) = nI 1 from rfl, nI_add, og_t (inb_nI (by omega) (by omega)), nI_clamp (by omega), hD]
    exact ⟨_, rfl, rfl⟩
  · unfold F_X4_shapeNumber F_X5_ofShape
    rw [if_neg (by decide), if_pos (by decide), if_neg (by decide), if_neg (by decide), show (3 : Int32) = nI 3 from rfl, nI_add, og_t (inb_nI (by omega) (by omega)), nI_clamp (by omega), hN.1, hT.size]
    exact ⟨_, rfl, rfl⟩
  · unfold F_X4_shapeNumber F_X5_ofShape
    rw [if_neg (by decide), if_neg (by decide), if_neg (by decide), if_pos (by decide), if_neg (by decide)]
    exact shape_loop2 h hs 5000 0 _ (by omega) (by omega)
  · unfold F_X4_shapeNumber F_X5_ofShape
    rw [if_neg (by decide), if_neg (by decide), if_neg (by decide), if_pos (by decide), if_neg (by decide)]
    exact shape_loop3 h hs 5000 0 _ (by omega) (by omega)
  · unfold F_X4_shapeNumber F_X5_ofShape
    rw [if_neg (by decide), if_neg (by decide), if_neg (by decide), if_pos (by decide), if_neg (by decide)]
    exact shape_loop4 h hs 5000 0 _ (by omega) (by omega)
  · unfold F_X4_shapeNumber F_X5_ofShape
    rw [if_neg (by decide), if_neg (by decide), if_pos (by decide), if_pos (by decide), if_pos (by decide)]
    exact shape_loop5 h hs 5000 0 _ (by omega) (by omega)
/-! the share of the sure -/
def shr (a n : Nat) : UInt64 := if n = 0 then 4607182418800017408 else FP.ddiv (FP.i2d (nI a)) (FP.i2d (nI n))
theorem shr_tab : ∀ n, n < 31 → ∀ a, a < 31 → n = 0 ∨ n64 (FP.ddiv (FP.i2d (nI a)) (FP.i2d (nI n))) = true := by decide +kernel
theorem shr_n64 {a n : Nat} (hn : n ≠ 0) (h1 : n ≤ 30) (h2 : a ≤ 30) : n64 (FP.ddiv (FP.i2d (nI a)) (FP.i2d (nI n))) = true := (shr_tab n (by omega) a (by omega)).resolve_left hn
theorem share_loop {T : S_Tree} {S : S_Model} {s : Nat} {M : Mp} (h : SH T (g_Model_now S) s M) (hs : s ≤ 1) (hn0 : ix M 10000 ≠ 0) : ∀ (f i a : Nat), a ≤ i → i ≤ ix M 10000 → ix M 10000 - i < f → ∃ b, b ≤ ix M 10000 ∧ F_X4_shareOfSure_13 T f (nI a) (nI i) = some (shr b (ix M 10000)) ∧ F_X5_sure_4 (nI s) S f (nI a) (nI i) = some (shr b (ix M 10000))
  | 0, i, _, _, _, h => absurd h (Nat.not_lt_zero _)
  | f + 1, i, a, ha, hi, hf => by
    have h' := h
    obtain ⟨hM, hT, hO, hN, hD⟩ := h'
    have hle := hN.2.1
    rw [F_X4_shareOfSure_13_s, F_X5_sure_4_s, hT.size, show (3 : Int32) = nI 3 from rfl, nI_add, og_t (inb_nI (n := 425) (i := 3 + s) (by omega) (by omega)), og_t (inb_nI (n := 425) (i := 3 + s) (by omega) (by omega)), og_t (inb_nI (n := 425) (i := 3 + s) (by omega) (by omega)), nI_clamp (n := 3 + s) (by omega), hN.1, nI_1, Int32.add_zero, nI_1]
    by_cases q : i < ix M 10000
    · rw [if_neg (nI_ge q (by omega)), if_neg (nI_ge q (by omega))]
      obtain ⟨c, d, g1, g2, g3⟩ := ix_at q
      have hl := hM.lt g2
      have hrow := hT.row g2 hl
      have hrow2 := hN.row g2
      have ihr := fun a (ha : a ≤ i + 1) => share_loop h hs hn0 f (i + 1) a ha (by omega) (by omega)
      rw [← g3, ob1_s (hT.g4 g2 hl), hrow.2.2.2.2.1, ob1_s (hN.a4 hM hs g2), hrow2.2.2.2.2.1, ob1_s (hT.g0 g2 hl), hrow.1, ob1_s (hN.a0 hM hs g2), hrow2.1, ob1_s (hT.g8 g2 hl), hO c d g2, ob1_s (canMiss_ok hM hN hs g2), g3]
      by_cases r : d.2.2.1 = 0
      · rw [if_pos r, if_pos r]
        by_cases r7 : d.1 = 7
        · rw [if_pos r7, if_pos r7]
          exact ihr a (by omega)
        · rw [if_neg r7, if_neg r7]
          cases opt M c d with
          | false =>
            rw [if_pos (by decide), if_pos (by decide)]
            exact ihr (a + 1) (by omega)
          | true =>
            rw [if_neg (by decide), if_neg (by decide)]
            exact ihr a (by omega)
      · rw [if_neg r, if_neg r]
        exact ihr a (by omega)
    · rw [if_pos (nI_le (by omega) (by omega)), if_pos (nI_le (by omega) (by omega)), if_neg (nI_ne0 (by omega) (by omega)), og_t (shr_n64 hn0 hle (by omega))]
      refine ⟨a, by omega, ?_, ?_⟩
      · unfold shr; rw [if_neg hn0]
      · unfold shr; rw [if_neg hn0]
theorem share_ok {T : S_Tree} {S : S_Model} {s : Nat} {M : Mp} (h : SH T (g_Model_now S) s M) (hs : s ≤ 1) : ∃ b n, b ≤ n ∧ n ≤ 30 ∧ F_X4_shareOfSure T = some (shr b n) ∧ F_X5_sure S (nI s) = some (shr b n) := by
  have h0 := h
  obtain ⟨hM, hT, hO, hN, hD⟩ := h0
  have hle := hN.2.1
  unfold F_X4_shareOfSure F_X5_sure
  by_cases q : ix M 10000 = 0
  · refine ⟨0, 0, by omega, by omega, ?_, ?_⟩
    · rw [hT.size, q, if_neg (by decide)]; rfl
    · rw [F_X5_sure_4_s, show (3 : Int32) = nI 3 from rfl, nI_add, og_t (inb_nI (n := 425) (i := 3 + s) (by omega) (by omega)), nI_clamp (n := 3 + s) (by omega), hN.1, q, if_pos (by decide), og_t (inb_nI (n := 425) (i := 3 + s) (by omega) (by omega)), if_pos (by decide)]
      rfl
  · obtain ⟨b, h1, h2, h3⟩ := share_loop h hs q 5000 0 0 (by omega) (by omega) (by omega)
    refine ⟨b, ix M 10000, h1, hle, ?_, h3⟩
    rw [hT.size, if_pos (show (0 : Int32) < nI (ix M 10000) from nI_lt (a := 0) (by omega) (by omega))]
    exact h2
theorem bits_tab : ∀ n, n < 31 → ∀ a, a < 31 → n < a ∨ (F_X4_bitsOfShare (shr a n) = F_Jxe99ae_doubleToLongBits_ccdee (shr a n) ∧ (F_X4_bitsOfShare (shr a n)).isSome = true) := by decide +kernel
theorem bits_ok {a n : Nat} (h1 : a ≤ n) (h2 : n ≤ 30) : ∃ v, F_X4_bitsOfShare (shr a n) = some v ∧ F_Jxe99ae_doubleToLongBits_ccdee (shr a n) = some v := by
  obtain ⟨h3, h4⟩ := (bits_tab n (by omega) a (by omega)).resolve_left (by omega)
  obtain ⟨v, h5⟩ := Option.isSome_iff_exists.mp h4
  exact ⟨v, h5, h3 ▸ h5⟩
