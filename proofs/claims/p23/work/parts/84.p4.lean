/-! ===== pure: kinds ===== -/
def jk (a b : Int32) : Int32 := if a = b then a else if b = 0 then a else if a = 0 then b else if 4 < a then 7 else if b ≤ 4 then (if a = 1 then 4 else if b = 1 then 4 else if a = 4 then 4 else if b = 4 then 4 else 3) else 7
theorem jk_X4 (a b : Int32) : F_X4_joinKinds a b = some (jk a b) := by
  unfold F_X4_joinKinds jk
  repeat' split
  all_goals rfl
theorem all8 {P : Nat → Prop} (h0 : P 0) (h1 : P 1) (h2 : P 2) (h3 : P 3) (h4 : P 4) (h5 : P 5) (h6 : P 6) (h7 : P 7) : ∀ j, j ≤ 7 → P j := by
  intro j hj
  have : j = 0 ∨ j = 1 ∨ j = 2 ∨ j = 3 ∨ j = 4 ∨ j = 5 ∨ j = 6 ∨ j = 7 := by omega
  rcases this with h | h | h | h | h | h | h | h <;> subst h <;> assumption
theorem jk_tab : ∀ i, i < 8 → ∀ j, j < 8 → F_X5_joined (nI i) (nI j) = some (jk (nI i) (nI j)) := by decide +kernel
theorem jk_X5 {a b : Int32} (ha : isK a) (hb : isK b) : F_X5_joined a b = some (jk a b) := by
  obtain ⟨i, hi, rfl⟩ := ha
  obtain ⟨j, hj, rfl⟩ := hb
  exact jk_tab i (by omega) j (by omega)
theorem jk_isK_tab : ∀ i, i < 8 → ∀ j, j < 8 → ∃ k, k < 8 ∧ jk (nI i) (nI j) = nI k := by decide +kernel
theorem jk_isK {a b : Int32} (ha : isK a) (hb : isK b) : isK (jk a b) := by
  obtain ⟨i, hi, rfl⟩ := ha
  obtain ⟨j, hj, rfl⟩ := hb
  obtain ⟨k, hk, e⟩ := jk_isK_tab i (by omega) j (by omega)
  exact ⟨k, by omega, e⟩
theorem jk_self (a : Int32) : jk a a = a := if_pos rfl
theorem jk_0 (a : Int32) : jk a 0 = a := by
  unfold jk
  by_cases h : a = 0
  · rw [if_pos h]
  · rw [if_neg h, if_pos rfl]
theorem jk_7tab : ∀ j, j < 8 → jk 7 (nI j) = 7 := by decide +kernel
theorem jk_7 {b : Int32} (hb : isK b) : jk 7 b = 7 := by
  obtain ⟨j, hj, rfl⟩ := hb
  exact jk_7tab j (by omega)
theorem isK_0 : isK 0 := ⟨0, by omega, rfl⟩
theorem isK_7 : isK 7 := ⟨7, by omega, rfl⟩
/-! ===== pure: a shape as the reference keeps it ===== -/
def nw (f : Nat → Int32) (s i k : Nat) : Int32 := f (5 + 210 * s + 7 * i + k)
def upI (M : Mp) (c : Nat) : Int32 := if c = 0 then -1 else nI (ix M (pa c))
def nrow (f : Nat → Int32) (s : Nat) (M : Mp) (c : Nat) (d : Dt) : Prop := nw f s (ix M c) 0 = d.1 ∧ nw f s (ix M c) 1 = upI M c ∧ nw f s (ix M c) 2 = l32 c ∧ nw f s (ix M c) 3 = d.2.1 ∧ nw f s (ix M c) 4 = d.2.2.1 ∧ nw f s (ix M c) 5 = d.2.2.2.1 ∧ nw f s (ix M c) 6 = d.2.2.2.2
def NR (f : Nat → Int32) (s : Nat) (M : Mp) : Prop := f (3 + s) = nI (ix M 10000) ∧ ix M 10000 ≤ 30 ∧ ∀ c d, M c = some d → nrow f s M c d
def grp (M : Mp) (c : Nat) : Int32 := match M c with | some d => d.2.2.2.1 | none => 0
theorem grp_some {M : Mp} {c : Nat} {d : Dt} (h : M c = some d) : grp M c = d.2.2.2.1 := by unfold grp; rw [h]
/-- whether a part can be missing -/
def opt (M : Mp) (c : Nat) (d : Dt) : Bool := decide (c ≠ 0 ∧ ltr c < 8 ∧ d.2.1 < grp M (pa c))
def OP (T : S_Tree) (M : Mp) : Prop := ∀ c d, M c = some d → tc T (ix M c) 8 = b2i (opt M c d)
def SH (T : S_Tree) (f : Nat → Int32) (s : Nat) (M : Mp) : Prop := Wf M ∧ TR T M 10000 ∧ OP T M ∧ NR f s M ∧ g_Tree_documents T = f (1 + s)
theorem of_ix (s i k : Nat) : (5 : Int32) + 210 * nI s + 7 * nI i + nI k = nI (5 + 210 * s + 7 * i + k) := by
  rw [show (5 : Int32) = nI 5 from rfl, show (210 : Int32) = nI 210 from rfl, show (7 : Int32) = nI 7 from rfl, nI_mul, nI_mul, nI_add, nI_add, nI_add]
theorem of_at {S : S_Model} {s i k : Nat} {a b e : Int32} (ha : a = nI s) (hb : b = nI i) (he : e = nI k) (hs : s ≤ 1) (hi : i < 30) (hk : k < 7) : F_X5_of S a b e = some (nw (g_Model_now S) s i k) := by
  subst ha; subst hb; subst he
  unfold F_X5_of
  rw [of_ix, og_t (inb_nI (by omega) (by omega)), nI_clamp (by omega)]
  rfl
theorem of_0 {S : S_Model} {s : Nat} (i : Nat) (hs : s ≤ 1) (hi : i < 30) : F_X5_of S (nI s) (nI i) 0 = some (nw (g_Model_now S) s i 0) := of_at rfl rfl rfl hs hi (by omega)
theorem of_1 {S : S_Model} {s : Nat} (i : Nat) (hs : s ≤ 1) (hi : i < 30) : F_X5_of S (nI s) (nI i) 1 = some (nw (g_Model_now S) s i 1) := of_at rfl rfl rfl hs hi (by omega)
theorem of_2 {S : S_Model} {s : Nat} (i : Nat) (hs : s ≤ 1) (hi : i < 30) : F_X5_of S (nI s) (nI i) 2 = some (nw (g_Model_now S) s i 2) := of_at rfl rfl rfl hs hi (by omega)
theorem of_3 {S : S_Model} {s : Nat} (i : Nat) (hs : s ≤ 1) (hi : i < 30) : F_X5_of S (nI s) (nI i) 3 = some (nw (g_Model_now S) s i 3) := of_at rfl rfl rfl hs hi (by omega)
theorem of_4 {S : S_Model} {s : Nat} (i : Nat) (hs : s ≤ 1) (hi : i < 30) : F_X5_of S (nI s) (nI i) 4 = some (nw (g_Model_now S) s i 4) := of_at rfl rfl rfl hs hi (by omega)
theorem of_5 {S : S_Model} {s : Nat} (i : Nat) (hs : s ≤ 1) (hi : i < 30) : F_X5_of S (nI s) (nI i) 5 = some (nw (g_Model_now S) s i 5) := of_at rfl rfl rfl hs hi (by omega)
theorem of_6 {S : S_Model} {s : Nat} (i : Nat) (hs : s ≤ 1) (hi : i < 30) : F_X5_of S (nI s) (nI i) 6 = some (nw (g_Model_now S) s i 6) := of_at rfl rfl rfl hs hi (by omega)
theorem NR.at {S : S_Model} {s : Nat} {M : Mp} (hM : Wf M) (h : NR (g_Model_now S) s M) (hs : s ≤ 1) {c : Nat} {d : Dt} (hc : M c = some d) (k : Nat) (hk : k < 7) {e : Int32} (he : e = nI k) : F_X5_of S (nI s) (nI (ix M c)) e = some (nw (g_Model_now S) s (ix M c) k) :=
  of_at rfl rfl he hs (by have := ix_lt hc (hM.lt hc); have := h.2.1; omega) hk
theorem NR.a0 {S : S_Model} {s : Nat} {M : Mp} (hM : Wf M) (h : NR (g_Model_now S) s M) (hs : s ≤ 1) {c : Nat} {d : Dt} (hc : M c = some d) : F_X5_of S (nI s) (nI (ix M c)) 0 = some (nw (g_Model_now S) s (ix M c) 0) := h.at hM hs hc 0 (by omega) rfl
theorem NR.a1 {S : S_Model} {s : Nat} {M : Mp} (hM : Wf M) (h : NR (g_Model_now S) s M) (hs : s ≤ 1) {c : Nat} {d : Dt} (hc : M c = some d) : F_X5_of S (nI s) (nI (ix M c)) 1 = some (nw (g_Model_now S) s (ix M c) 1) := h.at hM hs hc 1 (by omega) rfl
theorem NR.a2 {S : S_Model} {s : Nat} {M : Mp} (hM : Wf M) (h : NR (g_Model_now S) s M) (hs : s ≤ 1) {c : Nat} {d : Dt} (hc : M c = some d) : F_X5_of S (nI s) (nI (ix M c)) 2 = some (nw (g_Model_now S) s (ix M c) 2) := h.at hM hs hc 2 (by omega) rfl
theorem NR.a3 {S : S_Model} {s : Nat} {M : Mp} (hM : Wf M) (h : NR (g_Model_now S) s M) (hs : s ≤ 1) {c : Nat} {d : Dt} (hc : M c = some d) : F_X5_of S (nI s) (nI (ix M c)) 3 = some (nw (g_Model_now S) s (ix M c) 3) := h.at hM hs hc 3 (by omega) rfl
theorem NR.a4 {S : S_Model} {s : Nat} {M : Mp} (hM : Wf M) (h : NR (g_Model_now S) s M) (hs : s ≤ 1) {c : Nat} {d : Dt} (hc : M c = some d) : F_X5_of S (nI s) (nI (ix M c)) 4 = some (nw (g_Model_now S) s (ix M c) 4) := h.at hM hs hc 4 (by omega) rfl
theorem NR.a5 {S : S_Model} {s : Nat} {M : Mp} (hM : Wf M) (h : NR (g_Model_now S) s M) (hs : s ≤ 1) {c : Nat} {d : Dt} (hc : M c = some d) : F_X5_of S (nI s) (nI (ix M c)) 5 = some (nw (g_Model_now S) s (ix M c) 5) := h.at hM hs hc 5 (by omega) rfl
theorem NR.a6 {S : S_Model} {s : Nat} {M : Mp} (hM : Wf M) (h : NR (g_Model_now S) s M) (hs : s ≤ 1) {c : Nat} {d : Dt} (hc : M c = some d) : F_X5_of S (nI s) (nI (ix M c)) 6 = some (nw (g_Model_now S) s (ix M c) 6) := h.at hM hs hc 6 (by omega) rfl
theorem NR.row {f : Nat → Int32} {s : Nat} {M : Mp} (h : NR f s M) {c : Nat} {d : Dt} (hc : M c = some d) : nrow f s M c d := h.2.2 c d hc
theorem NR.many {S : S_Model} {s : Nat} {M : Mp} (h : NR (g_Model_now S) s M) (hs : s ≤ 1) {α : Type} (k : Int32 → Option α) : og (inb ((3 : Int32) + nI s) 425) (k (g_Model_now S ((3 : Int32) + nI s).toNatClampNeg)) = k (nI (ix M 10000)) := by
  rw [show (3 : Int32) = nI 3 from rfl, nI_add, og_t (inb_nI (by omega) (by omega)), nI_clamp (by omega), h.1]
theorem upI_up {M : Mp} {c : Nat} (h : c ≠ 0) : upI M c = nI (ix M (pa c)) := if_neg h
theorem depth_loop {S : S_Model} {s : Nat} {M : Mp} (hM : Wf M) (h : NR (g_Model_now S) s M) (hs : s ≤ 1) : ∀ (f n c : Nat) (d : Dt), M c = some d → dp c < f → F_X5_depth_11 (nI s) S f (nI n) (upI M c) = some (nI (n + dp c))
  | 0, _, _, _, _, h => absurd h (Nat.not_lt_zero _)
  | f + 1, n, c, d, hc, hf => by
    rw [F_X5_depth_11_s]
    by_cases h0 : c = 0
    · subst h0
      rw [show upI M 0 = -1 from rfl, if_pos rfl]
      rfl
    · obtain ⟨d', g1, g2⟩ := hM.up hc h0
      have hk := kid_in (hM.vd hc) h0
      have hlt := ix_lt g1 (hM.lt g1)
      rw [upI_up h0, if_neg (nI_m1 (by have := h.2.1; omega)), ob1_s (h.a1 hM hs g1), (h.row g1).2.1, nI_1, depth_loop hM h hs f (n + 1) (pa c) d' g1 (by omega), show n + 1 + dp (pa c) = n + dp c by omega]
theorem depth_ok {S : S_Model} {s : Nat} {M : Mp} (hM : Wf M) (h : NR (g_Model_now S) s M) (hs : s ≤ 1) {c : Nat} {d : Dt} (hc : M c = some d) : F_X5_depth S (nI s) (nI (ix M c)) = some (nI (dp c)) := by
  unfold F_X5_depth
  rw [ob1_s (h.a1 hM hs hc), (h.row hc).2.1]
  have := depth_loop hM h hs 5000 0 c d hc (by have := dp_le c; omega)
  rw [Nat.zero_add] at this
  exact this
theorem in_t {v a b : Int32} (h1 : ¬ v < a) (h2 : ¬ b < v) : F_X5_in v a b = some true := by
  unfold F_X5_in
  rw [if_neg h1, if_neg h2]
theorem in_f {v a b : Int32} (h : v < a ∨ b < v) : F_X5_in v a b = some false := by
  unfold F_X5_in
  by_cases h1 : v < a
  · rw [if_pos h1]
  · rw [if_neg h1, if_pos (h.resolve_left h1)]
theorem canMiss_ok {S : S_Model} {s : Nat} {M : Mp} (hM : Wf M) (h : NR (g_Model_now S) s M) (hs : s ≤ 1) {c : Nat} {d : Dt} (hc : M c = some d) : F_X5_canMiss S (nI s) (nI (ix M c)) = some (opt M c d) := by
  have hrow := h.row hc
  unfold F_X5_canMiss
  rw [ob1_s (h.a2 hM hs hc), hrow.2.2.1]
  by_cases h0 : c = 0
  · have : opt M c d = false := decide_eq_false (fun z => z.1 h0)
    rw [this, h0, ob1_s (in_f (Or.inl (by decide))), b2i_f, if_pos rfl]
  · by_cases h1 : ltr c < 8
    · obtain ⟨d', g1, g2⟩ := hM.up hc h0
      rw [l32_nI h0, ob1_s (in_t (v := nI (ltr c)) (a := 0) (b := 7) (nI_pos (by omega)) (nI_nlt (a := 7) (b := ltr c) (by omega) (by omega))), b2i_t, if_neg one_ne0, ob1_s (h.a3 hM hs hc), ob1_s (h.a1 hM hs hc), hrow.2.1, upI_up h0, ob1_s (h.a5 hM hs g1), (h.row g1).2.2.2.2.2.1, hrow.2.2.2.1]
      by_cases q : d'.2.2.2.1 ≤ d.2.1
      · rw [if_pos q]
        have : opt M c d = false := decide_eq_false (fun z => by
          have := z.2.2
          rw [grp_some g1] at this
          exact absurd q (Int32.not_le.mpr this))
        rw [this]
      · rw [if_neg q]
        have : opt M c d = true := decide_eq_true ⟨h0, h1, by rw [grp_some g1]; exact Int32.not_le.mp q⟩
        rw [this]
    · have : opt M c d = false := decide_eq_false (fun z => h1 z.2.1)
      have h9 := lt_le c
      rw [this, l32_nI h0, ob1_s (in_f (v := nI (ltr c)) (a := 0) (b := 7) (Or.inr (nI_lt (a := 7) (b := ltr c) (by omega) (by omega)))), b2i_f, if_pos rfl]
theorem childOf_loop {S : S_Model} {s n : Nat} {p l : Int32} (hs : s ≤ 1) (hn : n ≤ 30) (hm : g_Model_now S (3 + s) = nI n) (b : Nat) (hb : b ≤ n) (r : Int32) (hat : (b = n ∧ r = -1) ∨ (b < n ∧ nw (g_Model_now S) s b 1 = p ∧ nw (g_Model_now S) s b 2 = l ∧ r = nI b)) : ∀ (f j : Nat), j ≤ b → b - j < f → (∀ i, j ≤ i → i < b → ¬ (nw (g_Model_now S) s i 1 = p ∧ nw (g_Model_now S) s i 2 = l)) → F_X5_childOf_5 (nI s) p l S f (nI j) = some r
  | 0, j, _, h, _ => absurd h (Nat.not_lt_zero _)
  | f + 1, j, hj, hf, hin => by
    rw [F_X5_childOf_5_s, show (3 : Int32) = nI 3 from rfl, nI_add, og_t (inb_nI (by omega) (by omega)), nI_clamp (by omega), hm]
    by_cases q : j = b
    · subst q
      rcases hat with ⟨h1, h2⟩ | ⟨h1, h2, h3, h4⟩
      · rw [if_pos (by rw [h1]; exact nI_le (Nat.le_refl _) (by omega)), h2]
      · rw [if_neg (nI_ge h1 (by omega)), ob1_s (of_1 j hs (by omega)), if_pos h2, ob1_s (of_2 j hs (by omega)), if_pos h3, h4]
    · have ihr := childOf_loop hs hn hm b hb r hat f (j + 1) (by omega) (by omega) (fun i h1 h2 => hin i (by omega) h2)
      have hno := hin j (Nat.le_refl _) (by omega)
      rw [if_neg (nI_ge (by omega) (by omega)), ob1_s (of_1 j hs (by omega)), nI_1]
      by_cases z : nw (g_Model_now S) s j 1 = p
      · rw [if_pos z, ob1_s (of_2 j hs (by omega)), if_neg (fun y => hno ⟨z, y⟩), ihr]
      · rw [if_neg z, ihr]
/-- which node has this parent and letter: the child's place -/
theorem is_child {M : Mp} (hM : Wf M) {c x l : Nat} {d e : Dt} (hc : M c = some d) (hx : M x = some e) (hl : l < 9) (h1 : upI M x = nI (ix M c)) (h2 : l32 x = nI l) (hle : ix M 10000 ≤ 64) : x = ch c l := by
  have hb := ix_lt hc (hM.lt hc)
  by_cases h0 : x = 0
  · subst h0
    exact absurd h1 (m1_nI (by omega))
  · obtain ⟨d', g1, g2⟩ := hM.up hx h0
    have hb2 := ix_lt g1 (hM.lt g1)
    rw [upI_up h0] at h1
    rw [l32_nI h0] at h2
    have e1 := ix_inj g1 hc (nI_inj (by omega) (by omega) h1)
    have e2 := nI_inj (by have := lt_le x; omega) (by omega) h2
    rw [← e1, ← e2]
    exact (ch_pa (hM.vd hx) h0).1.symm
theorem ch_up {M : Mp} (hM : Wf M) {c l : Nat} {d e : Dt} (hc : M c = some d) (ht : M (ch c l) = some e) (hl : l < 9) : dp c < 4 ∧ ch c l ≠ 0 ∧ c < ch c l ∧ ch c l < c + wt c ∧ upI M (ch c l) = nI (ix M c) ∧ l32 (ch c l) = nI l ∧ pa (ch c l) = c ∧ ltr (ch c l) = l := by
  have hlt := hM.lt ht
  have hd4 : dp c < 4 := by
    have h1 := dpw c
    have h2 := @ch_of c l
    omega
  have o := ch_ok (hM.vd hc) hd4 hl
  have q := pa_ch (hM.vd hc) hd4 hl
  have := wt_pos (ch c l)
  have h0 : ch c l ≠ 0 := by omega
  refine ⟨hd4, h0, by omega, by omega, ?_, ?_, q.1, q.2⟩
  · rw [upI_up h0, q.1]
  · rw [l32_nI h0, q.2]
theorem childOf_ok {S : S_Model} {s : Nat} {M : Mp} (hM : Wf M) (h : NR (g_Model_now S) s M) (hs : s ≤ 1) {c l : Nat} {d : Dt} (hc : M c = some d) (hl : l < 9) : F_X5_childOf S (nI s) (nI (ix M c)) (nI l) = some (rn M (ch c l)) := by
  have hle := h.2.1
  have hb := ix_lt hc (hM.lt hc)
  unfold F_X5_childOf
  rw [nI_1]
  cases ht : M (ch c l) with
  | none =>
    rw [rn_none ht]
    refine childOf_loop hs hle h.1 (ix M 10000) (Nat.le_refl _) _ (Or.inl ⟨rfl, rfl⟩) 5000 _ (by omega) (by omega) ?_
    rintro i h1 h2 ⟨h3, h4⟩
    obtain ⟨x, e, g1, g2, g3⟩ := ix_at h2
    have hrow := h.row g2
    rw [← g3, hrow.2.1] at h3
    rw [← g3, hrow.2.2.1] at h4
    have := is_child hM hc g2 hl h3 h4 (by omega)
    rw [this, ht] at g2; cases g2
  | some e0 =>
    rw [rn_some ht]
    obtain ⟨u1, u2, u3, u4, u5, u6, u7, u8⟩ := ch_up hM hc ht hl
    have hrow := h.row ht
    have hb2 := ix_lt hc u3
    have hb3 := ix_lt ht (hM.lt ht)
    refine childOf_loop hs hle h.1 (ix M (ch c l)) (by omega) _ (Or.inr ⟨hb3, by rw [hrow.2.1, u5], by rw [hrow.2.2.1, u6], rfl⟩) 5000 _ (by omega) (by omega) ?_
    rintro i h1 h2 ⟨h3, h4⟩
    obtain ⟨x, e, g1, g2, g3⟩ := ix_at h2
    have hrow2 := h.row g2
    rw [← g3, hrow2.2.1] at h3
    rw [← g3, hrow2.2.2.1] at h4
    have := is_child hM hc g2 hl h3 h4 (by omega)
    rw [this] at g3
    omega
theorem children_loop {S : S_Model} {s : Nat} {M : Mp} (hM : Wf M) (h : NR (g_Model_now S) s M) (hs : s ≤ 1) {c : Nat} {d : Dt} (hc : M c = some d) : ∀ (f a : Nat), a ≤ 10000 → ix M 10000 - ix M a < f → F_X5_children_7 (nI s) (nI (ix M c)) S f (nI (kc M c a)) (nI (ix M a)) = some (nI (kc M c 10000))
  | 0, a, _, h => absurd h (Nat.not_lt_zero _)
  | f + 1, a, h2, hf => by
    have hle := h.2.1
    have hm := @ix_mono M a 10000 h2
    have hb := ix_lt hc (hM.lt hc)
    rw [F_X5_children_7_s, h.many hs (fun v => if v ≤ nI (ix M a) then some (nI (kc M c a)) else _)]
    by_cases q : ix M a < ix M 10000
    · obtain ⟨x, e, g1, g2, g3, g4, g5⟩ := ix_next q
      have hrow := h.row g3
      have hk : kc M c x = kc M c a := kc_gap g1 (fun y y1 y2 => isKid_none (g5 y y1 y2))
      have hix : ix M (x + 1) = ix M a + 1 := by rw [ix_some g3, g4]
      have ihr := children_loop hM h hs hc f (x + 1) (by omega) (by omega)
      rw [hix, kc_s, hk] at ihr
      rw [if_neg (nI_ge q (by omega)), ← g4, ob1_s (h.a1 hM hs g3), hrow.2.1, g4]
      by_cases r : upI M x = nI (ix M c)
      · rw [if_pos r]
        have h0 : x ≠ 0 := by
          intro z; subst z
          exact absurd r (m1_nI (by omega))
        obtain ⟨d', u1, u2⟩ := hM.up g3 h0
        have hb2 := ix_lt u1 (hM.lt u1)
        rw [upI_up h0] at r
        rw [isKid_yes g3 h0 (ix_inj u1 hc (nI_inj (by omega) (by omega) r))] at ihr
        rw [nI_1, nI_1]
        exact ihr
      · rw [if_neg r]
        rw [isKid_no (fun z => r (by rw [upI_up z.1, z.2])), Nat.add_zero] at ihr
        rw [Int32.add_zero, nI_1]
        exact ihr
    · rw [if_pos (nI_le (by omega) (by omega))]
      rw [← kc_gap h2 (fun y y1 y2 => ?_)]
      refine isKid_none ?_
      cases hy : M y with
      | none => rfl
      | some e =>
        have := ix_lt hy y2
        have := @ix_mono M a y y1
        omega
theorem children_ok {S : S_Model} {s : Nat} {M : Mp} (hM : Wf M) (h : NR (g_Model_now S) s M) (hs : s ≤ 1) {c : Nat} {d : Dt} (hc : M c = some d) : F_X5_children S (nI s) (nI (ix M c)) = some (nI (kc M c 10000)) := by
  have hb := ix_lt hc (hM.lt hc)
  unfold F_X5_children
  have := children_loop hM h hs hc 5000 (c + 1) (by have := hM.lt hc; omega) (by have := h.2.1; omega)
  rw [(kc_all hM.wf0 hc).1, ix_some hc] at this
  rw [nI_1]
  exact this
