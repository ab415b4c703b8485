/-! ===== pure: the working tree becomes a shape: its nodes in the order of their numbers ===== -/
def cw (c l : Nat) : Nat := c + (l + 1) * (wt c / 10)
theorem cw_ch {c l : Nat} (h : dp c < 4) : cw c l = ch c l := by
  unfold cw ch
  have := dpw c
  rw [if_neg (by omega)]
theorem cw_of {c l : Nat} : (wt c = 10000 ∧ cw c l = c + (l + 1) * 1000) ∨ (wt c = 1000 ∧ cw c l = c + (l + 1) * 100) ∨ (wt c = 100 ∧ cw c l = c + (l + 1) * 10) ∨ (wt c = 10 ∧ cw c l = c + (l + 1)) ∨ (wt c = 1 ∧ cw c l = c) := by
  unfold cw
  rcases dpw c with h | h | h | h | h
  · left; rw [h.2.1]; exact ⟨rfl, rfl⟩
  · right; left; rw [h.2.2.1]; exact ⟨rfl, rfl⟩
  · right; right; left; rw [h.2.2.1]; exact ⟨rfl, rfl⟩
  · right; right; right; left; rw [h.2.2.1]; refine ⟨rfl, ?_⟩; omega
  · right; right; right; right; rw [h.2.1]; refine ⟨rfl, ?_⟩; omega
theorem cw_next {e : Nat} (hv : okc e) (h0 : e ≠ 0) : cw (pa e) (ltr e + 1) = e + wt e := by
  obtain ⟨p1, p2, p3, p4, p5⟩ := ch_pa hv h0
  have hd := dp_le e
  obtain ⟨o1, o2, o3, o4, o5⟩ := ch_ok (l := ltr e) p3 (by omega) p2
  rw [p1] at o3
  rw [← cw_ch (by omega)] at p1
  have h1 := @cw_of (pa e) (ltr e)
  have h2 := @cw_of (pa e) (ltr e + 1)
  have h3 := dpw (pa e)
  omega
/-- the first child from a letter on -/
theorem nextChild_loop {S : S_Model} {n : Nat} {ρ : Nat → Nat} {M : Mp} (hM : Wf M) (h : MT (g_Model_tree S) n ρ M) (ht : g_Model_top S = nI n) {c : Nat} {d : Dt} (hc : M c = some d) : ∀ (f l0 : Nat), l0 ≤ 9 → 9 - l0 < f → ∃ r, F_X5_nextChild_4 (nI (ρ c)) S f (nI l0) = some r ∧ ((r = -1 ∧ ∀ l, l0 ≤ l → l < 9 → M (ch c l) = none) ∨ (∃ l e, l0 ≤ l ∧ l < 9 ∧ M (ch c l) = some e ∧ r = nI (ρ (ch c l)) ∧ ∀ l', l0 ≤ l' → l' < l → M (ch c l') = none))
  | 0, l0, _, h => absurd h (Nat.not_lt_zero _)
  | f + 1, l0, h1, h2 => by
    rw [F_X5_nextChild_4_s]
    by_cases q : l0 = 9
    · rw [if_pos (by rw [q]; decide)]
      exact ⟨-1, rfl, Or.inl ⟨rfl, fun l h3 h4 => by omega⟩⟩
    · rw [if_neg (show ¬ (8 : Int32) < nI l0 from nI_nlt (b := l0) (a := 8) (by omega) (by omega)), ob1_s (childAt_ok hM h ht hc (by omega : l0 < 9))]
      cases hm : M (ch c l0) with
      | none =>
        rw [rr_none hm, if_pos rfl, nI_1]
        obtain ⟨r, r1, r2⟩ := nextChild_loop hM h ht hc f (l0 + 1) (by omega) (by omega)
        refine ⟨r, r1, ?_⟩
        rcases r2 with ⟨a1, a2⟩ | ⟨l, e, a1, a2, a3, a4, a5⟩
        · refine Or.inl ⟨a1, fun l h3 h4 => ?_⟩
          by_cases z : l = l0
          · rw [z]; exact hm
          · exact a2 l (by omega) h4
        · refine Or.inr ⟨l, e, by omega, a2, a3, a4, fun l' h3 h4 => ?_⟩
          by_cases z : l' = l0
          · rw [z]; exact hm
          · exact a5 l' (by omega) h4
      | some e =>
        have hl := h.lt hm
        have h64 := h.le
        rw [rr_some hm, if_neg (nI_m1 (by omega))]
        exact ⟨_, rfl, Or.inr ⟨l0, e, Nat.le_refl _, by omega, hm, rfl, fun l' h3 h4 => by omega⟩⟩
theorem ch_mono {c l l' : Nat} (hd : dp c < 4) (h : l < l') : ch c l + wt (ch c l) ≤ ch c l' ∨ 9 ≤ l := by
  rcases Nat.lt_or_ge l 9 with q | q
  · left
    have h1 := @ch_of c l
    have h2 := @ch_of c l'
    have h3 := dpw c
    have h4 : okc c ∨ ¬ okc c := Classical.em _
    rcases h4 with h4 | h4
    · have := (ch_ok h4 hd q).2.2.1
      omega
    · have h5 := dpw (ch c l)
      generalize ch c l = x at *
      generalize ch c l' = y at *
      omega
  · exact Or.inr q
/-- no child from a letter on: no node there -/
theorem kids_none {M : Mp} (hM : Wf0 M) {c l0 : Nat} {d : Dt} (hc : M c = some d) (h : ∀ l, l0 ≤ l → l < 9 → M (ch c l) = none) : ∀ y, c < y → (l0 = 0 ∨ cw c l0 ≤ y) → y < c + wt c → M y = none := by
  intro y h1 h2 h3
  cases hy : M y with
  | none => rfl
  | some e =>
    exfalso
    obtain ⟨l, e', m1, m2, m3, m4, m5⟩ := hM.child hc hy h1 h3
    rcases Nat.lt_or_ge l l0 with q | q
    · rcases h2 with z | z
      · omega
      · have o3 := (ch_ok (hM.vd hc) m2 m1).2.2.1
        have g1 := @ch_of c l
        have g2 := @cw_of c l0
        omega
    · rw [h l q m1] at m3; cases m3
theorem kids_first {M : Mp} (hM : Wf0 M) {c l0 l : Nat} {d : Dt} (hc : M c = some d) (hl : l < 9) (hd : dp c < 4) (h : ∀ l', l0 ≤ l' → l' < l → M (ch c l') = none) : ∀ y, c < y → (l0 = 0 ∨ cw c l0 ≤ y) → y < ch c l → M y = none := by
  intro y h1 h2 h3
  have hch := ch_ok (hM.vd hc) hd hl
  have hw := wt_pos (ch c l)
  cases hy : M y with
  | none => rfl
  | some e =>
    exfalso
    obtain ⟨l', e', m1, m2, m3, m4, m5⟩ := hM.child hc hy h1 (by omega)
    have o3 := (ch_ok (hM.vd hc) m2 m1).2.2.1
    have g1 := @ch_of c l'
    have g2 := @cw_of c l0
    have g3 := @ch_of c l
    rcases Nat.lt_or_ge l' l with q | q
    · rcases Nat.lt_or_ge l' l0 with z | z
      · rcases h2 with w | w
        · omega
        · omega
      · rw [h l' z q] at m3; cases m3
    · omega
/-- the next node, or none -/
def NX (M : Mp) (ρ : Nat → Nat) (c : Nat) (r : Int32) : Prop := (r = -1 ∧ ∀ y, c < y → y < 10000 → M y = none) ∨ (∃ x e, c < x ∧ M x = some e ∧ r = nI (ρ x) ∧ ∀ y, c < y → y < x → M y = none)
theorem nextNode_loop {S : S_Model} {n : Nat} {ρ : Nat → Nat} {M : Mp} (hM : Wf M) (h : MT (g_Model_tree S) n ρ M) (ht : g_Model_top S = nI n) {c : Nat} {d : Dt} (hc : M c = some d) : ∀ (f e : Nat) (de : Dt) (k : Int32), M e = some de → e ≤ c → c < e + wt e → dp e < f → ((k = -1 ∧ ∀ y, c < y → y < e + wt e → M y = none) ∨ (∃ x ex, c < x ∧ M x = some ex ∧ k = nI (ρ x) ∧ ∀ y, c < y → y < x → M y = none)) → ∃ r, F_X5_nextNode_9 S f k (nI (ρ e)) = some r ∧ NX M ρ c r
  | 0, e, _, _, _, _, _, h, _ => absurd h (Nat.not_lt_zero _)
  | f + 1, e, de, k, he, h1, h2, h3, hk => by
    have hel := h.lt he
    have h64 := h.le
    rw [F_X5_nextNode_9_s]
    rcases hk with ⟨k1, k2⟩ | ⟨x, ex, k1, k2, k3, k4⟩
    · rw [if_pos k1]
      by_cases h0 : e = 0
      · subst h0
        rw [h.2.2.2.2.2.1 de he, if_pos (show nI 0 ≤ 0 by decide), k1]
        refine ⟨-1, rfl, Or.inl ⟨rfl, fun y y1 y2 => k2 y y1 (by rw [wt_0]; omega)⟩⟩
      · obtain ⟨d', g1, g2⟩ := hM.up he h0
        have hord := h.2.2.2.1 e de he h0
        have hpl := h.lt g1
        have hkid := kid_in (hM.vd he) h0
        obtain ⟨p1, p2, p3, p4, p5⟩ := ch_pa (hM.vd he) h0
        have hd4 : dp (pa e) < 4 := by have := dp_le e; omega
        have hrow := h.row he
        have hnn := cw_next (hM.vd he) h0
        rw [if_neg (nI_nle (by omega) (by omega)), ix7_1, ix7_2, og_t (inb_nI (n := 448) (i := 7 * ρ e + 1) (by omega) (by omega)), og_t (inb_nI (n := 448) (i := 7 * ρ e + 2) (by omega) (by omega)), nI_clamp (n := 7 * ρ e + 1) (by omega), nI_clamp (n := 7 * ρ e + 2) (by omega), hrow.2.1, hrow.2.2.1, upR_up h0, l32_nI h0]
        obtain ⟨r, r1, r2⟩ := nextChild_loop hM h ht g1 5000 (ltr e + 1) (by omega) (by omega)
        have r3 : F_X5_nextChild S (nI (ρ (pa e))) (nI (ltr e)) = some r := by
          unfold F_X5_nextChild
          rw [nI_1]; exact r1
        rw [ob1_s r3, og_t (inb_nI (n := 448) (i := 7 * ρ e + 1) (by omega) (by omega))]
        have hin : c < pa e + wt (pa e) := by
          have := ch_ok (l := ltr e) p3 hd4 p2
          rw [p1] at this
          omega
        refine nextNode_loop hM h ht hc f (pa e) d' r g1 (by omega) hin (by omega) ?_
        rcases r2 with ⟨a1, a2⟩ | ⟨l, e2, a1, a2, a3, a4, a5⟩
        · left
          refine ⟨a1, fun y y1 y2 => ?_⟩
          rcases Nat.lt_or_ge y (e + wt e) with z | z
          · exact k2 y y1 z
          · exact kids_none hM.wf0 g1 a2 y (by omega) (Or.inr (by rw [hnn]; exact z)) y2
        · right
          have hcl : cw (pa e) (ltr e + 1) ≤ ch (pa e) l := by
            rw [← cw_ch hd4]
            have q1 := @cw_of (pa e) (ltr e + 1)
            have q2 := @cw_of (pa e) l
            omega
          refine ⟨ch (pa e) l, e2, by omega, a3, a4, fun y y1 y2 => ?_⟩
          rcases Nat.lt_or_ge y (e + wt e) with z | z
          · exact k2 y y1 z
          · exact kids_first hM.wf0 g1 a2 hd4 a5 y (by omega) (Or.inr (by rw [hnn]; exact z)) y2
    · have hxl := h.lt k2
      rw [k3, if_neg (nI_m1 (by omega))]
      exact ⟨_, rfl, Or.inr ⟨x, ex, k1, k2, rfl, k4⟩⟩
theorem nextNode_ok {S : S_Model} {n : Nat} {ρ : Nat → Nat} {M : Mp} (hM : Wf M) (h : MT (g_Model_tree S) n ρ M) (ht : g_Model_top S = nI n) {c : Nat} {d : Dt} (hc : M c = some d) : ∃ r, F_X5_nextNode S (nI (ρ c)) = some r ∧ NX M ρ c r := by
  obtain ⟨r, r1, r2⟩ := nextChild_loop hM h ht hc 5000 0 (by omega) (by omega)
  have r3 : F_X5_nextChild S (nI (ρ c)) (-1) = some r := by
    unfold F_X5_nextChild
    exact r1
  unfold F_X5_nextNode
  rw [ob1_s r3]
  have hw := wt_pos c
  refine nextNode_loop hM h ht hc 5000 c d r hc (Nat.le_refl _) (by omega) (by have := dp_le c; omega) ?_
  rcases r2 with ⟨a1, a2⟩ | ⟨l, e2, a1, a2, a3, a4, a5⟩
  · exact Or.inl ⟨a1, fun y y1 y2 => kids_none hM.wf0 hc a2 y y1 (Or.inl rfl) y2⟩
  · have hcu := ch_up hM hc a3 a2
    exact Or.inr ⟨ch c l, e2, hcu.2.2.1, a3, a4, fun y y1 y2 => kids_first hM.wf0 hc a2 hcu.1 a5 y y1 (Or.inl rfl) y2⟩
/-- a row is copied -/
theorem become_row {S0 : S_Model} {s m r : Nat} {o f : Nat → Int32} {k15 : S_Model → Int32 → Int32 → Option S_Model} (hs : s ≤ 1) (hm : m < 30) (hr : r < 64) (X : Option S_Model) : ∀ (q j : Nat) (g : Nat → Int32), j ≤ 7 → 7 - j < q → (∀ i, i < j → g (5 + 210 * s + 7 * m + i) = g_Model_tree S0 (7 * r + i)) → (∀ i, i < 5 + 210 * s + 7 * m ∨ 5 + 210 * s + 7 * m + 7 ≤ i → g i = f i) →
    (∀ g, (∀ i, i < 7 → g (5 + 210 * s + 7 * m + i) = g_Model_tree S0 (7 * r + i)) → (∀ i, i < 5 + 210 * s + 7 * m ∨ 5 + 210 * s + 7 * m + 7 ≤ i → g i = f i) → F_X5_becomes_44 (nI s) k15 1 (bmv S0 g o) (nI m) (nI r) (nI (5 + 210 * s + 7 * m)) (nI 7) = X) → F_X5_becomes_44 (nI s) k15 q (bmv S0 g o) (nI m) (nI r) (nI (5 + 210 * s + 7 * m)) (nI j) = X
  | 0, j, _, _, h, _, _, _ => absurd h (Nat.not_lt_zero _)
  | q + 1, j, g, h1, h2, h3, h4, hX => by
    by_cases z : j = 7
    · subst z
      have := hX g h3 h4
      rw [F_X5_becomes_44_s] at this ⊢
      exact this
    · rw [F_X5_becomes_44_s, if_neg (show ¬ (7 : Int32) ≤ nI j from nI_ge (a := j) (b := 7) (by omega) (by omega)), ix7k, nI_add, og_t (inb_nI (by omega) (by omega)), og_t (inb_nI (by omega) (by omega)), nI_clamp (n := 7 * r + j) (by omega), nI_clamp (n := 5 + 210 * s + 7 * m + j) (by omega), nI_1, bmv_now, bmv_tree, bmv_n]
      refine become_row hs hm hr X q (j + 1) (upd g (5 + 210 * s + 7 * m + j) (g_Model_tree S0 (7 * r + j))) (by omega) (by omega) ?_ ?_ hX
      · intro i hi
        by_cases w : i = j
        · rw [w, upd_at]
        · rw [upd_ne (by omega)]; exact h3 i (by omega)
      · intro i hi
        rw [upd_ne (by omega)]; exact h4 i hi
theorem nw_eq (f : Nat → Int32) (s i k : Nat) : nw f s i k = f (5 + 210 * s + 7 * i + k) := rfl
theorem becomes_loop {S0 : S_Model} {s n : Nat} {ρ : Nat → Nat} {M : Mp} {f0 : Nat → Int32} (hs : s ≤ 1) (hM : Wf M) (h : MT (g_Model_tree S0) n ρ M) (ht : g_Model_top S0 = nI n) (hl : ix M 10000 ≤ 30) : ∀ (q c : Nat) (d : Dt) (o f : Nat → Int32), M c = some d → ix M 10000 - ix M c < q → (∀ y e, y < c → M y = some e → nrow f s M y e) → (∀ y e, y < c → M y = some e → o (ρ y) = nI (ix M y)) → (∀ i, i < 5 + 210 * s ∨ 5 + 210 * s + 210 ≤ i → f i = f0 i) →
    ∃ o' f', F_X5_becomes_15 (nI s) q (bmv S0 f o) (nI (ix M c)) (nI (ρ c)) = some (bmv S0 f' o') ∧ NR f' s M ∧ (∀ i, (i < 5 + 210 * s ∨ 5 + 210 * s + 210 ≤ i) → i ≠ 3 + s → f' i = f0 i)
  | 0, c, _, _, _, _, h, _, _, _ => absurd h (Nat.not_lt_zero _)
  | q + 1, c, d, o, f, hc, hq, hr, ho, hf => by
    have hcl := h.lt hc
    have h64 := h.le
    have hix := ix_lt hc (hM.lt hc)
    rw [F_X5_becomes_15_s, if_neg (nI_m1 (by omega)), og_t (inb_nI (by omega) (by omega)), nI_clamp (n := ρ c) (by omega), show (5 : Int32) = nI 5 from rfl, show (210 : Int32) = nI 210 from rfl, show (7 : Int32) = nI 7 from rfl, nI_mul, nI_mul, nI_add, nI_add, bmv_order, bmv_o]
    show ∃ o' f', F_X5_becomes_44 (nI s) (F_X5_becomes_15 (nI s) q) 5000 (bmv S0 f (upd o (ρ c) (nI (ix M c)))) (nI (ix M c)) (nI (ρ c)) (nI (5 + 210 * s + 7 * ix M c)) (nI 0) = _ ∧ _
    -- the row is done, and the next comes
    have done : ∀ g, (∀ i, i < 7 → g (5 + 210 * s + 7 * ix M c + i) = g_Model_tree S0 (7 * ρ c + i)) → (∀ i, i < 5 + 210 * s + 7 * ix M c ∨ 5 + 210 * s + 7 * ix M c + 7 ≤ i → g i = f i) → ∃ r, NX M ρ c r ∧ F_X5_becomes_44 (nI s) (F_X5_becomes_15 (nI s) q) 1 (bmv S0 g (upd o (ρ c) (nI (ix M c)))) (nI (ix M c)) (nI (ρ c)) (nI (5 + 210 * s + 7 * ix M c)) (nI 7) = F_X5_becomes_15 (nI s) q (bmv S0 (upd g (5 + 210 * s + 7 * ix M c + 1) (upI M c)) (upd o (ρ c) (nI (ix M c)))) (nI (ix M c + 1)) r := by
      intro g hg1 hg2
      obtain ⟨r, r1, r2⟩ := nextNode_ok (S := bmv S0 (upd g (5 + 210 * s + 7 * ix M c + 1) (upI M c)) (upd o (ρ c) (nI (ix M c)))) hM (by rw [bmv_tree]; exact h) (by rw [bmv_top]; exact ht) hc
      refine ⟨r, r2, ?_⟩
      rw [F_X5_becomes_44_s, if_pos (by decide), show (1 : Int32) = nI 1 from rfl, nI_add, nI_add, nI_clamp (n := 5 + 210 * s + 7 * ix M c + 1) (by omega), bmv_now, bmv_n, bmv_tree, bmv_order, bmv_n]
      by_cases h0 : c = 0
      · have hz : ρ c = 0 := by rw [h0]; exact h.2.2.2.2.2.1 d (by rw [← h0]; exact hc)
        have hu : upI M c = -1 := by unfold upI; rw [if_pos h0]
        rw [hu] at r1 ⊢
        rw [if_pos (by rw [hz]; rfl), og_t (inb_nI (by omega) (by omega))]
        exact ob1_s r1
      · obtain ⟨d', g1, g2⟩ := hM.up hc h0
        have hord := h.2.2.2.1 c d hc h0
        have hpl := h.lt g1
        have hpc := (ch_pa (hM.vd hc) h0).2.2.2.2
        have hup : g_Model_tree S0 (7 * ρ c + 1) = nI (ρ (pa c)) := by rw [(h.row hc).2.1, upR_up h0]
        have hou : upd o (ρ c) (nI (ix M c)) (ρ (pa c)) = upI M c := by
          rw [upd_ne (by omega), ho (pa c) d' hpc g1, upI_up h0]
        rw [if_neg (nI_ne0 (by omega) (by omega)), show (7 : Int32) = nI 7 from rfl, nI_mul, nI_add, nI_clamp (n := 7 * ρ c + 1) (by omega), og_t (inb_nI (n := 448) (i := 7 * ρ c + 1) (by omega) (by omega)), hup, og_t (inb_nI (n := 64) (i := ρ (pa c)) (by omega) (by omega)), og_t (inb_nI (n := 425) (i := 5 + 210 * s + 7 * ix M c + 1) (by omega) (by omega)), nI_clamp (n := ρ (pa c)) (by omega), hou]
        exact ob1_s r1
    have fin : ∀ g, (∀ i, i < 7 → g (5 + 210 * s + 7 * ix M c + i) = g_Model_tree S0 (7 * ρ c + i)) → (∀ i, i < 5 + 210 * s + 7 * ix M c ∨ 5 + 210 * s + 7 * ix M c + 7 ≤ i → g i = f i) → ∃ o' f', F_X5_becomes_44 (nI s) (F_X5_becomes_15 (nI s) q) 1 (bmv S0 g (upd o (ρ c) (nI (ix M c)))) (nI (ix M c)) (nI (ρ c)) (nI (5 + 210 * s + 7 * ix M c)) (nI 7) = some (bmv S0 f' o') ∧ NR f' s M ∧ (∀ i, (i < 5 + 210 * s ∨ 5 + 210 * s + 210 ≤ i) → i ≠ 3 + s → f' i = f0 i) := by
      intro g hg1 hg2
      obtain ⟨r, r1, r2⟩ := done g hg1 hg2
      rw [r2]
      have hrow := h.row hc
      have hnew : nrow (upd g (5 + 210 * s + 7 * ix M c + 1) (upI M c)) s M c d := by
        unfold nrow
        rw [nw_eq, nw_eq, nw_eq, nw_eq, nw_eq, nw_eq, nw_eq, upd_ne (by omega), upd_at, upd_ne (by omega), upd_ne (by omega), upd_ne (by omega), upd_ne (by omega), upd_ne (by omega), hg1 0 (by omega), hg1 2 (by omega), hg1 3 (by omega), hg1 4 (by omega), hg1 5 (by omega), hg1 6 (by omega)]
        exact ⟨hrow.1, rfl, hrow.2.2.1, hrow.2.2.2.1, hrow.2.2.2.2.1, hrow.2.2.2.2.2.1, hrow.2.2.2.2.2.2⟩
      have hrows : ∀ y e, y < c + 1 → M y = some e → nrow (upd g (5 + 210 * s + 7 * ix M c + 1) (upI M c)) s M y e := by
        intro y e hy he
        by_cases z : y = c
        · rw [z] at he ⊢
          rw [hc] at he
          cases he
          exact hnew
        · have hlt := ix_lt he (show y < c by omega)
          have := hr y e (by omega) he
          unfold nrow at this ⊢
          rw [nw_eq, nw_eq, nw_eq, nw_eq, nw_eq, nw_eq, nw_eq] at this ⊢
          rw [upd_ne (by omega), upd_ne (by omega), upd_ne (by omega), upd_ne (by omega), upd_ne (by omega), upd_ne (by omega), upd_ne (by omega), hg2 _ (by omega), hg2 _ (by omega), hg2 _ (by omega), hg2 _ (by omega), hg2 _ (by omega), hg2 _ (by omega), hg2 _ (by omega)]
          exact this
      have hords : ∀ y e, y < c + 1 → M y = some e → upd o (ρ c) (nI (ix M c)) (ρ y) = nI (ix M y) := by
        intro y e hy he
        by_cases z : y = c
        · rw [z, upd_at]
        · rw [upd_ne (fun w => z (h.inj he hc w))]
          exact ho y e (by omega) he
      have hkeep : ∀ i, i < 5 + 210 * s ∨ 5 + 210 * s + 210 ≤ i → upd g (5 + 210 * s + 7 * ix M c + 1) (upI M c) i = f0 i := by
        intro i hi
        rw [upd_ne (by omega), hg2 i (by omega)]
        exact hf i hi
      rcases r1 with ⟨a1, a2⟩ | ⟨x, ex, a1, a2, a3, a4⟩
      · -- no further node
        have hfull : ix M 10000 = ix M c + 1 := by
          rw [← ix_some hc]
          exact ix_gap (by have := hM.lt hc; omega) (fun y y1 y2 => a2 y (by omega) y2)
        cases q with
        | zero => omega
        | succ q =>
          rw [F_X5_becomes_15_s, if_pos a1, show (3 : Int32) = nI 3 from rfl, nI_add, og_t (inb_nI (by omega) (by omega)), nI_clamp (n := 3 + s) (by omega), bmv_now, bmv_n]
          refine ⟨_, upd (upd g (5 + 210 * s + 7 * ix M c + 1) (upI M c)) (3 + s) (nI (ix M c + 1)), rfl, ⟨by rw [upd_at, hfull], hl, ?_⟩, ?_⟩
          · intro y e he
            have hyc : y < c + 1 := by
              rcases Nat.lt_or_ge y (c + 1) with z | z
              · exact z
              · rw [a2 y (by omega) (hM.lt he)] at he; cases he
            have := hrows y e hyc he
            have hlt := ix_lt he (hM.lt he)
            unfold nrow at this ⊢
            rw [nw_eq, nw_eq, nw_eq, nw_eq, nw_eq, nw_eq, nw_eq] at this ⊢
            rw [upd_ne (j := 5 + 210 * s + 7 * ix M y + 0) (k := 3 + s) (by omega), upd_ne (j := 5 + 210 * s + 7 * ix M y + 1) (k := 3 + s) (by omega), upd_ne (j := 5 + 210 * s + 7 * ix M y + 2) (k := 3 + s) (by omega), upd_ne (j := 5 + 210 * s + 7 * ix M y + 3) (k := 3 + s) (by omega), upd_ne (j := 5 + 210 * s + 7 * ix M y + 4) (k := 3 + s) (by omega), upd_ne (j := 5 + 210 * s + 7 * ix M y + 5) (k := 3 + s) (by omega), upd_ne (j := 5 + 210 * s + 7 * ix M y + 6) (k := 3 + s) (by omega)]
            exact this
          · intro i hi hne
            rw [upd_ne hne]
            exact hkeep i hi
      · have hixx : ix M x = ix M c + 1 := by
          rw [← ix_some hc]
          exact ix_gap (by omega) (fun y y1 y2 => a4 y (by omega) y2)
        have hxl := ix_lt a2 (hM.lt a2)
        rw [a3, ← hixx]
        refine becomes_loop hs hM h ht hl q x ex _ _ a2 (by omega) ?_ ?_ hkeep
        · intro y e hy he
          rcases Nat.lt_or_ge y (c + 1) with z | z
          · exact hrows y e z he
          · rw [a4 y (by omega) hy] at he; cases he
        · intro y e hy he
          rcases Nat.lt_or_ge y (c + 1) with z | z
          · exact hords y e z he
          · rw [a4 y (by omega) hy] at he; cases he
    -- the copied row is one and the same function
    have hcopy := become_row (S0 := S0) (o := upd o (ρ c) (nI (ix M c))) (f := f) (k15 := F_X5_becomes_15 (nI s) q) hs (show ix M c < 30 by omega) (show ρ c < 64 by omega) (F_X5_becomes_44 (nI s) (F_X5_becomes_15 (nI s) q) 1 (bmv S0 (fun i => if 5 + 210 * s + 7 * ix M c ≤ i ∧ i < 5 + 210 * s + 7 * ix M c + 7 then g_Model_tree S0 (7 * ρ c + (i - (5 + 210 * s + 7 * ix M c))) else f i) (upd o (ρ c) (nI (ix M c)))) (nI (ix M c)) (nI (ρ c)) (nI (5 + 210 * s + 7 * ix M c)) (nI 7)) 5000 0 f (by omega) (by omega) (fun i hi => by omega) (fun i hi => rfl) (by
      intro g hg1 hg2
      have : g = (fun i => if 5 + 210 * s + 7 * ix M c ≤ i ∧ i < 5 + 210 * s + 7 * ix M c + 7 then g_Model_tree S0 (7 * ρ c + (i - (5 + 210 * s + 7 * ix M c))) else f i) := by
        funext i
        by_cases z : 5 + 210 * s + 7 * ix M c ≤ i ∧ i < 5 + 210 * s + 7 * ix M c + 7
        · rw [if_pos z]
          have := hg1 (i - (5 + 210 * s + 7 * ix M c)) (by omega)
          rw [show 5 + 210 * s + 7 * ix M c + (i - (5 + 210 * s + 7 * ix M c)) = i by omega] at this
          exact this
        · rw [if_neg z]
          exact hg2 i (by omega)
      rw [this])
    rw [hcopy]
    refine fin _ ?_ ?_
    · intro i hi
      show (if 5 + 210 * s + 7 * ix M c ≤ 5 + 210 * s + 7 * ix M c + i ∧ 5 + 210 * s + 7 * ix M c + i < 5 + 210 * s + 7 * ix M c + 7 then g_Model_tree S0 (7 * ρ c + (5 + 210 * s + 7 * ix M c + i - (5 + 210 * s + 7 * ix M c))) else _) = _
      rw [if_pos (by omega), show 5 + 210 * s + 7 * ix M c + i - (5 + 210 * s + 7 * ix M c) = i by omega]
    · intro i hi
      show (if 5 + 210 * s + 7 * ix M c ≤ i ∧ i < 5 + 210 * s + 7 * ix M c + 7 then _ else f i) = _
      rw [if_neg (by omega)]
theorem becomes_ok {S : S_Model} {s n : Nat} {ρ : Nat → Nat} {M : Mp} (hs : s ≤ 1) (hM : Wf M) (h : MT (g_Model_tree S) n ρ M) (ht : g_Model_top S = nI n) (hl : ix M 10000 ≤ 30) (hz : M 0 = none → n = 0) :
    ∃ o f, F_X5_becomes S (nI s) = some (bmv S f o) ∧ NR f s M ∧ (∀ i, (i < 5 + 210 * s ∨ 5 + 210 * s + 210 ≤ i) → i ≠ 3 + s → f i = g_Model_now S i) := by
  have h64 := h.le
  unfold F_X5_becomes
  rw [ht]
  by_cases q : n = 0
  · have hno : ∀ x, M x = none := by
      intro x
      cases hx : M x with
      | none => rfl
      | some e => have := h.lt hx; omega
    have hix : ix M 10000 = 0 := ix_gap (Nat.zero_le _) (fun y _ _ => hno y)
    rw [q, if_pos (by decide), F_X5_becomes_15_s, if_pos rfl, show (3 : Int32) = nI 3 from rfl, nI_add, og_t (inb_nI (by omega) (by omega)), nI_clamp (n := 3 + s) (by omega), bmv_ns]
    refine ⟨g_Model_order S, upd (g_Model_now S) (3 + s) 0, rfl, ⟨by rw [upd_at, hix]; rfl, by omega, fun c d hc => by rw [hno c] at hc; cases hc⟩, ?_⟩
    intro i hi hne
    exact upd_ne hne
  · rw [if_neg (nI_nle (by omega) (by omega))]
    cases h0 : M 0 with
    | none => exact absurd (hz h0) q
    | some d =>
      have hr0 := h.2.2.2.2.2.1 d h0
      obtain ⟨o, f, e1, e2, e3⟩ := becomes_loop (S0 := S) (f0 := g_Model_now S) hs hM h ht hl 5000 0 d (g_Model_order S) (g_Model_now S) h0 (by omega) (fun y e hy => absurd hy (Nat.not_lt_zero _)) (fun y e hy => absurd hy (Nat.not_lt_zero _)) (fun i _ => rfl)
      rw [hr0, ← bmv_eta S] at e1
      exact ⟨o, f, e1, e2, e3⟩
