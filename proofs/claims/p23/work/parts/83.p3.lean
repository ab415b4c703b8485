/-! ===== pure: counting, inserting, dropping ===== -/
def isKid (M : Mp) (c x : Nat) : Nat := if (M x).isSome ∧ x ≠ 0 ∧ pa x = c then 1 else 0
/-- how many children of c lie ahead of a place -/
def kc (M : Mp) (c : Nat) : Nat → Nat
  | 0 => 0
  | x + 1 => kc M c x + isKid M c x
theorem kc_s (M : Mp) (c x : Nat) : kc M c (x + 1) = kc M c x + isKid M c x := rfl
theorem isKid_none {M : Mp} {c x : Nat} (h : M x = none) : isKid M c x = 0 := by unfold isKid; rw [h]; rfl
theorem isKid_no {M : Mp} {c x : Nat} (h : ¬ (x ≠ 0 ∧ pa x = c)) : isKid M c x = 0 := by unfold isKid; rw [if_neg (fun z => h z.2)]
theorem isKid_yes {M : Mp} {c x : Nat} {d : Dt} (h : M x = some d) (h0 : x ≠ 0) (h1 : pa x = c) : isKid M c x = 1 := by unfold isKid; rw [if_pos ⟨by rw [h]; rfl, h0, h1⟩]
theorem kc_gap {M : Mp} {c a : Nat} : ∀ {b : Nat}, a ≤ b → (∀ y, a ≤ y → y < b → isKid M c y = 0) → kc M c b = kc M c a
  | 0, h, _ => by have : a = 0 := by omega
                  subst this; rfl
  | b + 1, h, hn => by
    rcases Nat.lt_or_ge a (b + 1) with q | q
    · rw [kc_s, hn b (by omega) (by omega)]
      exact kc_gap (by omega) (fun y h1 h2 => hn y h1 (by omega))
    · have : a = b + 1 := by omega
      subst this; rfl
theorem kc_le {M : Mp} {c : Nat} : ∀ x, kc M c x ≤ ix M x
  | 0 => Nat.le_refl _
  | x + 1 => by
    have := kc_le (M := M) (c := c) x
    rw [kc_s, ix_s]
    unfold isKid has1
    cases (M x).isSome
    · simp; omega
    · simp; split <;> omega
/-- a child lies in its parent's share -/
theorem kid_in {x : Nat} (hv : okc x) (h0 : x ≠ 0) : pa x < x ∧ x < pa x + wt (pa x) ∧ dp x = dp (pa x) + 1 := by
  obtain ⟨p1, p2, p3, p4, p5⟩ := ch_pa hv h0
  have h4 := dp_le x
  have := ch_ok (l := ltr x) p3 (by omega) p2
  rw [p1] at this
  have := wt_pos x
  omega
theorem kc_all {M : Mp} (hM : Wf0 M) {c : Nat} {d : Dt} (hc : M c = some d) : kc M c (c + 1) = 0 ∧ kc M c 10000 = kc M c (c + wt c) := by
  constructor
  · rw [kc_gap (a := 0) (by omega)]
    · rfl
    · intro y h1 h2
      cases hy : M y with
      | none => exact isKid_none hy
      | some e =>
        refine isKid_no (fun h => ?_)
        have := kid_in (hM.vd hy) h.1
        rw [h.2] at this
        omega
  · refine kc_gap (vd_share (hM.vd hc)) (fun y h1 h2 => ?_)
    cases hy : M y with
    | none => exact isKid_none hy
    | some e =>
      refine isKid_no (fun h => ?_)
      have := kid_in (hM.vd hy) h.1
      rw [h.2] at this
      omega
theorem count_loop {T : S_Tree} {M : Mp} (hM : Wf0 M) (hT : TR T M 10000) {c : Nat} {d : Dt} (hc : M c = some d) : ∀ (f a : Nat), c + 1 ≤ a → a ≤ c + wt c → ix M (c + wt c) - ix M a < f → F_X3_countBelow_23 T f (nI (dp c + 1)) (nI (ix M (c + wt c))) (nI (kc M c a)) (nI (ix M a)) = some (nI (kc M c (c + wt c)))
  | 0, a, _, _, h => absurd h (Nat.not_lt_zero _)
  | f + 1, a, h1, h2, hf => by
    have hle := hT.le
    have hsh := share_le hM hc
    have hm := @ix_mono M a (c + wt c) h2
    rw [F_X3_countBelow_23_s]
    by_cases q : ix M a < ix M (c + wt c)
    · obtain ⟨x, e, g1, g2, g3, g4, g5⟩ := ix_next q
      have hx := hM.lt g3
      have hn := nest (hM.vd hc) (hM.vd g3) (by omega) g2
      have hrow := hT.row g3 hx
      have hk : kc M c x = kc M c a := kc_gap g1 (fun y y1 y2 => isKid_none (g5 y y1 y2))
      have hix : ix M (x + 1) = ix M a + 1 := by rw [ix_some g3, g4]
      have ihr := count_loop hM hT hc f (x + 1) (by omega) (by omega) (by omega)
      rw [hix, kc_s, hk] at ihr
      rw [if_neg (nI_ge q (by omega)), ← g4, ob1_s (hT.g2 g3 hx), hrow.2.2.1, g4]
      by_cases r : dp x = dp c + 1
      · rw [if_pos (by rw [r])]
        rw [isKid_yes g3 (by omega) (nest_pa (hM.vd hc) (hM.vd g3) (by omega) g2 r)] at ihr
        rw [nI_1, nI_1]
        exact ihr
      · rw [if_neg (fun z => r (nI_inj (dp_lt31 x) (by have := dp_le c; omega) z))]
        rw [isKid_no (fun z => r (by have := (kid_in (hM.vd g3) z.1).2.2; rw [z.2] at this; exact this)), Nat.add_zero] at ihr
        rw [Int32.add_zero, nI_1]
        exact ihr
    · rw [if_pos (nI_le (by omega) (by omega))]
      rw [← kc_gap h2 (fun y y1 y2 => ?_)]
      refine isKid_none ?_
      cases hy : M y with
      | none => rfl
      | some e =>
        have := ix_lt hy y2
        have := @ix_mono M a y y1
        omega
theorem countBelow_ok {T : S_Tree} {M : Mp} (hM : Wf0 M) (hT : TR T M 10000) {c : Nat} {d : Dt} (hc : M c = some d) : F_X3_countBelow T (nI (ix M c)) = some (nI (kc M c 10000)) := by
  have hle := hT.le
  have hsh := share_le hM hc
  obtain ⟨k1, k2⟩ := kc_all hM hc
  unfold F_X3_countBelow
  rw [ob1_s (hT.g2 hc (hM.lt hc)), (hT.row hc (hM.lt hc)).2.2.1, ob1_s (behind_ok hM hT hc), nI_1, nI_1]
  have := count_loop hM hT hc 5000 (c + 1) (Nat.le_refl _) (by have := wt_pos c; omega) (by omega)
  rw [k1, ix_some hc, ← k2] at this
  exact this
/-! a new child -/
def d00 : Dt := (0, 0, 0, 0, 0)
/-- rows go over into rows: of every node of both maps -/
def Moved (T T' : S_Tree) (M M' : Mp) : Prop := ∀ x d d', M x = some d → M' x = some d' → ∀ k, k < 9 → tc T' (ix M' x) k = tc T (ix M x) k
theorem Moved.trans {T T' T2 : S_Tree} {M M' M2 : Mp} (h1 : Moved T T' M M') (h2 : Moved T' T2 M' M2) (h : ∀ x d d', M x = some d → M2 x = some d' → ∃ e, M' x = some e) : Moved T T2 M M2 := by
  intro x d d' g1 g2 k hk
  obtain ⟨e, he⟩ := h x d d' g1 g2
  rw [h2 x e d' he g2 k hk, h1 x d e g1 he k hk]
theorem ins_row {T T' : S_Tree} {M : Mp} {t : Nat} {d0 : Dt} (hM : Wf0 M) (hT : TR T M 10000) (ht : M t = none) (ht2 : t < 10000) (hs : g_Tree_size T' = nI (ix M 10000 + 1)) (hn : ix M 10000 < 64) (hnew : rowIs T' (ix M t) t d0) (h1 : ∀ r k, r < ix M t → k < 9 → tc T' r k = tc T r k) (h2 : ∀ r k, ix M t ≤ r → r < ix M 10000 → k < 9 → tc T' (r + 1) k = tc T r k) : TR T' (setM M t d0) 10000 ∧ Moved T T' M (setM M t d0) := by
  have hsz : ix (setM M t d0) 10000 = ix M 10000 + 1 := ix_set_gt ht ht2
  have hmv : Moved T T' M (setM M t d0) := by
    intro x d d' g1 g2 k hk
    have hne : x ≠ t := by intro z; rw [z, ht] at g1; cases g1
    rcases Nat.lt_or_ge t x with q | q
    · rw [ix_set_gt ht q]
      exact h2 _ k (ix_mono (by omega)) (ix_lt g1 (hM.lt g1)) hk
    · rw [ix_set_le (by omega)]
      exact h1 _ k (ix_lt g1 (by omega)) hk
  refine ⟨⟨by rw [hsz]; exact hs, by omega, ?_⟩, hmv⟩
  intro x d hx hd
  by_cases q : x = t
  · subst q
    rw [setM_at] at hd
    cases hd
    rw [ix_set_le (Nat.le_refl _)]
    exact hnew
  · have hd2 := hd
    rw [setM_ne q] at hd
    have := hT.row hd hx
    unfold rowIs at this ⊢
    rw [hmv x d d hd hd2 0 (by omega), hmv x d d hd hd2 1 (by omega), hmv x d d hd hd2 2 (by omega), hmv x d d hd hd2 3 (by omega), hmv x d d hd hd2 4 (by omega), hmv x d d hd hd2 5 (by omega), hmv x d d hd hd2 6 (by omega)]
    exact this
theorem fresh_row {T : S_Tree} {i t : Nat} {l d : Int32} (hl : l = l32 t) (hd : d = nI (dp t)) (h : ∀ k, k < 9 → tc T i k = fresh l d k) : rowIs T i t d00 := by
  subst hl; subst hd
  unfold rowIs
  rw [h 0 (by omega), h 1 (by omega), h 2 (by omega), h 3 (by omega), h 4 (by omega), h 5 (by omega), h 6 (by omega)]
  exact ⟨rfl, rfl, rfl, rfl, rfl, rfl, rfl⟩
theorem insert_ok {T : S_Tree} {M : Mp} (hM : Wf0 M) (hT : TR T M 10000) {c l : Nat} {d : Dt} (hc : M c = some d) (hl : l < 9) (hd4 : dp c < 4) (ht : M (ch c l) = none) (hn : ix M 10000 < 64) :
    ∃ T', F_X3_insertBelow T (nI (ix M c)) (nI l) = some (nI (ix M (ch c l)), T') ∧ TR T' (setM M (ch c l) d00) 10000 ∧ Moved T T' M (setM M (ch c l) d00) ∧ g_Tree_documents T' = g_Tree_documents T ∧ tc T' (ix M (ch c l)) 7 = -1 := by
  have hsh := share_le hM hc
  have hvc := hM.vd hc
  obtain ⟨o1, o2, o3, o4, o5⟩ := ch_ok hvc hd4 hl
  obtain ⟨q1, q2⟩ := pa_ch hvc hd4 hl
  have hin : ch c l < c + wt c := by have := wt_pos (ch c l); omega
  have hlt : ch c l < 10000 := by have := vd_share hvc; omega
  have hb := @ix_mono M (ch c l) 10000 (by omega)
  have hb2 := @ix_mono M (c + 1) (ch c l) (by omega)
  rw [ix_some hc] at hb2
  obtain ⟨T', e1, e2, e3, e4, e5, e6⟩ := ins_86 (l := nI l) (d := nI (dp c + 1)) hT.size hn hb
  have hloop : F_X3_insertBelow_38 (nI l) 5000 T (nI (dp c + 1)) (nI (ix M c + 1)) = F_X3_insertBelow_86 (nI l) T (nI (dp c + 1)) (nI (ix M (ch c l))) := by
    refine ins_loop hT.size (by omega) (by have := dp_le c; omega) _ hb ?_ 5000 _ hb2 (by omega) ?_
    · rcases Nat.lt_or_ge (ix M (ch c l)) (ix M 10000) with q | q
      · refine Or.inr ⟨q, ?_⟩
        obtain ⟨x, e, g1, g2, g3, g4, g5⟩ := ix_next q
        have hrow := hT.row g3 g2
        rw [g4] at hrow
        refine ⟨dp x, hrow.2.2.1, dp_lt31 x, ?_⟩
        have hne : x ≠ ch c l := by intro z; rw [z, ht] at g3; cases g3
        rcases Nat.lt_or_ge x (c + wt c) with w | w
        · obtain ⟨l', e', m1, m2, m3, m4, m5⟩ := hM.child hc g3 (by omega) w
          have hc2 := ch_ok hvc hd4 m1
          have hp2 := pa_ch hvc hd4 m1
          have : ch c l' = x := by
            rcases Nat.lt_or_ge (ch c l') (ch c l) with z | z
            · have h1 := @ch_of c l
              have h2 := @ch_of c l'
              omega
            · rcases Nat.lt_or_ge (ch c l') x with y | y
              · rw [g5 _ z y] at m3; cases m3
              · omega
          right
          refine ⟨by rw [← this]; exact hc2.2.1, ?_⟩
          rw [hrow.2.1, l32_nI (by omega), ← this, hp2.2]
          have h1 := @ch_of c l
          have h2 := @ch_of c l'
          exact nI_le (by omega) (by omega)
        · left
          have := after_dp hM hc g3 w (fun y y1 y2 => g5 y (by omega) y2)
          omega
      · exact Or.inl (by omega)
    · intro i h1 h2
      obtain ⟨x, e, g1, g2, g3, g4, g5, g6⟩ := behind_in hM hT hc h1 (by have := @ix_mono M (ch c l) (c + wt c) (by omega); omega)
      refine ⟨dp x, g6.2.2.1, dp_lt31 x, ?_⟩
      rcases Nat.lt_or_ge (dp c + 1) (dp x) with w | w
      · exact Or.inl w
      · right
        refine ⟨by omega, ?_⟩
        have hp := nest_pa hvc (hM.vd g3) g1 g2 (by omega)
        have hq := (ch_pa (hM.vd g3) (by omega))
        rw [hp] at hq
        have hxl : x < ch c l := by
          rcases Nat.lt_or_ge x (ch c l) with z | z
          · exact z
          · have := @ix_mono M (ch c l) x z
            omega
        rw [g6.2.1, l32_nI (by omega)]
        have h1 := @ch_of c l
        have h2 := @ch_of c (ltr x)
        exact nI_ge (by omega) (by omega)
  obtain ⟨r1, r2⟩ := ins_row hM hT ht hlt e2 hn (fresh_row (by rw [l32_nI (by omega), q2]) (by rw [o2]) e4) e5 e6
  refine ⟨T', ?_, r1, r2, e3, by rw [e4 7 (by omega)]; rfl⟩
  unfold F_X3_insertBelow
  rw [ob1_s (has_at hT.size (by omega) (by have := ix_lt hc (hM.lt hc); omega)), b2i_t, if_neg one_ne0, ob1_s (hT.g2 hc (hM.lt hc)), (hT.row hc (hM.lt hc)).2.2.1, ob1_s (has_at hT.size (by omega) (by have := ix_lt hc (hM.lt hc); omega)), b2i_t, if_neg one_ne0, nI_1, nI_1, hloop, e1]
/-- the first node of a shape -/
theorem insert0_ok {T : S_Tree} {M : Mp} (hM : Wf0 M) (hT : TR T M 10000) (hz : ix M 10000 = 0) : ∃ T', F_X3_insertBelow T (-1) (-1) = some (nI 0, T') ∧ TR T' (setM M 0 d00) 10000 ∧ Moved T T' M (setM M 0 d00) ∧ g_Tree_documents T' = g_Tree_documents T ∧ tc T' 0 7 = -1 := by
  have h0 : M 0 = none := by
    cases h : M 0 with
    | none => rfl
    | some d => have := ix_lt h (show 0 < 10000 by omega); omega
  have hsz := hT.size
  rw [hz] at hsz
  obtain ⟨T', e1, e2, e3, e4, e5, e6⟩ := ins_86 (l := -1) (d := nI 0) hsz (by omega) (Nat.le_refl 0)
  obtain ⟨r1, r2⟩ := ins_row hM hT h0 (by omega) (by rw [hz]; exact e2) (by omega) (fresh_row (t := 0) rfl rfl e4) e5 (by rw [hz]; intro r k h1 h2; omega)
  refine ⟨T', ?_, r1, r2, e3, by rw [e4 7 (by omega)]; rfl⟩
  unfold F_X3_insertBelow
  rw [ob1_s has_none, b2i_f, if_pos rfl, ob1_s has_none, b2i_f, if_pos rfl, F_X3_insertBelow_38_s, hsz, if_pos (by decide)]
  exact e1
theorem drop_ok {T : S_Tree} {M : Mp} (hM : Wf0 M) (hT : TR T M 10000) {c : Nat} {d : Dt} (hc : M c = some d) : ∃ T', F_X3_dropBelow T (nI (ix M c)) = some T' ∧ TR T' (cutM M c) 10000 ∧ Moved T T' M (cutM M c) ∧ g_Tree_documents T' = g_Tree_documents T := by
  have hle := hT.le
  have hsh := share_le hM hc
  have hw := wt_pos c
  have hgt : ∀ x, c + wt c ≤ x → ix (cutM M c) x + ix M (c + wt c) = ix M x + (ix M c + 1) := fun x hx => by rw [← ix_some hc]; exact ix_cut_gt hx
  have hall := hgt 10000 (vd_share (hM.vd hc))
  have hmv := mv_ok (f := g_Tree_cells T) (g := g_Tree_cells T) (a := ix M (c + wt c)) (b := ix M c + 1) (m := ix M 10000 - ix M (c + wt c)) (by omega) (by omega)
  have hrow : ∀ r k, k < 9 → tc (s_Tree_size (s_Tree_cells T (va_cpy (g_Tree_cells T) (g_Tree_cells T) (ix M (c + wt c) * 9) ((ix M c + 1) * 9) ((ix M 10000 - ix M (c + wt c)) * 9))) (nI (ix (cutM M c) 10000))) r k = if ix M c + 1 ≤ r ∧ r < ix M c + 1 + (ix M 10000 - ix M (c + wt c)) then tc T (r - (ix M c + 1) + ix M (c + wt c)) k else tc T r k := fun r k hk => cpy_row hk
  have hmoved : Moved T (s_Tree_size (s_Tree_cells T (va_cpy (g_Tree_cells T) (g_Tree_cells T) (ix M (c + wt c) * 9) ((ix M c + 1) * 9) ((ix M 10000 - ix M (c + wt c)) * 9))) (nI (ix (cutM M c) 10000))) M (cutM M c) := by
    intro x e e' g1 g2 k hk
    obtain ⟨g3, g4⟩ := cutM_some g2
    rw [hrow _ k hk]
    have hx := hM.lt g1
    rcases Nat.lt_or_ge c x with q | q
    · have h1 := hgt x (by omega)
      have h2 := @ix_mono M (c + wt c) x (by omega)
      have h3 := ix_lt g1 hx
      rw [if_pos (by omega)]
      congr 1
      omega
    · rw [ix_cut_le (by omega)]
      have := @ix_mono M x c q
      rw [if_neg (by omega)]
  refine ⟨_, ?_, ⟨rfl, by omega, ?_⟩, hmoved, rfl⟩
  · unfold F_X3_dropBelow
    rw [ob1_s (behind_ok hM hT hc), hT.size, nI_1, nI_sub hsh.2, ob1_s hmv, nI_sub (by omega), show (1 : Int32) = nI 1 from rfl, nI_sub (by omega), nI_sub (by omega), show ix M 10000 - (ix M (c + wt c) - ix M c - 1) = ix (cutM M c) 10000 by omega]
  · intro x e hx he
    obtain ⟨g3, g4⟩ := cutM_some he
    have := hT.row g3 hx
    unfold rowIs at this ⊢
    rw [hmoved x e e g3 he 0 (by omega), hmoved x e e g3 he 1 (by omega), hmoved x e e g3 he 2 (by omega), hmoved x e e g3 he 3 (by omega), hmoved x e e g3 he 4 (by omega), hmoved x e e g3 he 5 (by omega), hmoved x e e g3 he 6 (by omega)]
    exact this
