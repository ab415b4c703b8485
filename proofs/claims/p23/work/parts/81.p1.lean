/-! ===== pure: shapes as maps from places to nodes (kind, values, mark, groups, made) ===== -/
abbrev Dt : Type := Int32 × Int32 × Int32 × Int32 × Int32
abbrev Mp : Type := Nat → Option Dt
def has1 (M : Mp) (c : Nat) : Nat := if (M c).isSome then 1 else 0
/-- how many nodes lie ahead of a place -/
def ix (M : Mp) : Nat → Nat
  | 0 => 0
  | x + 1 => ix M x + has1 M x
theorem ix_s (M : Mp) (x : Nat) : ix M (x + 1) = ix M x + has1 M x := rfl
theorem has1_some {M : Mp} {c : Nat} {d : Dt} (h : M c = some d) : has1 M c = 1 := by unfold has1; rw [h]; rfl
theorem has1_none {M : Mp} {c : Nat} (h : M c = none) : has1 M c = 0 := by unfold has1; rw [h]; rfl
theorem has1_le (M : Mp) (c : Nat) : has1 M c ≤ 1 := by unfold has1; split <;> omega
theorem ix_some {M : Mp} {c : Nat} {d : Dt} (h : M c = some d) : ix M (c + 1) = ix M c + 1 := by rw [ix_s, has1_some h]
theorem ix_none {M : Mp} {c : Nat} (h : M c = none) : ix M (c + 1) = ix M c := by rw [ix_s, has1_none h]; rfl
theorem ix_mono {M : Mp} {a : Nat} : ∀ {b : Nat}, a ≤ b → ix M a ≤ ix M b
  | 0, h => by have : a = 0 := by omega
               subst this; exact Nat.le_refl _
  | b + 1, h => by
    rcases Nat.lt_or_ge a (b + 1) with q | q
    · have := @ix_mono M a b (by omega)
      rw [ix_s]; omega
    · have : a = b + 1 := by omega
      subst this; exact Nat.le_refl _
theorem ix_lt {M : Mp} {c x : Nat} {d : Dt} (h : M c = some d) (hx : c < x) : ix M c < ix M x := by
  have h1 := @ix_mono M (c + 1) x hx
  rw [ix_some h] at h1; omega
theorem ix_gap {M : Mp} {a : Nat} : ∀ {b : Nat}, a ≤ b → (∀ y, a ≤ y → y < b → M y = none) → ix M b = ix M a
  | 0, h, _ => by have : a = 0 := by omega
                  subst this; rfl
  | b + 1, h, hn => by
    rcases Nat.lt_or_ge a (b + 1) with q | q
    · rw [ix_none (hn b (by omega) (by omega))]
      exact ix_gap (by omega) (fun y h1 h2 => hn y h1 (by omega))
    · have : a = b + 1 := by omega
      subst this; rfl
/-- the next node from a place on -/
theorem ix_next {M : Mp} {a : Nat} : ∀ {b : Nat}, ix M a < ix M b → ∃ c d, a ≤ c ∧ c < b ∧ M c = some d ∧ ix M c = ix M a ∧ (∀ y, a ≤ y → y < c → M y = none)
  | 0, h => by simp [ix] at h
  | b + 1, h => by
    rcases Nat.lt_or_ge (ix M a) (ix M b) with q | q
    · obtain ⟨c, d, h1, h2, h3⟩ := ix_next q
      exact ⟨c, d, h1, by omega, h3⟩
    · have hab : a ≤ b := by
        rcases Nat.lt_or_ge b a with w | w
        · have := @ix_mono M (b + 1) a w
          omega
        · exact w
      have hm := @ix_mono M a b hab
      have e : ix M b = ix M a := by omega
      cases hb : M b with
      | none => rw [ix_none hb] at h; omega
      | some d => 
        refine ⟨b, d, hab, by omega, hb, e, fun y h1 h2 => ?_⟩
        cases hy : M y with
        | none => rfl
        | some d2 =>
          have g1 := ix_lt hy h2
          have g2 := @ix_mono M a y h1
          omega
/-- the last node ahead of a place -/
theorem ix_prev {M : Mp} : ∀ {b : Nat}, 0 < ix M b → ∃ c d, c < b ∧ M c = some d ∧ ix M c + 1 = ix M b ∧ (∀ y, c < y → y < b → M y = none)
  | 0, h => by simp [ix] at h
  | b + 1, h => by
    cases hb : M b with
    | none =>
      rw [ix_none hb] at h ⊢
      obtain ⟨c, d, h1, h2, h3, h4⟩ := ix_prev h
      refine ⟨c, d, by omega, h2, h3, fun y g1 g2 => ?_⟩
      rcases Nat.lt_or_ge y b with w | w
      · exact h4 y g1 w
      · have : y = b := by omega
        subst this; exact hb
    | some d => exact ⟨b, d, by omega, hb, by rw [ix_some hb], fun y g1 g2 => by omega⟩
theorem ix_inj {M : Mp} {a b : Nat} {d e : Dt} (ha : M a = some d) (hb : M b = some e) (h : ix M a = ix M b) : a = b := by
  rcases Nat.lt_trichotomy a b with q | q | q
  · have := ix_lt ha q; omega
  · exact q
  · have := ix_lt hb q; omega
theorem ix_at {M : Mp} {i b : Nat} (h : i < ix M b) : ∃ c d, c < b ∧ M c = some d ∧ ix M c = i := by
  induction b with
  | zero => simp [ix] at h
  | succ b ih =>
    rcases Nat.lt_or_ge i (ix M b) with q | q
    · obtain ⟨c, d, h1, h2, h3⟩ := ih q
      exact ⟨c, d, by omega, h2, h3⟩
    · cases hb : M b with
      | none => rw [ix_none hb] at h; omega
      | some d => rw [ix_some hb] at h; exact ⟨b, d, by omega, hb, by omega⟩
theorem ix_congr {M N : Mp} : ∀ {x : Nat}, (∀ y, y < x → (M y).isSome = (N y).isSome) → ix M x = ix N x
  | 0, _ => rfl
  | x + 1, h => by
    rw [ix_s, ix_s, ix_congr (fun y hy => h y (by omega))]
    unfold has1
    rw [h x (by omega)]
theorem ix_le_of {M N : Mp} : ∀ {x : Nat}, (∀ y, y < x → (M y).isSome = true → (N y).isSome = true) → ix M x ≤ ix N x
  | 0, _ => Nat.le_refl _
  | x + 1, h => by
    have h1 := ix_le_of (M := M) (N := N) (fun y (hy : y < x) => h y (by omega))
    have h2 := h x (by omega)
    rw [ix_s, ix_s]
    unfold has1
    cases hM : (M x).isSome
    · simp; omega
    · rw [h2 hM]; simp; omega
/-! changes of a map -/
def setM (M : Mp) (c : Nat) (d : Dt) : Mp := fun x => if x = c then some d else M x
def cutM (M : Mp) (c : Nat) : Mp := fun x => if c < x ∧ x < c + wt c then none else M x
theorem setM_at {M : Mp} {c : Nat} {d : Dt} : setM M c d c = some d := if_pos rfl
theorem setM_ne {M : Mp} {c x : Nat} {d : Dt} (h : x ≠ c) : setM M c d x = M x := if_neg h
theorem cutM_in {M : Mp} {c x : Nat} (h1 : c < x) (h2 : x < c + wt c) : cutM M c x = none := if_pos ⟨h1, h2⟩
theorem cutM_out {M : Mp} {c x : Nat} (h : ¬ (c < x ∧ x < c + wt c)) : cutM M c x = M x := if_neg h
theorem cutM_some {M : Mp} {c x : Nat} {d : Dt} (h : cutM M c x = some d) : M x = some d ∧ ¬ (c < x ∧ x < c + wt c) := by
  unfold cutM at h
  split at h
  · cases h
  · exact ⟨h, by assumption⟩
theorem ix_set_old {M : Mp} {c : Nat} {d d0 : Dt} (h : M c = some d0) (x : Nat) : ix (setM M c d) x = ix M x := by
  apply ix_congr
  intro y _
  unfold setM
  split
  · subst y; rw [h]; rfl
  · rfl
theorem ix_set_le {M : Mp} {c : Nat} {d : Dt} {x : Nat} (h : x ≤ c) : ix (setM M c d) x = ix M x := by
  apply ix_congr
  intro y hy
  rw [setM_ne (by omega)]
theorem ix_set_gt {M : Mp} {c : Nat} {d : Dt} (hc : M c = none) : ∀ {x : Nat}, c < x → ix (setM M c d) x = ix M x + 1
  | 0, h => by omega
  | x + 1, h => by
    rcases Nat.lt_or_ge c x with q | q
    · rw [ix_s, ix_s, ix_set_gt hc q]
      have : has1 (setM M c d) x = has1 M x := by unfold has1; rw [setM_ne (by omega)]
      omega
    · have : x = c := by omega
      subst this
      rw [ix_some setM_at, ix_none hc, ix_set_le (Nat.le_refl _)]
theorem ix_cut_le {M : Mp} {c x : Nat} (h : x ≤ c + 1) : ix (cutM M c) x = ix M x := by
  apply ix_congr
  intro y hy
  rw [cutM_out (by omega)]
theorem ix_cut_in {M : Mp} {c : Nat} {x : Nat} (h : c + 1 ≤ x) (h2 : x ≤ c + wt c) : ix (cutM M c) x = ix M (c + 1) := by
  rw [← ix_cut_le (M := M) (Nat.le_refl (c + 1))]
  exact ix_gap h (fun y h3 h4 => cutM_in (by omega) (by omega))
theorem ix_cut_gt {M : Mp} {c : Nat} : ∀ {x : Nat}, c + wt c ≤ x → ix (cutM M c) x + ix M (c + wt c) = ix M x + ix M (c + 1)
  | 0, h => by have := wt_pos c; omega
  | x + 1, h => by
    rcases Nat.lt_or_ge x (c + wt c) with q | q
    · have e : x + 1 = c + wt c := by omega
      rw [e, ix_cut_in (by have := wt_pos c; omega) (Nat.le_refl _)]; omega
    · have h1 := ix_cut_gt (M := M) q
      have : has1 (cutM M c) x = has1 M x := by unfold has1; rw [cutM_out (by omega)]
      rw [ix_s, ix_s]; omega
/-! well made maps -/
def isK (k : Int32) : Prop := ∃ j, j ≤ 7 ∧ k = nI j
def Wf (M : Mp) : Prop := ∀ c d, M c = some d → okc c ∧ isK d.1 ∧ (d.2.2.1 = 0 ∨ d.2.2.1 = 1) ∧ (c ≠ 0 → ∃ d', M (pa c) = some d' ∧ ¬ d'.1 = 7)
theorem Wf.vd {M : Mp} (h : Wf M) {c : Nat} {d : Dt} (hc : M c = some d) : okc c := (h c d hc).1
theorem Wf.lt {M : Mp} (h : Wf M) {c : Nat} {d : Dt} (hc : M c = some d) : c < 10000 := (h c d hc).1.1
theorem Wf.up {M : Mp} (h : Wf M) {c : Nat} {d : Dt} (hc : M c = some d) (h0 : c ≠ 0) : ∃ d', M (pa c) = some d' ∧ ¬ d'.1 = 7 := (h c d hc).2.2.2 h0
/-- well made but for nodes below any -/
def Wf0 (M : Mp) : Prop := ∀ x e, M x = some e → okc x ∧ isK e.1 ∧ (x ≠ 0 → ∃ e', M (pa x) = some e')
theorem Wf0.vd {M : Mp} (h : Wf0 M) {c : Nat} {d : Dt} (hc : M c = some d) : okc c := (h c d hc).1
theorem Wf0.lt {M : Mp} (h : Wf0 M) {c : Nat} {d : Dt} (hc : M c = some d) : c < 10000 := (h c d hc).1.1
theorem Wf0.up {M : Mp} (h : Wf0 M) {c : Nat} {d : Dt} (hc : M c = some d) (h0 : c ≠ 0) : ∃ d', M (pa c) = some d' := (h c d hc).2.2 h0
theorem Wf.wf0 {M : Mp} (h : Wf M) : Wf0 M := fun x e hx => by
  obtain ⟨h1, h2, h3, h4⟩ := h x e hx
  exact ⟨h1, h2, fun h0 => by obtain ⟨d', g1, -⟩ := h4 h0; exact ⟨d', g1⟩⟩
theorem Wf0.upd {M : Mp} (h : Wf0 M) {c : Nat} {d d' : Dt} (hc : M c = some d) (hk : isK d'.1) : Wf0 (setM M c d') := by
  have hs : ∀ x e, M x = some e → ∃ e', setM M c d' x = some e' := fun x e hx => by
    by_cases q : x = c
    · exact ⟨d', by rw [q]; exact setM_at⟩
    · exact ⟨e, by rw [setM_ne q]; exact hx⟩
  intro x e hx
  by_cases q : x = c
  · subst q
    rw [setM_at] at hx
    cases hx
    obtain ⟨h1, -, h3⟩ := h x d hc
    exact ⟨h1, hk, fun h0 => by obtain ⟨e', g⟩ := h3 h0; exact hs _ _ g⟩
  · rw [setM_ne q] at hx
    obtain ⟨h1, h2, h3⟩ := h x e hx
    exact ⟨h1, h2, fun h0 => by obtain ⟨e', g⟩ := h3 h0; exact hs _ _ g⟩
theorem Wf.root {M : Mp} (h : Wf M) : ∀ (k : Nat) {c : Nat} {d : Dt}, dp c = k → M c = some d → ∃ d0, M 0 = some d0
  | 0, c, d, hk, hc => by
    have h0 : c = 0 := by
      have := dpw c; omega
    subst h0; exact ⟨d, hc⟩
  | k + 1, c, d, hk, hc => by
    have h0 : c ≠ 0 := by intro q; subst q; simp [dp] at hk
    obtain ⟨d', h1, -⟩ := h.up hc h0
    have := (ch_pa (h.vd hc) h0).2.2.2.1
    exact h.root k (by omega) h1
theorem Wf.any {M : Mp} (h : Wf M) {c : Nat} {d : Dt} (hc : M c = some d) (h7 : d.1 = 7) {x : Nat} (h1 : c < x) (h2 : x < c + wt c) : M x = none := by
  have key : ∀ (k x : Nat), x - c = k → c < x → x < c + wt c → M x = none := by
    intro k
    induction k using Nat.strongRecOn with
    | ind k ih =>
      intro x hk h1 h2
      cases hx : M x with
      | none => rfl
      | some e =>
        have hn := nest (h.vd hc) (h.vd hx) h1 h2
        obtain ⟨e', g1, g2⟩ := h.up hx (by omega)
        have hp := (ch_pa (h.vd hx) (by omega)).2.2.2.2
        rcases Nat.lt_or_ge c (pa x) with q | q
        · rw [ih (pa x - c) (by omega) (pa x) rfl q (by omega)] at g1; cases g1
        · have : pa x = c := by omega
          rw [this, hc] at g1
          cases g1
          exact absurd h7 g2
  exact key _ x rfl h1 h2
/-- nodes between a node and its next child, and so on: all lie in the share of a child -/
theorem Wf0.child {M : Mp} (h : Wf0 M) {c x : Nat} {d e : Dt} (hc : M c = some d) (hx : M x = some e) (h1 : c < x) (h2 : x < c + wt c) : ∃ l e', l < 9 ∧ dp c < 4 ∧ M (ch c l) = some e' ∧ ch c l ≤ x ∧ x < ch c l + wt (ch c l) := by
  have key : ∀ (k x : Nat) (e : Dt), dp x = k → M x = some e → c < x → x < c + wt c → ∃ l e', l < 9 ∧ dp c < 4 ∧ M (ch c l) = some e' ∧ ch c l ≤ x ∧ x < ch c l + wt (ch c l) := by
    intro k
    induction k with
    | zero => 
      intro x e hk hx h1 h2
      have := (nest (h.vd hc) (h.vd hx) h1 h2).1
      omega
    | succ k ih =>
      intro x e hk hx h1 h2
      obtain ⟨n1, n2, n3⟩ := nest (h.vd hc) (h.vd hx) h1 h2
      obtain ⟨p1, p2, p3, p4, p5⟩ := ch_pa (h.vd hx) (by omega)
      have h4 := dp_le x
      rcases Nat.lt_or_ge c (pa x) with q | q
      · obtain ⟨e', g1⟩ := h.up hx (by omega)
        obtain ⟨l, e2, q1, q2, q3, q4, q5⟩ := ih (pa x) e' (by omega) g1 q (by omega)
        refine ⟨l, e2, q1, q2, q3, by omega, ?_⟩
        have hch := h.vd q3
        have m1 : pa x < x := p5
        have w1 : x < pa x + wt (pa x) := by
          have := (ch_ok (l := ltr x) p3 (by omega) p2)
          rw [p1] at this
          have h7 := wt_pos x
          omega
        rcases Nat.lt_or_ge (ch c l) (pa x) with r | r
        · have := (nest hch p3 r q5).2.1
          omega
        · have : pa x = ch c l := by omega
          rw [← this]; exact w1
      · have e1 : pa x = c := by omega
        refine ⟨ltr x, e, p2, by rw [← e1]; omega, ?_, ?_, ?_⟩
        · rw [← e1, p1]; exact hx
        · rw [← e1, p1]; exact Nat.le_refl _
        · rw [← e1, p1]; have := wt_pos x; omega
  exact key _ x e rfl hx h1 h2
theorem Wf.upd {M : Mp} (h : Wf M) {c : Nat} {d0 d : Dt} (hc : M c = some d0) (hk : isK d.1) (hm : d.2.2.1 = 0 ∨ d.2.2.1 = 1) (h7 : d.1 = 7 → d0.1 = 7) : Wf (setM M c d) := by
  intro x e hx
  by_cases q : x = c
  · subst q
    rw [setM_at] at hx
    cases hx
    obtain ⟨h1, -, -, h4⟩ := h x d0 hc
    refine ⟨h1, hk, hm, fun h0 => ?_⟩
    obtain ⟨d', g1, g2⟩ := h4 h0
    have := (ch_pa h1 h0).2.2.2.2
    exact ⟨d', by rw [setM_ne (by omega)]; exact g1, g2⟩
  · rw [setM_ne q] at hx
    obtain ⟨h1, h2, h3, h4⟩ := h x e hx
    refine ⟨h1, h2, h3, fun h0 => ?_⟩
    obtain ⟨d', g1, g2⟩ := h4 h0
    by_cases r : pa x = c
    · refine ⟨d, by rw [r]; exact setM_at, fun z => g2 ?_⟩
      rw [r, hc] at g1
      cases g1
      exact h7 z
    · exact ⟨d', by rw [setM_ne r]; exact g1, g2⟩
theorem Wf.add {M : Mp} (h : Wf M) {c : Nat} {d : Dt} (hv : okc c) (hc : M c = none) (hk : isK d.1) (hm : d.2.2.1 = 0 ∨ d.2.2.1 = 1) (hu : c ≠ 0 → ∃ d', M (pa c) = some d' ∧ ¬ d'.1 = 7) : Wf (setM M c d) := by
  intro x e hx
  by_cases q : x = c
  · subst q
    rw [setM_at] at hx
    cases hx
    refine ⟨hv, hk, hm, fun h0 => ?_⟩
    obtain ⟨d', g1, g2⟩ := hu h0
    have := (ch_pa hv h0).2.2.2.2
    exact ⟨d', by rw [setM_ne (by omega)]; exact g1, g2⟩
  · rw [setM_ne q] at hx
    obtain ⟨h1, h2, h3, h4⟩ := h x e hx
    refine ⟨h1, h2, h3, fun h0 => ?_⟩
    obtain ⟨d', g1, g2⟩ := h4 h0
    have r : pa x ≠ c := by intro z; rw [z, hc] at g1; cases g1
    exact ⟨d', by rw [setM_ne r]; exact g1, g2⟩
/-- a node becomes any, and all below it goes -/
theorem Wf.cut {M : Mp} (h : Wf M) {c : Nat} {d0 d : Dt} (hc : M c = some d0) (hk : isK d.1) (hm : d.2.2.1 = 0 ∨ d.2.2.1 = 1) : Wf (cutM (setM M c d) c) := by
  have hvc := h.vd hc
  intro x e hx
  obtain ⟨hx, hout⟩ := cutM_some hx
  by_cases q : x = c
  · subst q
    rw [setM_at] at hx
    cases hx
    obtain ⟨h1, -, -, h4⟩ := h x d0 hc
    refine ⟨h1, hk, hm, fun h0 => ?_⟩
    obtain ⟨d', g1, g2⟩ := h4 h0
    have := (ch_pa h1 h0).2.2.2.2
    exact ⟨d', by rw [cutM_out (by omega), setM_ne (by omega)]; exact g1, g2⟩
  · rw [setM_ne q] at hx
    obtain ⟨h1, h2, h3, h4⟩ := h x e hx
    refine ⟨h1, h2, h3, fun h0 => ?_⟩
    obtain ⟨d', g1, g2⟩ := h4 h0
    have hp := ch_pa h1 h0
    have hin : pa x < x ∧ x < pa x + wt (pa x) := by
      have h5 := dp_le x
      have := ch_ok (l := ltr x) hp.2.2.1 (by omega) hp.2.1
      have h6 := wt_pos x
      rw [hp.1] at this
      omega
    have r : pa x ≠ c := by intro z; rw [z] at hin; omega
    refine ⟨d', ?_, g2⟩
    rw [cutM_out ?_, setM_ne r]
    · exact g1
    · rintro ⟨z1, z2⟩
      have := (nest hvc hp.2.2.1 z1 z2).2.1
      omega
