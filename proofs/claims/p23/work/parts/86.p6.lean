/-! ===== pure: the reference's working tree holds a map, its rows in the order of making ===== -/
def upR (ρ : Nat → Nat) (c : Nat) : Int32 := if c = 0 then -1 else nI (ρ (pa c))
def trow (f : Nat → Int32) (ρ : Nat → Nat) (c : Nat) (d : Dt) : Prop := f (7 * ρ c) = d.1 ∧ f (7 * ρ c + 1) = upR ρ c ∧ f (7 * ρ c + 2) = l32 c ∧ f (7 * ρ c + 3) = d.2.1 ∧ f (7 * ρ c + 4) = d.2.2.1 ∧ f (7 * ρ c + 5) = d.2.2.2.1 ∧ f (7 * ρ c + 6) = d.2.2.2.2
def MT (f : Nat → Int32) (n : Nat) (ρ : Nat → Nat) (M : Mp) : Prop := (∀ c d, M c = some d → ρ c < n ∧ trow f ρ c d) ∧ (∀ k, k < n → f (7 * k) = -1 ∨ ∃ c d, M c = some d ∧ ρ c = k) ∧ (∀ k, k < n → f (7 * k + 1) = -1 ∨ ∃ j, j < k ∧ f (7 * k + 1) = nI j) ∧ (∀ c d, M c = some d → c ≠ 0 → ρ (pa c) < ρ c) ∧ (∀ a b d e, M a = some d → M b = some e → ρ a = ρ b → a = b) ∧ (∀ d, M 0 = some d → ρ 0 = 0) ∧ n ≤ 64
def rr (ρ : Nat → Nat) (M : Mp) (c : Nat) : Int32 := if (M c).isSome then nI (ρ c) else -1
theorem rr_some {ρ : Nat → Nat} {M : Mp} {c : Nat} {d : Dt} (h : M c = some d) : rr ρ M c = nI (ρ c) := by unfold rr; rw [h]; rfl
theorem rr_none {ρ : Nat → Nat} {M : Mp} {c : Nat} (h : M c = none) : rr ρ M c = -1 := by unfold rr; rw [h]; rfl
theorem upR_up {ρ : Nat → Nat} {c : Nat} (h : c ≠ 0) : upR ρ c = nI (ρ (pa c)) := if_neg h
theorem MT.lt {f : Nat → Int32} {n : Nat} {ρ : Nat → Nat} {M : Mp} (h : MT f n ρ M) {c : Nat} {d : Dt} (hc : M c = some d) : ρ c < n := (h.1 c d hc).1
theorem MT.row {f : Nat → Int32} {n : Nat} {ρ : Nat → Nat} {M : Mp} (h : MT f n ρ M) {c : Nat} {d : Dt} (hc : M c = some d) : trow f ρ c d := (h.1 c d hc).2
theorem MT.le {f : Nat → Int32} {n : Nat} {ρ : Nat → Nat} {M : Mp} (h : MT f n ρ M) : n ≤ 64 := h.2.2.2.2.2.2
theorem MT.inj {f : Nat → Int32} {n : Nat} {ρ : Nat → Nat} {M : Mp} (h : MT f n ρ M) {a b : Nat} {d e : Dt} (ha : M a = some d) (hb : M b = some e) (q : ρ a = ρ b) : a = b := h.2.2.2.2.1 a b d e ha hb q
theorem isK_m1 {k : Int32} (h : isK k) : ¬ k = -1 := by
  obtain ⟨j, hj, rfl⟩ := h
  exact nI_m1 (by omega)
theorem ix7 (r : Nat) : (7 : Int32) * nI r = nI (7 * r) := by rw [show (7 : Int32) = nI 7 from rfl, nI_mul]
theorem ix7k (r k : Nat) : (7 : Int32) * nI r + nI k = nI (7 * r + k) := by rw [ix7, nI_add]
theorem ix7_1 (r : Nat) : (7 : Int32) * nI r + 1 = nI (7 * r + 1) := ix7k r 1
theorem ix7_2 (r : Nat) : (7 : Int32) * nI r + 2 = nI (7 * r + 2) := ix7k r 2
theorem ix7_3 (r : Nat) : (7 : Int32) * nI r + 3 = nI (7 * r + 3) := ix7k r 3
theorem ix7_4 (r : Nat) : (7 : Int32) * nI r + 4 = nI (7 * r + 4) := ix7k r 4
theorem ix7_5 (r : Nat) : (7 : Int32) * nI r + 5 = nI (7 * r + 5) := ix7k r 5
theorem ix7_6 (r : Nat) : (7 : Int32) * nI r + 6 = nI (7 * r + 6) := ix7k r 6
theorem childAt_loop {S : S_Model} {n : Nat} {p l : Int32} (hn : n ≤ 64) (ht : g_Model_top S = nI n) (b : Nat) (hb : b ≤ n) (r : Int32) (hat : (b = n ∧ r = -1) ∨ (b < n ∧ ¬ g_Model_tree S (7 * b) = -1 ∧ g_Model_tree S (7 * b + 1) = p ∧ g_Model_tree S (7 * b + 2) = l ∧ r = nI b)) : ∀ (f j : Nat), j ≤ b → b - j < f → (∀ i, j ≤ i → i < b → ¬ (¬ g_Model_tree S (7 * i) = -1 ∧ g_Model_tree S (7 * i + 1) = p ∧ g_Model_tree S (7 * i + 2) = l)) → F_X5_childAt_2 p l S f (nI j) = some r
  | 0, j, _, h, _ => absurd h (Nat.not_lt_zero _)
  | f + 1, j, hj, hf, hin => by
    rw [F_X5_childAt_2_s, ht]
    by_cases q : j = b
    · subst q
      rcases hat with ⟨h1, h2⟩ | ⟨h1, h2, h3, h4, h5⟩
      · rw [if_pos (by rw [h1]; exact nI_le (Nat.le_refl _) (by omega)), h2]
      · rw [if_neg (nI_ge h1 (by omega)), ix7_1, ix7_2, ix7, og_t (inb_nI (by omega) (by omega)), nI_clamp (by omega), if_neg h2, og_t (inb_nI (by omega) (by omega)), nI_clamp (by omega), if_pos h3, og_t (inb_nI (by omega) (by omega)), nI_clamp (by omega), if_pos h4, h5]
    · have ihr := childAt_loop hn ht b hb r hat f (j + 1) (by omega) (by omega) (fun i h1 h2 => hin i (by omega) h2)
      have hno := hin j (Nat.le_refl _) (by omega)
      rw [if_neg (nI_ge (by omega) (by omega)), ix7_1, ix7_2, ix7, og_t (inb_nI (by omega) (by omega)), nI_clamp (n := 7 * j) (by omega), nI_1]
      by_cases z : g_Model_tree S (7 * j) = -1
      · rw [if_pos z, ihr]
      · rw [if_neg z, og_t (inb_nI (by omega) (by omega)), nI_clamp (n := 7 * j + 1) (by omega)]
        by_cases z1 : g_Model_tree S (7 * j + 1) = p
        · rw [if_pos z1, og_t (inb_nI (by omega) (by omega)), nI_clamp (n := 7 * j + 2) (by omega), if_neg (fun y => hno ⟨z, z1, y⟩), ihr]
        · rw [if_neg z1, ihr]
theorem childAt_ok {S : S_Model} {n : Nat} {ρ : Nat → Nat} {M : Mp} (hM : Wf M) (h : MT (g_Model_tree S) n ρ M) (ht : g_Model_top S = nI n) {c l : Nat} {d : Dt} (hc : M c = some d) (hl : l < 9) : F_X5_childAt S (nI (ρ c)) (nI l) = some (rr ρ M (ch c l)) := by
  have hn := h.le
  have hcl := h.lt hc
  have uniq : ∀ i, i < n → ¬ g_Model_tree S (7 * i) = -1 → g_Model_tree S (7 * i + 1) = nI (ρ c) → g_Model_tree S (7 * i + 2) = nI l → ∃ e, M (ch c l) = some e ∧ ρ (ch c l) = i := by
    intro i hi h1 h2 h3
    rcases h.2.1 i hi with z | ⟨x, e, g1, g2⟩
    · exact absurd z h1
    · have hrow := h.row g1
      rw [← g2, hrow.2.1] at h2
      rw [← g2, hrow.2.2.1] at h3
      by_cases h0 : x = 0
      · subst h0; exact absurd h2 (m1_nI (by omega))
      · obtain ⟨d', u1, u2⟩ := hM.up g1 h0
        have hb2 := h.lt u1
        rw [upR_up h0] at h2
        rw [l32_nI h0] at h3
        have e1 := h.inj u1 hc (nI_inj (by omega) (by omega) h2)
        have e2 := nI_inj (by have := lt_le x; omega) (by omega) h3
        have e3 : ch c l = x := by rw [← e1, ← e2]; exact (ch_pa (hM.vd g1) h0).1
        exact ⟨e, by rw [e3]; exact g1, by rw [e3]; exact g2⟩
  unfold F_X5_childAt
  rw [show (0 : Int32) = nI 0 from rfl]
  cases ht2 : M (ch c l) with
  | none =>
    rw [rr_none ht2]
    refine childAt_loop hn ht n (Nat.le_refl _) _ (Or.inl ⟨rfl, rfl⟩) 5000 0 (by omega) (by omega) ?_
    rintro i - h2 ⟨h3, h4, h5⟩
    obtain ⟨e, q1, q2⟩ := uniq i h2 h3 h4 h5
    rw [ht2] at q1; cases q1
  | some e0 =>
    rw [rr_some ht2]
    obtain ⟨u1, u2, u3, u4, u5, u6, u7, u8⟩ := ch_up hM hc ht2 hl
    have hrow := h.row ht2
    have hlt := h.lt ht2
    refine childAt_loop hn ht (ρ (ch c l)) (by omega) _ (Or.inr ⟨hlt, ?_, ?_, ?_, rfl⟩) 5000 0 (by omega) (by omega) ?_
    · rw [hrow.1]; exact isK_m1 (hM _ _ ht2).2.1
    · rw [hrow.2.1, upR_up u2, u7]
    · rw [hrow.2.2.1, u6]
    · rintro i - h2 ⟨h3, h4, h5⟩
      obtain ⟨e, q1, q2⟩ := uniq i (by omega) h3 h4 h5
      omega
/-! changes of rows -/
def setR (f : Nat → Int32) (r : Nat) (a b e g m o p : Int32) : Nat → Int32 := upd (upd (upd (upd (upd (upd (upd f (7 * r) a) (7 * r + 1) b) (7 * r + 2) e) (7 * r + 3) g) (7 * r + 4) m) (7 * r + 5) o) (7 * r + 6) p
theorem setR_ne {f : Nat → Int32} {r j : Nat} {a b e g m o p : Int32} (h : j < 7 * r ∨ 7 * r + 6 < j) : setR f r a b e g m o p j = f j := by
  unfold setR
  rw [upd_ne (by omega), upd_ne (by omega), upd_ne (by omega), upd_ne (by omega), upd_ne (by omega), upd_ne (by omega), upd_ne (by omega)]
theorem setR_at {f : Nat → Int32} {r : Nat} {a b e g m o p : Int32} : setR f r a b e g m o p (7 * r) = a ∧ setR f r a b e g m o p (7 * r + 1) = b ∧ setR f r a b e g m o p (7 * r + 2) = e ∧ setR f r a b e g m o p (7 * r + 3) = g ∧ setR f r a b e g m o p (7 * r + 4) = m ∧ setR f r a b e g m o p (7 * r + 5) = o ∧ setR f r a b e g m o p (7 * r + 6) = p := by
  unfold setR
  refine ⟨?_, ?_, ?_, ?_, ?_, ?_, ?_⟩
  · rw [upd_ne (by omega), upd_ne (by omega), upd_ne (by omega), upd_ne (by omega), upd_ne (by omega), upd_ne (by omega), upd_at]
  · rw [upd_ne (by omega), upd_ne (by omega), upd_ne (by omega), upd_ne (by omega), upd_ne (by omega), upd_at]
  · rw [upd_ne (by omega), upd_ne (by omega), upd_ne (by omega), upd_ne (by omega), upd_at]
  · rw [upd_ne (by omega), upd_ne (by omega), upd_ne (by omega), upd_at]
  · rw [upd_ne (by omega), upd_ne (by omega), upd_at]
  · rw [upd_ne (by omega), upd_at]
  · rw [upd_at]
/-- rows that agree make the same map -/
theorem MT.same {f g : Nat → Int32} {n : Nat} {ρ : Nat → Nat} {M : Mp} (h : MT f n ρ M) (hg : ∀ j, g j = f j) : MT g n ρ M := by
  have : g = f := funext hg
  rw [this]; exact h
/-- a node's numbers change -/
theorem MT.upd {f g : Nat → Int32} {n : Nat} {ρ : Nat → Nat} {M : Mp} (h : MT f n ρ M) {c : Nat} {d d' : Dt} (hc : M c = some d) (hk : ¬ d'.1 = -1) (ho : ∀ j, j < 7 * ρ c ∨ 7 * ρ c + 6 < j → g j = f j) (hr : trow g ρ c d') : MT g n ρ (setM M c d') := by
  obtain ⟨h1, h2, h3, h4, h5, h6, h7⟩ := h
  have hr1 := (h1 c d hc).2
  refine ⟨?_, ?_, ?_, ?_, ?_, ?_, h7⟩
  · intro x e hx
    by_cases q : x = c
    · subst q
      rw [setM_at] at hx
      cases hx
      exact ⟨(h1 x d hc).1, hr⟩
    · rw [setM_ne q] at hx
      obtain ⟨a1, a2⟩ := h1 x e hx
      have hne : ρ x ≠ ρ c := fun z => q (h5 x c e d hx hc z)
      refine ⟨a1, ?_⟩
      unfold trow at a2 ⊢
      rw [ho _ (by omega), ho _ (by omega), ho _ (by omega), ho _ (by omega), ho _ (by omega), ho _ (by omega), ho _ (by omega)]
      exact a2
  · intro k hkn
    by_cases q : k = ρ c
    · exact Or.inr ⟨c, d', setM_at, q.symm⟩
    · rw [ho _ (by omega)]
      rcases h2 k hkn with z | ⟨x, e, z1, z2⟩
      · exact Or.inl z
      · refine Or.inr ⟨x, e, ?_, z2⟩
        rw [setM_ne (fun y => q (by rw [← z2, y]))]
        exact z1
  · intro k hkn
    by_cases q : k = ρ c
    · rw [q, hr.2.1, ← hr1.2.1]
      exact h3 _ (h1 c d hc).1
    · rw [ho _ (by omega)]
      exact h3 k hkn
  · intro x e hx h0
    by_cases q : x = c
    · subst q; exact h4 x d hc h0
    · rw [setM_ne q] at hx; exact h4 x e hx h0
  · intro a b e e' ha hb
    have ga : ∃ e1, M a = some e1 := by
      by_cases q : a = c
      · exact ⟨d, by rw [q]; exact hc⟩
      · rw [setM_ne q] at ha; exact ⟨e, ha⟩
    have gb : ∃ e1, M b = some e1 := by
      by_cases q : b = c
      · exact ⟨d, by rw [q]; exact hc⟩
      · rw [setM_ne q] at hb; exact ⟨e', hb⟩
    obtain ⟨e1, q1⟩ := ga
    obtain ⟨e2, q2⟩ := gb
    exact h5 a b e1 e2 q1 q2
  · intro e he
    by_cases q : (0 : Nat) = c
    · exact h6 d (by rw [q]; exact hc)
    · rw [setM_ne q] at he; exact h6 e he
/-- a new row for a new node -/
def rup (ρ : Nat → Nat) (c n : Nat) : Nat → Nat := fun x => if x = c then n else ρ x
theorem rup_at {ρ : Nat → Nat} {c n : Nat} : rup ρ c n c = n := if_pos rfl
theorem rup_ne {ρ : Nat → Nat} {c n x : Nat} (h : x ≠ c) : rup ρ c n x = ρ x := if_neg h
theorem MT.add {f g : Nat → Int32} {n : Nat} {ρ : Nat → Nat} {M : Mp} (hM : Wf M) (h : MT f n ρ M) {c : Nat} {d : Dt} (hn : n < 64) (hv : okc c) (hc : M c = none) (hu : c ≠ 0 → ∃ d', M (pa c) = some d') (hz : c = 0 → n = 0) (ho : ∀ j, j < 7 * n → g j = f j) (hr : trow g (rup ρ c n) c d) : MT g (n + 1) (rup ρ c n) (setM M c d) := by
  obtain ⟨h1, h2, h3, h4, h5, h6, h7⟩ := h
  have hρ : ∀ x, x ≠ c → rup ρ c n x = ρ x := fun x hx => rup_ne hx
  have hne : ∀ {x e}, M x = some e → x ≠ c := by
    intro x e hx q
    rw [q, hc] at hx; cases hx
  have hpne : ∀ {x e}, M x = some e → x ≠ 0 → pa x ≠ c := by
    intro x e hx h0 q
    obtain ⟨d', g1, -⟩ := hM.up hx h0
    exact hne g1 q
  refine ⟨?_, ?_, ?_, ?_, ?_, ?_, by omega⟩
  · intro x e hx
    by_cases q : x = c
    · subst q
      rw [setM_at] at hx
      cases hx
      exact ⟨by rw [rup_at]; omega, hr⟩
    · rw [setM_ne q] at hx
      obtain ⟨a1, a2⟩ := h1 x e hx
      have hup : upR (rup ρ c n) x = upR ρ x := by
        unfold upR
        by_cases h0 : x = 0
        · rw [if_pos h0, if_pos h0]
        · rw [if_neg h0, if_neg h0, hρ _ (hpne hx h0)]
      refine ⟨by rw [hρ x q]; omega, ?_⟩
      unfold trow at a2 ⊢
      rw [hup, hρ x q, ho _ (by omega), ho _ (by omega), ho _ (by omega), ho _ (by omega), ho _ (by omega), ho _ (by omega), ho _ (by omega)]
      exact a2
  · intro k hkn
    by_cases q : k = n
    · exact Or.inr ⟨c, d, setM_at, by rw [rup_at]; exact q.symm⟩
    · rw [ho _ (by omega)]
      rcases h2 k (by omega) with z | ⟨x, e, z1, z2⟩
      · exact Or.inl z
      · exact Or.inr ⟨x, e, by rw [setM_ne (hne z1)]; exact z1, by rw [hρ _ (hne z1)]; exact z2⟩
  · intro k hkn
    by_cases q : k = n
    · have hr2 := hr.2.1
      rw [rup_at] at hr2
      rw [q, hr2]
      unfold upR
      by_cases h0 : c = 0
      · rw [if_pos h0]; exact Or.inl rfl
      · rw [if_neg h0]
        obtain ⟨d', g1⟩ := hu h0
        rw [hρ _ (hne g1)]
        exact Or.inr ⟨_, (h1 _ _ g1).1, rfl⟩
    · rw [ho _ (by omega)]
      exact h3 k (by omega)
  · intro x e hx h0
    by_cases q : x = c
    · subst q
      obtain ⟨d', g1⟩ := hu h0
      rw [rup_at, hρ _ (hne g1)]
      exact (h1 _ _ g1).1
    · rw [setM_ne q] at hx
      rw [hρ _ q, hρ _ (hpne hx h0)]
      exact h4 x e hx h0
  · intro a b e e' ha hb hab
    by_cases qa : a = c
    · by_cases qb : b = c
      · rw [qa, qb]
      · rw [qa, rup_at, hρ _ qb] at hab
        rw [setM_ne qb] at hb
        have := (h1 b e' hb).1
        omega
    · rw [setM_ne qa] at ha
      by_cases qb : b = c
      · rw [qb, rup_at, hρ _ qa] at hab
        have := (h1 a e ha).1
        omega
      · rw [setM_ne qb] at hb
        rw [hρ _ qa, hρ _ qb] at hab
        exact h5 a b e e' ha hb hab
  · intro e he
    by_cases q : (0 : Nat) = c
    · rw [← q, rup_at]; exact hz q.symm
    · rw [setM_ne q] at he
      rw [hρ _ q]; exact h6 e he
theorem MT.share {f : Nat → Int32} {n : Nat} {ρ : Nat → Nat} {M : Mp} (hM : Wf0 M) (h : MT f n ρ M) {c : Nat} {d : Dt} (hc : M c = some d) : ∀ (k x : Nat) (e : Dt), x - c = k → M x = some e → c < x → x < c + wt c → ρ c < ρ x := by
  intro k
  induction k using Nat.strongRecOn with
  | ind k ih =>
    intro x e hk hx h1 h2
    obtain ⟨hvx, -, hux⟩ := hM x e hx
    obtain ⟨hvc, -, -⟩ := hM c d hc
    have hn := nest hvc hvx h1 h2
    obtain ⟨e', g1⟩ := hux (by omega)
    have hp := (ch_pa hvx (by omega)).2.2.2.2
    have ho := h.2.2.2.1 x e hx (by omega)
    rcases Nat.lt_or_ge c (pa x) with q | q
    · have := ih (pa x - c) (by omega) (pa x) e' rfl g1 q (by omega)
      omega
    · have : pa x = c := by omega
      rw [this] at ho; exact ho
/-- a row that goes with what is above it -/
def belowR (M : Mp) (ρ : Nat → Nat) (c j : Nat) : Prop := ∃ x e, M x = some e ∧ ρ x = j ∧ c < x ∧ x < c + wt c
theorem bares_step {k4 : S_Model → Int32 → Option S_Model} {S : S_Model} {r : Int32} {k : Nat} (hk : k < 64) (b : Bool) : F_X5_bares_52 r k4 S (nI k) b = k4 (s_Model_tree S (upd (g_Model_tree S) (7 * k) (if b then -1 else g_Model_tree S (7 * k)))) (nI (k + 1)) := by
  unfold F_X5_bares_52
  cases b
  · rw [b2i_f, if_pos rfl, ix7, og_t (inb_nI (by omega) (by omega)), og_t (inb_nI (by omega) (by omega)), nI_clamp (by omega), nI_1]
    rfl
  · rw [b2i_t, if_neg one_ne0, ix7, og_t (inb_nI (by omega) (by omega)), nI_clamp (by omega), nI_1]
    rfl
theorem bares_loop {n : Nat} {ρ : Nat → Nat} {M : Mp} {f : Nat → Int32} (hM : Wf0 M) (h : MT f n ρ M) {c : Nat} {d : Dt} (hc : M c = some d) : ∀ (q k : Nat) (S : S_Model), ρ c < k → k ≤ n → n - k < q → g_Model_top S = nI n → (∀ j m, j < n → 1 ≤ m → m < 7 → g_Model_tree S (7 * j + m) = f (7 * j + m)) → (∀ j, j < n → j < k → belowR M ρ c j → g_Model_tree S (7 * j) = -1) → (∀ j, j < n → ¬ (j < k ∧ belowR M ρ c j) → g_Model_tree S (7 * j) = f (7 * j)) →
    ∃ g, F_X5_bares_4 (nI (ρ c)) q S (nI k) = some (s_Model_tree S g) ∧ (∀ j m, j < n → 1 ≤ m → m < 7 → g (7 * j + m) = f (7 * j + m)) ∧ (∀ j, j < n → belowR M ρ c j → g (7 * j) = -1) ∧ (∀ j, j < n → ¬ belowR M ρ c j → g (7 * j) = f (7 * j))
  | 0, k, _, _, _, h, _, _, _, _ => absurd h (Nat.not_lt_zero _)
  | q + 1, k, S, h1, h2, hq, ht, g1, g2, g3 => by
    have hn := h.le
    rw [F_X5_bares_4_s, ht]
    by_cases hk : k = n
    · subst hk
      rw [if_pos (nI_le (Nat.le_refl _) (by omega))]
      refine ⟨g_Model_tree S, rfl, g1, fun j h3 h4 => g2 j h3 h3 h4, fun j h3 h4 => g3 j h3 (fun z => h4 z.2)⟩
    · have hkn : k < n := by omega
      have ihr : ∀ b : Bool, (b = true → belowR M ρ c k ∨ f (7 * k) = -1) → (b = false → ¬ belowR M ρ c k) → ∃ g, F_X5_bares_52 (nI (ρ c)) (F_X5_bares_4 (nI (ρ c)) q) S (nI k) b = some (s_Model_tree S g) ∧ (∀ j m, j < n → 1 ≤ m → m < 7 → g (7 * j + m) = f (7 * j + m)) ∧ (∀ j, j < n → belowR M ρ c j → g (7 * j) = -1) ∧ (∀ j, j < n → ¬ belowR M ρ c j → g (7 * j) = f (7 * j)) := by
        intro b hb1 hb2
        rw [bares_step (by omega) b]
        generalize hX : (upd (g_Model_tree S) (7 * k) (if b then -1 else g_Model_tree S (7 * k))) = X
        have hXat : X (7 * k) = (if b then -1 else g_Model_tree S (7 * k)) := by rw [← hX, upd_at]
        have hXne : ∀ i, i ≠ 7 * k → X i = g_Model_tree S i := fun i hi => by rw [← hX, upd_ne hi]
        have := bares_loop hM h hc q (k + 1) (s_Model_tree S X) (by omega) (by omega) (by omega) ht
          (fun j m h3 h4 h5 => by
            show X (7 * j + m) = _
            rw [hXne _ (by omega)]; exact g1 j m h3 h4 h5)
          (fun j h3 h4 h5 => by
            show X (7 * j) = _
            by_cases z : j = k
            · subst z
              rw [hXat]
              cases b with
              | true => rfl
              | false => exact absurd h5 (hb2 rfl)
            · rw [hXne _ (by omega)]; exact g2 j h3 (by omega) h5)
          (fun j h3 h4 => by
            show X (7 * j) = _
            by_cases z : j = k
            · subst z
              rw [hXat]
              cases b with
              | true =>
                rcases hb1 rfl with w | w
                · exact absurd ⟨by omega, w⟩ h4
                · rw [w]; rfl
              | false =>
                show g_Model_tree S (7 * j) = _
                exact g3 j h3 (fun y => by omega)
            · rw [hXne _ (by omega)]; exact g3 j h3 (fun y => h4 ⟨by omega, y.2⟩))
        obtain ⟨g, e1, e2⟩ := this
        exact ⟨g, by rw [e1]; rfl, e2⟩
      rw [if_neg (nI_ge hkn (by omega)), ix7_1, og_t (inb_nI (by omega) (by omega)), nI_clamp (by omega), g1 k 1 hkn (by omega) (by omega)]
      rcases h.2.1 k hkn with hdead | ⟨x, e, hx, hxk⟩
      · -- a row that is gone already
        have hnb : ¬ belowR M ρ c k := by
          rintro ⟨x, e, z1, z2, -⟩
          have := (h.row z1).1
          rw [z2, hdead] at this
          exact isK_m1 (hM x e z1).2.1 this.symm
        by_cases q1 : f (7 * k + 1) = nI (ρ c)
        · rw [if_pos q1]
          exact ihr true (fun _ => Or.inr hdead) (fun z => by cases z)
        · rw [if_neg q1]
          by_cases q2 : f (7 * k + 1) ≤ nI (ρ c)
          · rw [if_pos q2]
            exact ihr false (fun z => by cases z) (fun _ => hnb)
          · rw [if_neg q2]
            rcases h.2.2.1 k hkn with w | ⟨j, w1, w2⟩
            · rw [w] at q2
              exact absurd (by have := nI_pos' (n := ρ c) (by have := h.lt hc; omega); exact Int32.le_trans (by decide) this) q2
            · rw [w2, ix7, og_t (inb_nI (by omega) (by omega)), nI_clamp (by omega)]
              by_cases q3 : g_Model_tree S (7 * j) = -1
              · rw [if_pos q3]
                exact ihr true (fun _ => Or.inr hdead) (fun z => by cases z)
              · rw [if_neg q3]
                exact ihr false (fun z => by cases z) (fun _ => hnb)
      · obtain ⟨hvx, hkx, hux⟩ := hM x e hx
        obtain ⟨hvc, -, -⟩ := hM c d hc
        have hup := (h.row hx).2.1
        have hcl := h.lt hc
        rw [hxk] at hup
        rw [hup]
        by_cases h0 : x = 0
        · subst h0
          have hnb : ¬ belowR M ρ c k := by
            rintro ⟨y, e', z1, z2, z3, z4⟩
            have := h.inj z1 hx (by omega)
            omega
          rw [show upR ρ 0 = -1 from rfl, if_neg (m1_nI (by omega)), if_pos (Int32.le_trans (show (-1 : Int32) ≤ 0 by decide) (nI_pos' (by omega)))]
          exact ihr false (fun z => by cases z) (fun _ => hnb)
        · obtain ⟨e', g4⟩ := hux h0
          have hpl := h.lt g4
          have hord := h.2.2.2.1 x e hx h0
          have hkid := kid_in hvx h0
          rw [upR_up h0]
          by_cases q1 : pa x = c
          · rw [if_pos (by rw [q1])]
            exact ihr true (fun _ => Or.inl ⟨x, e, hx, hxk, by omega, by rw [← q1]; omega⟩) (fun z => by cases z)
          · rw [if_neg (fun z => q1 (h.inj g4 hc (nI_inj (by omega) (by omega) z)))]
            by_cases q2 : c < pa x ∧ pa x < c + wt c
            · have hs := h.share hM hc _ _ _ rfl g4 q2.1 q2.2
              have hnest := nest hvc (hM _ _ g4).1 q2.1 q2.2
              rw [if_neg (nI_ge hs (by omega)), ix7, og_t (inb_nI (by omega) (by omega)), nI_clamp (by omega), if_pos (g2 (ρ (pa x)) hpl (by omega) ⟨pa x, e', g4, rfl, q2.1, q2.2⟩)]
              exact ihr true (fun _ => Or.inl ⟨x, e, hx, hxk, by omega, by omega⟩) (fun z => by cases z)
            · have hnb : ¬ belowR M ρ c k := by
                rintro ⟨y, e2, z1, z2, z3, z4⟩
                have hyx := h.inj z1 hx (by omega)
                subst hyx
                have hnest := nest hvc hvx z3 z4
                exact q2 ⟨by omega, by omega⟩
              have hnb2 : ¬ belowR M ρ c (ρ (pa x)) := by
                rintro ⟨y, e2, z1, z2, z3, z4⟩
                have hyx := h.inj z1 g4 z2
                rw [hyx] at z3 z4
                exact q2 ⟨z3, z4⟩
              by_cases q3 : nI (ρ (pa x)) ≤ nI (ρ c)
              · rw [if_pos q3]
                exact ihr false (fun z => by cases z) (fun _ => hnb)
              · rw [if_neg q3, ix7, og_t (inb_nI (by omega) (by omega)), nI_clamp (by omega), g3 _ hpl (fun z => hnb2 z.2), (h.row g4).1, if_neg (isK_m1 (hM _ _ g4).2.1)]
                exact ihr false (fun z => by cases z) (fun _ => hnb)
theorem bares_ok {S : S_Model} {n : Nat} {ρ : Nat → Nat} {M : Mp} (hM : Wf0 M) (h : MT (g_Model_tree S) n ρ M) (ht : g_Model_top S = nI n) {c : Nat} {d : Dt} (hc : M c = some d) : ∃ g, F_X5_bares S (nI (ρ c)) = some (s_Model_tree S g) ∧ MT g n ρ (cutM M c) := by
  have hcl := h.lt hc
  have hn := h.le
  obtain ⟨g, e1, e2, e3, e4⟩ := bares_loop hM h hc 5000 (ρ c + 1) S (by omega) (by omega) (by omega) ht (fun _ _ _ _ _ => rfl) (fun j h1 h2 h3 => by
    obtain ⟨x, e, z1, z2, z3, z4⟩ := h3
    have := h.share hM hc _ _ _ rfl z1 z3 z4
    omega) (fun _ _ _ => rfl)
  refine ⟨g, ?_, ?_, ?_, ?_, ?_, ?_, ?_, hn⟩
  · unfold F_X5_bares
    rw [nI_1]; exact e1
  · intro x e hx
    obtain ⟨hx2, hout⟩ := cutM_some hx
    have hl := h.lt hx2
    have hr := h.row hx2
    have hnb : ¬ belowR M ρ c (ρ x) := by
      rintro ⟨y, e2, z1, z2, z3, z4⟩
      have := h.inj z1 hx2 z2
      rw [this] at z3 z4
      exact hout ⟨z3, z4⟩
    refine ⟨hl, ?_⟩
    unfold trow at hr ⊢
    rw [e4 _ hl hnb, e2 _ 1 hl (by omega) (by omega), e2 _ 2 hl (by omega) (by omega), e2 _ 3 hl (by omega) (by omega), e2 _ 4 hl (by omega) (by omega), e2 _ 5 hl (by omega) (by omega), e2 _ 6 hl (by omega) (by omega)]
    exact hr
  · intro k hk
    by_cases q : belowR M ρ c k
    · exact Or.inl (e3 k hk q)
    · rcases h.2.1 k hk with w | ⟨x, e, w1, w2⟩
      · exact Or.inl (by rw [e4 k hk q]; exact w)
      · refine Or.inr ⟨x, e, ?_, w2⟩
        rw [cutM_out (fun z => q ⟨x, e, w1, w2, z.1, z.2⟩)]
        exact w1
  · intro k hk
    rw [e2 k 1 hk (by omega) (by omega)]
    exact h.2.2.1 k hk
  · intro x e hx h0
    exact h.2.2.2.1 x e (cutM_some hx).1 h0
  · intro a b d1 d2 ha hb
    exact h.2.2.2.2.1 a b d1 d2 (cutM_some ha).1 (cutM_some hb).1
  · intro e he
    exact h.2.2.2.2.2.1 e (cutM_some he).1
