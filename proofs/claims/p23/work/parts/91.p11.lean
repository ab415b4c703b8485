/-! ===== pure: what learning brings, counted ===== -/
def cb (p : Nat → Bool) : Nat → Nat
  | 0 => 0
  | x + 1 => cb p x + (if p x then 1 else 0)
theorem cb_s (p : Nat → Bool) (x : Nat) : cb p (x + 1) = cb p x + (if p x then 1 else 0) := rfl
theorem cb_gap {p : Nat → Bool} {a : Nat} : ∀ {b : Nat}, a ≤ b → (∀ y, a ≤ y → y < b → p y = false) → cb p b = cb p a
  | 0, h, _ => by have : a = 0 := by omega
                  subst this; rfl
  | b + 1, h, hn => by
    rcases Nat.lt_or_ge a (b + 1) with q | q
    · rw [cb_s, hn b (by omega) (by omega)]
      exact cb_gap (by omega) (fun y h1 h2 => hn y h1 (by omega))
    · have : a = b + 1 := by omega
      subst this; rfl
theorem cb_le {p : Nat → Bool} {M : Mp} (h : ∀ y, p y = true → (M y).isSome = true) : ∀ x, cb p x ≤ ix M x
  | 0 => Nat.le_refl _
  | x + 1 => by
    have h1 := cb_le h x
    have h2 := h x
    rw [cb_s, ix_s]
    unfold has1
    cases hp : p x
    · simp; omega
    · rw [h2 hp]; simp; omega
def pS (B M : Mp) (c : Nat) : Bool := (M c).isSome && (B c).isSome
def pG (B M : Mp) (c : Nat) : Bool := (B c).isSome && (M c).isNone
def pC (B M : Mp) (c : Nat) : Bool := match M c, B c with | some d, some e => !decide (d.1 = e.1) | _, _ => false
def pA (B M : Mp) (c : Nat) : Bool := match M c, B c with | some d, some e => !decide (d.1 = e.1) && decide (d.1 = 7) | _, _ => false
theorem pS_0 {B M : Mp} {c : Nat} (h : M c = none) : pS B M c = false := by unfold pS; rw [h]; rfl
theorem pC_0 {B M : Mp} {c : Nat} (h : M c = none) : pC B M c = false := by unfold pC; rw [h]
theorem pA_0 {B M : Mp} {c : Nat} (h : M c = none) : pA B M c = false := by unfold pA; rw [h]
theorem pG_0 {B M : Mp} {c : Nat} (h : B c = none) : pG B M c = false := by unfold pG; rw [h]; rfl
theorem pC_0b {B M : Mp} {c : Nat} (h : B c = none) : pC B M c = false := by unfold pC; rw [h]; cases M c <;> rfl
theorem pA_0b {B M : Mp} {c : Nat} (h : B c = none) : pA B M c = false := by unfold pA; rw [h]; cases M c <;> rfl
theorem cb_GS (B M : Mp) : ∀ x, cb (pG B M) x + cb (pS B M) x = ix B x
  | 0 => rfl
  | x + 1 => by
    have := cb_GS B M x
    have hG : pG B M x = ((B x).isSome && (M x).isNone) := rfl
    have hS : pS B M x = ((M x).isSome && (B x).isSome) := rfl
    rw [cb_s, cb_s, ix_s, hG, hS]
    unfold has1
    cases (B x).isSome <;> cases hM : M x <;> simp <;> omega
theorem b2i_nI (b : Bool) : b2i b = nI (if b then 1 else 0) := by cases b <;> rfl
/-- the class counts: stay, changed, changed to any -/
theorem outlook_loop {S : S_LS} {k : Bool} {B M : Mp} {v2 : Int32} (hM : Wf0 M) (hW : TR (g_LS_work S) M 10000) (hB : TR (g_State_tree k (g_LS_now S)) B 10000) (hBw : Wf0 B) (hO : ∀ x e, M x = some e → tc (g_LS_work S) (ix M x) 7 = rn B x) : ∀ (f a : Nat), a ≤ 10000 → ix M 10000 - ix M a < f → F_X4_outlookNumber_42 v2 S k f (nI (cb (pS B M) a)) (nI (cb (pC B M) a)) (nI (cb (pA B M) a)) (nI (ix M a)) = (if v2 = 1 then some (nI (cb (pC B M) 10000)) else if v2 = 2 then some (nI (cb (pA B M) 10000)) else some (nI (cb (pG B M) 10000)))
  | 0, a, _, h => absurd h (Nat.not_lt_zero _)
  | f + 1, a, h1, h2 => by
    have hle := hW.le
    have hm := @ix_mono M a 10000 h1
    rw [F_X4_outlookNumber_42_s, hW.size]
    by_cases q : ix M a < ix M 10000
    · obtain ⟨x, e, g1, g2, g3, g4, g5⟩ := ix_next q
      have hrow := hW.row g3 g2
      have hix : ix M (x + 1) = ix M a + 1 := by rw [ix_some g3, g4]
      have ihr := outlook_loop (v2 := v2) hM hW hB hBw hO f (x + 1) (by omega) (by omega)
      rw [hix, cb_s, cb_s, cb_s, cb_gap g1 (fun y y1 y2 => pS_0 (g5 y y1 y2)), cb_gap g1 (fun y y1 y2 => pC_0 (g5 y y1 y2)), cb_gap g1 (fun y y1 y2 => pA_0 (g5 y y1 y2))] at ihr
      rw [if_neg (nI_ge q (by omega)), ← g4, ob1_s (hW.g7 g3 g2), hO x e g3, ob1_s (hW.g0 g3 g2), hrow.1, g4, nI_1]
      cases hb : B x with
      | none =>
        have e1 : pS B M x = false := by unfold pS; rw [hb]; cases M x <;> rfl
        rw [e1, pC_0b hb, pA_0b hb] at ihr
        rw [rn_none hb, if_pos rfl]
        exact ihr
      | some e0 =>
        have hbl := ix_lt hb (hBw.lt hb)
        have hb64 := hB.le
        have e1 : pS B M x = true := by unfold pS; rw [hb, g3]; rfl
        have e2 : pC B M x = !decide (e.1 = e0.1) := by unfold pC; rw [hb, g3]
        have e3 : pA B M x = (!decide (e.1 = e0.1) && decide (e.1 = 7)) := by unfold pA; rw [hb, g3]
        rw [e1, e2, e3] at ihr
        rw [rn_some hb, if_neg (nI_m1 (by omega)), ob1_s (hB.g0 hb (hBw.lt hb)), (hB.row hb (hBw.lt hb)).1, nI_1]
        by_cases z : e.1 = e0.1
        · rw [decide_eq_true z] at ihr
          rw [if_pos z]
          unfold F_X4_outlookNumber_119
          rw [b2i_f, if_pos rfl, Int32.add_zero, Int32.add_zero, nI_1]
          exact ihr
        · rw [decide_eq_false z] at ihr
          rw [if_neg z]
          unfold F_X4_outlookNumber_119
          rw [b2i_t, if_neg one_ne0, nI_1, nI_1, nI_1, Int32.add_zero]
          by_cases z7 : e.1 = 7
          · rw [decide_eq_true z7] at ihr
            rw [if_pos z7]
            exact ihr
          · rw [decide_eq_false z7] at ihr
            rw [if_neg z7]
            exact ihr
    · have hend : ∀ y, a ≤ y → y < 10000 → M y = none := by
        intro y y1 y2
        cases hy : M y with
        | none => rfl
        | some e =>
          have := ix_lt hy y2
          have := @ix_mono M a y y1
          omega
      have c1 : cb (pC B M) a = cb (pC B M) 10000 := (cb_gap h1 (fun y y1 y2 => pC_0 (hend y y1 y2))).symm
      have c2 : cb (pA B M) a = cb (pA B M) 10000 := (cb_gap h1 (fun y y1 y2 => pA_0 (hend y y1 y2))).symm
      have c3 : cb (pS B M) a = cb (pS B M) 10000 := (cb_gap h1 (fun y y1 y2 => pS_0 (hend y y1 y2))).symm
      have c4 := cb_GS B M 10000
      rw [if_pos (nI_le (by omega) (by omega)), c1, c2, c3, hB.size, nI_sub (by omega), show ix B 10000 - cb (pS B M) 10000 = cb (pG B M) 10000 by omega]
/-- the class asks whether any comes -/
theorem brings_loop {S : S_LS} {k : Bool} {B M : Mp} (hM : Wf0 M) (hW : TR (g_LS_work S) M 10000) (hB : TR (g_State_tree k (g_LS_now S)) B 10000) (hBw : Wf0 B) (hO : ∀ x e, M x = some e → tc (g_LS_work S) (ix M x) 7 = rn B x) : ∀ (f a : Nat), a ≤ 10000 → ix M 10000 - ix M a < f → ∃ r, F_X4_bringsAny_2 S k f (nI (ix M a)) = some r ∧ (r = true ↔ ∃ c d, a ≤ c ∧ M c = some d ∧ d.1 = 7 ∧ ∀ d0, B c = some d0 → ¬ d0.1 = 7)
  | 0, a, _, h => absurd h (Nat.not_lt_zero _)
  | f + 1, a, h1, h2 => by
    have hle := hW.le
    have hm := @ix_mono M a 10000 h1
    rw [F_X4_bringsAny_2_s, hW.size]
    by_cases q : ix M a < ix M 10000
    · obtain ⟨x, e, g1, g2, g3, g4, g5⟩ := ix_next q
      have hrow := hW.row g3 g2
      have hix : ix M (x + 1) = ix M a + 1 := by rw [ix_some g3, g4]
      obtain ⟨r, r1, r2⟩ := brings_loop hM hW hB hBw hO f (x + 1) (by omega) (by omega)
      rw [hix] at r1
      have next : (¬ (e.1 = 7 ∧ ∀ d0, B x = some d0 → ¬ d0.1 = 7)) → (r = true ↔ ∃ c d, a ≤ c ∧ M c = some d ∧ d.1 = 7 ∧ ∀ d0, B c = some d0 → ¬ d0.1 = 7) := by
        intro hno
        rw [r2]
        constructor
        · rintro ⟨c, d, w1, w2⟩
          exact ⟨c, d, by omega, w2⟩
        · rintro ⟨c, d, w1, w2, w3, w4⟩
          refine ⟨c, d, ?_, w2, w3, w4⟩
          rcases Nat.lt_or_ge c (x + 1) with z | z
          · exfalso
            rcases Nat.lt_or_ge c x with y | y
            · rw [g5 c w1 y] at w2; cases w2
            · have : c = x := by omega
              subst this
              rw [g3] at w2
              cases w2
              exact hno ⟨w3, w4⟩
          · exact z
      rw [if_neg (nI_ge q (by omega)), ← g4, ob1_s (hW.g7 g3 g2), hO x e g3, ob1_s (hW.g0 g3 g2), hrow.1, g4, nI_1]
      by_cases z7 : e.1 = 7
      · rw [if_pos z7]
        cases hb : B x with
        | none =>
          rw [rn_none hb, if_pos rfl]
          exact ⟨true, rfl, fun _ => ⟨x, e, g1, g3, z7, fun d0 hd0 => by rw [hb] at hd0; cases hd0⟩, fun _ => rfl⟩
        | some e0 =>
          have hbl := ix_lt hb (hBw.lt hb)
          have hb64 := hB.le
          rw [rn_some hb, if_neg (nI_m1 (by omega)), ob1_s (hB.g0 hb (hBw.lt hb)), (hB.row hb (hBw.lt hb)).1]
          by_cases z : e0.1 = 7
          · rw [if_pos z]
            exact ⟨r, r1, next (fun y => y.2 e0 hb z)⟩
          · rw [if_neg z]
            exact ⟨true, rfl, fun _ => ⟨x, e, g1, g3, z7, fun d0 hd0 => by rw [hb] at hd0; cases hd0; exact z⟩, fun _ => rfl⟩
      · rw [if_neg z7]
        exact ⟨r, r1, next (fun y => z7 y.1)⟩
    · rw [if_pos (nI_le (by omega) (by omega))]
      refine ⟨false, rfl, fun z => (by cases z), ?_⟩
      rintro ⟨c, d, w1, w2, -⟩
      have := ix_lt w2 (hM.lt w2)
      have := @ix_mono M a c w1
      omega
theorem brings_ok {S : S_LS} {k : Bool} {B M : Mp} (hM : Wf0 M) (hW : TR (g_LS_work S) M 10000) (hB : TR (g_State_tree k (g_LS_now S)) B 10000) (hBw : Wf0 B) (hO : ∀ x e, M x = some e → tc (g_LS_work S) (ix M x) 7 = rn B x) : ∃ r, F_X4_bringsAny S k = some r ∧ (r = true ↔ BA B M) := by
  obtain ⟨r, r1, r2⟩ := brings_loop hM hW hB hBw hO 5000 0 (by omega) (by have := hW.le; omega)
  refine ⟨r, r1, r2.trans ⟨?_, ?_⟩⟩
  · rintro ⟨c, d, -, h⟩; exact ⟨c, d, h⟩
  · rintro ⟨c, d, h⟩; exact ⟨c, d, Nat.zero_le _, h⟩
/-- the reference counts -/
theorem learned_loop {S : S_Model} {s n : Nat} {ρ : Nat → Nat} {B M : Mp} (hBw : Wf B) (hN : NR (g_Model_now S) s B) (hs : s ≤ 1) (hM : Wf0 M) (hT : MT (g_Model_tree S) n ρ M) (hn : ix B 10000 ≤ n) (hρ : ∀ c d, M c = some d → (∀ d0, B c = some d0 → ρ c = ix B c) ∧ (B c = none → ix B 10000 ≤ ρ c)) (w : Nat) (p : Nat → Bool) (hp : (w = 1 ∧ p = pC B M) ∨ (w = 2 ∧ p = pA B M) ∨ (w = 3 ∧ p = pG B M)) : ∀ (f a : Nat), a ≤ 10000 → ix B 10000 - ix B a < f → F_X5_learnedOf_52 (nI s) (nI w) f S (nI (cb p a)) (nI (ix B a)) = some (nI (cb p 10000), S)
  | 0, a, _, h => absurd h (Nat.not_lt_zero _)
  | f + 1, a, h1, h2 => by
    have hle := hN.2.1
    have hm := @ix_mono B a 10000 h1
    have hp0 : ∀ y, B y = none → p y = false := by
      intro y hy
      rcases hp with ⟨-, q⟩ | ⟨-, q⟩ | ⟨-, q⟩
      · rw [q]; exact pC_0b hy
      · rw [q]; exact pA_0b hy
      · rw [q]; exact pG_0 hy
    rw [F_X5_learnedOf_52_s, show (3 : Int32) = nI 3 from rfl, nI_add, og_t (inb_nI (n := 425) (i := 3 + s) (by omega) (by omega)), nI_clamp (n := 3 + s) (by omega), hN.1]
    by_cases q : ix B a < ix B 10000
    · obtain ⟨x, e, g1, g2, g3, g4, g5⟩ := ix_next q
      have hrow := hN.row g3
      have hix : ix B (x + 1) = ix B a + 1 := by rw [ix_some g3, g4]
      have ihr := learned_loop hBw hN hs hM hT hn hρ w p hp f (x + 1) (by omega) (by omega)
      rw [hix, cb_s, cb_gap g1 (fun y y1 y2 => hp0 y (g5 y y1 y2))] at ihr
      have h101 : ∀ x5 t0, ((w = 1 ∧ p x = t0) ∨ (w = 2 ∧ p x = (t0 && decide (x5 = 7))) ∨ (w = 3 ∧ p x = decide (x5 = -1))) → F_X5_learnedOf_101 (nI s) (nI w) (F_X5_learnedOf_52 (nI s) (nI w) f) S (nI (cb p a)) (nI (ix B a)) x5 t0 = some (nI (cb p 10000), S) := by
        intro x5 t0 ht
        unfold F_X5_learnedOf_101
        rw [Int32.add_zero, nI_1, nI_1]
        rcases ht with ⟨w1, ht⟩ | ⟨w1, ht⟩ | ⟨w1, ht⟩
        · subst w1
          rw [if_pos (by decide)]
          cases t0 with
          | false => rw [ht] at ihr; rw [b2i_f, if_pos rfl]; exact ihr
          | true => rw [ht] at ihr; rw [b2i_t, if_neg one_ne0]; exact ihr
        · subst w1
          rw [if_neg (by decide), if_pos (by decide)]
          cases t0 with
          | false => rw [ht] at ihr; rw [b2i_f, if_pos rfl]; exact ihr
          | true =>
            rw [b2i_t, if_neg one_ne0]
            by_cases z : x5 = 7
            · rw [ht, decide_eq_true z] at ihr; rw [if_pos z]; exact ihr
            · rw [ht, decide_eq_false z] at ihr; rw [if_neg z]; exact ihr
        · subst w1
          rw [if_neg (by decide), if_neg (by decide)]
          by_cases z : x5 = -1
          · rw [ht, decide_eq_true z] at ihr; rw [if_pos z]; exact ihr
          · rw [ht, decide_eq_false z] at ihr; rw [if_neg z]; exact ihr
      rw [if_neg (nI_ge q (by omega)), ix7, og_t (inb_nI (by omega) (by omega)), nI_clamp (n := 7 * ix B a) (by omega)]
      have live : g_Model_tree S (7 * ix B a) = -1 ↔ M x = none := by
        constructor
        · intro hd
          cases hmx : M x with
          | none => rfl
          | some d =>
            exfalso
            have h3 := (hT.row hmx).1
            rw [(hρ x d hmx).1 e g3, g4, hd] at h3
            exact isK_m1 (hM x d hmx).2.1 h3.symm
        · intro hmx
          rcases hT.2.1 (ix B a) (by omega) with z | ⟨y, d, z1, z2⟩
          · exact z
          · exfalso
            cases hby : B y with
            | none => have := (hρ y d z1).2 hby; omega
            | some d0 =>
              rw [(hρ y d z1).1 d0 hby, ← g4] at z2
              rw [ix_inj hby g3 z2, hmx] at z1; cases z1
      cases hmx : M x with
      | none =>
        have hd := live.mpr hmx
        rw [if_pos hd]
        apply h101
        rcases hp with ⟨w1, hq⟩ | ⟨w1, hq⟩ | ⟨w1, hq⟩
        · exact Or.inl ⟨w1, by rw [hq]; exact pC_0 hmx⟩
        · exact Or.inr (Or.inl ⟨w1, by rw [hq]; exact pA_0 hmx⟩)
        · exact Or.inr (Or.inr ⟨w1, by rw [hq, hd]; unfold pG; rw [g3, hmx]; rfl⟩)
      | some d =>
        have hnd : ¬ g_Model_tree S (7 * ix B a) = -1 := fun z => by rw [live.mp z] at hmx; cases hmx
        have hkd : g_Model_tree S (7 * ix B a) = d.1 := by
          have h3 := (hT.row hmx).1
          rw [(hρ x d hmx).1 e g3, g4] at h3
          exact h3
        rw [if_neg hnd, ← g4, ob1_s (hN.a0 hBw hs g3), hrow.1, g4, hkd]
        by_cases z : d.1 = e.1
        · rw [if_pos z]
          apply h101
          rcases hp with ⟨w1, hq⟩ | ⟨w1, hq⟩ | ⟨w1, hq⟩
          · exact Or.inl ⟨w1, by rw [hq]; unfold pC; rw [g3, hmx]; show (!decide (d.1 = e.1)) = false; rw [decide_eq_true z]; rfl⟩
          · exact Or.inr (Or.inl ⟨w1, by rw [hq]; unfold pA; rw [g3, hmx]; show (!decide (d.1 = e.1) && _) = _; rw [decide_eq_true z]; rfl⟩)
          · exact Or.inr (Or.inr ⟨w1, by rw [hq, ← hkd, decide_eq_false hnd]; unfold pG; rw [hmx]; cases (B x).isSome <;> rfl⟩)
        · rw [if_neg z]
          apply h101
          rcases hp with ⟨w1, hq⟩ | ⟨w1, hq⟩ | ⟨w1, hq⟩
          · exact Or.inl ⟨w1, by rw [hq]; unfold pC; rw [g3, hmx]; show (!decide (d.1 = e.1)) = true; rw [decide_eq_false z]; rfl⟩
          · exact Or.inr (Or.inl ⟨w1, by rw [hq]; unfold pA; rw [g3, hmx]; show (!decide (d.1 = e.1) && _) = _; rw [decide_eq_false z]; rfl⟩)
          · exact Or.inr (Or.inr ⟨w1, by rw [hq, ← hkd, decide_eq_false hnd]; unfold pG; rw [hmx]; cases (B x).isSome <;> rfl⟩)
    · rw [if_pos (nI_le (by omega) (by omega))]
      rw [cb_gap h1 (fun y y1 y2 => hp0 y ?_)]
      cases hy : B y with
      | none => rfl
      | some e =>
        have := ix_lt hy y2
        have := @ix_mono B a y y1
        omega
