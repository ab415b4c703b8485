/-! ===== pure: the other shape laid in, node by node ===== -/
def Bx (B : Mp) (x : Nat) : Mp := fun c => if c < x then B c else none
theorem Bx_lt {B : Mp} {x c : Nat} (h : c < x) : Bx B x c = B c := if_pos h
theorem Bx_ge {B : Mp} {x c : Nat} (h : x ≤ c) : Bx B x c = none := if_neg (by omega)
theorem Bx_wf {B : Mp} (hB : Wf B) (x : Nat) : Wf (Bx B x) := by
  intro c d hc
  have hcx : c < x := by
    rcases Nat.lt_or_ge c x with q | q
    · exact q
    · rw [Bx_ge q] at hc; cases hc
  rw [Bx_lt hcx] at hc
  obtain ⟨h1, h2, h3, h4⟩ := hB c d hc
  refine ⟨h1, h2, h3, fun h0 => ?_⟩
  obtain ⟨d', g1, g2⟩ := h4 h0
  exact ⟨d', by rw [Bx_lt (by have := (ch_pa h1 h0).2.2.2.2; omega)]; exact g1, g2⟩
theorem Bx_same {B : Mp} {x : Nat} (h : B x = none) : Bx B (x + 1) = Bx B x := by
  funext c
  rcases Nat.lt_trichotomy c x with q | q | q
  · rw [Bx_lt q, Bx_lt (by omega)]
  · rw [q, Bx_ge (Nat.le_refl _), Bx_lt (by omega), h]
  · rw [Bx_ge (by omega), Bx_ge (by omega)]
theorem Bx_gap {B : Mp} {a : Nat} : ∀ {b : Nat}, a ≤ b → (∀ y, a ≤ y → y < b → B y = none) → Bx B b = Bx B a
  | 0, h, _ => by have : a = 0 := by omega
                  subst this; rfl
  | b + 1, h, hn => by
    rcases Nat.lt_or_ge a (b + 1) with q | q
    · rw [Bx_same (hn b (by omega) (by omega))]
      exact Bx_gap (by omega) (fun y h1 h2 => hn y h1 (by omega))
    · have : a = b + 1 := by omega
      subst this; rfl
theorem Bx_all {B : Mp} (hB : Wf B) : Bx B 10000 = B := by
  funext c
  rcases Nat.lt_or_ge c 10000 with q | q
  · exact Bx_lt q
  · rw [Bx_ge q]
    cases h : B c with
    | none => rfl
    | some d => have := hB.lt h; omega
theorem Bx_ne {B : Mp} {x c : Nat} (h : c ≠ x) : Bx B (x + 1) c = Bx B x c := by
  rcases Nat.lt_or_ge c x with q | q
  · rw [Bx_lt q, Bx_lt (by omega)]
  · rw [Bx_ge q, Bx_ge (by omega)]
theorem jm_uniq {A B N : Mp} {a : Int32} (hA : Wf A) (hB : Wf B) (h0 : N 0 = jd (A 0) (B 0) a) (hs : ∀ c, okc c → c ≠ 0 → N c = jnx (N (pa c)) (jd (A c) (B c) a)) (hn : ∀ c, ¬ okc c → N c = none) : N = jm A B a := by
  funext c
  induction c using Nat.strongRecOn with
  | ind c ih =>
    by_cases hv : okc c
    · by_cases q : c = 0
      · rw [q, h0, jm_0]
      · rw [hs c hv q, jm_s hv q, ih (pa c) (ch_pa hv q).2.2.2.2]
    · rw [hn c hv]
      cases h : jm A B a c with
      | none => rfl
      | some d => exact absurd (jm_okc hA hB h) hv
theorem jm_dead {A B : Mp} {a : Int32} (hA : Wf A) (hB : Wf B) {x : Nat} (hv : okc x) (h0 : x ≠ 0) (hd : ∀ d', jm A (Bx B x) a (pa x) = some d' → d'.1 = 7) : jm A (Bx B (x + 1)) a = jm A (Bx B x) a := by
  refine (jm_uniq hA (Bx_wf hB (x + 1)) ?_ ?_ ?_).symm
  · rw [jm_0, Bx_ne (by omega)]
  · intro c hc hc0
    rw [jm_s hc hc0]
    by_cases q : c = x
    · rw [q]
      cases hp : jm A (Bx B x) a (pa x) with
      | none => rw [jnx_none, jnx_none]
      | some d' => rw [jnx_7 (hd d' hp), jnx_7 (hd d' hp)]
    · rw [Bx_ne q]
  · intro c hc
    cases h : jm A (Bx B x) a c with
    | none => rfl
    | some d => exact absurd (jm_okc hA (Bx_wf hB x) h) hc
theorem jd_own {d : Dt} {a : Int32} : (jdc (some d) none a).1 = d.1 := jk_0 d.1
theorem jm_live {A B : Mp} {a : Int32} (hA : Wf A) (hB : Wf B) {x : Nat} {e : Dt} (hx : B x = some e) (hp : x ≠ 0 → ∃ d', jm A (Bx B x) a (pa x) = some d' ∧ ¬ d'.1 = 7) : jm A (Bx B (x + 1)) a = shM (jm A (Bx B x) a) x (jdc (A x) (some e) a) := by
  have hv := hB.vd hx
  have hek := (hB x e hx).2.1
  have hJx : jm A (Bx B x) a x = jd (A x) none a := by
    by_cases h0 : x = 0
    · subst h0
      rw [jm_0, Bx_ge (Nat.le_refl 0)]
    · obtain ⟨d', g1, g2⟩ := hp h0
      rw [jm_of hv h0 g1 g2, Bx_ge (Nat.le_refl x)]
  have hJok : ∀ c, ¬ okc c → jm A (Bx B x) a c = none := fun c hc => by
    cases h : jm A (Bx B x) a c with
    | none => rfl
    | some d => exact absurd (jm_okc hA (Bx_wf hB x) h) hc
  refine (jm_uniq hA (Bx_wf hB (x + 1)) ?_ ?_ ?_).symm
  · by_cases h0 : x = 0
    · subst h0
      rw [shM_at, Bx_lt (by omega), hx]
      exact (jd_some (Or.inr rfl)).symm
    · rw [shM_lt (by omega), jm_0, Bx_lt (by omega), Bx_lt (by omega)]
  · intro c hc hc0
    obtain ⟨p1, p2, p3, p4, p5⟩ := ch_pa hc hc0
    have hkid := kid_in hc hc0
    by_cases q : c = x
    · subst q
      obtain ⟨d', g1, g2⟩ := hp hc0
      rw [shM_at, shM_lt p5, g1, Bx_lt (by omega), hx]
      rw [jnx_some g2]
      exact (jd_some (Or.inr rfl)).symm
    · rw [Bx_ne q]
      by_cases w : pa c = x
      · have hxc : x < c := by omega
        have hin : c < x + wt x := by rw [← w]; exact hkid.2.1
        rw [w, shM_at]
        by_cases h7 : (jdc (A x) (some e) a).1 = 7
        · rw [jnx_7 h7]
          unfold shM
          rw [if_pos h7]
          exact cutM_in hxc hin
        · rw [jnx_some h7]
          have hN : shM (jm A (Bx B x) a) x (jdc (A x) (some e) a) c = jm A (Bx B x) a c := by
            unfold shM
            rw [if_neg h7, setM_ne q]
          rw [hN, jm_s hc hc0, w, hJx]
          cases hAx : A x with
          | none =>
            rw [jd_none]
            have hAc : A c = none := by
              cases h : A c with
              | none => rfl
              | some d2 =>
                exfalso
                obtain ⟨d', g1, -⟩ := hA.up h hc0
                rw [w, hAx] at g1; cases g1
            rw [hAc, Bx_ge (by omega), jd_none, jnx_none]
          | some d =>
            rw [jd_some (Or.inl rfl)]
            exact jnx_some (fun z => h7 (by
              rw [jd_own] at z
              rw [hAx]
              show jk d.1 e.1 = 7
              rw [z]; exact jk_7 hek))
      · by_cases hin : x < c ∧ c < x + wt x
        · have hnest := nest hv hc hin.1 hin.2
          by_cases h7 : (jdc (A x) (some e) a).1 = 7
          · have e1 : shM (jm A (Bx B x) a) x (jdc (A x) (some e) a) c = none := by
              unfold shM
              rw [if_pos h7]
              exact cutM_in hin.1 hin.2
            have e2 : shM (jm A (Bx B x) a) x (jdc (A x) (some e) a) (pa c) = none := by
              unfold shM
              rw [if_pos h7]
              exact cutM_in (by omega) (by omega)
            rw [e1, e2, jnx_none]
          · have e1 : ∀ y, y ≠ x → shM (jm A (Bx B x) a) x (jdc (A x) (some e) a) y = jm A (Bx B x) a y := fun y hy => by
              unfold shM
              rw [if_neg h7, setM_ne hy]
            rw [e1 c q, e1 _ w, jm_s hc hc0]
        · rw [shM_out q hin, shM_out w (fun z => hin ⟨by omega, by have := (nest hv p3 z.1 z.2).2.1; omega⟩), jm_s hc hc0]
  · intro c hc
    have q : c ≠ x := fun z => hc (by rw [z]; exact hv)
    cases h : shM (jm A (Bx B x) a) x (jdc (A x) (some e) a) c with
    | none => rfl
    | some d =>
      have := shM_some h q
      rw [hJok c hc] at this; cases this
/-! the numbers of a joined node, as the reference comes to them -/
theorem mark_or : ∀ i, i < 2 → ∀ j, j < 2 → (nI i ||| nI j) = (if nI i < nI j then nI j else nI i) := by decide +kernel
theorem mark_or' {p q : Int32} (hp : p = 0 ∨ p = 1) (hq : q = 0 ∨ q = 1) : (p ||| q) = (if p < q then q else p) := by
  rcases hp with h | h <;> rcases hq with g | g <;> subst h <;> subst g
  · exact mark_or 0 (by omega) 0 (by omega)
  · exact mark_or 0 (by omega) 1 (by omega)
  · exact mark_or 1 (by omega) 0 (by omega)
  · exact mark_or 1 (by omega) 1 (by omega)
theorem jk_0l {b : Int32} : jk 0 b = b := by
  unfold jk
  by_cases h : (0 : Int32) = b
  · rw [if_pos h]; exact h
  · rw [if_neg h]
    by_cases g : b = 0
    · exact absurd g.symm h
    · rw [if_neg g, if_pos rfl]
/-- a node's numbers when another one is added -/
def adn (d e : Dt) : Dt := (d.1, d.2.1 + e.2.1, d.2.2.1 ||| e.2.2.1, d.2.2.2.1 + e.2.2.2.1, d.2.2.2.2)
theorem join_both {d e : Dt} {a : Int32} (hd : d.2.2.1 = 0 ∨ d.2.2.1 = 1) (he : e.2.2.1 = 0 ∨ e.2.2.1 = 1) : wd (adn d e) (jk d.1 e.1) (a + e.2.2.2.2) = jdc (some d) (some e) a := by
  have hm := mark_or' hd he
  unfold wd adn jdc
  by_cases q : jk d.1 e.1 = d.1
  · rw [if_pos (show jk d.1 e.1 = (d.1, d.2.1 + e.2.1, d.2.2.1 ||| e.2.2.1, d.2.2.2.1 + e.2.2.2.1, d.2.2.2.2).1 from q), hm]
    show _ = (jk d.1 e.1, d.2.1 + e.2.1, (if d.2.2.1 < e.2.2.1 then e.2.2.1 else d.2.2.1), d.2.2.2.1 + e.2.2.2.1, (if (some d).isSome = true ∧ jk d.1 e.1 = d.1 then d.2.2.2.2 else a + e.2.2.2.2))
    rw [if_pos (show (some d).isSome = true ∧ jk d.1 e.1 = d.1 from ⟨rfl, q⟩), q]
  · rw [if_neg (show ¬ jk d.1 e.1 = (d.1, d.2.1 + e.2.1, d.2.2.1 ||| e.2.2.1, d.2.2.2.1 + e.2.2.2.1, d.2.2.2.2).1 from q), hm]
    show _ = (jk d.1 e.1, d.2.1 + e.2.1, (if d.2.2.1 < e.2.2.1 then e.2.2.1 else d.2.2.1), d.2.2.2.1 + e.2.2.2.1, (if (some d).isSome = true ∧ jk d.1 e.1 = d.1 then d.2.2.2.2 else a + e.2.2.2.2))
    rw [if_neg (show ¬ ((some d).isSome = true ∧ jk d.1 e.1 = d.1) from fun z => q z.2)]
theorem join_new {e : Dt} {a : Int32} (he : e.2.2.1 = 0 ∨ e.2.2.1 = 1) : wd (adn (e.1, 0, 0, 0, a + e.2.2.2.2) e) (jk e.1 e.1) (a + e.2.2.2.2) = jdc none (some e) a := by
  have hm := mark_or' (p := 0) (Or.inl rfl) he
  unfold wd
  rw [if_pos (show jk e.1 e.1 = (adn (e.1, 0, 0, 0, a + e.2.2.2.2) e).1 from jk_self _)]
  unfold adn jdc
  show (e.1, (0 : Int32) + e.2.1, (0 : Int32) ||| e.2.2.1, (0 : Int32) + e.2.2.2.1, a + e.2.2.2.2) = (jk 0 e.1, (0 : Int32) + e.2.1, (if (0 : Int32) < e.2.2.1 then e.2.2.1 else 0), (0 : Int32) + e.2.2.2.1, (if (none : Option Dt).isSome = true ∧ jk 0 e.1 = 0 then (0 : Int32) else a + e.2.2.2.2))
  rw [hm, jk_0l, if_neg (show ¬ ((none : Option Dt).isSome = true ∧ e.1 = 0) from fun z => by cases z.1)]
theorem join_own {d : Dt} {a : Int32} (hd : d.2.2.1 = 0 ∨ d.2.2.1 = 1) : jdc (some d) none a = d := by
  unfold jdc
  show (jk d.1 0, d.2.1 + 0, (if d.2.2.1 < 0 then (0 : Int32) else d.2.2.1), d.2.2.2.1 + 0, (if (some d).isSome = true ∧ jk d.1 0 = d.1 then d.2.2.2.2 else a + 0)) = d
  rw [jk_0, Int32.add_zero, Int32.add_zero, if_pos (show (some d).isSome = true ∧ d.1 = d.1 from ⟨rfl, rfl⟩)]
  have : (if d.2.2.1 < 0 then (0 : Int32) else d.2.2.1) = d.2.2.1 := by
    rcases hd with h | h <;> rw [h] <;> decide
  rw [this]
