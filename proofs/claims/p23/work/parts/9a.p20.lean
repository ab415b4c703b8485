/-! ===== pure: the reference joins, begun and ended ===== -/
theorem jm_empty {A B : Mp} {a : Int32} (hA : Wf A) (hB : Wf B) : jm A (Bx B 0) a = A := by
  have hz : ∀ c, Bx B 0 c = none := fun c => Bx_ge (Nat.zero_le c)
  have hown : ∀ c, jd (A c) none a = A c := fun c => by
    cases h : A c with
    | none => exact jd_none
    | some d => rw [jd_some (Or.inl rfl), join_own (hA c d h).2.2.1]
  refine (jm_uniq hA (Bx_wf hB 0) ?_ ?_ ?_).symm
  · rw [hz, hown]
  · intro c hc h0
    rw [hz, hown]
    cases h : A c with
    | some d =>
      obtain ⟨d', g1, g2⟩ := hA.up h h0
      rw [g1, jnx_some g2]
    | none =>
      cases hq : A (pa c) with
      | none => rw [jnx_none]
      | some d' =>
        by_cases h7 : d'.1 = 7
        · rw [jnx_7 h7]
        · rw [jnx_some h7]
  · intro c hc
    cases h : A c with
    | none => rfl
    | some d => exact absurd (hA.vd h) hc
theorem joins_loop {S : S_Model} {A B : Mp} (hA : Wf A) (hB : Wf B) {s o : Nat} (hs : s ≤ 1) (hla : ix A 10000 ≤ 30) (hlb : ix B 10000 ≤ 30) (hN : NR (g_Model_now S) o B) (ho : o ≤ 1) : ∀ (f x : Nat) (t : Nat → Int32) (n : Nat) (b : Int32) (p : Nat → Int32) (ρ : Nat → Nat), x ≤ 10000 → ix B 10000 - ix B x < f → JI A B (g_Model_now S (1 + s)) x t n p ρ → ∃ t' n' b' p' ρ', F_X5_joins_11 (nI s) f (smv S t n b p) (nI o) (nI (ix B x)) = some (smv S t' n' b' p') ∧ JI A B (g_Model_now S (1 + s)) 10000 t' n' p' ρ'
  | 0, x, _, _, _, _, _, _, h, _ => absurd h (Nat.not_lt_zero _)
  | f + 1, x, t, n, b, p, ρ, h1, h2, hI => by
    have hm := @ix_mono B x 10000 h1
    by_cases q : ix B x < ix B 10000
    · obtain ⟨x', e, g1, g2, g3, g4, g5⟩ := ix_next q
      have hBx : Bx B x' = Bx B x := Bx_gap g1 g5
      have hI' : JI A B (g_Model_now S (1 + s)) x' t n p ρ := by
        obtain ⟨i1, i2, i3, i4⟩ := hI
        refine ⟨by rw [hBx]; exact i1, by omega, by rw [hBx]; exact i3, fun y ey hy hey => ?_⟩
        rw [hBx]
        rcases Nat.lt_or_ge y x with w | w
        · exact i4 y ey w hey
        · rw [g5 y w hy] at hey; cases hey
      obtain ⟨t1, n1, b1, p1, ρ1, e1, e2⟩ := joins_step (b := b) hA hB hs hla hlb hN ho g3 hI' f
      rw [g4] at e1
      rw [e1]
      have hix : ix B (x' + 1) = ix B x + 1 := by rw [ix_some g3, g4]
      rw [← hix]
      exact joins_loop hA hB hs hla hlb hN ho f (x' + 1) t1 n1 b1 p1 ρ1 (by omega) (by omega) e2
    · rw [F_X5_joins_11_s, show (3 : Int32) = nI 3 from rfl, nI_add, og_t (inb_nI (by omega) (by omega)), nI_clamp (n := 3 + o) (by omega), smv_now, hN.1, if_pos (nI_le (by omega) (by omega))]
      have hend : ∀ y, x ≤ y → y < 10000 → B y = none := by
        intro y y1 y2
        cases hy : B y with
        | none => rfl
        | some e =>
          have := ix_lt hy y2
          have := @ix_mono B x y y1
          omega
      have hBx : Bx B 10000 = Bx B x := Bx_gap h1 hend
      obtain ⟨i1, i2, i3, i4⟩ := hI
      refine ⟨t, n, b, p, ρ, rfl, by rw [hBx]; exact i1, by omega, by rw [hBx]; exact i3, fun y ey hy hey => ?_⟩
      rw [hBx]
      rcases Nat.lt_or_ge y x with w | w
      · exact i4 y ey w hey
      · rw [hend y w hy] at hey; cases hey
theorem model_join {S : S_Model} {A B : Mp} (hA : Wf A) (hB : Wf B) {s o : Nat} (hso : (s = 0 ∧ o = 1) ∨ (s = 1 ∧ o = 0)) (hNA : NR (g_Model_now S) s A) (hNB : NR (g_Model_now S) o B) : ∃ t n b p ρ, F_X5_joins S (nI s) = some (smv S t n b p) ∧ MT t n ρ (jm A B (g_Model_now S (1 + s))) ∧ (jm A B (g_Model_now S (1 + s)) 0 = none → n = 0) := by
  have hs : s ≤ 1 := by omega
  have ho : o ≤ 1 := by omega
  obtain ⟨g, e1, e2⟩ := lays_ok hA hNA hs
  rw [smv_lay] at e1
  have hemp : jm A (Bx B 0) (g_Model_now S (1 + s)) = A := jm_empty hA hB
  have hI0 : JI A B (g_Model_now S (1 + s)) 0 g (ix A 10000) (g_Model_place S) (ix A) := by
    refine ⟨by rw [hemp]; exact e2, Nat.le_add_right _ _, fun hz => ?_, fun y ey hy => absurd hy (Nat.not_lt_zero _)⟩
    rw [hemp] at hz
    rcases root_ix hA with ⟨a1, -, -⟩ | ⟨a1, d, a2⟩
    · exact a1
    · rw [hz] at a2; cases a2
  obtain ⟨t, n, b, p, ρ, l1, l2⟩ := joins_loop (b := 0) hA hB hs hNA.2.1 hNB.2.1 hNB ho 5000 0 g (ix A 10000) (g_Model_place S) (ix A) (Nat.zero_le _) (by have := hNB.2.1; omega) hI0
  obtain ⟨i1, i2, i3, i4⟩ := l2
  rw [Bx_all hB] at i1 i3
  refine ⟨t, n, b, p, ρ, ?_, i1, i3⟩
  unfold F_X5_joins
  have ho1 : (1 : Int32) - nI s = nI o := by
    rcases hso with ⟨h1, h2⟩ | ⟨h1, h2⟩ <;> subst h1 <;> subst h2 <;> decide
  rw [ob1_s e1, ho1]
  exact l1
