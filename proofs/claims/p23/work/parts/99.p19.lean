/-! ===== pure: the reference joins ===== -/
def jrow (t : Nat → Int32) (r : Nat) (e : Dt) : Nat → Int32 := upd (upd (upd t (7 * r + 3) (t (7 * r + 3) + e.2.1)) (7 * r + 5) (t (7 * r + 5) + e.2.2.2.1)) (7 * r + 4) (t (7 * r + 4) ||| e.2.2.1)
theorem jrow_ne {t : Nat → Int32} {r j : Nat} {e : Dt} (h : j < 7 * r ∨ 7 * r + 6 < j) : jrow t r e j = t j := by
  unfold jrow
  rw [upd_ne (by omega), upd_ne (by omega), upd_ne (by omega)]
theorem jrow_row {t : Nat → Int32} {ρ : Nat → Nat} {c : Nat} {d e : Dt} (h : trow t ρ c d) : trow (jrow t (ρ c) e) ρ c (adn d e) := by
  obtain ⟨r1, r2, r3, r4, r5, r6, r7⟩ := h
  unfold trow jrow
  rw [upd_ne (by omega), upd_ne (by omega), upd_ne (by omega), upd_ne (by omega), upd_ne (by omega), upd_ne (by omega), upd_ne (by omega), upd_ne (by omega), upd_ne (by omega), upd_ne (by omega), upd_ne (by omega), upd_at, upd_at, upd_ne (by omega), upd_at, upd_ne (by omega), upd_ne (by omega), upd_ne (by omega), r4, r5, r6]
  exact ⟨r1, r2, r3, rfl, rfl, rfl, r7⟩
theorem j191 {S : S_Model} {t : Nat → Int32} {n : Nat} {b : Int32} {p : Nat → Int32} {k11 : S_Model → Int32 → Int32 → Option S_Model} {o x r : Nat} {B : Mp} {e : Dt} {v1 doc : Int32} (hB : Wf B) (hN : NR (g_Model_now S) o B) (ho : o ≤ 1) (hx : B x = some e) (hr : r < 64) :
    F_X5_joins_191 v1 k11 (smv S t n b p) (nI o) (nI (ix B x)) doc (nI r) (nI (7 * r)) = ob1 (F_X5_joined (t (7 * r)) e.1) (fun r53 => ob1 (F_X5_widens (smv S (jrow t r e) n b p) (nI r) r53 doc) (fun u55 => k11 u55 (nI o) (nI (ix B x + 1)))) := by
  have hM : ∀ T : Nat → Int32, NR (g_Model_now (smv S T n b p)) o B := fun T => by rw [smv_now]; exact hN
  have hrow := hN.row hx
  have e3 : (7 * r + 3) < 448 := by omega
  unfold F_X5_joins_191
  rw [show nI (7 * r) + 3 = nI (7 * r + 3) from nI_add _ 3, og_t (inb_nI (by omega) (by omega)), ob1_s ((hM t).a3 hB ho hx), smv_now, hrow.2.2.2.1, og_t (inb_nI (by omega) (by omega)), nI_clamp (n := 7 * r + 3) (by omega), smv_tree, smv_t]
  unfold F_X5_joins_210
  rw [show nI (7 * r) + 5 = nI (7 * r + 5) from nI_add _ 5, og_t (inb_nI (by omega) (by omega)), ob1_s ((hM _).a5 hB ho hx), smv_now, hrow.2.2.2.2.2.1, og_t (inb_nI (by omega) (by omega)), nI_clamp (n := 7 * r + 5) (by omega), smv_tree, smv_t, upd_ne (show 7 * r + 5 ≠ 7 * r + 3 by omega)]
  unfold F_X5_joins_229
  rw [show nI (7 * r) + 4 = nI (7 * r + 4) from nI_add _ 4, og_t (inb_nI (by omega) (by omega)), ob1_s ((hM _).a4 hB ho hx), smv_now, hrow.2.2.2.2.1, og_t (inb_nI (by omega) (by omega)), nI_clamp (n := 7 * r + 4) (by omega), smv_tree, smv_t, upd_ne (show 7 * r + 4 ≠ 7 * r + 5 by omega), upd_ne (show 7 * r + 4 ≠ 7 * r + 3 by omega)]
  unfold F_X5_joins_248
  have ej : upd (upd (upd t (7 * r + 3) (t (7 * r + 3) + e.2.1)) (7 * r + 5) (t (7 * r + 5) + e.2.2.2.1)) (7 * r + 4) (t (7 * r + 4) ||| e.2.2.1) = jrow t r e := rfl
  rw [ej, og_t (inb_nI (by omega) (by omega)), ob1_s ((hM _).a0 hB ho hx), smv_now, hrow.1, nI_clamp (n := 7 * r) (by omega), smv_tree, show jrow t r e (7 * r) = t (7 * r) by unfold jrow; rw [upd_ne (by omega), upd_ne (by omega), upd_ne (by omega)], nI_1]
/-- what stands when all nodes of the other shape ahead of x are laid in -/
def JI (A B : Mp) (a : Int32) (x : Nat) (t : Nat → Int32) (n : Nat) (p : Nat → Int32) (ρ : Nat → Nat) : Prop := MT t n ρ (jm A (Bx B x) a) ∧ n ≤ ix A 10000 + ix B x ∧ (jm A (Bx B x) a 0 = none → n = 0) ∧ ∀ y e, y < x → B y = some e → p (ix B y) = rr ρ (jm A (Bx B x) a) y
theorem joins_tail {S : S_Model} {A B : Mp} (hA : Wf A) (hB : Wf B) {a : Int32} {o x n n1 : Nat} {t t1 p : Nat → Int32} {b : Int32} {ρ ρ1 : Nat → Nat} {e d1 : Dt} {M1 : Mp} {v1 : Int32} {f : Nat} (hla : ix A 10000 ≤ 30) (hlb : ix B 10000 ≤ 30) (hN : NR (g_Model_now S) o B) (ho : o ≤ 1) (hx : B x = some e) (hI : JI A B a x t n p ρ) (hp : x ≠ 0 → ∃ d', jm A (Bx B x) a (pa x) = some d' ∧ ¬ d'.1 = 7)
    (hM1 : Wf M1) (hT1 : MT t1 n1 ρ1 M1) (hc1 : M1 x = some d1) (hn1 : n1 ≤ ix A 10000 + ix B (x + 1)) (hres : shM M1 x (wd (adn d1 e) (jk d1.1 e.1) (a + e.2.2.2.2)) = shM (jm A (Bx B x) a) x (jdc (A x) (some e) a)) (hρ : ∀ y z, jm A (Bx B x) a y = some z → ρ1 y = ρ y) :
    ∃ t' b', F_X5_joins_170 v1 (F_X5_joins_11 v1 f) (smv S t1 n1 b p) (nI o) (nI (ix B x)) (a + e.2.2.2.2) (nI (ρ1 x)) = F_X5_joins_11 v1 f (smv S t' n1 b' (upd p (ix B x) (nI (ρ1 x)))) (nI o) (nI (ix B x + 1)) ∧ JI A B a (x + 1) t' n1 (upd p (ix B x) (nI (ρ1 x))) ρ1 := by
  obtain ⟨i1, i2, i3, i4⟩ := hI
  have hl1 := hT1.lt hc1
  have hl64 := hT1.le
  have hixl := ix_lt hx (hB.lt hx)
  have hek := (hB x e hx).2.1
  have hk1 := (hM1 x d1 hc1).2.1
  have hjk : isK (jk d1.1 e.1) := jk_isK hk1 hek
  have hrow := hT1.row hc1
  have hmt : MT (jrow t1 (ρ1 x) e) n1 ρ1 (setM M1 x (adn d1 e)) := hT1.upd hc1 (isK_m1 hk1) (fun j hj => jrow_ne hj) (jrow_row hrow)
  obtain ⟨g, ba, w1, w2, w3⟩ := widens_ok (S := smv S (jrow t1 (ρ1 x) e) n1 b (upd p (ix B x) (nI (ρ1 x)))) (k := jk d1.1 e.1) (doc := a + e.2.2.2.2) (d := adn d1 e) (c := x) (ρ := ρ1) hM1 hc1 rfl rfl (by rw [smv_tree]; exact hmt) (smv_top _ _ _ _ _) hjk
  rw [hres] at w2
  rw [smv_stb] at w1
  have hJ := jm_live (a := a) hA hB hx hp
  refine ⟨g, ba, ?_, ?_⟩
  · unfold F_X5_joins_170
    rw [og_t (inb_nI (by omega) (by omega)), if_neg (nI_m1 (by omega)), nI_clamp (by omega), smv_place, smv_p, ix7, j191 hB hN ho hx (by omega), hrow.1, ob1_s (jk_X5 hk1 hek), ob1_s w1]
  · have hMw := jm_wf hA (Bx_wf hB (x + 1)) a
    refine ⟨by rw [hJ]; exact w2, hn1, fun hz => ?_, ?_⟩
    · exfalso
      rw [hJ] at hz
      by_cases h0 : x = 0
      · rw [h0, shM_at] at hz; cases hz
      · obtain ⟨d', g1, g2⟩ := hp h0
        obtain ⟨e0, he0⟩ := (jm_wf hA (Bx_wf hB x) a).root (dp (pa x)) rfl g1
        rw [shM_lt (by omega), he0] at hz; cases hz
    · intro y ey hy hey
      by_cases q : y = x
      · rw [q, upd_at, hJ, rr_some shM_at]
      · have hlt := ix_lt hey (show y < x by omega)
        rw [upd_ne (by omega), i4 y ey (by omega) hey, hJ]
        unfold rr
        rw [shM_lt (by omega)]
        cases h : jm A (Bx B x) a y with
        | none => rfl
        | some z => rw [hρ y z h]
theorem joins_step {S : S_Model} {A B : Mp} (hA : Wf A) (hB : Wf B) {s o x n : Nat} {t p : Nat → Int32} {b : Int32} {ρ : Nat → Nat} {e : Dt} (hs : s ≤ 1) (hla : ix A 10000 ≤ 30) (hlb : ix B 10000 ≤ 30) (hN : NR (g_Model_now S) o B) (ho : o ≤ 1) (hx : B x = some e) (hI : JI A B (g_Model_now S (1 + s)) x t n p ρ) (f : Nat) :
    ∃ t' n' b' p' ρ', F_X5_joins_11 (nI s) (f + 1) (smv S t n b p) (nI o) (nI (ix B x)) = F_X5_joins_11 (nI s) f (smv S t' n' b' p') (nI o) (nI (ix B x + 1)) ∧ JI A B (g_Model_now S (1 + s)) (x + 1) t' n' p' ρ' := by
  have hI0 := hI
  obtain ⟨i1, i2, i3, i4⟩ := hI0
  have hl64 := i1.le
  have hixl := ix_lt hx (hB.lt hx)
  have hv := hB.vd hx
  have hJw := jm_wf hA (Bx_wf hB x) (g_Model_now S (1 + s))
  have hek := (hB x e hx).2.1
  have hem := (hB x e hx).2.2.1
  have hrow := hN.row hx
  have hM : NR (g_Model_now (smv S t n b p)) o B := by rw [smv_now]; exact hN
  have hixs : ix B (x + 1) = ix B x + 1 := ix_some hx
  have hxz : nI (ix B x) = 0 ↔ x = 0 := by
    constructor
    · intro z
      by_cases h0 : x = 0
      · exact h0
      · exfalso
        obtain ⟨d0, g0⟩ := hB.root (dp x) rfl hx
        have := ix_lt g0 (show 0 < x by omega)
        exact nI_ne0 (by omega) (by omega) z
    · intro z; rw [z]; rfl
  have hJx : (x ≠ 0 → ∃ d', jm A (Bx B x) (g_Model_now S (1 + s)) (pa x) = some d' ∧ ¬ d'.1 = 7) → jm A (Bx B x) (g_Model_now S (1 + s)) x = jd (A x) none (g_Model_now S (1 + s)) := by
    intro hp
    by_cases h0 : x = 0
    · rw [h0, jm_0, Bx_ge (Nat.le_refl 0)]
    · obtain ⟨d', g1, g2⟩ := hp h0
      rw [jm_of hv h0 g1 g2, Bx_ge (Nat.le_refl x)]
  -- laid in
  have live : ∀ up, up = upR ρ x → (x ≠ 0 → ∃ d', jm A (Bx B x) (g_Model_now S (1 + s)) (pa x) = some d' ∧ ¬ d'.1 = 7) → ∃ t' n' b' p' ρ', F_X5_joins_133 (nI s) (F_X5_joins_11 (nI s) f) (smv S t n b p) (nI o) (nI (ix B x)) up (g_Model_now S (1 + s) + e.2.2.2.2) false (rr ρ (jm A (Bx B x) (g_Model_now S (1 + s))) x) = F_X5_joins_11 (nI s) f (smv S t' n' b' p') (nI o) (nI (ix B x + 1)) ∧ JI A B (g_Model_now S (1 + s)) (x + 1) t' n' p' ρ' := by
    intro up hup hp
    have hJ0 := hJx hp
    unfold F_X5_joins_133
    rw [b2i_f, if_pos rfl]
    cases hAx : A x with
    | some d =>
      rw [hAx, jd_some (Or.inl rfl), join_own (hA x d hAx).2.2.1] at hJ0
      have hl := i1.lt hJ0
      rw [rr_some hJ0, if_neg (nI_m1 (by omega))]
      obtain ⟨t', b', e1, e2⟩ := joins_tail (v1 := nI s) (f := f) (b := b) (t1 := t) (n1 := n) (ρ1 := ρ) (M1 := jm A (Bx B x) (g_Model_now S (1 + s))) hA hB hla hlb hN ho hx hI hp hJw i1 hJ0 (by omega) (by rw [hAx, join_both (hA x d hAx).2.2.1 hem]) (fun _ _ _ => rfl)
      exact ⟨t', n, b', _, ρ, e1, e2⟩
    | none =>
      rw [hAx, jd_none] at hJ0
      have hn64 : n < 64 := by omega
      rw [rr_none hJ0, if_pos rfl, ob1_s (hM.a2 hB ho hx), smv_now, hrow.2.2.1, ob1_s (hM.a0 hB ho hx), smv_now, hrow.1, ob2_s (makes_ok (S := smv S t n b p) hn64 (smv_top _ _ _ _ _) up (l32 x) e.1 (g_Model_now S (1 + s) + e.2.2.2.2)), smv_tree, smv_tt]
      have hT1 : MT (setR t n e.1 up (l32 x) 0 0 0 (g_Model_now S (1 + s) + e.2.2.2.2)) (n + 1) (rup ρ x n) (setM (jm A (Bx B x) (g_Model_now S (1 + s))) x (e.1, 0, 0, 0, g_Model_now S (1 + s) + e.2.2.2.2)) := by
        refine i1.add hJw hn64 hv hJ0 (fun h0 => by obtain ⟨d', g1, -⟩ := hp h0; exact ⟨d', g1⟩) (fun h0 => i3 (by rw [← h0]; exact hJ0)) (fun j hj => setR_ne (by omega)) ?_
        have hupc : upR (rup ρ x n) x = up := by
          rw [hup]
          unfold upR
          by_cases h0 : x = 0
          · rw [if_pos h0, if_pos h0]
          · obtain ⟨d', u6, -⟩ := hp h0
            rw [if_neg h0, if_neg h0, rup_ne (fun z => by rw [z, hJ0] at u6; cases u6)]
        unfold trow
        rw [hupc, rup_at]
        exact setR_at
      have hcc : setM (jm A (Bx B x) (g_Model_now S (1 + s))) x (e.1, 0, 0, 0, g_Model_now S (1 + s) + e.2.2.2.2) x = some (e.1, (0 : Int32), (0 : Int32), (0 : Int32), g_Model_now S (1 + s) + e.2.2.2.2) := setM_at
      have hw1 : Wf (shM (jm A (Bx B x) (g_Model_now S (1 + s))) x (e.1, 0, 0, 0, g_Model_now S (1 + s) + e.2.2.2.2)) ∨ True := Or.inr trivial
      have hsame : shM (setM (jm A (Bx B x) (g_Model_now S (1 + s))) x (e.1, 0, 0, 0, g_Model_now S (1 + s) + e.2.2.2.2)) x (jdc none (some e) (g_Model_now S (1 + s))) = shM (jm A (Bx B x) (g_Model_now S (1 + s))) x (jdc none (some e) (g_Model_now S (1 + s))) := by
        unfold shM
        by_cases h7 : (jdc none (some e) (g_Model_now S (1 + s))).1 = 7
        · rw [if_pos h7, if_pos h7, setM_setM]
        · rw [if_neg h7, if_neg h7, setM_setM]
      have hwf1 : Wf (setM (jm A (Bx B x) (g_Model_now S (1 + s))) x (e.1, 0, 0, 0, g_Model_now S (1 + s) + e.2.2.2.2)) := hJw.add hv hJ0 hek (Or.inl rfl) hp
      obtain ⟨t', b', e1, e2⟩ := joins_tail (v1 := nI s) (f := f) (b := b) (t1 := setR t n e.1 up (l32 x) 0 0 0 (g_Model_now S (1 + s) + e.2.2.2.2)) (n1 := n + 1) (ρ1 := rup ρ x n) (M1 := setM (jm A (Bx B x) (g_Model_now S (1 + s))) x (e.1, 0, 0, 0, g_Model_now S (1 + s) + e.2.2.2.2)) hA hB hla hlb hN ho hx hI hp hwf1 hT1 hcc (by omega) (by rw [hAx, ← hsame, ← join_new hem]) (fun y z hyz => rup_ne (fun w => by rw [w, hJ0] at hyz; cases hyz))
      rw [rup_at] at e1 e2
      exact ⟨t', n + 1, b', _, _, e1, e2⟩
  -- not laid in
  have dead : x ≠ 0 → (∀ d', jm A (Bx B x) (g_Model_now S (1 + s)) (pa x) = some d' → d'.1 = 7) → ∀ up, ∃ t' n' b' p' ρ', F_X5_joins_94 (nI s) (F_X5_joins_11 (nI s) f) (smv S t n b p) (nI o) (nI (ix B x)) up (g_Model_now S (1 + s) + e.2.2.2.2) true = F_X5_joins_11 (nI s) f (smv S t' n' b' p') (nI o) (nI (ix B x + 1)) ∧ JI A B (g_Model_now S (1 + s)) (x + 1) t' n' p' ρ' := by
    intro h0 hd up
    have hJ := jm_dead (a := g_Model_now S (1 + s)) hA hB hv h0 hd
    have hJn : jm A (Bx B x) (g_Model_now S (1 + s)) x = none := by
      rw [jm_s hv h0]
      cases hq : jm A (Bx B x) (g_Model_now S (1 + s)) (pa x) with
      | none => exact jnx_none
      | some d' => exact jnx_7 (hd d' hq)
    refine ⟨t, n, b, upd p (ix B x) (-1), ρ, ?_, by rw [hJ]; exact i1, by omega, by rw [hJ]; exact i3, ?_⟩
    · unfold F_X5_joins_94 F_X5_joins_133 F_X5_joins_170
      rw [b2i_t, if_neg one_ne0, if_neg one_ne0, og_t (inb_nI (by omega) (by omega)), if_pos rfl, nI_clamp (by omega), smv_place, smv_p, nI_1]
    · intro y ey hy hey
      rw [hJ]
      by_cases q : y = x
      · rw [q, upd_at, rr_none hJn]
      · have hlt := ix_lt hey (show y < x by omega)
        rw [upd_ne (by omega), i4 y ey (by omega) hey]
  rw [F_X5_joins_11_s, show (3 : Int32) = nI 3 from rfl, nI_add, og_t (inb_nI (by omega) (by omega)), nI_clamp (n := 3 + o) (by omega), smv_now, hN.1, if_neg (nI_ge hixl (by omega))]
  by_cases h0 : x = 0
  · rw [if_pos (hxz.mpr h0)]
    unfold F_X5_joins_43
    rw [show (1 : Int32) + nI s = nI (1 + s) from nI_add 1 s, og_t (inb_nI (by omega) (by omega)), ob1_s (hM.a6 hB ho hx), smv_now, hrow.2.2.2.2.2.2, if_pos (by rw [hxz.mpr h0]; decide), nI_clamp (n := 1 + s) (by omega)]
    unfold F_X5_joins_94
    rw [b2i_f, if_pos rfl, if_pos (hxz.mpr h0), smv_top]
    have hl := live (-1) (by rw [h0]; rfl) (fun z => absurd h0 z)
    cases hJ0 : jm A (Bx B x) (g_Model_now S (1 + s)) 0 with
    | none =>
      have hn0 := i3 hJ0
      rw [h0] at hl hJ0
      rw [rr_none hJ0] at hl
      rw [if_pos (show nI n ≤ 0 by rw [hn0]; decide), ob1_s (hM.a2 hB ho hx)]
      have hca : ∀ l, F_X5_childAt (smv S t n b p) (-1) l = some (-1) := fun l => by
        unfold F_X5_childAt
        rw [F_X5_childAt_2_s, smv_top, if_pos (show nI n ≤ 0 by rw [hn0]; decide)]
      rw [ob1_s (hca _), h0]
      exact hl
    | some d0 =>
      have hl0 := i1.lt hJ0
      rw [if_neg (nI_nle (by omega) (by omega))]
      rw [h0] at hl hJ0
      rw [rr_some hJ0] at hl
      rw [h0]
      have hr0 : ρ 0 = 0 := i1.2.2.2.2.2.1 d0 (by rw [h0]; exact hJ0)
      rw [hr0] at hl
      exact hl
  · have hu := upI_up (M := B) h0
    obtain ⟨d', g1, g2⟩ := hB.up hx h0
    have hpx := (ch_pa hv h0)
    have hpl := ix_lt g1 (show pa x < x from hpx.2.2.2.2)
    rw [if_neg (fun z => h0 (hxz.mp z)), ob1_s (hM.a1 hB ho hx), smv_now, hrow.2.1, hu, og_t (inb_nI (by omega) (by omega)), nI_clamp (n := ix B (pa x)) (by omega), smv_place, i4 (pa x) d' hpx.2.2.2.2 g1]
    unfold F_X5_joins_43
    rw [show (1 : Int32) + nI s = nI (1 + s) from nI_add 1 s, og_t (inb_nI (by omega) (by omega)), ob1_s (hM.a6 hB ho hx), smv_now, hrow.2.2.2.2.2.2, if_neg (nI_nle (by omega) (by omega)), nI_clamp (n := 1 + s) (by omega)]
    cases hJp : jm A (Bx B x) (g_Model_now S (1 + s)) (pa x) with
    | none =>
      rw [rr_none hJp, if_pos rfl]
      exact dead h0 (fun d hd => by rw [hJp] at hd; cases hd) _
    | some dj =>
      have hlj := i1.lt hJp
      rw [rr_some hJp, if_neg (nI_m1 (by omega)), ix7, og_t (inb_nI (by omega) (by omega)), nI_clamp (n := 7 * ρ (pa x)) (by omega), smv_tree, (i1.row hJp).1]
      by_cases h7 : dj.1 = 7
      · rw [if_pos h7]
        exact dead h0 (fun d hd => by rw [hJp] at hd; cases hd; exact h7) _
      · rw [if_neg h7]
        have hl := live (nI (ρ (pa x))) (by rw [upR_up h0]) (fun _ => ⟨dj, hJp, h7⟩)
        unfold F_X5_joins_94
        rw [b2i_f, if_pos rfl, if_neg (fun z => h0 (hxz.mp z)), ob1_s (hM.a2 hB ho hx), smv_now, hrow.2.2.1, l32_nI h0, ob1_s (childAt_ok (S := smv S t n b p) hJw (by rw [smv_tree]; exact i1) (smv_top _ _ _ _ _) hJp hpx.2.1), hpx.1]
        exact hl
