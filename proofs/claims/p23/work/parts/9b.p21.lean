theorem pl_pl (S : S_Model) (p q : Nat → Int32) : s_Model_place (s_Model_place S p) q = s_Model_place S q :=
  s_ext (by rw [gs_now_place, gs_now_place, gs_now_place]) (by rw [gs_past_place, gs_past_place, gs_past_place]) (by rw [gs_kept_place, gs_kept_place, gs_kept_place]) (by rw [gs_text_place, gs_text_place, gs_text_place]) (by rw [gs_typed_place, gs_typed_place, gs_typed_place]) (by rw [gs_thrown_place, gs_thrown_place, gs_thrown_place]) (by rw [gs_at_place, gs_at_place, gs_at_place]) (by rw [gs_isFault_place, gs_isFault_place, gs_isFault_place]) (by rw [gs_kinds_place, gs_kinds_place, gs_kinds_place]) (by rw [gs_above_place, gs_above_place, gs_above_place]) (by rw [gs_letters_place, gs_letters_place, gs_letters_place]) (by rw [gs_begins_place, gs_begins_place, gs_begins_place]) (by rw [gs_ends_place, gs_ends_place, gs_ends_place]) (by rw [gs_used_place, gs_used_place, gs_used_place]) (by rw [gs_valued_place, gs_valued_place, gs_valued_place]) (by rw [gs_open_place, gs_open_place, gs_open_place]) (by rw [gs_deep_place, gs_deep_place, gs_deep_place]) (by rw [gs_deepest_place, gs_deepest_place, gs_deepest_place]) (by rw [gs_tree_place, gs_tree_place, gs_tree_place]) (by rw [gs_top_place, gs_top_place, gs_top_place]) (by rw [gs_place_place, gs_place_place]) (by rw [gs_order_place, gs_order_place, gs_order_place]) (by rw [gs_becameAny_place, gs_becameAny_place, gs_becameAny_place]) (by rw [gs_misfit_place, gs_misfit_place, gs_misfit_place]) (by rw [gs_misfitAt_place, gs_misfitAt_place, gs_misfitAt_place]) (by rw [gs_misfitNode_place, gs_misfitNode_place, gs_misfitNode_place])
theorem pl_eta (S : S_Model) : S = s_Model_place S (g_Model_place S) :=
  s_ext (by rw [gs_now_place]) (by rw [gs_past_place]) (by rw [gs_kept_place]) (by rw [gs_text_place]) (by rw [gs_typed_place]) (by rw [gs_thrown_place]) (by rw [gs_at_place]) (by rw [gs_isFault_place]) (by rw [gs_kinds_place]) (by rw [gs_above_place]) (by rw [gs_letters_place]) (by rw [gs_begins_place]) (by rw [gs_ends_place]) (by rw [gs_used_place]) (by rw [gs_valued_place]) (by rw [gs_open_place]) (by rw [gs_deep_place]) (by rw [gs_deepest_place]) (by rw [gs_tree_place]) (by rw [gs_top_place]) (by rw [gs_place_place]) (by rw [gs_order_place]) (by rw [gs_becameAny_place]) (by rw [gs_misfit_place]) (by rw [gs_misfitAt_place]) (by rw [gs_misfitNode_place])
/-! ===== pure: covering ===== -/
/-- a part that can't be missing -/
def mb (M : Mp) (c : Nat) : Bool := match M c with | some d => !opt M c d && decide (ltr c < 8) | none => false
def gd (A B : Mp) (y : Nat) : Prop := ∃ d e, A y = some d ∧ B y = some e ∧ jk d.1 e.1 = d.1 ∧ e.2.2.1 ≤ d.2.2.1 ∧ (¬ d.1 = 7 → e.1 = 6 → ∀ l, l < 8 → mb A (ch y l) = true → mb B (ch y l) = true)
def rc (A : Mp) (y : Nat) : Prop := y = 0 ∨ ∃ d, A (pa y) = some d ∧ ¬ d.1 = 7
theorem rc_of {A : Mp} (hA : Wf A) {y : Nat} {d : Dt} (h : A y = some d) : rc A y := by
  by_cases h0 : y = 0
  · exact Or.inl h0
  · exact Or.inr (hA.up h h0)
theorem mb_some {M : Mp} (hM : Wf M) {c l : Nat} {d : Dt} (hv : okc c) (h : M (ch c l) = some d) (hl : l < 9) : mb M (ch c l) = (!opt M (ch c l) d && decide (l < 8)) := by
  have hlt := hM.lt h
  have hd4 : dp c < 4 := by
    have h1 := dpw c
    have h2 := @ch_of c l
    omega
  have hp := (pa_ch hv hd4 hl).2
  unfold mb
  rw [h]
  show (!opt M (ch c l) d && decide (ltr (ch c l) < 8)) = _
  rw [hp]
theorem mb_none {M : Mp} {c : Nat} (h : M c = none) : mb M c = false := by unfold mb; rw [h]
theorem mb_8 {M : Mp} (hM : Wf M) {c : Nat} (hv : okc c) : mb M (ch c 8) = false := by
  cases h : M (ch c 8) with
  | none => exact mb_none h
  | some d => rw [mb_some hM hv h (by omega), decide_eq_false (by omega), Bool.and_false]
theorem must_ok {T : S_Tree} {M : Mp} (hM : Wf M) (hT : TR T M 10000) (hO : OP T M) {c l : Nat} (hl : l < 9) (hv : okc c) : F_X4_mustBeThere T (rn M (ch c l)) = some (mb M (ch c l)) := by
  unfold F_X4_mustBeThere
  cases h : M (ch c l) with
  | none => rw [rn_none h, ob1_s has_none, b2i_f, if_pos rfl, mb_none h]
  | some d =>
    have hlt := hM.lt h
    have hd4 : dp c < 4 := by
      have h1 := dpw c
      have h2 := @ch_of c l
      omega
    have ho := ch_ok hv hd4 hl
    have hp := pa_ch hv hd4 hl
    have hil := ix_lt h hlt
    have hrow := hT.row h hlt
    rw [mb_some hM hv h hl, rn_some h, ob1_s (has_at hT.size hT.le hil), b2i_t, if_neg one_ne0, ob1_s (hT.g1 h hlt), hrow.2.1, l32_nI (by omega), hp.2]
    by_cases q : l < 8
    · rw [decide_eq_true q, Bool.and_true, if_neg (show ¬ (8 : Int32) ≤ nI l from nI_ge (a := l) (b := 8) q (by omega)), ob1_s (hT.g8 h hlt), hO _ d h]
      cases opt M (ch c l) d
      · rw [b2i_f, if_pos rfl]; rfl
      · rw [b2i_t, if_neg one_ne0]; rfl
    · rw [decide_eq_false q, Bool.and_false, if_pos (show (8 : Int32) ≤ nI l from nI_le (a := 8) (b := l) (by omega) (by omega))]
/-- all of the other shape in the share of y is covered -/
def cvs (A B : Mp) (y : Nat) : Prop := ∀ z, y ≤ z → z < y + wt y → (∃ ez, B z = some ez) → rc A z → gd A B z
def cvq (A B : Mp) (e : Dt) (y l : Nat) : Prop := ((∃ e', B (ch y l) = some e') → (∃ d', A (ch y l) = some d') ∧ cvs A B (ch y l)) ∧ (e.1 = 6 → mb A (ch y l) = true → mb B (ch y l) = true)
theorem cvs_iff {A B : Mp} (hA : Wf A) (hB : Wf B) {y : Nat} {d e : Dt} (ha : A y = some d) (hb : B y = some e) : cvs A B y ↔ (jk d.1 e.1 = d.1 ∧ e.2.2.1 ≤ d.2.2.1 ∧ (d.1 = 7 ∨ ∀ l, l < 9 → cvq A B e y l)) := by
  have hv := hA.vd ha
  have hw := wt_pos y
  constructor
  · intro h
    obtain ⟨d2, e2, g1, g2, g3, g4, g5⟩ := h y (Nat.le_refl _) (by omega) ⟨e, hb⟩ (rc_of hA ha)
    rw [ha] at g1; rw [hb] at g2
    cases g1; cases g2
    refine ⟨g3, g4, ?_⟩
    by_cases h7 : d.1 = 7
    · exact Or.inl h7
    · right
      intro l hl
      refine ⟨?_, ?_⟩
      · rintro ⟨e', he'⟩
        obtain ⟨u1, u2, u3, u4, u5, u6, u7, u8⟩ := ch_up hB hb he' hl
        have hch := ch_ok hv u1 hl
        have hwc := wt_pos (ch y l)
        obtain ⟨d2, -, m1, -⟩ := h (ch y l) (by omega) u4 ⟨e', he'⟩ (Or.inr ⟨d, by rw [u7]; exact ha, h7⟩)
        exact ⟨⟨d2, m1⟩, fun z z1 z2 z3 z4 => h z (by omega) (by omega) z3 z4⟩
      · intro h6 hm
        by_cases q : l < 8
        · exact g5 h7 h6 l q hm
        · have : l = 8 := by omega
          rw [this, mb_8 hA hv] at hm; cases hm
  · rintro ⟨h1, h2, h3⟩ z z1 z2 ⟨ez, hz⟩ hrc
    by_cases q : z = y
    · rw [q]
      refine ⟨d, e, ha, hb, h1, h2, fun h7 h6 l hl hm => ?_⟩
      rcases h3 with w | w
      · exact absurd w h7
      · exact (w l (by omega)).2 h6 hm
    · have hzv := hB.vd hz
      have hn := nest hv hzv (by omega) z2
      rcases h3 with w | w
      · exfalso
        rcases hrc with y0 | ⟨d', m1, m2⟩
        · omega
        · have hp := (ch_pa hzv (by omega)).2.2.2.2
          rcases Nat.lt_or_ge y (pa z) with v | v
          · rw [hA.any ha w v (by omega)] at m1; cases m1
          · have : pa z = y := by omega
            rw [this, ha] at m1
            cases m1
            exact m2 w
      · obtain ⟨l, e', m1, m2, m3, m4, m5⟩ := hB.wf0.child hb hz (by omega) z2
        exact ((w l m1).1 ⟨e', m3⟩).2 z m4 m5 ⟨ez, hz⟩ hrc
/-! the class -/
theorem covers_node {T1 T2 : S_Tree} {A B : Mp} (hA : Wf A) (hB : Wf B) (h1 : TR T1 A 10000) (o1 : OP T1 A) (h2 : TR T2 B 10000) (o2 : OP T2 B) : ∀ (f y : Nat) (d e : Dt), 5 ≤ f + dp y → A y = some d → B y = some e → ∃ r, F_X4_coversNode f T1 T2 (nI (ix A y)) (nI (ix B y)) (nI (dp y)) = some r ∧ (r = true ↔ cvs A B y)
  | 0, y, d, e, hf, _, _ => by have := dp_le y; omega
  | f + 1, y, d, e, hf, ha, hb => by
    have hv := hA.vd ha
    have hal := hA.lt ha
    have hbl := hB.lt hb
    have hra := h1.row ha hal
    have hrb := h2.row hb hbl
    have hd := dp_le y
    have hiff := cvs_iff hA hB ha hb
    have hale := h1.le
    have hble := h2.le
    -- the loop over the letters
    have loop : ∀ (q l : Nat), l ≤ 9 → 9 - l < q → ∃ r, F_X4_coversNode_65 (nI (ix A y)) (nI (ix B y)) (nI (dp y)) T1 T2 (F_X4_coversNode f) q e.1 (nI l) = some r ∧ (r = true ↔ ∀ l', l ≤ l' → l' < 9 → cvq A B e y l') := by
      intro q
      induction q with
      | zero => intro l _ h; exact absurd h (Nat.not_lt_zero _)
      | succ q ih =>
        intro l hl hq
        rw [F_X4_coversNode_65_s]
        by_cases z : l = 9
        · rw [if_pos (by rw [z]; decide)]
          exact ⟨true, rfl, fun _ l' l1 l2 => by omega, fun _ => rfl⟩
        · have hl9 : l < 9 := by omega
          obtain ⟨r0, i1, i2⟩ := ih (l + 1) (by omega) (by omega)
          have next : cvq A B e y l → ((∀ l', l + 1 ≤ l' → l' < 9 → cvq A B e y l') ↔ ∀ l', l ≤ l' → l' < 9 → cvq A B e y l') := by
            intro hc
            constructor
            · intro h l' l1 l2
              by_cases w : l' = l
              · rw [w]; exact hc
              · exact h l' (by omega) l2
            · intro h l' l1 l2
              exact h l' (by omega) l2
          have m1 := must_ok hA h1 o1 hl9 hv
          have m2 := must_ok hB h2 o2 hl9 hv
          have h120 : ((∃ e', B (ch y l) = some e') → (∃ d', A (ch y l) = some d') ∧ cvs A B (ch y l)) → ∃ r, F_X4_coversNode_120 (nI (ix A y)) (nI (ix B y)) (nI (dp y)) T1 T2 (F_X4_coversNode f) (F_X4_coversNode_65 (nI (ix A y)) (nI (ix B y)) (nI (dp y)) T1 T2 (F_X4_coversNode f) q) e.1 (nI l) (rn A (ch y l)) (rn B (ch y l)) = some r ∧ (r = true ↔ ∀ l', l ≤ l' → l' < 9 → cvq A B e y l') := by
            intro hfst
            unfold F_X4_coversNode_120
            rw [nI_1]
            by_cases h6 : e.1 = 6
            · rw [if_pos h6, ob1_s m1]
              cases hma : mb A (ch y l) with
              | false =>
                rw [b2i_f, if_pos rfl]
                exact ⟨r0, i1, i2.trans (next ⟨hfst, fun _ w => by rw [hma] at w; cases w⟩)⟩
              | true =>
                rw [b2i_t, if_neg one_ne0, ob1_s m2]
                cases hmb : mb B (ch y l) with
                | false =>
                  rw [b2i_f, if_pos rfl]
                  exact ⟨false, rfl, (fun w => by cases w), fun w => by
                    have := (w l (Nat.le_refl _) hl9).2 h6 hma
                    rw [hmb] at this; cases this⟩
                | true =>
                  rw [b2i_t, if_neg one_ne0]
                  exact ⟨r0, i1, i2.trans (next ⟨hfst, fun _ _ => hmb⟩)⟩
            · rw [if_neg h6]
              exact ⟨r0, i1, i2.trans (next ⟨hfst, fun w => absurd w h6⟩)⟩
          rw [if_neg (show ¬ (8 : Int32) < nI l from nI_nlt (b := l) (a := 8) (by omega) (by omega)), ob1_s (find_ok hA.wf0 h1 ha hl9), ob1_s (find_ok hB.wf0 h2 hb hl9)]
          cases hbc : B (ch y l) with
          | none =>
            rw [if_pos (rn_none hbc)]
            exact h120 (fun w => by obtain ⟨e', he'⟩ := w; rw [hbc] at he'; cases he')
          | some e' =>
            have hbc2 := ix_lt hbc (hB.lt hbc)
            rw [if_neg (by rw [rn_some hbc]; exact nI_m1 (by omega))]
            obtain ⟨u1, u2, u3, u4, u5, u6, u7, u8⟩ := ch_up hB hb hbc hl9
            have hch := ch_ok hv u1 hl9
            cases hac : A (ch y l) with
            | none =>
              rw [if_pos (rn_none hac)]
              exact ⟨false, rfl, (fun w => by cases w), fun w => by
                obtain ⟨⟨d', hd'⟩, -⟩ := (w l (Nat.le_refl _) hl9).1 ⟨e', hbc⟩
                rw [hac] at hd'; cases hd'⟩
            | some d' =>
              have hac2 := ix_lt hac (hA.lt hac)
              obtain ⟨r1, t1, t2⟩ := covers_node hA hB h1 o1 h2 o2 f (ch y l) d' e' (by omega) hac hbc
              rw [hch.2.1] at t1
              have hra2 := rn_some hac
              have hrb2 := rn_some hbc
              rw [if_neg (by rw [hra2]; exact nI_m1 (by omega)), nI_1, hra2, hrb2, ob1_s t1]
              cases r1 with
              | false =>
                rw [b2i_f, if_pos rfl]
                exact ⟨false, rfl, (fun w => by cases w), fun w => by
                  have := t2.mpr ((w l (Nat.le_refl _) hl9).1 ⟨e', hbc⟩).2
                  cases this⟩
              | true =>
                rw [b2i_t, if_neg one_ne0, ← hra2, ← hrb2]
                exact h120 (fun _ => ⟨⟨d', hac⟩, t2.mp rfl⟩)
    rw [F_X4_coversNode_s, if_pos (show nI (dp y) ≤ (4 : Int32) from nI_le (a := dp y) (b := 4) hd (by omega)), ob1_s (h1.g0 ha hal), hra.1, ob1_s (h2.g0 hb hbl), hrb.1, ob1_s (jk_X4 _ _)]
    by_cases c1 : jk d.1 e.1 = d.1
    · rw [if_pos c1, ob1_s (h2.g4 hb hbl), hrb.2.2.2.2.1, ob1_s (h1.g4 ha hal), hra.2.2.2.2.1]
      by_cases c2 : e.2.2.1 ≤ d.2.2.1
      · rw [if_pos c2]
        by_cases c3 : d.1 = 7
        · rw [if_pos c3]
          exact ⟨true, rfl, fun _ => hiff.mpr ⟨c1, c2, Or.inl c3⟩, fun _ => rfl⟩
        · rw [if_neg c3]
          obtain ⟨r, r1, r2⟩ := loop 5000 0 (by omega) (by omega)
          refine ⟨r, r1, r2.trans ⟨fun w => hiff.mpr ⟨c1, c2, Or.inr (fun l hl => w l (Nat.zero_le _) hl)⟩, fun w l _ hl => ?_⟩⟩
          rcases (hiff.mp w).2.2 with v | v
          · exact absurd v c3
          · exact v l hl
      · rw [if_neg c2]
        exact ⟨false, rfl, (fun w => by cases w), fun w => absurd (hiff.mp w).2.1 c2⟩
    · rw [if_neg c1]
      exact ⟨false, rfl, (fun w => by cases w), fun w => absurd (hiff.mp w).1 c1⟩
/-- the whole of the other shape -/
def cva (A B : Mp) : Prop := ∀ z, (∃ ez, B z = some ez) → rc A z → gd A B z
theorem cva_root {A B : Mp} (hB : Wf B) : cva A B ↔ cvs A B 0 := by
  constructor
  · intro h z _ _ z3 z4; exact h z z3 z4
  · rintro h z ⟨ez, hz⟩ z4
    exact h z (Nat.zero_le _) (by rw [wt_0]; have := hB.lt hz; omega) ⟨ez, hz⟩ z4
theorem cva_cases {A B : Mp} (hA : Wf A) (hB : Wf B) : (B 0 = none → cva A B) ∧ (A 0 = none → ∀ e, B 0 = some e → ¬ cva A B) := by
  constructor
  · rintro h z ⟨ez, hz⟩ _
    obtain ⟨d0, h0⟩ := hB.root (dp z) rfl hz
    rw [h] at h0; cases h0
  · intro h e he hc
    obtain ⟨d, -, g1, -⟩ := hc 0 ⟨e, he⟩ (Or.inl rfl)
    rw [h] at g1; cases g1
