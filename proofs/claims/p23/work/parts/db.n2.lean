/-! ===== p23, pure: the law's loop ===== -/
theorem ob3_s {α α2 α3 β : Type} {x : Option (α × α2 × α3)} {k : α → α2 → α3 → Option β} {a : α} {b : α2} {c : α3} (h : x = some (a, b, c)) : ob3 x k = k a b c := by rw [h]; rfl
def dc (S : S_LS) (k : Bool) : Int32 := g_Tree_documents (g_State_tree k (g_LS_now S))
theorem nI_m3 {n : Nat} (h : n < 2 ^ 31) : ¬ nI n = -3 := by
  intro q
  have a := nI_toInt h
  rw [q] at a
  have : (-3 : Int32).toInt = -3 := rfl
  omega
theorem sub_b2i (k : Bool) : (1 : Int32) - b2i k = b2i (!k) := by cases k <;> rfl
theorem GI.same {S S' : S_LS} {Z : Nat → S_State} {b : Int} (h : GI S Z b) (h2 : SM S S') : GI S' Z b := by
  obtain ⟨a1, a2, q, a3, a4⟩ := h
  exact ⟨by rw [h2.1]; exact a1, a2, q, a3, by rw [h2.2]; exact a4⟩
theorem count_cl (S : S_LS) : okr (F_X4_count S 2) = some (g_LS_savedStates S) := by
  unfold F_X4_count
  rw [if_neg (by decide), if_pos (by decide)]
  rfl
section LAW
variable {S : S_LS} {Z : Nat → S_State} {b : Int} {L : Nat} {xs : Nat → Int32} {k34 : S_LS → (Nat → S_State) → Bool → Int32 → Int32 → Option Bool} {x3 x4 x7 x8 x9 : Int32}
theorem doc_cl {M : Mp} {n : Int} {k : Bool} (hT : GT (g_State_tree k (g_LS_now S)) M n) : okr (F_X4_shape S (b2i k) 0) = some (dc S k) := (sh_cl hT).1
theorem law_474 (h : GI S Z b) (hK : k34 S Z true x3 (x4 + 1) = some true) : F_L_law_474 L xs k34 S Z x3 x4 = some true := by
  obtain ⟨A, n, hA, -⟩ := h.1.1 false
  obtain ⟨B, m, hB, -⟩ := h.1.1 true
  have s1 : okr (F_X4_shape S 1 1) = some (nI (ix B 10000)) := (sh_cl hB).2
  have hle := hB.2.1.le
  unfold F_L_law_474
  rw [ob1_s s1]
  by_cases z : ix B 10000 = 0
  · rw [if_neg (by rw [z]; decide)]
    have hB0 : B 0 = none := by
      rcases root_ix hB.1.1 with ⟨-, w, -⟩ | ⟨w, -⟩
      · exact w
      · omega
    have hcv : okr (F_X4_covers S 0) = some 1 := okr_s (covers_cl (k := false) hA hB ((cva_cases hA.1.1 hB.1.1).1 hB0))
    rw [ob1_s hcv, if_pos rfl]
    exact hK
  · rw [if_pos (show (0 : Int32) < nI (ix B 10000) from nI_lt (a := 0) (by omega) (by omega))]
    exact hK
theorem law_451 (h : GI S Z b) (hK : k34 S Z true x3 (x4 + 1) = some true) : F_L_law_451 L xs k34 S Z x3 x4 true = some true := by
  obtain ⟨A, n, hA, -⟩ := h.1.1 false
  obtain ⟨B, m, hB, -⟩ := h.1.1 true
  have s1 : okr (F_X4_shape S 0 1) = some (nI (ix A 10000)) := (sh_cl hA).2
  have hle := hA.2.1.le
  unfold F_L_law_451
  rw [b2i_t, if_neg one_ne0, ob1_s s1]
  by_cases z : ix A 10000 = 0
  · rw [if_neg (by rw [z]; decide)]
    have hA0 : A 0 = none := by
      rcases root_ix hA.1.1 with ⟨-, w, -⟩ | ⟨w, -⟩
      · exact w
      · omega
    have hcv : okr (F_X4_covers S 1) = some 1 := okr_s (covers_cl (k := true) hB hA ((cva_cases hB.1.1 hA.1.1).1 hA0))
    rw [ob1_s hcv, if_pos rfl]
    exact law_474 h hK
  · rw [if_pos (show (0 : Int32) < nI (ix A 10000) from nI_lt (a := 0) (by omega) (by omega))]
    exact law_474 h hK
/-- behind each turn -/
theorem law_393 (h : GI S Z b) (hK : k34 S Z true x3 (x4 + 1) = some true) (hx : 0 ≤ x9.toInt ∨ (g_LS_savedStates S = x7 ∧ dc S false + dc S true = x8)) : F_L_law_393 L xs k34 S Z true x3 x4 x7 x8 x9 = some true := by
  obtain ⟨A, n, hA, -⟩ := h.1.1 false
  obtain ⟨B, m, hB, -⟩ := h.1.1 true
  have l0 : F_L_shape S 0 = some true := shape_law hA
  have l1 : F_L_shape S 1 = some true := shape_law hB
  have d0 : okr (F_X4_shape S 0 0) = some (dc S false) := doc_cl hA
  have d1 : okr (F_X4_shape S 1 0) = some (dc S true) := doc_cl hB
  have h451 := law_451 (L := L) (xs := xs) h hK
  unfold F_L_law_393
  rw [b2i_t, if_neg one_ne0]
  by_cases z : 0 ≤ x9
  · rw [if_pos z, ob1_s l0, b2i_t, if_neg one_ne0, ob1_s l1, b2i_t, if_neg one_ne0]
    exact h451
  · rw [if_neg z]
    rcases hx with hx | ⟨hx1, hx2⟩
    · exact absurd (Int32.le_iff_toInt_le.mpr (show (0 : Int32).toInt ≤ x9.toInt from hx)) z
    · rw [ob1_s (count_cl S), if_pos hx1, ob1_s d0, ob1_s d1, if_pos hx2, ob1_s l0, b2i_t, if_neg one_ne0, ob1_s l1, b2i_t, if_neg one_ne0]
      exact h451
theorem GI.b0 (h : GI S Z b) : 0 ≤ b := by
  obtain ⟨A, n, hA, hn⟩ := h.1.1 false
  have := hA.1.2.1
  omega
/-- a turn, from the second outlook on -/
theorem law_136 (h : GI S Z b) (hb : b + b ≤ 900000) {ka : Bool} {i : Nat} (hi : i < 12) {D : Dc} (hD : DW D) (hL : DL D) (hread : ∀ R : S_Reader, ∃ R' B E, F_X1_read R (g_LS_codes S) (g_LS_length S) = some (true, R') ∧ CV (g_Reader_values R') (DZ D B E)) {M : Mp} {n : Int} (hT : GT (g_State_tree ka (g_LS_now S)) M n) (hn : n ≤ b) {r : Bool} (hr : r = true ↔ RF (g_State_setting (g_LS_now S)) M (lrn D (dc S ka + 1) M)) (hx7 : x7 = g_LS_savedStates S) (hx8 : x8 = dc S false + dc S true) (hc : ∃ v, F_L_cell L xs ((19 : Int32) * x4 + 2) = some v) (hK : ∀ S' Z', GI S' Z' (b + b + 1) → k34 S' Z' true x3 (x4 + 1) = some true) : F_L_law_136 L xs k34 S Z true x3 x4 (nI i) (b2i ka) x7 x8 r = some true := by
  have b0 := h.b0
  obtain ⟨R1, B1, E1, h1, c1⟩ := hread (g_LS_reader S)
  obtain ⟨V, W, r', -, -, i0⟩ := ifl_cl (k := ka) h1 hT c1 hD
  have hSM : SM S (lsv (s_LS_reader S R1) V W) := ⟨rfl, rfl⟩
  have h' : GI (lsv (s_LS_reader S R1) V W) Z b := h.same hSM
  have hT' : GT (g_State_tree ka (g_LS_now (lsv (s_LS_reader S R1) V W))) M n := hT
  have hread' : ∀ R : S_Reader, ∃ R' B E, F_X1_read R (g_LS_codes (lsv (s_LS_reader S R1) V W)) (g_LS_length (lsv (s_LS_reader S R1) V W)) = some (true, R') ∧ CV (g_Reader_values R') (DZ D B E) := hread
  have i0' : okr (F_X4_ifLearned S (b2i ka) 0) = some (nI (ix (lrn D (dc S ka + 1) M) 10000), lsv (s_LS_reader S R1) V W) := by
    rw [lrn_DZ] at i0
    exact okr_s i0
  have hd7 : x7 = g_LS_savedStates (lsv (s_LS_reader S R1) V W) := hx7
  have hd8 : x8 = dc (lsv (s_LS_reader S R1) V W) false + dc (lsv (s_LS_reader S R1) V W) true := hx8
  have hrr : r = true ↔ RF (g_State_setting (g_LS_now (lsv (s_LS_reader S R1) V W))) M (lrn D (dc (lsv (s_LS_reader S R1) V W) ka + 1) M) := hr
  have i0'' : okr (F_X4_ifLearned S (b2i ka) 0) = some (nI (ix (lrn D (dc (lsv (s_LS_reader S R1) V W) ka + 1) M) 10000), lsv (s_LS_reader S R1) V W) := i0'
  unfold F_L_law_136
  rw [ob2_s i0'']
  clear i0 i0' i0'' hT hr hx7 hx8 hread h
  generalize lsv (s_LS_reader S R1) V W = U at *
  have leave : ∀ S' Z' b' x9, GI S' Z' b' → b' ≤ b + b + 1 → (0 ≤ x9.toInt ∨ (g_LS_savedStates S' = x7 ∧ dc S' false + dc S' true = x8)) → F_L_law_393 L xs k34 S' Z' true x3 x4 x7 x8 x9 = some true := fun S' Z' b' x9 g1 g2 g3 => law_393 (g1.mono g2) (hK S' Z' (g1.mono g2)) g3
  have stay : ∀ S', g_LS_now S' = g_LS_now U → g_LS_savedStates S' = g_LS_savedStates U → GI S' Z b ∧ g_LS_savedStates S' = x7 ∧ dc S' false + dc S' true = x8 := fun S' e1 e2 => ⟨h'.same ⟨e1, e2⟩, by rw [e2, hd7], by rw [hd8]; unfold dc; rw [e1]⟩
  by_cases i7 : i < 7
  · rw [if_neg (show ¬ (7 : Int32) ≤ nI i from nI_ge (a := i) (b := 7) i7 (by omega))]
    obtain ⟨R2, B2, E2, h2, c2⟩ := hread' (g_LS_reader U)
    rcases learn_cl (k := ka) h' (by omega) h2 hT' hn c2 hD hL with ⟨g1, S', g2, g3, g4⟩ | ⟨g1, S', Z', g2, g3, g4, g5⟩
    · rw [lrn_DZ] at g1
      have hl : F_L_learn U Z (b2i ka) = some (-3, S', Z) := by
        unfold F_L_learn
        rw [g2]
        exact if_pos rfl
      obtain ⟨u1, u2, u3⟩ := stay S' g3 g4
      rw [ob3_s hl, if_pos rfl]
      unfold F_L_law_174
      rw [hrr.mpr g1, if_pos rfl, b2i_t, if_neg one_ne0]
      exact leave S' Z b (-3) u1 (by omega) (Or.inr ⟨u2, u3⟩)
    · rw [lrn_DZ] at g1 g2
      have hl : F_L_learn U Z (b2i ka) = some (nI (ix (lrn D (dc U ka + 1) M) 10000), S', Z') := by
        unfold F_L_learn
        rw [g2]
        rfl
      have hrf : r = false := by
        cases r with
        | false => rfl
        | true => exact absurd (hrr.mp rfl) g1
      have hix : ix (lrn D (dc U ka + 1) M) 10000 ≤ 30 := by
        rcases Nat.lt_or_ge 30 (ix (lrn D (dc U ka + 1) M) 10000) with w | w
        · exact absurd (Or.inl w) g1
        · exact w
      obtain ⟨A', n', hA', -⟩ := g3.1.1 false
      obtain ⟨B', m', hB', -⟩ := g3.1.1 true
      have d0 : okr (F_X4_shape S' 0 0) = some (dc S' false) := doc_cl hA'
      have d1 : okr (F_X4_shape S' 1 0) = some (dc S' true) := doc_cl hB'
      have hsum : dc S' false + dc S' true = x8 + 1 := by
        rw [hd8]
        cases ka with
        | false =>
          have e1 : dc S' false = dc U false + 1 := g4
          have e2 : dc S' true = dc U true := congrArg g_Tree_documents g5
          rw [e1, e2, Int32.add_assoc, Int32.add_comm 1, ← Int32.add_assoc]
        | true =>
          have e1 : dc S' true = dc U true + 1 := g4
          have e2 : dc S' false = dc U false := congrArg g_Tree_documents g5
          rw [e1, e2, ← Int32.add_assoc]
      rw [ob3_s hl, if_neg (nI_m3 (by omega))]
      unfold F_L_law_174
      rw [hrf, if_pos rfl, b2i_f, if_pos rfl, if_pos rfl, ob1_s d0, ob1_s d1, if_pos hsum]
      exact leave S' Z' (b + 1) _ g3 (by omega) (Or.inl (by rw [nI_toInt (by omega)]; omega))
  · rw [if_pos (show (7 : Int32) ≤ nI i from nI_le (a := 7) (by omega) (by omega))]
    by_cases i9 : i < 9
    · rw [if_neg (show ¬ (9 : Int32) ≤ nI i from nI_ge (a := i) (b := 9) i9 (by omega)), sub_b2i]
      obtain ⟨N, m, hU, hm⟩ := h'.1.1 (!ka)
      rw [ob1_s (doc_cl hU), ob1_s (doc_cl hT')]
      rcases join_cl h' (by omega) hT' hn hU hm with ⟨S', g2, g3, g4⟩ | ⟨S', Z', v, g2, g6, g3, g4, g5, g7⟩
      · have hl : F_L_join U Z (b2i ka) = some (-3, S', Z) := by
          unfold F_L_join
          rw [g2]
          exact if_pos rfl
        obtain ⟨u1, u2, u3⟩ := stay S' g3 g4
        rw [ob3_s hl, if_pos rfl]
        exact leave S' Z b (-3) u1 (by omega) (Or.inr ⟨u2, u3⟩)
      · have hl : F_L_join U Z (b2i ka) = some (nI v, S', Z') := by
          unfold F_L_join
          rw [g2]
        have hU' : GT (g_State_tree (!ka) (g_LS_now S')) N m := by rw [g5]; exact hU
        have hcv : okr (F_X4_covers S' (b2i ka)) = some 1 := okr_s (covers_cl g7 hU' (jm_cva hT'.1 hU.1 hT'.2.2.2.2 (by omega)))
        have e1 : dc S' ka = dc U ka + dc U (!ka) := g4
        have e2 : dc S' (!ka) = dc U (!ka) := congrArg g_Tree_documents g5
        rw [ob3_s hl, if_neg (nI_m3 (by omega)), ob1_s hcv, if_pos rfl, ob1_s (doc_cl g7), if_pos e1, ob1_s (doc_cl hU'), if_pos e2]
        exact leave S' Z' (b + b) _ g3 (by omega) (Or.inl (by rw [nI_toInt (by omega)]; omega))
    · rw [if_pos (show (9 : Int32) ≤ nI i from nI_le (a := 9) (by omega) (by omega))]
      rcases (show i = 9 ∨ i = 10 ∨ i = 11 by omega) with rfl | rfl | rfl
      · rw [if_pos (show nI 9 = (9 : Int32) from rfl)]
        obtain ⟨S', Z', v, g1, g2, g3, g4⟩ := forget_cl (k := ka) h' b0
        obtain ⟨A', n', hA', -⟩ := g3.1.1 ka
        have s1 := (sh_cl hA').2
        have hz : nI (ix A' 10000) = 0 := by rw [← hA'.2.1.size]; exact g4
        rw [ob3_s (okr_s g1), ob1_s s1, if_pos hz]
        exact leave S' Z' b v g3 (by omega) (Or.inl g2)
      · rw [if_neg (show ¬ nI 10 = (9 : Int32) by decide), if_pos (show nI 10 = (10 : Int32) from rfl)]
        obtain ⟨w, hw⟩ := hc
        obtain ⟨q, q1, q2⟩ := low_cl w (m := 2) (by omega) (by omega)
        have q2' : F_L_low w 2 = some (nI q) := q2
        rw [ob1_s hw, ob1_s q2']
        by_cases y : nI q = 0
        · rw [if_pos y]
          obtain ⟨S', Z', v, g1, g2, g3⟩ := swap_cl h'
          rw [ob3_s g1]
          exact leave S' Z' b v g3 (by omega) (Or.inl g2)
        · rw [if_neg y]
          obtain ⟨S', Z', v, g1, g2, g3⟩ := set_cl (k := ka) h'
          rw [ob3_s (okr_s g1)]
          exact leave S' Z' b v g3 (by omega) (Or.inl g2)
      · rw [if_neg (show ¬ nI 11 = (9 : Int32) by decide), if_neg (show ¬ nI 11 = (10 : Int32) by decide)]
        rcases undo_cl h' with g1 | ⟨S', v, g1, g2, g3⟩
        · have hl : F_L_undo U Z = some (-3, U) := by
            unfold F_L_undo
            rw [g1]
            exact if_pos rfl
          obtain ⟨u1, u2, u3⟩ := stay U rfl rfl
          rw [ob2_s hl]
          exact leave U Z b (-3) u1 (by omega) (Or.inr ⟨u2, u3⟩)
        · have hl : F_L_undo U Z = some (v, S') := by
            unfold F_L_undo
            rw [g1]
          rw [ob2_s hl]
          exact leave S' Z b v g3 (by omega) (Or.inl g2)
end LAW
/-- how many documents there can be behind k turns -/
def bnd : Nat → Int
  | 0 => 0
  | k + 1 => bnd k + bnd k + 1
theorem bnd_14 : ∀ k, k < 15 → bnd k + bnd k ≤ 900000 := by decide
theorem ka_of {a : Nat} (h : a < 2) : ∃ ka : Bool, nI a = b2i ka := by
  rcases (show a = 0 ∨ a = 1 by omega) with rfl | rfl
  · exact ⟨false, rfl⟩
  · exact ⟨true, rfl⟩
theorem law_34 {L : Nat} {xs : Nat → Int32} (hL : L < 2 ^ 31) {t : Nat} (ht : t ≤ 14) : ∀ f k S Z, t - k < f → k ≤ t → GI S Z (bnd k) → F_L_law_34 L xs f S Z true (nI t) (nI k) = some true := by
  intro f
  induction f with
  | zero => intro k S Z h; omega
  | succ f ihf =>
    intro k S Z h1 h2 hG
    rw [F_L_law_34_s]
    rcases Nat.lt_or_ge k t with z | z
    · obtain ⟨w1, e1⟩ := cell_cl L xs (a := 19 * k) hL (by omega)
      obtain ⟨w2, e2⟩ := cell_cl L xs (a := 19 * k + 1) hL (by omega)
      obtain ⟨w3, e3⟩ := cell_cl L xs (a := 19 * k + 2) hL (by omega)
      obtain ⟨i, i1, i2⟩ := low_cl w1 (m := 12) (by omega) (by omega)
      have i2' : F_L_low w1 12 = some (nI i) := i2
      obtain ⟨a, a1, a2⟩ := low_cl w2 (m := 2) (by omega) (by omega)
      have a2' : F_L_low w2 2 = some (nI a) := a2
      obtain ⟨ka, hka⟩ := ka_of a1
      have c0 : (19 : Int32) * nI k = nI (19 * k) := by rw [show (19 : Int32) = nI 19 from rfl, nI_mul]
      obtain ⟨A, n, hA, hn⟩ := hG.1.1 false
      obtain ⟨B, m, hB, hm⟩ := hG.1.1 true
      have d0 : okr (F_X4_shape S 0 0) = some (dc S false) := doc_cl hA
      have d1 : okr (F_X4_shape S 1 0) = some (dc S true) := doc_cl hB
      have hcl : F_X4_clearBuffer S = some (g_LS_length S, s_LS_length S 0) := rfl
      obtain ⟨r, S1, D, f1, f2, f3, f4, f5⟩ := types_cl (S := s_LS_length S 0) (L := L) (xs := xs) hL (a := 19 * k + 1) (by omega) rfl
      have hs1 : SM S S1 := ⟨f2.1, f2.2⟩
      have hG1 := hG.same hs1
      obtain ⟨M, n', hT, hn'⟩ := hG1.1.1 ka
      obtain ⟨R1, B1, E1, g1, g2⟩ := f5 (g_LS_reader S1)
      obtain ⟨V, W, rr, j1, j2, -⟩ := ifl_cl (k := ka) g1 hT g2 f3
      rw [lrn_DZ] at j1
      have hK : ∀ S' Z', GI S' Z' (bnd k + bnd k + 1) → F_L_law_34 L xs f S' Z' true (nI t) (nI k + 1) = some true := fun S' Z' hg => by
        rw [nI_1]
        exact ihf (k + 1) S' Z' (by omega) (by omega) hg
      have hdc : ∀ j, dc (lsv (s_LS_reader S1 R1) V W) j = dc S j := fun j => by
        show g_Tree_documents (g_State_tree j (g_LS_now S1)) = g_Tree_documents (g_State_tree j (g_LS_now S))
        rw [hs1.1]
      have main := law_136 (S := lsv (s_LS_reader S1 R1) V W) (Z := Z) (b := bnd k) (L := L) (xs := xs) (k34 := F_L_law_34 L xs f) (x3 := nI t) (x4 := nI k) (x7 := g_LS_savedStates S) (x8 := dc S false + dc S true) hG1 (bnd_14 k (by omega)) (ka := ka) (i := i) i1 (D := D) f3 f4 f5 (M := M) (n := n') hT hn' (r := rr) j1 (show g_LS_savedStates S = g_LS_savedStates S1 from hs1.2.symm) (by rw [hdc, hdc]) ⟨w3, by rw [c0, show nI (19 * k) + (2 : Int32) = nI (19 * k + 2) from nI_add _ 2]; exact e3⟩ hK
      rw [if_neg (nI_ge z (by omega)), b2i_t, if_neg one_ne0, c0, ob1_s e1, ob1_s i2', nI_1, ob1_s e2, ob1_s a2', ob1_s (count_cl S), ob1_s d0, ob1_s d1, ob2_s hcl, ob2_s f1, hka, ob2_s (okr_s j2)]
      cases rr with
      | false => rw [b2i_f, if_neg (by decide)]; exact main
      | true => rw [b2i_t, if_pos rfl]; exact main
    · rw [if_pos (nI_le z (by omega))]
/-- the law answers true -/
theorem law_true {L : Nat} {xs : Nat → Int32} (hL : L ≤ 260) : F_L_law L xs Z_LS (fun _ => Z_State) = some true := by
  have hdiv : Int32.ofNat L / (19 : Int32) = nI (L / 19) := by
    rw [← Int32.toInt_inj, Int32.toInt_div_of_ne_left _ _ (by
      intro w
      have := congrArg Int32.toInt w
      rw [show (Int32.ofNat L).toInt = (L : Int) from nI_toInt (n := L) (by omega)] at this
      have : (Int32.minValue).toInt = -2147483648 := rfl
      omega), show (Int32.ofNat L).toInt = (L : Int) from nI_toInt (n := L) (by omega), nI_toInt (by omega)]
    rfl
  unfold F_L_law
  rw [hdiv]
  by_cases z : nI (L / 19) ≤ (14 : Int32)
  · rw [if_pos z]
    exact law_34 (L := L) (xs := xs) (by omega) (t := L / 19) (by omega) 5000 0 _ _ (by omega) (by omega) GI_new
  · rw [if_neg z]
    exact law_34 (L := L) (xs := xs) (by omega) (t := 14) (by omega) 5000 0 _ _ (by omega) (by omega) GI_new
