/-! ===== pure: the class seeks the first misfit ===== -/
def spn (D : Dc) (v w : Nat) : Prop := w = v ∨ opn D v w
def mst (e : Ev) : S_Misfit := (nI e.1, nI e.2.1, nI e.2.2)
theorem tell_ok (S : S_Misfit) (a b c : Int32) : F_X0_tell S a b c = some (false, (a, b, c)) := rfl
theorem lacks_loop {T : S_Tree} {A : Mp} (hA : Wf A) (hT : TR T A 10000) (hO : OP T A) {c u : Nat} {d : Dt} (hc : A c = some d) (hu : u < 256) : ∀ (f l : Nat), l ≤ 8 → 8 - l < f → ∃ r, F_X4_lacksPart_2 (nI u) (nI (ix A c)) T f (nI l) = some r ∧ (r = true ↔ ∃ l', l ≤ l' ∧ l' < 8 ∧ ub u l' = true ∧ mb A (ch c l') = true)
  | 0, l, _, h => absurd h (Nat.not_lt_zero _)
  | f + 1, l, h1, h2 => by
    have hv := hA.vd hc
    rw [F_X4_lacksPart_2_s]
    by_cases z : l = 8
    · rw [if_pos (by rw [z]; decide)]
      exact ⟨false, rfl, (fun w => by cases w), fun w => by obtain ⟨l', a1, a2, -⟩ := w; omega⟩
    · have hl8 : l < 8 := by omega
      obtain ⟨r0, i1, i2⟩ := lacks_loop hA hT hO hc hu f (l + 1) (by omega) (by omega)
      have next : ¬ (ub u l = true ∧ mb A (ch c l) = true) → ((∃ l', l + 1 ≤ l' ∧ l' < 8 ∧ ub u l' = true ∧ mb A (ch c l') = true) ↔ ∃ l', l ≤ l' ∧ l' < 8 ∧ ub u l' = true ∧ mb A (ch c l') = true) := by
        intro hn
        constructor
        · rintro ⟨l', a1, a2⟩; exact ⟨l', by omega, a2⟩
        · rintro ⟨l', a1, a2, a3, a4⟩
          refine ⟨l', ?_, a2, a3, a4⟩
          by_cases w : l' = l
          · exfalso; rw [w] at a3 a4; exact hn ⟨a3, a4⟩
          · omega
      have hub : (nI u &&& ((1 : Int32) <<< (nI l &&& 31))) = 0 ↔ ub u l = true := (ub_tab u hu l hl8).trans ⟨fun h => decide_eq_true h, fun h => of_decide_eq_true h⟩
      rw [if_neg (show ¬ (8 : Int32) ≤ nI l from nI_ge (a := l) (b := 8) hl8 (by omega)), nI_1]
      by_cases q : (nI u &&& ((1 : Int32) <<< (nI l &&& 31))) = 0
      · rw [if_pos q, ob1_s (find_ok hA.wf0 hT hc (by omega : l < 9)), ob1_s (must_ok hA hT hO (by omega : l < 9) hv)]
        cases hm : mb A (ch c l) with
        | false =>
          rw [b2i_f, if_pos rfl]
          exact ⟨r0, i1, i2.trans (next (fun w => by rw [hm] at w; cases w.2))⟩
        | true =>
          rw [b2i_t, if_neg one_ne0]
          exact ⟨true, rfl, fun _ => ⟨l, Nat.le_refl _, hl8, hub.mp q, hm⟩, fun _ => rfl⟩
      · rw [if_neg q]
        exact ⟨r0, i1, i2.trans (next (fun w => q (hub.mpr w.1)))⟩
theorem lacks_ok {T : S_Tree} {A : Mp} (hA : Wf A) (hT : TR T A 10000) (hO : OP T A) {c u : Nat} {d : Dt} (hc : A c = some d) (hu : u < 256) : ∃ r, F_X4_lacksPart T (nI u) (nI (ix A c)) = some r ∧ (r = true ↔ ∃ l', l' < 8 ∧ ub u l' = true ∧ mb A (ch c l') = true) := by
  obtain ⟨r, r1, r2⟩ := lacks_loop hA hT hO hc hu 5000 0 (by omega) (by omega)
  exact ⟨r, r1, r2.trans ⟨fun ⟨l, _, h⟩ => ⟨l, h⟩, fun ⟨l, h⟩ => ⟨l, Nat.zero_le _, h⟩⟩⟩
theorem opn_of {D : Dc} {v b w : Nat} (h : ∀ w, v < w → w < b → v ≤ dP D w) (h1 : v < w) (h2 : w < b) : opn D v w := ⟨h1, fun u u1 u2 => h u u1 (by omega)⟩
theorem opn_lt {D : Dc} {v b w : Nat} (h : dP D b < v) (hb : v < b) (ho : opn D v w) : w < b := by
  rcases Nat.lt_or_ge w b with q | q
  · exact q
  · have := ho.2 b hb q
    omega
theorem opn_trans {D : Dc} {v m w : Nat} (h1 : opn D v m) (h2 : opn D m w) : opn D v w := by
  refine ⟨by have := h1.1; have := h2.1; omega, fun u u1 u2 => ?_⟩
  rcases Nat.lt_or_ge m u with q | q
  · have := h2.2 u q u2
    have := h1.1
    omega
  · exact h1.2 u u1 q
/-- the row behind a value's share -/
theorem vbehind_ok {V : S_Tree} {D : Dc} (hD : DW D) (hV : CV V D) {v b : Nat} (hv : v < dN D) (b1 : v < b) (b2 : b ≤ dN D) (b3 : ∀ w, v < w → w < b → v ≤ dP D w) (b4 : b < dN D → dP D b < v) : F_X3_behind V (nI v) = some (nI b) := by
  have hn : dN D ≤ 64 := by have := hD.2.1; omega
  have hdl : ∀ w, w < dN D → dD D w ≤ 4 := fun w hw => by
    by_cases q : w = 0
    · rw [q, hD.2.2.2.1]; omega
    · exact (hD.2.2.2.2.2.1 w (by omega) hw).2.2.1
  have hdv := hdl v hv
  unfold F_X3_behind
  rw [ob1_s (get_2 v hV.1 hn hv), (hV.2 v hv).2.2.1, nI_1]
  refine behind_loop hV.1 hn 5000 (v + 1) b (by omega) b2 (by omega) ?_ ?_ (by omega)
  · intro i i1 i2
    have hi := hdl i (by omega)
    exact ⟨dD D i, (hV.2 i (by omega)).2.2.1, opn_depth hD i (opn_of b3 (by omega) i2) (by omega), by omega⟩
  · intro hbn
    refine ⟨dD D b, (hV.2 b hbn).2.2.1, ?_⟩
    obtain ⟨m1, m2, m3, m4⟩ := hD.2.2.2.2.2.1 b (by omega) hbn
    have hp := b4 hbn
    have hop := opn_p hD (by omega) hbn
    have : opn D (dP D b) v := ⟨hp, fun w w1 w2 => hop.2 w w1 (by omega)⟩
    have := opn_depth hD v this hv
    omega
theorem fits_node {V T : S_Tree} {D : Dc} {A : Mp} (hD : DW D) (hX : DX D) (hA : Wf A) (hV : CV V D) (hT : TR T A 10000) (hO : OP T A) : ∀ (f v c : Nat) (d : Dt) (mis : S_Misfit), 5 ≤ f + dD D v → v < dN D → fta D A v = some c → A c = some d → ∃ r mis', F_X4_fitsNode f mis V T (nI v) (nI (ix A c)) (nI (dD D v)) = some (r, mis') ∧ ((r = true ∧ mis' = mis ∧ ∀ w e, spn D v w → w < dN D → ¬ EV D A w e) ∨ (r = false ∧ ∃ e, first1 D A (spn D v) e ∧ mis' = mst e))
  | 0, v, c, d, mis, hf, hv, _, _ => by
    exfalso
    have : dD D v ≤ 4 := by
      by_cases q : v = 0
      · rw [q, hD.2.2.2.1]; omega
      · exact (hD.2.2.2.2.2.1 v (by omega) hv).2.2.1
    omega
  | f + 1, v, c, d, mis, hf, hv, hft, hc => by
    have hn : dN D ≤ 64 := by have := hD.2.1; omega
    have hdv : dD D v ≤ 4 := by
      by_cases q : v = 0
      · rw [q, hD.2.2.2.1]; omega
      · exact (hD.2.2.2.2.2.1 v (by omega) hv).2.2.1
    have hcl := hA.lt hc
    have hrow := hT.row hc hcl
    have hVr := hV.2 v hv
    obtain ⟨jj, hj6, hkj⟩ := hD.2.2.2.2.1 v hv
    obtain ⟨b, b1, b2, b3, b4⟩ := bh_ex D v hv
    obtain ⟨x1, x2, x3, x4⟩ := hX
    have hin : ∀ w, spn D v w → w < dN D → w < b := by
      intro w hw hwn
      rcases hw with q | q
      · omega
      · rcases Nat.lt_or_ge b (dN D) with z | z
        · exact opn_lt (b4 z) b1 q
        · omega
    have hlow : ∀ w, (if dL D w = 8 then dB D w else dB D w - 1) ≤ dB D w := fun w => by
      by_cases q : dL D w = 8
      · rw [if_pos q]; omega
      · rw [if_neg q]; omega
    have hlo : ∀ w e, w < dN D → EV D A w e → (if dL D w = 8 then dB D w else dB D w - 1) ≤ e.2.1 := by
      intro w e hw he
      have := hlow w
      rcases EV_idx he with ⟨a1, a2⟩ | ⟨a1, a2⟩
      · exact a1
      · have := (x2 w hw a1).1
        omega
    have h66 : ∀ t0 : Bool, t0 = fok d (dK D v) → ∃ r mis', F_X4_fitsNode_66 (nI v) (nI (ix A c)) (nI (dD D v)) V T (F_X4_fitsNode f) mis (dK D v) d.1 t0 = some (r, mis') ∧ ((r = true ∧ mis' = mis ∧ ∀ w e, spn D v w → w < dN D → ¬ EV D A w e) ∨ (r = false ∧ ∃ e, first1 D A (spn D v) e ∧ mis' = mst e)) := by
      intro t0 ht0
      unfold F_X4_fitsNode_66
      cases t0 with
      | false =>
        have hfp : fp D A v = none := by rw [fp_some hD hv hft hc, if_neg (fun z => by rw [← ht0] at z; cases z.1)]
        have hev : EV D A v (1, dB D v, ix A c) := Or.inr (Or.inl ⟨c, d, hft, hc, ht0.symm, rfl⟩)
        rw [b2i_f, if_pos rfl, ob1_s (get_3 v hV.1 hn hv), hVr.2.2.2.1, ob2_s (tell_ok _ _ _ _)]
        refine ⟨false, _, rfl, Or.inr ⟨rfl, (1, dB D v, ix A c), ⟨⟨v, Or.inl rfl, hv, hev⟩, fun w e' hw hwn he => ?_⟩, rfl⟩⟩
        rcases hw with q | q
        · subst q
          have := EV_one hD hv hev he
          rw [← this]; exact Nat.le_refl _
        · obtain ⟨n1, n2⟩ := closed_below hD hfp w q hwn
          exact absurd he (EV_none n1 n2)
      | true =>
        rw [b2i_t, if_neg one_ne0]
        have hvonly : (dK D v = 0 ∨ d.1 = 7) → ∀ w e, spn D v w → w < dN D → ¬ EV D A w e := by
          intro hor w e hw hwn he
          have hno3 : ∀ e, ¬ EV D A v e ∨ (dK D v = 6 ∧ ¬ d.1 = 7) := by
            intro e
            by_cases z : dK D v = 6 ∧ ¬ d.1 = 7
            · exact Or.inr z
            · left
              rintro (⟨c', a1, a2, -⟩ | ⟨c', d', a1, a2, a3, -⟩ | ⟨c', a1, a2, -⟩)
              · rw [hft] at a1; cases a1; rw [hc] at a2; cases a2
              · rw [hft] at a1; cases a1; rw [hc] at a2; cases a2; rw [← ht0] at a3; cases a3
              · rw [fp_some hD hv hft hc] at a1
                by_cases z7 : d.1 = 7
                · rw [if_neg (fun y => y.2 z7)] at a1; cases a1
                · exact z ⟨a2, z7⟩
          rcases hw with q | q
          · subst q
            rcases hno3 e with z | z
            · exact z he
            · rcases hor with y | y
              · rw [y] at z; exact absurd z.1 (by decide)
              · exact z.2 y
          · rcases hor with y | y
            · -- nothing holds no values
              have hvw := q.1
              have hw1 : v + 1 < dN D := by omega
              have hp1 := q.2 (v + 1) (by omega) (by omega)
              obtain ⟨m1, m2, m3, m4⟩ := hD.2.2.2.2.2.1 (v + 1) (by omega) hw1
              have : dP D (v + 1) = v := by omega
              rw [this, y] at m4
              rcases m4 with ⟨m5, -⟩ | ⟨m5, -⟩
              · exact absurd m5 (by decide)
              · exact absurd m5 (by decide)
            · have hfp : fp D A v = none := by rw [fp_some hD hv hft hc, if_neg (fun z => z.2 y)]
              obtain ⟨n1, n2⟩ := closed_below hD hfp w q hwn
              exact EV_none n1 n2 he
        by_cases k0 : dK D v = 0
        · rw [if_pos k0]
          exact ⟨true, mis, rfl, Or.inl ⟨rfl, rfl, hvonly (Or.inl k0)⟩⟩
        · rw [if_neg k0]
          by_cases k7 : d.1 = 7
          · rw [if_pos k7]
            exact ⟨true, mis, rfl, Or.inl ⟨rfl, rfl, hvonly (Or.inr k7)⟩⟩
          · rw [if_neg k7, ob1_s (vbehind_ok hD hV hv b1 b2 b3 b4), nI_1]
            have hfp : fp D A v = some c := by rw [fp_some hD hv hft hc, if_pos ⟨ht0.symm, k7⟩]
            -- what can be amiss with v itself
            have hself : ∀ e, EV D A v e → dK D v = 6 ∧ lack D A v c ∧ e = (3, dE D v, ix A c) := by
              rintro e (⟨c', a1, a2, -⟩ | ⟨c', d', a1, a2, a3, -⟩ | ⟨c', a1, a2, a3, a4⟩)
              · rw [hft] at a1; cases a1; rw [hc] at a2; cases a2
              · rw [hft] at a1; cases a1; rw [hc] at a2; cases a2; rw [← ht0] at a3; cases a3
              · rw [hfp] at a1; cases a1; exact ⟨a2, a3, a4⟩
            have loop : ∀ (q x m : Nat), v + 1 ≤ x → x ≤ m → m ≤ b → b - x < q → (∀ w, x ≤ w → w < m → dP D w ≠ v) → (m < b → dP D m = v) → (∀ w e, v < w → w < m → ¬ EV D A w e) → ∃ r mis', F_X4_fitsNode_113 (nI v) (nI (ix A c)) (nI (dD D v)) V T (F_X4_fitsNode f) q mis (dK D v) (nI b) (nI x) = some (r, mis') ∧ ((r = true ∧ mis' = mis ∧ ∀ w e, spn D v w → w < dN D → ¬ EV D A w e) ∨ (r = false ∧ ∃ e, first1 D A (spn D v) e ∧ mis' = mst e)) := by
              intro q
              induction q with
              | zero => intro x m _ _ _ h; exact absurd h (Nat.not_lt_zero _)
              | succ q ih =>
                intro x m hx1 hx2 hmb hq hne hmv hno
                rw [F_X4_fitsNode_113_s]
                by_cases hxb : x = b
                · -- behind all values
                  have hmb2 : m = b := by omega
                  have hnone : ∀ w e, spn D v w → w < dN D → EV D A w e → w = v := by
                    intro w e hw hwn he
                    rcases hw with z | z
                    · exact z
                    · exact absurd he (hno w e z.1 (by rw [hmb2]; exact hin w (Or.inr z) hwn))
                  rw [if_pos (by rw [hxb]; exact nI_le (Nat.le_refl _) (by omega))]
                  by_cases k6 : dK D v = 6
                  · obtain ⟨g4, g6⟩ := hVr.2.2.2.2.2 k6
                    obtain ⟨r, r1, r2⟩ := lacks_ok hA hT hO hc (x2 v hv k6).2.2
                    rw [if_pos k6, ob1_s (get_6 v hV.1 hn hv), g6, ob1_s r1]
                    cases r with
                    | false =>
                      rw [b2i_f, if_pos rfl]
                      refine ⟨true, mis, rfl, Or.inl ⟨rfl, rfl, fun w e hw hwn he => ?_⟩⟩
                      have := hnone w e hw hwn he
                      subst this
                      have := r2.mpr (hself e he).2.1
                      cases this
                    | true =>
                      rw [b2i_t, if_neg one_ne0, ob1_s (get_4 v hV.1 hn hv), g4, ob2_s (tell_ok _ _ _ _)]
                      have hev : EV D A v (3, dE D v, ix A c) := Or.inr (Or.inr ⟨c, hfp, k6, r2.mp rfl, rfl⟩)
                      refine ⟨false, _, rfl, Or.inr ⟨rfl, (3, dE D v, ix A c), ⟨⟨v, Or.inl rfl, hv, hev⟩, fun w e' hw hwn he => ?_⟩, rfl⟩⟩
                      have := hnone w e' hw hwn he
                      subst this
                      rw [← EV_one hD hv hev he]; exact Nat.le_refl _
                  · rw [if_neg k6]
                    refine ⟨true, mis, rfl, Or.inl ⟨rfl, rfl, fun w e hw hwn he => ?_⟩⟩
                    have := hnone w e hw hwn he
                    subst this
                    exact k6 (hself e he).1
                · have hxn : x < dN D := by omega
                  have hpx : pI D x = nI (dP D x) := by unfold pI; rw [if_neg (by omega)]
                  obtain ⟨m1, m2, m3, m4⟩ := hD.2.2.2.2.2.1 x (by omega) hxn
                  rw [if_neg (nI_ge (by omega) (by omega)), ob1_s (get_5 x hV.1 hn hxn), (hV.2 x hxn).2.2.2.2.1, hpx]
                  by_cases hxm : x = m
                  · subst hxm
                    have hp := hmv (by omega)
                    have hl9 : dL D x < 9 := by rcases m4 with z | z <;> omega
                    have hlx : lI D x = nI (dL D x) := by unfold lI; rw [if_neg (by omega)]
                    have hftx : fta D A x = some (ch c (dL D x)) := fta_some (by omega) (by rw [hp]; exact hfp)
                    have hopx : opn D v x := opn_of b3 (by omega) (by omega)
                    rw [if_pos (by rw [hp]), ob1_s (get_1 x hV.1 hn hxn), (hV.2 x hxn).2.1, hlx, ob1_s (find_ok hA.wf0 hT hc hl9)]
                    -- later values are amiss later
                    have later : ∀ e w0, EV D A w0 e → spn D x w0 → w0 < dN D → (∀ w e', spn D x w → w < dN D → EV D A w e' → e.2.1 ≤ e'.2.1) → first1 D A (spn D v) e := by
                      intro e w0 he0 hs0 hn0 hmin
                      have hov : opn D v w0 := by
                        rcases hs0 with z | z
                        · rw [z]; exact hopx
                        · exact opn_trans hopx z
                      refine ⟨⟨w0, Or.inr hov, hn0, he0⟩, fun w e' hw hwn he => ?_⟩
                      rcases hw with z | z
                      · rw [z] at he
                        obtain ⟨k6, -, he3⟩ := hself e' he
                        rw [he3]
                        obtain ⟨y1, y2⟩ := (x3 v w0 hov.1 hn0 k6).1 hov
                        show e.2.1 ≤ dE D v
                        rcases EV_idx he0 with ⟨a1, a2⟩ | ⟨a1, a2⟩
                        · omega
                        · have := y2 a1; omega
                      · rcases Nat.lt_or_ge w x with y | y
                        · exact absurd he (hno w e' z.1 y)
                        · by_cases hsx : spn D x w
                          · exact hmin w e' hsx hwn he
                          · have hxw : x < w := by
                              rcases Nat.lt_or_ge x w with u | u
                              · exact u
                              · exact absurd (Or.inl (by omega)) hsx
                            have hnot : ¬ opn D x w := fun u => hsx (Or.inr u)
                            have hw0w : w0 < w := by
                              rcases Nat.lt_or_ge w0 w with u | u
                              · exact u
                              · exfalso
                                rcases hs0 with t | t
                                · omega
                                · exact hnot ⟨hxw, fun r r1 r2 => t.2 r r1 (by omega)⟩
                            have hl := hlo w e' hwn he
                            have hbw := x1 w0 w hw0w hwn
                            rcases EV_idx he0 with ⟨a1, a2⟩ | ⟨a1, a2⟩
                            · omega
                            · have hno0 : ¬ opn D w0 w := fun u => by
                                rcases hs0 with t | t
                                · rw [t] at u; exact hnot u
                                · exact hnot (opn_trans t u)
                              have := (x3 w0 w hw0w hwn a1).2 hno0
                              omega
                    cases hcc : A (ch c (dL D x)) with
                    | none =>
                      rw [if_pos (rn_none hcc), ob1_s (get_3 x hV.1 hn hxn), (hV.2 x hxn).2.2.2.1]
                      have h1b : 1 ≤ dB D x := by
                        have := x1 v x (by omega) hxn
                        have := hlow x
                        omega
                      have hev : EV D A x (2, (if dL D x = 8 then dB D x else dB D x - 1), ix A c) := Or.inl ⟨ch c (dL D x), hftx, hcc, rfl, rfl, c, by rw [hp]; exact hfp, rfl⟩
                      have hfirst : first1 D A (spn D v) (2, (if dL D x = 8 then dB D x else dB D x - 1), ix A c) := by
                        refine later _ x hev (Or.inl rfl) hxn (fun w e' hw hwn he => ?_)
                        rcases hw with z | z
                        · subst z
                          rw [← EV_one hD hxn hev he]; exact Nat.le_refl _
                        · obtain ⟨n1, n2⟩ := closed_below hD (fp_no hD hxn hftx hcc) w z hwn
                          exact absurd he (EV_none n1 n2)
                      by_cases l8 : dL D x = 8
                      · rw [if_pos (show nI (dL D x) = 8 by rw [l8]; rfl), ob2_s (tell_ok _ _ _ _)]
                        rw [if_pos l8] at hfirst
                        exact ⟨false, _, rfl, Or.inr ⟨rfl, _, hfirst, rfl⟩⟩
                      · rw [if_neg (show ¬ nI (dL D x) = 8 from fun z => l8 (nI_inj (a := dL D x) (b := 8) (by omega) (by omega) z)), show (1 : Int32) = nI 1 from rfl, nI_sub h1b, ob2_s (tell_ok _ _ _ _)]
                        rw [if_neg l8] at hfirst
                        exact ⟨false, _, rfl, Or.inr ⟨rfl, _, hfirst, rfl⟩⟩
                    | some d' =>
                      have hcl2 := ix_lt hcc (hA.lt hcc)
                      have hle := hT.le
                      rw [if_neg (by rw [rn_some hcc]; exact nI_m1 (by omega)), rn_some hcc, nI_1]
                      have hdx : dD D x = dD D v + 1 := by rw [m2, hp]
                      obtain ⟨r, mis', t1, t2⟩ := fits_node hD ⟨x1, x2, x3, x4⟩ hA hV hT hO f x (ch c (dL D x)) d' mis (by omega) hxn hftx hcc
                      rw [hdx] at t1
                      rw [ob2_s t1]
                      rcases t2 with ⟨t3, t4, t5⟩ | ⟨t3, e, t4, t5⟩
                      · rw [t3, b2i_t, if_neg one_ne0, t4, nI_1]
                        obtain ⟨bx, c1, c2, c3, c4⟩ := bh_ex D x hxn
                        have hbxb : bx ≤ b := by
                          rcases Nat.lt_or_ge b bx with u | u
                          · exfalso
                            have := c3 b (by omega) u
                            have := b4 (by omega)
                            omega
                          · exact u
                        refine ih (x + 1) bx (by omega) c1 hbxb (by omega) ?_ ?_ ?_
                        · intro w w1 w2 w3
                          have := c3 w (by omega) w2
                          omega
                        · intro hbx
                          have g1 := c4 (by omega)
                          have g2 := b3 bx (by omega) hbx
                          rcases Nat.lt_or_ge v (dP D bx) with u | u
                          · exfalso
                            have := hD.2.2.2.2.2.2 bx (by omega) (by omega) x g1 c1
                            omega
                          · omega
                        · intro w e w1 w2 he
                          rcases Nat.lt_or_ge w x with u | u
                          · exact hno w e w1 u he
                          · by_cases z : w = x
                            · exact t5 w e (Or.inl z) (by omega) he
                            · exact t5 w e (Or.inr (opn_of c3 (by omega) w2)) (by omega) he
                      · rw [t3, b2i_f, if_pos rfl]
                        obtain ⟨⟨w0, y1, y2, y3⟩, y4⟩ := t4
                        exact ⟨false, mis', rfl, Or.inr ⟨rfl, e, later e w0 y3 y1 y2 y4, t5⟩⟩
                  · have hp := hne x (Nat.le_refl _) (by omega)
                    rw [if_neg (fun z => hp (nI_inj (by omega) (by omega) z)), nI_1]
                    exact ih (x + 1) m (by omega) (by omega) hmb (by omega) (fun w w1 w2 => hne w (by omega) w2) hmv hno
            refine loop 5000 (v + 1) (v + 1) (Nat.le_refl _) (Nat.le_refl _) (by omega) (by omega) (fun w w1 w2 => by omega) ?_ (fun w e w1 w2 => by omega)
            intro hvb
            have g1 := b3 (v + 1) (by omega) hvb
            have g2 := (hD.2.2.2.2.2.1 (v + 1) (by omega) (by omega)).1
            omega
    rw [F_X4_fitsNode_s, if_pos (show nI (dD D v) ≤ (4 : Int32) from nI_le (a := dD D v) (b := 4) hdv (by omega)), ob1_s (get_0 v hV.1 hn hv), hVr.1, ob1_s (hT.g0 hc hcl), hrow.1]
    by_cases k0 : dK D v = 0
    · rw [if_pos k0, ob1_s (hT.g4 hc hcl), hrow.2.2.2.2.1]
      by_cases m1 : d.2.2.1 = 1
      · rw [if_pos m1]
        exact h66 true (by unfold fok; rw [if_pos k0]; exact (decide_eq_true m1).symm)
      · rw [if_neg m1]
        exact h66 false (by unfold fok; rw [if_pos k0]; exact (decide_eq_false m1).symm)
    · rw [if_neg k0, ob1_s (jk_X4 _ _)]
      by_cases m1 : jk d.1 (dK D v) = d.1
      · rw [if_pos m1]
        exact h66 true (by unfold fok; rw [if_neg k0]; exact (decide_eq_true m1).symm)
      · rw [if_neg m1]
        exact h66 false (by unfold fok; rw [if_neg k0]; exact (decide_eq_false m1).symm)
