/-! ===== p23, pure: the numbers of a joined shape; it covers the other one ===== -/
theorem o0_NG {M : Mp} {n : Int} (h : GM M n) (c : Nat) : 0 ≤ vI (o0 (M c)) ∧ vI (o0 (M c)) ≤ 40 * n ∧ 0 ≤ gI (o0 (M c)) ∧ gI (o0 (M c)) ≤ vI (o0 (M c)) := by
  obtain ⟨h1, h2, h3, h4, h5, h6⟩ := h
  cases hM : M c with
  | none =>
    show 0 ≤ vI d00 ∧ vI d00 ≤ 40 * n ∧ 0 ≤ gI d00 ∧ gI d00 ≤ vI d00
    have a : vI d00 = 0 := rfl
    have b : gI d00 = 0 := rfl
    rw [a, b]; omega
  | some d =>
    show 0 ≤ vI d ∧ vI d ≤ 40 * n ∧ 0 ≤ gI d ∧ gI d ≤ vI d
    obtain ⟨a1, a2, a3, a4, -⟩ := (h6 c d hM).1
    exact ⟨by omega, a2, a3, a4⟩
theorem jdc_vg {A B : Mp} {n m : Int} (hA : GM A n) (hB : GM B m) (c : Nat) (a : Int32) : vI (jdc (A c) (B c) a) = vI (o0 (A c)) + vI (o0 (B c)) ∧ gI (jdc (A c) (B c) a) = gI (o0 (A c)) + gI (o0 (B c)) := by
  obtain ⟨a1, a2, a3, a4⟩ := o0_NG hA c
  obtain ⟨b1, b2, b3, b4⟩ := o0_NG hB c
  have := hA.2.2.1
  have := hB.2.2.1
  exact ⟨add_small a1 (by unfold vI at a2; omega) b1 (by unfold vI at b2; omega), add_small a3 (by unfold gI vI at *; omega) b3 (by unfold gI vI at *; omega)⟩
theorem o0_some {o : Option Dt} {d : Dt} (h : o = some d) : o0 o = d := by rw [h]; rfl
theorem o0_none {o : Option Dt} (h : o = none) : o0 o = d00 := by rw [h]; rfl
theorem jdc_NG {A B : Mp} {n m : Int} (hA : GM A n) (hB : GM B m) {a : Int32} (ha : a.toInt = n) (hnm : n + m ≤ 1000000) {c : Nat} (hc : (A c).isSome = true ∨ (B c).isSome = true) : NG (jdc (A c) (B c) a) (40 * (n + m)) (n + m) := by
  obtain ⟨v1, g1⟩ := jdc_vg hA hB c a
  obtain ⟨a1, a2, a3, a4⟩ := o0_NG hA c
  obtain ⟨b1, b2, b3, b4⟩ := o0_NG hB c
  obtain ⟨kA, mA⟩ := o0_K hA.1 c
  obtain ⟨kB, mB⟩ := o0_K hB.1 c
  have n0 := hA.2.1
  have m0 := hB.2.1
  have k1 : (jdc (A c) (B c) a).1 = jk (o0 (A c)).1 (o0 (B c)).1 := rfl
  have eA : ∀ d, A c = some d → 1 ≤ eI d ∧ eI d ≤ n ∧ 1 ≤ vI d ∧ (d.1 = 0 → d.2.2.1 = 1) ∧ (d.1 = 6 → 1 ≤ gI d) := fun d hd => by
    obtain ⟨x1, x2, x3, x4, x5, x6, x7, x8⟩ := (hA.2.2.2.2.2 c d hd).1
    exact ⟨x5, x6, x1, x7, x8⟩
  have eB : ∀ d, B c = some d → 1 ≤ eI d ∧ eI d ≤ m ∧ 1 ≤ vI d ∧ (d.1 = 0 → d.2.2.1 = 1) ∧ (d.1 = 6 → 1 ≤ gI d) := fun d hd => by
    obtain ⟨x1, x2, x3, x4, x5, x6, x7, x8⟩ := (hB.2.2.2.2.2 c d hd).1
    exact ⟨x5, x6, x1, x7, x8⟩
  have e1 : 1 ≤ eI (jdc (A c) (B c) a) ∧ eI (jdc (A c) (B c) a) ≤ n + m := by
    show 1 ≤ (if (A c).isSome = true ∧ jk (o0 (A c)).1 (o0 (B c)).1 = (o0 (A c)).1 then (o0 (A c)).2.2.2.2 else a + (o0 (B c)).2.2.2.2).toInt ∧ (if (A c).isSome = true ∧ jk (o0 (A c)).1 (o0 (B c)).1 = (o0 (A c)).1 then (o0 (A c)).2.2.2.2 else a + (o0 (B c)).2.2.2.2).toInt ≤ n + m
    by_cases z : (A c).isSome = true ∧ jk (o0 (A c)).1 (o0 (B c)).1 = (o0 (A c)).1
    · rw [if_pos z]
      cases hM : A c with
      | none => rw [hM] at z; exact absurd z.1 (by decide)
      | some d =>
        have := eA d hM
        show 1 ≤ eI d ∧ eI d ≤ n + m
        omega
    · rw [if_neg z]
      cases hM : B c with
      | none =>
        exfalso
        rw [hM] at hc z
        rcases hc with y | y
        · exact z ⟨y, jk_0 _⟩
        · exact absurd y (by decide)
      | some d =>
        have h3 := eB d hM
        show 1 ≤ (a + d.2.2.2.2).toInt ∧ (a + d.2.2.2.2).toInt ≤ n + m
        rw [add_small (by omega) (by omega) (by unfold eI at h3; omega) (by unfold eI at h3; omega), ha]
        unfold eI at h3
        omega
  refine ⟨?_, by rw [v1]; omega, by rw [g1]; omega, by rw [v1, g1]; omega, e1.1, e1.2, fun h => ?_, fun h => ?_⟩
  · rw [v1]
    rcases hc with y | y
    · cases hM : A c with
      | none => rw [hM] at y; exact absurd y (by decide)
      | some d => have := (eA d hM).2.2.1; show 1 ≤ vI d + _; omega
    · cases hM : B c with
      | none => rw [hM] at y; exact absurd y (by decide)
      | some d => have := (eB d hM).2.2.1; show 1 ≤ _ + vI d; omega
  · rw [k1] at h
    obtain ⟨zA, zB⟩ := jk_0of kA kB h
    show (if (o0 (A c)).2.2.1 < (o0 (B c)).2.2.1 then (o0 (B c)).2.2.1 else (o0 (A c)).2.2.1) = 1
    have one : (o0 (A c)).2.2.1 = 1 ∨ (o0 (B c)).2.2.1 = 1 := by
      rcases hc with y | y
      · cases hM : A c with
        | none => rw [hM] at y; exact absurd y (by decide)
        | some d => rw [hM] at zA; exact Or.inl ((eA d hM).2.2.2.1 zA)
      · cases hM : B c with
        | none => rw [hM] at y; exact absurd y (by decide)
        | some d => rw [hM] at zB; exact Or.inr ((eB d hM).2.2.2.1 zB)
    rcases mA with p | p <;> rcases mB with q | q <;> rw [p, q] at one ⊢
    · rcases one with w | w <;> exact absurd w (by decide)
    · rfl
    · rfl
    · rfl
  · rw [k1] at h
    rw [g1]
    rcases jk_6of kA kB h with y | y
    · cases hM : A c with
      | none => rw [hM] at y; exact absurd y (by decide)
      | some d => rw [hM] at y; have := (eA d hM).2.2.2.2 y; show 1 ≤ gI d + _; omega
    · cases hM : B c with
      | none => rw [hM] at y; exact absurd y (by decide)
      | some d => rw [hM] at y; have := (eB d hM).2.2.2.2 y; show 1 ≤ _ + gI d; omega
theorem isS {o : Option Dt} {d : Dt} (h : o = some d) : o.isSome = true := by rw [h]; rfl
/-- a joined shape -/
theorem jm_GM {A B : Mp} {n m : Int} (hA : GM A n) (hB : GM B m) {a : Int32} (ha : a.toInt = n) (hnm : n + m ≤ 1000000) : GM (jm A B a) (n + m) := by
  have hwf := jm_wf hA.1 hB.1 a
  have n0 := hA.2.1
  have m0 := hB.2.1
  have z0 : vI d00 = 0 := rfl
  have y0 : gI d00 = 0 := rfl
  have rA := hA.2.2.2.2.1
  have rB := hB.2.2.2.2.1
  refine ⟨hwf, by omega, hnm, fun h => ?_, fun d h => ?_, fun c d h => ?_⟩
  · rw [jm_0] at h
    cases ha0 : A 0 with
    | some d => rw [jd_some (Or.inl (isS ha0))] at h; exact nomatch h
    | none =>
      cases hb0 : B 0 with
      | some d => rw [jd_some (Or.inr (isS hb0))] at h; exact nomatch h
      | none => rw [hA.2.2.2.1 ha0, hB.2.2.2.1 hb0]; rfl
  · rw [jm_0] at h
    obtain ⟨h1, rfl⟩ := jd_src h
    obtain ⟨v1, g1⟩ := jdc_vg hA hB 0 a
    have k1 : (jdc (A 0) (B 0) a).1 = jk (o0 (A 0)).1 (o0 (B 0)).1 := rfl
    rw [v1, g1, k1]
    cases ha0 : A 0 with
    | none =>
      cases hb0 : B 0 with
      | none => rw [ha0, hb0] at h1; rcases h1 with w | w <;> exact absurd w (by decide)
      | some e =>
        have := hA.2.2.2.1 ha0
        obtain ⟨x1, x2, x3⟩ := rB e hb0
        show jk 0 e.1 = 6 ∧ vI d00 + vI e = n + m ∧ gI d00 + gI e = n + m
        rw [x1, z0, y0]
        exact ⟨rfl, by omega, by omega⟩
    | some d =>
      obtain ⟨w1, w2, w3⟩ := rA d ha0
      cases hb0 : B 0 with
      | none =>
        have := hB.2.2.2.1 hb0
        show jk d.1 0 = 6 ∧ vI d + vI d00 = n + m ∧ gI d + gI d00 = n + m
        rw [w1, z0, y0]
        exact ⟨rfl, by omega, by omega⟩
      | some e =>
        obtain ⟨x1, x2, x3⟩ := rB e hb0
        show jk d.1 e.1 = 6 ∧ vI d + vI e = n + m ∧ gI d + gI e = n + m
        rw [w1, x1]
        exact ⟨rfl, by omega, by omega⟩
  · obtain ⟨h1, rfl⟩ := jd_src (jm_sub h)
    have hv := jm_okc hA.1 hB.1 h
    refine ⟨jdc_NG hA hB ha hnm h1, fun hc => ?_⟩
    obtain ⟨d', q1, q2⟩ := jm_up hv hc h
    obtain ⟨q3, rfl⟩ := jd_src (jm_sub q1)
    refine ⟨_, q1, ?_⟩
    obtain ⟨v1, -⟩ := jdc_vg hA hB c a
    obtain ⟨-, g1⟩ := jdc_vg hA hB (pa c) a
    have k1 : (jdc (A (pa c)) (B (pa c)) a).1 = jk (o0 (A (pa c))).1 (o0 (B (pa c))).1 := rfl
    rw [v1, g1]
    rw [k1] at q2 ⊢
    obtain ⟨kA, -⟩ := o0_K hA.1 (pa c)
    obtain ⟨kB, -⟩ := o0_K hB.1 (pa c)
    have pA : ∀ x, A c = some x → ∃ x', A (pa c) = some x' ∧ ((ltr c < 8 ∧ x'.1 = 6 ∧ vI x ≤ gI x') ∨ (ltr c = 8 ∧ x'.1 = 5)) := fun x hx => (hA.2.2.2.2.2 c x hx).2 hc
    have pB : ∀ x, B c = some x → ∃ x', B (pa c) = some x' ∧ ((ltr c < 8 ∧ x'.1 = 6 ∧ vI x ≤ gI x') ∨ (ltr c = 8 ∧ x'.1 = 5)) := fun x hx => (hB.2.2.2.2.2 c x hx).2 hc
    have lA : ltr c < 8 → vI (o0 (A c)) ≤ gI (o0 (A (pa c))) := fun l => by
      cases hM : A c with
      | none => show vI d00 ≤ _; rw [z0]; exact (o0_NG hA (pa c)).2.2.1
      | some x =>
        obtain ⟨x', w1, w2⟩ := pA x hM
        rw [o0_some w1]
        rcases w2 with ⟨-, -, w⟩ | ⟨w, -⟩
        · exact w
        · omega
    have lB : ltr c < 8 → vI (o0 (B c)) ≤ gI (o0 (B (pa c))) := fun l => by
      cases hM : B c with
      | none => show vI d00 ≤ _; rw [z0]; exact (o0_NG hB (pa c)).2.2.1
      | some x =>
        obtain ⟨x', w1, w2⟩ := pB x hM
        rw [o0_some w1]
        rcases w2 with ⟨-, -, w⟩ | ⟨w, -⟩
        · exact w
        · omega
    have kind : ∀ k : Int32, (o0 (A (pa c))).1 = k ∨ (o0 (B (pa c))).1 = k → (k = 6 ∨ k = 5) → jk (o0 (A (pa c))).1 (o0 (B (pa c))).1 = k := by
      intro k hk hk2
      have hb7 : ¬ (o0 (B (pa c))).1 = 7 := fun w => q2 (by rw [w]; exact jk_7r kA)
      rcases hk with w | w
      · rw [w] at q2 ⊢
        obtain ⟨j, hj, hj2⟩ := kB
        have hj6 : ∃ j, j ≤ 6 ∧ (o0 (B (pa c))).1 = nI j := by
          rcases Nat.lt_or_ge j 7 with y | y
          · exact ⟨j, by omega, hj2⟩
          · exfalso
            have : j = 7 := by omega
            rw [this] at hj2
            exact hb7 hj2
        rcases hk2 with y | y
        · rw [y] at q2 ⊢; exact (jk6 hj6).resolve_right q2
        · rw [y] at q2 ⊢; exact (jk5 hj6).resolve_right q2
      · rw [w] at q2 ⊢
        rcases hk2 with y | y
        · rw [y] at q2 ⊢; exact (jkr6 kA).resolve_right q2
        · rw [y] at q2 ⊢; exact (jkr5 kA).resolve_right q2
    have src : (∃ x', A (pa c) = some x' ∧ ((ltr c < 8 ∧ x'.1 = 6) ∨ (ltr c = 8 ∧ x'.1 = 5))) ∨ (∃ x', B (pa c) = some x' ∧ ((ltr c < 8 ∧ x'.1 = 6) ∨ (ltr c = 8 ∧ x'.1 = 5))) := by
      rcases h1 with w | w
      · cases hM : A c with
        | none => rw [hM] at w; exact absurd w (by decide)
        | some x =>
          obtain ⟨x', w1, w2⟩ := pA x hM
          exact Or.inl ⟨x', w1, w2.imp (fun y => ⟨y.1, y.2.1⟩) id⟩
      · cases hM : B c with
        | none => rw [hM] at w; exact absurd w (by decide)
        | some x =>
          obtain ⟨x', w1, w2⟩ := pB x hM
          exact Or.inr ⟨x', w1, w2.imp (fun y => ⟨y.1, y.2.1⟩) id⟩
    rcases src with ⟨x', w1, w2⟩ | ⟨x', w1, w2⟩
    · rcases w2 with ⟨w2, w3⟩ | ⟨w2, w3⟩
      · exact Or.inl ⟨w2, kind 6 (Or.inl (by rw [o0_some w1]; exact w3)) (Or.inl rfl), by have := lA w2; have := lB w2; omega⟩
      · exact Or.inr ⟨w2, kind 5 (Or.inl (by rw [o0_some w1]; exact w3)) (Or.inr rfl)⟩
    · rcases w2 with ⟨w2, w3⟩ | ⟨w2, w3⟩
      · exact Or.inl ⟨w2, kind 6 (Or.inr (by rw [o0_some w1]; exact w3)) (Or.inl rfl), by have := lA w2; have := lB w2; omega⟩
      · exact Or.inr ⟨w2, kind 5 (Or.inr (by rw [o0_some w1]; exact w3)) (Or.inr rfl)⟩
/-- a part that can't be missing was in every group -/
theorem mb_true {M : Mp} {n : Int} (hM : GM M n) {c l : Nat} {d : Dt} (hc : M c = some d) (hl : l < 8) (h : mb M (ch c l) = true) : ∃ x, M (ch c l) = some x ∧ vI x = gI d := by
  cases hx : M (ch c l) with
  | none => rw [mb_none hx] at h; exact absurd h (by decide)
  | some x =>
    refine ⟨x, rfl, ?_⟩
    obtain ⟨w1, w2, w3, w4, -, -, w5, w6⟩ := ch_up hM.1 hc hx (by omega)
    rw [mb_some hM.1 (hM.1.vd hc) hx (by omega)] at h
    obtain ⟨d', q1, q2⟩ := (hM.2.2.2.2.2 _ x hx).2 w2
    rw [w5, hc] at q1
    cases q1
    rw [w6] at q2
    rcases q2 with ⟨-, -, q2⟩ | ⟨q2, -⟩
    · have hno : opt M (ch c l) x = false := by
        cases ho : opt M (ch c l) x with
        | false => rfl
        | true => rw [ho] at h; exact absurd (show (false : Bool) = true from h) (by decide)
      have hno := of_decide_eq_false hno
      have : ¬ vI x < gI d := fun z => hno ⟨w2, by rw [w6]; exact hl, by
        rw [w5, grp_some hc, Int32.lt_iff_toInt_lt]; exact z⟩
      omega
    · omega
theorem mb_of {M : Mp} (hM : Wf M) {c l : Nat} {d x : Dt} (hc : M c = some d) (hl : l < 8) (hx : M (ch c l) = some x) (h : vI x = gI d) : mb M (ch c l) = true := by
  obtain ⟨w1, w2, w3, w4, -, -, w5, w6⟩ := ch_up hM hc hx (by omega)
  rw [mb_some hM (hM.vd hc) hx (by omega)]
  have hno : opt M (ch c l) x = false := decide_eq_false (fun z => by
    have z3 := z.2.2
    rw [w5, grp_some hc, Int32.lt_iff_toInt_lt] at z3
    unfold vI gI at h
    omega)
  rw [hno, decide_eq_true hl]
  rfl
/-- a joined shape covers the one that was joined to it -/
theorem jm_cva {A B : Mp} {n m : Int} (hA : GM A n) (hB : GM B m) {a : Int32} (ha : a.toInt = n) (hnm : n + m ≤ 1000000) : cva (jm A B a) B := by
  have hJ := jm_GM hA hB ha hnm
  intro z hz hr
  obtain ⟨e, he⟩ := hz
  have hv := hB.1.vd he
  have hj : jm A B a z = some (jdc (A z) (B z) a) := by
    rcases hr with rfl | ⟨d', h1, h2⟩
    · rw [jm_0]; exact jd_some (Or.inr (isS he))
    · by_cases z0 : z = 0
      · subst z0
        rw [jm_0]; exact jd_some (Or.inr (isS he))
      · rw [jm_of hv z0 h1 h2]; exact jd_some (Or.inr (isS he))
  obtain ⟨kA, mA⟩ := o0_K hA.1 z
  obtain ⟨kB, mB⟩ := o0_K hB.1 z
  have hoe : o0 (B z) = e := o0_some he
  refine ⟨_, e, hj, he, ?_, ?_, fun h7 h6 l hl hb => ?_⟩
  · show jk (jk (o0 (A z)).1 (o0 (B z)).1) e.1 = jk (o0 (A z)).1 (o0 (B z)).1
    rw [← hoe]
    exact jk_abs kA kB
  · show e.2.2.1 ≤ (if (o0 (A z)).2.2.1 < (o0 (B z)).2.2.1 then (o0 (B z)).2.2.1 else (o0 (A z)).2.2.1)
    rw [hoe] at mB ⊢
    rcases mA with p | p <;> rcases mB with q | q <;> rw [p, q] <;> decide
  · obtain ⟨x, hx, hxv⟩ := mb_true hJ hj hl hb
    obtain ⟨hs, rfl⟩ := jd_src (jm_sub hx)
    obtain ⟨v1, -⟩ := jdc_vg hA hB (ch z l) a
    obtain ⟨-, g1⟩ := jdc_vg hA hB z a
    rw [v1, g1] at hxv
    obtain ⟨w1, w2, w3, w4, -, -, w5, w6⟩ := ch_up hJ.1 hj hx (by omega)
    have leA : vI (o0 (A (ch z l))) ≤ gI (o0 (A z)) := by
      cases hM : A (ch z l) with
      | none => show vI d00 ≤ _; exact (o0_NG hA z).2.2.1
      | some y =>
        obtain ⟨y', q1, q2⟩ := (hA.2.2.2.2.2 _ y hM).2 w2
        rw [w5] at q1
        rw [w6] at q2
        rw [o0_some q1]
        rcases q2 with ⟨-, -, q2⟩ | ⟨q2, -⟩
        · exact q2
        · omega
    have g6 := (hB.2.2.2.2.2 z e he).1.2.2.2.2.2.2.2 h6
    rw [hoe] at hxv
    cases hM : B (ch z l) with
    | none =>
      exfalso
      rw [hM] at hxv
      have : vI (o0 none) = 0 := rfl
      omega
    | some y =>
      rw [hM] at hxv
      have e1 : vI (o0 (some y)) = vI y := rfl
      refine mb_of hB.1 he hl hM ?_
      obtain ⟨y', q1, q2⟩ := (hB.2.2.2.2.2 _ y hM).2 w2
      rw [w5, he] at q1
      cases q1
      rw [w6] at q2
      rcases q2 with ⟨-, -, q2⟩ | ⟨q2, -⟩
      · omega
      · omega
