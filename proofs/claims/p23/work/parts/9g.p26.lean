/-! ===== pure: the reference seeks the first misfit ===== -/
def pvf (D : Dc) (A : Mp) (v : Nat) : Int32 := match fp D A v with | some c => nI (ix A c) | none => -1
theorem pvf_some {D : Dc} {A : Mp} {v c : Nat} (h : fp D A v = some c) : pvf D A v = nI (ix A c) := by unfold pvf; rw [h]
theorem pvf_none {D : Dc} {A : Mp} {v : Nat} (h : fp D A v = none) : pvf D A v = -1 := by unfold pvf; rw [h]
/-- what is known after the values ahead of x -/
def MR (D : Dc) (A : Mp) (x : Nat) (m a k : Int32) : Prop := (m = 0 ∧ a = -1 ∧ k = -1 ∧ ∀ w e, w < x → ¬ EV D A w e) ∨ (∃ e, first1 D A (fun w => w < x) e ∧ m = nI e.1 ∧ a = nI e.2.1 ∧ k = nI e.2.2)
theorem EV_reason {D : Dc} {A : Mp} {v : Nat} {e : Ev} (h : EV D A v e) : 0 < e.1 ∧ e.1 < 4 := by
  rcases h with ⟨c, -, -, h, -⟩ | ⟨c, d, -, -, -, h⟩ | ⟨c, -, -, -, h⟩
  · omega
  · rw [h]; exact ⟨by show 0 < 1; omega, by show 1 < 4; omega⟩
  · rw [h]; exact ⟨by show 0 < 3; omega, by show 3 < 4; omega⟩
theorem EV_idx60 {D : Dc} {A : Mp} (hX : DX D) {v : Nat} (hv : v < dN D) {e : Ev} (h : EV D A v e) : e.2.1 < 60 := by
  rcases EV_idx h with ⟨a1, a2⟩ | ⟨a1, a2⟩
  · have := hX.2.2.2 v hv; omega
  · have := (hX.2.1 v hv a1).2.1; omega
/-- a misfit is told -/
theorem misfits_ok {S : S_Model} {m a k : Int32} {p : Nat → Int32} (r i n : Int32) : F_X5_misfits (mfv S m a k p) r i n = some (if m = 0 then mfv S r i n p else if a ≤ i then mfv S m a k p else mfv S r i n p) := by
  unfold F_X5_misfits
  rw [mfv_misfit, mfv_misfitAt, mfv_m]
  by_cases h : m = 0
  · rw [if_pos h, if_pos h]
  · rw [if_neg h, if_neg h]
    by_cases g : a ≤ i
    · rw [if_pos g, if_pos g]
    · rw [if_neg g, if_neg g]
theorem MR_none {D : Dc} {A : Mp} {x : Nat} {m a k : Int32} (h : MR D A x m a k) (hn : ∀ e, ¬ EV D A x e) : MR D A (x + 1) m a k := by
  rcases h with ⟨h1, h2, h3, h4⟩ | ⟨e, ⟨⟨w, a1, a2, a3⟩, a4⟩, h2⟩
  · refine Or.inl ⟨h1, h2, h3, fun w e hw => ?_⟩
    by_cases q : w = x
    · rw [q]; exact hn e
    · exact h4 w e (by omega)
  · refine Or.inr ⟨e, ⟨⟨w, by omega, a2, a3⟩, fun u e' hu hun he => ?_⟩, h2⟩
    by_cases q : u = x
    · rw [q] at he; exact absurd he (hn e')
    · exact a4 u e' (by omega) hun he
theorem MR_tell {D : Dc} {A : Mp} (hD : DW D) (hX : DX D) {x : Nat} {m a k : Int32} (h : MR D A x m a k) (hx : x < dN D) {e : Ev} (he : EV D A x e) : ∃ m' a' k', (∀ (S : S_Model) (p : Nat → Int32), F_X5_misfits (mfv S m a k p) (nI e.1) (nI e.2.1) (nI e.2.2) = some (mfv S m' a' k' p)) ∧ MR D A (x + 1) m' a' k' ∧ (∀ (S : S_Model) (p : Nat → Int32), F_X5_misfits (mfv S m' a' k' p) (nI e.1) (nI e.2.1) (nI e.2.2) = some (mfv S m' a' k' p)) := by
  have hr := EV_reason he
  have hi := EV_idx60 hX hx he
  have fresh : (∀ w e', w < x → w < dN D → EV D A w e' → e.2.1 ≤ e'.2.1) → MR D A (x + 1) (nI e.1) (nI e.2.1) (nI e.2.2) := by
    intro hmin
    refine Or.inr ⟨e, ⟨⟨x, by omega, hx, he⟩, fun w e' hw hwn he' => ?_⟩, rfl, rfl, rfl⟩
    by_cases q : w = x
    · rw [q] at he'
      rw [← EV_one hD hx he he']; exact Nat.le_refl _
    · exact hmin w e' (by omega) hwn he'
  have again : ∀ (S : S_Model) (p : Nat → Int32), F_X5_misfits (mfv S (nI e.1) (nI e.2.1) (nI e.2.2) p) (nI e.1) (nI e.2.1) (nI e.2.2) = some (mfv S (nI e.1) (nI e.2.1) (nI e.2.2) p) := by
    intro S p
    rw [misfits_ok, if_neg (nI_ne0 hr.1 (by omega)), if_pos (nI_le (Nat.le_refl _) (by omega))]
  rcases h with ⟨h1, h2, h3, h4⟩ | ⟨e0, ⟨⟨w, a1, a2, a3⟩, a4⟩, h2, h3, h4⟩
  · refine ⟨_, _, _, fun S p => ?_, fresh (fun w e' hw _ he' => absurd he' (h4 w e' hw)), again⟩
    rw [misfits_ok, if_pos h1]
  · have hr0 := EV_reason a3
    have hi0 := EV_idx60 hX a2 a3
    by_cases q : e0.2.1 ≤ e.2.1
    · have keep : ∀ (S : S_Model) (p : Nat → Int32), F_X5_misfits (mfv S m a k p) (nI e.1) (nI e.2.1) (nI e.2.2) = some (mfv S m a k p) := by
        intro S p
        rw [misfits_ok, if_neg (by rw [h2]; exact nI_ne0 hr0.1 (by omega)), if_pos (by rw [h3]; exact nI_le q (by omega))]
      refine ⟨m, a, k, keep, Or.inr ⟨e0, ⟨⟨w, by omega, a2, a3⟩, fun u e' hu hun he' => ?_⟩, h2, h3, h4⟩, keep⟩
      by_cases z : u = x
      · rw [z] at he'
        rw [← EV_one hD hx he he']; exact q
      · exact a4 u e' (by omega) hun he'
    · refine ⟨_, _, _, fun S p => ?_, fresh (fun u e' hu hun he' => ?_), again⟩
      · rw [misfits_ok, if_neg (by rw [h2]; exact nI_ne0 hr0.1 (by omega)), if_neg (by rw [h3]; exact nI_ge (by omega) (by omega))]
      · have := a4 u e' hu hun he'
        omega
/-- the missing parts of a group -/
theorem finds58 {S : S_Model} {D : Dc} {A : Mp} (hA : Wf A) {s v c : Nat} {d : Dt} (hs : s ≤ 1) (hN : NR (g_Model_now S) s A) (hV : MV S D) (hv : v < dN D) (hn : dN D ≤ 32) (hc : A c = some d) (hk : dK D v = 6) {p : Nat → Int32} (hp : p v = nI (ix A c)) (hu : dU D v < 256) {k36 : S_Model → Int32 → Option S_Model} : ∀ (q l : Nat) (m a k m' a' k' : Int32), l ≤ 8 → 8 - l < q → ((∃ l', l ≤ l' ∧ l' < 8 ∧ ub (dU D v) l' = true ∧ mb A (ch c l') = true) → F_X5_misfits (mfv S m a k p) 3 (nI (dE D v)) (nI (ix A c)) = some (mfv S m' a' k' p)) → (¬ (∃ l', l ≤ l' ∧ l' < 8 ∧ ub (dU D v) l' = true ∧ mb A (ch c l') = true) → m' = m ∧ a' = a ∧ k' = k) → F_X5_misfits (mfv S m' a' k' p) 3 (nI (dE D v)) (nI (ix A c)) = some (mfv S m' a' k' p) ∨ ¬ (∃ l', l ≤ l' ∧ l' < 8 ∧ ub (dU D v) l' = true ∧ mb A (ch c l') = true) → F_X5_finds_58 (nI s) k36 q (mfv S m a k p) (nI v) (nI l) = k36 (mfv S m' a' k' p) (nI (v + 1))
  | 0, l, _, _, _, _, _, _, _, h, _, _, _ => absurd h (Nat.not_lt_zero _)
  | q + 1, l, m, a, k, m', a', k', h1, h2, hyes, hno, hagain => by
    have hle := hN.2.1
    have hal := ix_lt hc (hA.lt hc)
    have hvc := hA.vd hc
    have hN' : NR (g_Model_now (mfv S m a k p)) s A := by rw [mfv_now]; exact hN
    have hVr := hV.2 v hv
    obtain ⟨g4, g6⟩ := hVr.2.2.2.2 hk
    rw [F_X5_finds_58_s]
    by_cases z : l = 8
    · rw [if_pos (by rw [z]; decide), nI_1]
      obtain ⟨e1, e2, e3⟩ := hno (fun w => by obtain ⟨l', w1, w2, -⟩ := w; omega)
      rw [e1, e2, e3]
    · have hl8 : l < 8 := by omega
      have z2 : 8 - (l + 1) < q := by clear hyes hno hagain; omega
      rw [if_neg (show ¬ (8 : Int32) ≤ nI l from nI_ge (a := l) (b := 8) hl8 (by omega)), og_t (inb_nI (by omega) (by omega)), nI_clamp (by omega), mfv_place, hp, if_neg (nI_m1 (by omega)), og_t (inb_nI (by omega) (by omega)), mfv_kinds, hVr.1, if_pos hk, og_t (inb_nI (by omega) (by omega)), ob1_s (childOf_ok hA hN' hs hc (by omega : l < 9)), nI_1]
      have hub : ((nI (dU D v) >>> (nI l &&& 31)) &&& 1) = 0 ↔ ub (dU D v) l = true := ⟨fun h => decide_eq_true h, fun h => of_decide_eq_true h⟩
      have skip : ¬ (ub (dU D v) l = true ∧ mb A (ch c l) = true) → F_X5_finds_58 (nI s) k36 q (mfv S m a k p) (nI v) (nI (l + 1)) = k36 (mfv S m' a' k' p) (nI (v + 1)) := by
        intro hn2
        have hiff : (∃ l', l + 1 ≤ l' ∧ l' < 8 ∧ ub (dU D v) l' = true ∧ mb A (ch c l') = true) ↔ ∃ l', l ≤ l' ∧ l' < 8 ∧ ub (dU D v) l' = true ∧ mb A (ch c l') = true := by
          constructor
          · rintro ⟨l', a1, a2⟩; exact ⟨l', by omega, a2⟩
          · rintro ⟨l', a1, a2, a3, a4⟩
            refine ⟨l', ?_, a2, a3, a4⟩
            by_cases w : l' = l
            · exfalso; rw [w] at a3 a4; exact hn2 ⟨a3, a4⟩
            · omega
        exact finds58 hA hs hN hV hv hn hc hk hp hu q (l + 1) m a k m' a' k' hl8 z2 (fun w => hyes (hiff.mp w)) (fun w => hno (fun y => w (hiff.mpr y))) (hagain.imp id (fun w y => w (hiff.mp y)))
      cases hac : A (ch c l) with
      | none =>
        rw [if_pos (rn_none hac)]
        exact skip (fun w => by rw [mb_none hac] at w; cases w.2)
      | some d' =>
        have hal2 := ix_lt hac (hA.lt hac)
        have hma := mb_some hA hvc hac (by omega : l < 9)
        rw [decide_eq_true hl8, Bool.and_true] at hma
        rw [rn_some hac, if_neg (nI_m1 (by omega)), og_t (inb_nI (by omega) (by omega)), mfv_used, g6]
        by_cases hb : ((nI (dU D v) >>> (nI l &&& 31)) &&& 1) = 0
        · rw [if_pos hb, ob1_s (canMiss_ok hA hN' hs hac)]
          cases hopt : opt A (ch c l) d' with
          | true =>
            rw [b2i_t, if_neg one_ne0]
            exact skip (fun w => by rw [hma, hopt] at w; cases w.2)
          | false =>
            rw [hopt] at hma
            have hex : ∃ l', l ≤ l' ∧ l' < 8 ∧ ub (dU D v) l' = true ∧ mb A (ch c l') = true := ⟨l, Nat.le_refl _, hl8, hub.mp hb, hma⟩
            rw [b2i_f, if_pos rfl, og_t (inb_nI (by omega) (by omega)), og_t (inb_nI (by omega) (by omega)), mfv_ends, g4, ob1_s (hyes hex)]
            have hag : F_X5_misfits (mfv S m' a' k' p) 3 (nI (dE D v)) (nI (ix A c)) = some (mfv S m' a' k' p) := hagain.resolve_right (fun w => w hex)
            exact finds58 hA hs hN hV hv hn hc hk hp hu q (l + 1) m' a' k' m' a' k' hl8 z2 (fun _ => hag) (fun _ => ⟨rfl, rfl, rfl⟩) (Or.inl hag)
        · rw [if_neg hb]
          exact skip (fun w => hb (hub.mpr w.1))
theorem finds58_no {S : S_Model} {D : Dc} {s v : Nat} (hv : v < dN D) (hn : dN D ≤ 32) (hV : MV S D) {p : Nat → Int32} {m a k : Int32} {k36 : S_Model → Int32 → Option S_Model} (h : p v = -1 ∨ ¬ dK D v = 6) (q : Nat) : F_X5_finds_58 (nI s) k36 (q + 1) (mfv S m a k p) (nI v) 0 = k36 (mfv S m a k p) (nI (v + 1)) := by
  rw [F_X5_finds_58_s, if_neg (show ¬ (8 : Int32) ≤ 0 by decide), og_t (inb_nI (by omega) (by omega)), nI_clamp (by omega), mfv_place, nI_1]
  by_cases z : p v = -1
  · rw [if_pos z]
  · rw [if_neg z, og_t (inb_nI (by omega) (by omega)), mfv_kinds, (hV.2 v hv).1, if_neg (h.resolve_left z)]
/-- a value is held against its node -/
theorem holds_ok {S : S_Model} {D : Dc} {A : Mp} (hD : DW D) (hX : DX D) (hA : Wf A) {s v : Nat} (hs : s ≤ 1) (hN : NR (g_Model_now S) s A) (hV : MV S D) (hv : v < dN D) {d0 : Dt} (h00 : A 0 = some d0) {p : Nat → Int32} (hp : ∀ u, u < v → p u = pvf D A u) {m a k : Int32} (hM : MR D A v m a k) : ∃ m' a' k', F_X5_holds (mfv S m a k p) (nI s) (nI v) = some (pvf D A v, mfv S m' a' k' p) ∧ ((fp D A v = none ∧ MR D A (v + 1) m' a' k') ∨ (∃ c, fp D A v = some c ∧ m' = m ∧ a' = a ∧ k' = k)) := by
  have hn := hD.2.1
  have hle := hN.2.1
  have hVr := hV.2 v hv
  obtain ⟨jj, hj6, hkj⟩ := hD.2.2.2.2.1 v hv
  obtain ⟨hkk, hk7⟩ := isK_ne7 hj6 hkj
  have hN' : ∀ m a k, NR (g_Model_now (mfv S m a k p)) s A := fun m a k => by rw [mfv_now]; exact hN
  -- from the node on
  have h51 : ∀ c up, fta D A v = some c → (v ≠ 0 → ∃ cp, fp D A (dP D v) = some cp ∧ up = nI (ix A cp)) → ∃ m' a' k', F_X5_holds_51 (nI s) (nI v) (mfv S m a k p) up (rn A c) = some (pvf D A v, mfv S m' a' k' p) ∧ ((fp D A v = none ∧ MR D A (v + 1) m' a' k') ∨ (∃ c, fp D A v = some c ∧ m' = m ∧ a' = a ∧ k' = k)) := by
    intro c up hft hup
    unfold F_X5_holds_51
    cases hc : A c with
    | none =>
      have h0 : v ≠ 0 := by
        intro z
        rw [z, fta_0] at hft
        cases hft
        rw [h00] at hc; cases hc
      obtain ⟨cp, q1, q2⟩ := hup h0
      have hfp := fp_no hD hv hft hc
      have hev : EV D A v (2, (if dL D v = 8 then dB D v else dB D v - 1), ix A cp) := Or.inl ⟨c, hft, hc, rfl, rfl, cp, q1, rfl⟩
      obtain ⟨m', a', k', t1, t2, -⟩ := MR_tell hD hX hM hv hev
      have hpm := (hD.2.2.2.2.2.1 v (by omega) hv)
      have hl9 : dL D v < 9 := by rcases hpm.2.2.2 with z | z <;> omega
      have hli : lI D v = nI (dL D v) := by unfold lI; rw [if_neg h0]
      have h1b : 1 ≤ dB D v := by
        have := hX.1 (dP D v) v hpm.1 hv
        by_cases q : dL D v = 8
        · rw [if_pos q] at this; omega
        · rw [if_neg q] at this; omega
      rw [if_pos (rn_none hc), og_t (inb_nI (by omega) (by omega)), nI_clamp (by omega), mfv_letters, hVr.2.1, hli, mfv_begins, hVr.2.2.1, q2, pvf_none hfp]
      have t1' := t1 S p
      by_cases l8 : dL D v = 8
      · rw [if_pos (show nI (dL D v) = 8 by rw [l8]; rfl), og_t (inb_nI (by omega) (by omega))]
        rw [if_pos l8] at t1'
        exact ⟨m', a', k', ob1_s t1', Or.inl ⟨hfp, t2⟩⟩
      · rw [if_neg (show ¬ nI (dL D v) = 8 from fun z => l8 (nI_inj (a := dL D v) (b := 8) (by omega) (by omega) z)), og_t (inb_nI (by omega) (by omega)), show nI (dB D v) - 1 = nI (dB D v - 1) from nI_sub (b := 1) h1b]
        rw [if_neg l8] at t1'
        exact ⟨m', a', k', ob1_s t1', Or.inl ⟨hfp, t2⟩⟩
    | some d =>
      have hcl := ix_lt hc (hA.lt hc)
      have hrow := hN.row hc
      have h157 : ∀ t0 : Bool, t0 = fok d (dK D v) → ∃ m' a' k', F_X5_holds_157 (nI s) (nI v) (mfv S m a k p) (nI (ix A c)) t0 = some (pvf D A v, mfv S m' a' k' p) ∧ ((fp D A v = none ∧ MR D A (v + 1) m' a' k') ∨ (∃ c, fp D A v = some c ∧ m' = m ∧ a' = a ∧ k' = k)) := by
        intro t0 ht0
        unfold F_X5_holds_157
        cases t0 with
        | false =>
          have hfp : fp D A v = none := by rw [fp_some hD hv hft hc, if_neg (fun z => by rw [← ht0] at z; cases z.1)]
          have hev : EV D A v (1, dB D v, ix A c) := Or.inr (Or.inl ⟨c, d, hft, hc, ht0.symm, rfl⟩)
          obtain ⟨m', a', k', t1, t2, -⟩ := MR_tell hD hX hM hv hev
          have t1' := t1 S p
          rw [b2i_f, if_pos rfl, og_t (inb_nI (by omega) (by omega)), nI_clamp (by omega), mfv_begins, hVr.2.2.1, pvf_none hfp]
          refine ⟨m', a', k', ?_, Or.inl ⟨hfp, t2⟩⟩
          refine Eq.trans (ob1_s t1') ?_
          rw [if_pos rfl]
        | true =>
          have k0 : F_X5_of (mfv S m a k p) (nI s) (nI (ix A c)) 0 = some d.1 := by rw [(hN' m a k).a0 hA hs hc, mfv_now, hrow.1]
          rw [b2i_t, if_neg one_ne0, if_neg one_ne0, ob1_s k0]
          by_cases k7 : d.1 = 7
          · have hfp : fp D A v = none := by rw [fp_some hD hv hft hc, if_neg (fun z => z.2 k7)]
            rw [if_pos k7, pvf_none hfp]
            refine ⟨m, a, k, rfl, Or.inl ⟨hfp, MR_none hM (fun e he => ?_)⟩⟩
            rcases he with ⟨c', a1, a2, -⟩ | ⟨c', d', a1, a2, a3, -⟩ | ⟨c', a1, -⟩
            · rw [hft] at a1; cases a1; rw [hc] at a2; cases a2
            · rw [hft] at a1; cases a1; rw [hc] at a2; cases a2; rw [← ht0] at a3; cases a3
            · rw [hfp] at a1; cases a1
          · have hfp : fp D A v = some c := by rw [fp_some hD hv hft hc, if_pos ⟨ht0.symm, k7⟩]
            rw [if_neg k7, pvf_some hfp]
            exact ⟨m, a, k, rfl, Or.inr ⟨c, hfp, rfl, rfl, rfl⟩⟩
      rw [rn_some hc, if_neg (nI_m1 (by omega)), og_t (inb_nI (by omega) (by omega)), nI_clamp (by omega), mfv_kinds, hVr.1]
      by_cases k0 : dK D v = 0
      · have m0 : F_X5_of (mfv S m a k p) (nI s) (nI (ix A c)) 4 = some d.2.2.1 := by rw [(hN' m a k).a4 hA hs hc, mfv_now, hrow.2.2.2.2.1]
        rw [if_pos k0, ob1_s m0]
        by_cases m1 : d.2.2.1 = 1
        · rw [if_pos m1]
          exact h157 true (by unfold fok; rw [if_pos k0]; exact (decide_eq_true m1).symm)
        · rw [if_neg m1]
          exact h157 false (by unfold fok; rw [if_pos k0]; exact (decide_eq_false m1).symm)
      · have kk : F_X5_of (mfv S m a k p) (nI s) (nI (ix A c)) 0 = some d.1 := by rw [(hN' m a k).a0 hA hs hc, mfv_now, hrow.1]
        rw [if_neg k0, ob1_s kk, og_t (inb_nI (by omega) (by omega)), ob1_s (jk_X5 (hA c d hc).2.1 hkk), ob1_s kk]
        by_cases m1 : jk d.1 (dK D v) = d.1
        · rw [if_pos m1]
          exact h157 true (by unfold fok; rw [if_neg k0]; exact (decide_eq_true m1).symm)
        · rw [if_neg m1]
          exact h157 false (by unfold fok; rw [if_neg k0]; exact (decide_eq_false m1).symm)
  by_cases h0 : v = 0
  · have hft : fta D A v = some 0 := by rw [h0]; exact fta_0 D A
    have := h51 0 (-1) hft (fun z => absurd h0 z)
    rw [rn_some h00] at this
    unfold F_X5_holds F_X5_holds_19
    rw [if_pos (by rw [h0]; rfl), if_pos (by rw [h0]; decide), if_pos (by rw [h0]; rfl)]
    exact this
  · obtain ⟨q1, q2, q3, q4⟩ := hD.2.2.2.2.2.1 v (by omega) hv
    have hl9 : dL D v < 9 := by rcases q4 with z | z <;> omega
    have hpi : pI D v = nI (dP D v) := by unfold pI; rw [if_neg h0]
    have hli : lI D v = nI (dL D v) := by unfold lI; rw [if_neg h0]
    unfold F_X5_holds
    rw [if_neg (nI_ne0 (by omega) (by omega)), og_t (inb_nI (by omega) (by omega)), nI_clamp (n := v) (by omega), mfv_above, hVr.2.2.2.1, hpi, og_t (inb_nI (by omega) (by omega)), nI_clamp (n := dP D v) (by omega), mfv_place, hp _ q1]
    unfold F_X5_holds_19
    rw [if_neg (nI_nle (by omega) (by omega))]
    cases hpp : fp D A (dP D v) with
    | none =>
      have hft := fta_none h0 hpp
      have hfp := fp_none hD hv hft
      rw [pvf_none hpp, if_pos rfl, pvf_none hfp]
      exact ⟨m, a, k, rfl, Or.inl ⟨hfp, MR_none hM (fun e => EV_none hft hfp)⟩⟩
    | some cp =>
      have hft := fta_some h0 hpp
      -- the parent's node
      have hcp : ∃ dp', A cp = some dp' := by
        have hpn : dP D v < dN D := by omega
        rw [fp_of hD hpn] at hpp
        cases hq : fta D A (dP D v) with
        | none => rw [hq] at hpp; cases hpp
        | some c1 =>
          rw [hq] at hpp
          cases hr : A c1 with
          | none =>
            have hpp : (match A c1 with | none => none | some d => if fok d (dK D (dP D v)) = true ∧ ¬ d.1 = 7 then some c1 else none) = some cp := hpp
            rw [hr] at hpp; cases hpp
          | some d1 =>
            have hpp : (match A c1 with | none => none | some d => if fok d (dK D (dP D v)) = true ∧ ¬ d.1 = 7 then some c1 else none) = some cp := hpp
            rw [hr] at hpp
            have hpp : (if fok d1 (dK D (dP D v)) = true ∧ ¬ d1.1 = 7 then some c1 else none) = some cp := hpp
            by_cases z : fok d1 (dK D (dP D v)) = true ∧ ¬ d1.1 = 7
            · rw [if_pos z] at hpp; cases hpp; exact ⟨d1, hr⟩
            · rw [if_neg z] at hpp; cases hpp
      obtain ⟨dp', hdp⟩ := hcp
      have hcpl := ix_lt hdp (hA.lt hdp)
      rw [pvf_some hpp, if_neg (nI_m1 (by omega)), if_neg (nI_ne0 (by omega) (by omega)), og_t (inb_nI (by omega) (by omega)), nI_clamp (n := v) (by omega), mfv_letters, hVr.2.1, hli, ob1_s (childOf_ok hA (hN' m a k) hs hdp hl9)]
      exact h51 _ _ hft (fun _ => ⟨cp, hpp, rfl⟩)
theorem finds_loop {S : S_Model} {D : Dc} {A : Mp} (hD : DW D) (hX : DX D) (hA : Wf A) {s : Nat} (hs : s ≤ 1) (hN : NR (g_Model_now S) s A) (hV : MV S D) {d0 : Dt} (h00 : A 0 = some d0) : ∀ (f v : Nat) (m a k : Int32) (p : Nat → Int32), v ≤ dN D → dN D - v < f → (∀ u, u < v → p u = pvf D A u) → MR D A v m a k → ∃ m' a' k' p', F_X5_finds_36 (nI s) f (mfv S m a k p) (nI v) = some (mfv S m' a' k' p') ∧ MR D A (dN D) m' a' k'
  | 0, v, _, _, _, _, _, h, _, _ => absurd h (Nat.not_lt_zero _)
  | f + 1, v, m, a, k, p, h1, h2, hp, hM => by
    have hn := hD.2.1
    rw [F_X5_finds_36_s, mfv_valued, hV.1]
    by_cases q : v = dN D
    · rw [if_pos (by rw [q]; exact nI_le (Nat.le_refl _) (by omega))]
      exact ⟨m, a, k, p, rfl, by rw [q] at hM; exact hM⟩
    · have hv : v < dN D := by omega
      obtain ⟨m', a', k', t1, t2⟩ := holds_ok hD hX hA hs hN hV hv h00 hp hM
      rw [if_neg (nI_ge hv (by omega)), ob2_s t1, og_t (inb_nI (by omega) (by omega)), nI_clamp (by omega), mfv_place, mfv_p]
      have hpn : ∀ u, u < v + 1 → upd p v (pvf D A v) u = pvf D A u := by
        intro u hu
        by_cases z : u = v
        · rw [z, upd_at]
        · rw [upd_ne z]; exact hp u (by omega)
      rcases t2 with ⟨t3, t4⟩ | ⟨c, t3, t4, t5, t6⟩
      · rw [finds58_no hv hn hV (Or.inl (by rw [upd_at, pvf_none t3])) 4999]
        exact finds_loop hD hX hA hs hN hV h00 f (v + 1) m' a' k' _ (by omega) (by omega) hpn t4
      · rw [t4, t5, t6]
        have hnoev : ∀ e, EV D A v e → dK D v = 6 ∧ lack D A v c ∧ e = (3, dE D v, ix A c) := by
          rintro e (⟨c', a1, a2, -⟩ | ⟨c', d', a1, a2, a3, -⟩ | ⟨c', a1, a2, a3, a4⟩)
          · rw [fp_no hD hv a1 a2] at t3; cases t3
          · rw [fp_some hD hv a1 a2, if_neg (fun z => by rw [a3] at z; cases z.1)] at t3; cases t3
          · rw [t3] at a1; cases a1; exact ⟨a2, a3, a4⟩
        by_cases k6 : dK D v = 6
        · have hcd : ∃ d, A c = some d := by
            have h := t3
            rw [fp_of hD hv] at h
            cases hq : fta D A v with
            | none => rw [hq] at h; cases h
            | some c1 =>
              rw [hq] at h
              have h : (match A c1 with | none => none | some d => if fok d (dK D v) = true ∧ ¬ d.1 = 7 then some c1 else none) = some c := h
              cases hr : A c1 with
              | none => rw [hr] at h; cases h
              | some d1 =>
                rw [hr] at h
                have h : (if fok d1 (dK D v) = true ∧ ¬ d1.1 = 7 then some c1 else none) = some c := h
                by_cases z : fok d1 (dK D v) = true ∧ ¬ d1.1 = 7
                · rw [if_pos z] at h; cases h; exact ⟨d1, hr⟩
                · rw [if_neg z] at h; cases h
          obtain ⟨d, hcd⟩ := hcd
          have hu := (hX.2.1 v hv k6).2.2
          by_cases hlk : lack D A v c
          · have hev : EV D A v (3, dE D v, ix A c) := Or.inr (Or.inr ⟨c, t3, k6, hlk, rfl⟩)
            obtain ⟨m2, a2, k2, u1, u2, u3⟩ := MR_tell hD hX hM hv hev
            have hex : ∃ l', 0 ≤ l' ∧ l' < 8 ∧ ub (dU D v) l' = true ∧ mb A (ch c l') = true := by
              obtain ⟨l, l1, l2⟩ := hlk
              exact ⟨l, Nat.zero_le _, l1, l2⟩
            have := finds58 (k36 := F_X5_finds_36 (nI s) f) hA hs hN hV hv hn hcd k6 (p := upd p v (pvf D A v)) (by rw [upd_at, pvf_some t3]) hu 5000 0 m a k m2 a2 k2 (by omega) (by omega) (fun _ => u1 S _) (fun w => absurd hex w) (Or.inl (u3 S _))
            rw [show (0 : Int32) = nI 0 from rfl, this]
            exact finds_loop hD hX hA hs hN hV h00 f (v + 1) m2 a2 k2 _ (by omega) (by omega) hpn u2
          · have hnex : ¬ ∃ l', 0 ≤ l' ∧ l' < 8 ∧ ub (dU D v) l' = true ∧ mb A (ch c l') = true := by
              rintro ⟨l, l0, l1, l2⟩
              exact hlk ⟨l, l1, l2⟩
            have := finds58 (k36 := F_X5_finds_36 (nI s) f) hA hs hN hV hv hn hcd k6 (p := upd p v (pvf D A v)) (by rw [upd_at, pvf_some t3]) hu 5000 0 m a k m a k (by omega) (by omega) (fun w => absurd w hnex) (fun _ => ⟨rfl, rfl, rfl⟩) (Or.inr hnex)
            rw [show (0 : Int32) = nI 0 from rfl, this]
            exact finds_loop hD hX hA hs hN hV h00 f (v + 1) m a k _ (by omega) (by omega) hpn (MR_none hM (fun e he => hlk (hnoev e he).2.1))
        · rw [finds58_no hv hn hV (Or.inr k6) 4999]
          exact finds_loop hD hX hA hs hN hV h00 f (v + 1) m a k _ (by omega) (by omega) hpn (MR_none hM (fun e he => k6 (hnoev e he).1))
