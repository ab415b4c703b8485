/-! ===== pure: covering, the reference ===== -/
def pv (A : Mp) (y : Nat) : Int32 := match A y with | some d => if d.1 = 7 then -1 else nI (ix A y) | none => -1
theorem pv_some {A : Mp} {y : Nat} {d : Dt} (h : A y = some d) : pv A y = if d.1 = 7 then -1 else nI (ix A y) := by unfold pv; rw [h]
theorem pv_none {A : Mp} {y : Nat} (h : A y = none) : pv A y = -1 := by unfold pv; rw [h]
theorem parts_loop {S : S_Model} {A B : Mp} (hA : Wf A) (hB : Wf B) {s o y : Nat} {d e : Dt} (hs : s ≤ 1) (ho : o ≤ 1) (hNA : NR (g_Model_now S) s A) (hNB : NR (g_Model_now S) o B) (ha : A y = some d) (hb : B y = some e) : ∀ (f l : Nat), l ≤ 8 → 8 - l < f → ∃ r, F_X5_coversParts_3 (nI s) (nI (ix A y)) (nI o) (nI (ix B y)) S f (nI l) = some r ∧ (r = true ↔ ∀ l', l ≤ l' → l' < 8 → mb A (ch y l') = true → mb B (ch y l') = true)
  | 0, l, _, h => absurd h (Nat.not_lt_zero _)
  | f + 1, l, h1, h2 => by
    have hv := hA.vd ha
    have hla := hNA.2.1
    have hlb := hNB.2.1
    rw [F_X5_coversParts_3_s]
    by_cases z : l = 8
    · rw [if_pos (by rw [z]; decide)]
      exact ⟨true, rfl, fun _ l' l1 l2 => by omega, fun _ => rfl⟩
    · have hl8 : l < 8 := by omega
      obtain ⟨r0, i1, i2⟩ := parts_loop hA hB hs ho hNA hNB ha hb f (l + 1) (by omega) (by omega)
      have next : (mb A (ch y l) = true → mb B (ch y l) = true) → ((∀ l', l + 1 ≤ l' → l' < 8 → mb A (ch y l') = true → mb B (ch y l') = true) ↔ ∀ l', l ≤ l' → l' < 8 → mb A (ch y l') = true → mb B (ch y l') = true) := by
        intro hc
        constructor
        · intro h l' l1 l2
          by_cases w : l' = l
          · rw [w]; exact hc
          · exact h l' (by omega) l2
        · intro h l' l1 l2
          exact h l' (by omega) l2
      rw [if_neg (show ¬ (8 : Int32) ≤ nI l from nI_ge (a := l) (b := 8) hl8 (by omega)), ob1_s (childOf_ok hA hNA hs ha (by omega : l < 9)), ob1_s (childOf_ok hB hNB ho hb (by omega : l < 9)), nI_1]
      cases hac : A (ch y l) with
      | none =>
        rw [if_pos (rn_none hac)]
        exact ⟨r0, i1, i2.trans (next (fun w => by rw [mb_none hac] at w; cases w))⟩
      | some d' =>
        have hal := ix_lt hac (hA.lt hac)
        have hma := mb_some hA hv hac (by omega : l < 9)
        rw [decide_eq_true hl8, Bool.and_true] at hma
        rw [rn_some hac, if_neg (nI_m1 (by omega)), ob1_s (canMiss_ok hA hNA hs hac)]
        cases hopt : opt A (ch y l) d' with
        | true =>
          rw [b2i_t, if_neg one_ne0]
          exact ⟨r0, i1, i2.trans (next (fun w => by rw [hma, hopt] at w; cases w))⟩
        | false =>
          rw [hopt] at hma
          rw [b2i_f, if_pos rfl]
          cases hbc : B (ch y l) with
          | none =>
            rw [if_pos (rn_none hbc)]
            exact ⟨false, rfl, (fun w => by cases w), fun w => by
              have := w l (Nat.le_refl _) hl8 hma
              rw [mb_none hbc] at this; cases this⟩
          | some e' =>
            have hbl := ix_lt hbc (hB.lt hbc)
            have hmb := mb_some hB hv hbc (by omega : l < 9)
            rw [decide_eq_true hl8, Bool.and_true] at hmb
            rw [rn_some hbc, if_neg (nI_m1 (by omega)), ob1_s (canMiss_ok hB hNB ho hbc)]
            cases hopt2 : opt B (ch y l) e' with
            | true =>
              rw [hopt2] at hmb
              rw [b2i_t, if_neg one_ne0]
              exact ⟨false, rfl, (fun w => by cases w), fun w => by
                have := w l (Nat.le_refl _) hl8 hma
                rw [hmb] at this; cases this⟩
            | false =>
              rw [hopt2] at hmb
              rw [b2i_f, if_pos rfl]
              exact ⟨r0, i1, i2.trans (next (fun _ => hmb))⟩
theorem covers_loop {S : S_Model} {A B : Mp} (hA : Wf A) (hB : Wf B) {s o : Nat} (hs : s ≤ 1) (ho : o ≤ 1) (hNA : NR (g_Model_now S) s A) (hNB : NR (g_Model_now S) o B) : ∀ (f x : Nat) (p : Nat → Int32), x ≤ 10000 → ix B 10000 - ix B x < f → (∀ y e, y < x → B y = some e → p (ix B y) = pv A y) → ∃ r p', F_X5_coversOf_6 (nI s) f (s_Model_place S p) (nI o) (nI (ix B x)) = some (b2i r, s_Model_place S p') ∧ (r = true ↔ ∀ z, x ≤ z → (∃ ez, B z = some ez) → rc A z → gd A B z)
  | 0, x, _, _, h, _ => absurd h (Nat.not_lt_zero _)
  | f + 1, x, p, h1, h2, hp => by
    have hm := @ix_mono B x 10000 h1
    have hla := hNA.2.1
    have hlb := hNB.2.1
    have hNA' : ∀ q, NR (g_Model_now (s_Model_place S q)) s A := fun q => by rw [gs_now_place]; exact hNA
    have hNB' : ∀ q, NR (g_Model_now (s_Model_place S q)) o B := fun q => by rw [gs_now_place]; exact hNB
    rw [F_X5_coversOf_6_s, show (3 : Int32) = nI 3 from rfl, nI_add, og_t (inb_nI (n := 425) (i := 3 + o) (by omega) (by omega)), nI_clamp (n := 3 + o) (by omega), gs_now_place, hNB.1]
    by_cases q : ix B x < ix B 10000
    · obtain ⟨y, e, g1, g2, g3, g4, g5⟩ := ix_next q
      have hv := hB.vd g3
      have hrow := hNB.row g3
      have hix : ix B (y + 1) = ix B x + 1 := by rw [ix_some g3, g4]
      have hixy := ix_lt g3 g2
      have hyz : nI (ix B y) = 0 ↔ y = 0 := by
        constructor
        · intro z
          by_cases h0 : y = 0
          · exact h0
          · exfalso
            obtain ⟨d0, g0⟩ := hB.root (dp y) rfl g3
            have := ix_lt g0 (show 0 < y by omega)
            exact nI_ne0 (by omega) (by omega) z
        · intro z; rw [z]; rfl
      -- onward, with what stands for y
      have onward : ∀ p', (∀ i, i ≠ ix B y → p' i = p i) → p' (ix B y) = pv A y → (rc A y → gd A B y) → ∃ r q', F_X5_coversOf_6 (nI s) f (s_Model_place S p') (nI o) (nI (ix B y + 1)) = some (b2i r, s_Model_place S q') ∧ (r = true ↔ ∀ z, x ≤ z → (∃ ez, B z = some ez) → rc A z → gd A B z) := by
        intro p' hne hat hgood
        obtain ⟨r, q', e1, e2⟩ := covers_loop hA hB hs ho hNA hNB f (y + 1) p' (by omega) (by omega) (by
          intro z ez hz hez
          by_cases w : z = y
          · rw [w]; exact hat
          · have hlt := ix_lt hez (show z < y by omega)
            rw [hne _ (by omega)]
            rcases Nat.lt_or_ge z x with v | v
            · exact hp z ez v hez
            · rw [g5 z v (by omega)] at hez; cases hez)
        rw [hix, ← g4] at e1
        refine ⟨r, q', e1, e2.trans ⟨fun h z z1 z2 z3 => ?_, fun h z z1 z2 z3 => h z (by omega) z2 z3⟩⟩
        by_cases w : z = y
        · rw [w]; rw [w] at z3; exact hgood z3
        · rcases Nat.lt_or_ge z (y + 1) with v | v
          · exfalso
            obtain ⟨ez, hez⟩ := z2
            rw [g5 z z1 (by omega)] at hez; cases hez
          · exact h z v z2 z3
      have bad : ∀ p', rc A y → ¬ gd A B y → ∃ r q', (some ((0 : Int32), s_Model_place S p') : Option (Int32 × S_Model)) = some (b2i r, s_Model_place S q') ∧ (r = true ↔ ∀ z, x ≤ z → (∃ ez, B z = some ez) → rc A z → gd A B z) := by
        intro p' hr hng
        exact ⟨false, p', rfl, (fun w => by cases w), fun w => absurd (w y g1 ⟨e, g3⟩ hr) hng⟩
      -- the checks at y
      have h94 : ∀ p', p' (ix B y) = -1 → (∀ i, i ≠ ix B y → p' i = p i) → rc A y → ∃ r q', F_X5_coversOf_94 (nI s) (F_X5_coversOf_6 (nI s) f) (s_Model_place S p') (nI o) (nI (ix B y)) (rn A y) = some (b2i r, s_Model_place S q') ∧ (r = true ↔ ∀ z, x ≤ z → (∃ ez, B z = some ez) → rc A z → gd A B z) := by
        intro p' hat hne hr
        have hupd : ∀ v, v = pv A y → (rc A y → gd A B y) → ∃ r q', F_X5_coversOf_6 (nI s) f (s_Model_place S (upd p' (ix B y) v)) (nI o) (nI (ix B y + 1)) = some (b2i r, s_Model_place S q') ∧ (r = true ↔ ∀ z, x ≤ z → (∃ ez, B z = some ez) → rc A z → gd A B z) := by
          intro v hv hg
          exact onward _ (fun i hi => by rw [upd_ne hi]; exact hne i hi) (by rw [upd_at]; exact hv) hg
        unfold F_X5_coversOf_94
        cases hay : A y with
        | none =>
          rw [if_pos (rn_none hay)]
          exact bad p' hr (fun h => by obtain ⟨d, -, m1, -⟩ := h; rw [hay] at m1; cases m1)
        | some d =>
          have hal := ix_lt hay (hA.lt hay)
          have hra := hNA.row hay
          have hda := (hA y d hay).2.1
          have hde := (hB y e g3).2.1
          have hg : gd A B y ↔ (jk d.1 e.1 = d.1 ∧ e.2.2.1 ≤ d.2.2.1 ∧ (¬ d.1 = 7 → e.1 = 6 → ∀ l, l < 8 → mb A (ch y l) = true → mb B (ch y l) = true)) := by
            constructor
            · rintro ⟨d2, e2, m1, m2, m3⟩
              rw [hay] at m1; rw [g3] at m2
              cases m1; cases m2
              exact m3
            · intro m
              exact ⟨d, e, hay, g3, m⟩
          have ka : F_X5_of (s_Model_place S p') (nI s) (nI (ix A y)) 0 = some d.1 := by rw [(hNA' p').a0 hA hs hay, gs_now_place, hra.1]
          rw [rn_some hay, if_neg (nI_m1 (by omega)), ob1_s ka, ob1_s ((hNB' p').a0 hB ho g3), gs_now_place, hrow.1, ob1_s (jk_X5 hda hde), ob1_s ka]
          by_cases c1 : jk d.1 e.1 = d.1
          · rw [if_pos c1, ob1_s ((hNA' p').a4 hA hs hay), gs_now_place, hra.2.2.2.2.1, ob1_s ((hNB' p').a4 hB ho g3), gs_now_place, hrow.2.2.2.2.1]
            by_cases c2 : e.2.2.1 ≤ d.2.2.1
            · rw [if_pos c2, ob1_s ka]
              unfold F_X5_coversOf_169
              by_cases c3 : d.1 = 7
              · rw [if_pos c3, b2i_t, if_neg one_ne0, if_neg one_ne0, og_t (inb_nI (by omega) (by omega)), nI_clamp (by omega), gs_place_place, pl_pl, nI_1]
                exact hupd (-1) (by rw [pv_some hay, if_pos c3]) (fun _ => hg.mpr ⟨c1, c2, fun w => absurd c3 w⟩)
              · have fin : (¬ d.1 = 7 → e.1 = 6 → ∀ l, l < 8 → mb A (ch y l) = true → mb B (ch y l) = true) → ∃ r q', og (inb (nI (ix B y)) 64) (F_X5_coversOf_6 (nI s) f (s_Model_place (s_Model_place S p') (upd (g_Model_place (s_Model_place S p')) (nI (ix B y)).toNatClampNeg (nI (ix A y)))) (nI o) (nI (ix B y) + 1)) = some (b2i r, s_Model_place S q') ∧ (r = true ↔ ∀ z, x ≤ z → (∃ ez, B z = some ez) → rc A z → gd A B z) := by
                  intro hpar
                  rw [og_t (inb_nI (by omega) (by omega)), nI_clamp (by omega), gs_place_place, pl_pl, nI_1]
                  exact hupd (nI (ix A y)) (by rw [pv_some hay, if_neg c3]) (fun _ => hg.mpr ⟨c1, c2, hpar⟩)
                rw [if_neg c3, b2i_f, if_pos rfl, ob1_s ((hNB' p').a0 hB ho g3), gs_now_place, hrow.1]
                by_cases c6 : e.1 = 6
                · obtain ⟨r, r1, r2⟩ := parts_loop hA hB hs ho (hNA' p') (hNB' p') hay g3 5000 0 (by omega) (by omega)
                  have r3 : F_X5_coversParts (s_Model_place S p') (nI s) (nI (ix A y)) (nI o) (nI (ix B y)) = some r := r1
                  rw [if_pos c6, ob1_s r3]
                  cases r with
                  | false =>
                    rw [b2i_f, if_pos rfl]
                    refine bad p' hr (fun h => ?_)
                    have := r2.mpr (fun l _ hl => (hg.mp h).2.2 c3 c6 l hl)
                    cases this
                  | true =>
                    rw [b2i_t, if_neg one_ne0, if_pos rfl]
                    exact fin (fun _ _ l hl => r2.mp rfl l (Nat.zero_le _) hl)
                · rw [if_neg c6, if_pos rfl]
                  exact fin (fun _ w => absurd w c6)
            · rw [if_neg c2]
              exact bad p' hr (fun h => c2 (hg.mp h).2.1)
          · rw [if_neg c1]
            exact bad p' hr (fun h => c1 (hg.mp h).1)
      rw [if_neg (nI_ge q (by omega)), ← g4]
      by_cases h0 : y = 0
      · rw [if_pos (hyz.mpr h0), og_t (inb_nI (by omega) (by omega)), if_pos (hyz.mpr h0), nI_clamp (n := ix B y) (by omega), gs_place_place, pl_pl]
        unfold F_X5_coversOf_57
        rw [if_pos (by rw [hyz.mpr h0]; decide), show (3 : Int32) + nI s = nI (3 + s) from nI_add 3 s, og_t (inb_nI (n := 425) (i := 3 + s) (by omega) (by omega)), nI_clamp (n := 3 + s) (by omega), gs_now_place, hNA.1]
        have h := h94 (upd p (ix B y) (-1)) upd_at (fun i hi => upd_ne hi) (Or.inl h0)
        rcases root_ix hA with ⟨a1, a2, a3⟩ | ⟨a1, d, a2⟩
        · rw [a1, if_pos (show nI 0 ≤ 0 by decide)]
          rw [h0] at h ⊢
          rw [rn_none a2] at h
          exact h
        · rw [if_neg (nI_nle a1 (by omega))]
          rw [h0] at h ⊢
          rw [rn_some a2] at h
          exact h
      · obtain ⟨d', u1, u2⟩ := hB.up g3 h0
        have hpx := ch_pa hv h0
        have hpl := ix_lt u1 (show pa y < y from hpx.2.2.2.2)
        have hpx2 : pa y < x := by
          rcases Nat.lt_or_ge (pa y) x with v | v
          · exact v
          · rw [g5 (pa y) v hpx.2.2.2.2] at u1; cases u1
        have hr1 := (hNB' p).a1 hB ho g3
        rw [gs_now_place, hrow.2.1, upI_up h0] at hr1
        have hpp := hp (pa y) d' hpx2 u1
        rw [if_neg (fun z => h0 (hyz.mp z)), ob1_s hr1, og_t (inb_nI (n := 64) (i := ix B (pa y)) (by omega) (by omega)), og_t (inb_nI (n := 64) (i := ix B y) (by omega) (by omega)), if_neg (fun z => h0 (hyz.mp z)), nI_clamp (n := ix B (pa y)) (by omega), nI_clamp (n := ix B y) (by omega), gs_place_place, hpp, pl_pl, nI_1]
        have notrc : (A (pa y) = none ∨ ∃ dj, A (pa y) = some dj ∧ dj.1 = 7) → ¬ rc A y ∧ pv A y = -1 := by
          intro h
          have hn : ¬ rc A y := by
            rintro (w | ⟨dj, w1, w2⟩)
            · exact h0 w
            · rcases h with v | ⟨dj', v1, v2⟩
              · rw [v] at w1; cases w1
              · rw [v1] at w1; cases w1; exact w2 v2
          refine ⟨hn, ?_⟩
          cases hay : A y with
          | none => exact pv_none hay
          | some d => exact absurd (rc_of hA hay) hn
        have skip : (A (pa y) = none ∨ ∃ dj, A (pa y) = some dj ∧ dj.1 = 7) → ∃ r q', F_X5_coversOf_6 (nI s) f (s_Model_place S (upd p (ix B y) (-1))) (nI o) (nI (ix B y + 1)) = some (b2i r, s_Model_place S q') ∧ (r = true ↔ ∀ z, x ≤ z → (∃ ez, B z = some ez) → rc A z → gd A B z) := by
          intro h
          obtain ⟨n1, n2⟩ := notrc h
          exact onward _ (fun i hi => upd_ne hi) (by rw [upd_at, n2]) (fun w => absurd w n1)
        cases hap : A (pa y) with
        | none =>
          rw [pv_none hap, if_pos rfl]
          exact skip (Or.inl hap)
        | some dj =>
          have hjl := ix_lt hap (hA.lt hap)
          by_cases h7 : dj.1 = 7
          · rw [pv_some hap, if_pos h7, if_pos rfl]
            exact skip (Or.inr ⟨dj, hap, h7⟩)
          · rw [pv_some hap, if_neg h7, if_neg (nI_m1 (by omega))]
            unfold F_X5_coversOf_57
            have hr2 := (hNB' (upd p (ix B y) (-1))).a2 hB ho g3
            rw [gs_now_place, hrow.2.2.1, l32_nI h0] at hr2
            rw [if_neg (nI_nle (by omega) (by omega)), ob1_s hr2, ob1_s (childOf_ok hA (hNA' _) hs hap hpx.2.1), hpx.1]
            exact h94 (upd p (ix B y) (-1)) upd_at (fun i hi => upd_ne hi) (Or.inr ⟨dj, hap, h7⟩)
    · rw [if_pos (nI_le (by omega) (by omega))]
      refine ⟨true, p, rfl, (fun _ z z1 z2 _ => ?_), fun _ => rfl⟩
      exfalso
      obtain ⟨ez, hez⟩ := z2
      have := ix_lt hez (hB.lt hez)
      have := @ix_mono B x z z1
      omega
theorem model_covers {S : S_Model} {A B : Mp} (hA : Wf A) (hB : Wf B) {s o : Nat} (hso : (s = 0 ∧ o = 1) ∨ (s = 1 ∧ o = 0)) (hNA : NR (g_Model_now S) s A) (hNB : NR (g_Model_now S) o B) : ∃ r p, F_X5_coversOf S (nI s) = some (b2i r, s_Model_place S p) ∧ (r = true ↔ cva A B) := by
  obtain ⟨r, p, e1, e2⟩ := covers_loop hA hB (show s ≤ 1 by omega) (show o ≤ 1 by omega) hNA hNB 5000 0 (g_Model_place S) (by omega) (by have := hNB.2.1; omega) (fun y e hy => absurd hy (Nat.not_lt_zero _))
  refine ⟨r, p, ?_, e2.trans ⟨fun h z => h z (Nat.zero_le _), fun h z _ => h z⟩⟩
  unfold F_X5_coversOf
  have ho1 : (1 : Int32) - nI s = nI o := by
    rcases hso with ⟨h1, h2⟩ | ⟨h1, h2⟩ <;> subst h1 <;> subst h2 <;> decide
  rw [ho1]
  rw [← pl_eta S] at e1
  exact e1
/-- the class, from the first nodes on -/
theorem class_covers {S : S_LS} {A B : Mp} (hA : Wf A) (hB : Wf B) {k : Bool} (h1 : TR (g_State_tree k (g_LS_now S)) A 10000) (o1 : OP (g_State_tree k (g_LS_now S)) A) (h2 : TR (g_State_tree (!k) (g_LS_now S)) B 10000) (o2 : OP (g_State_tree (!k) (g_LS_now S)) B) : ∃ r, F_X4_coversOther S (if k then 1 else 0) = some r ∧ (r = true ↔ cva A B) := by
  have hle1 := h1.le
  have hle2 := h2.le
  have key : ∃ r, (if g_Tree_size (g_State_tree k (g_LS_now S)) = 0 then (if g_Tree_size (g_State_tree (!k) (g_LS_now S)) = 0 then some true else some false) else (if g_Tree_size (g_State_tree (!k) (g_LS_now S)) = 0 then (if g_Tree_size (g_State_tree (!k) (g_LS_now S)) = 0 then some true else some false) else (ob1 (F_X4_coversNode 8 (g_State_tree k (g_LS_now S)) (g_State_tree (!k) (g_LS_now S)) 0 0 0) fun r10 => some r10))) = some r ∧ (r = true ↔ cva A B) := by
    rw [h1.size, h2.size]
    obtain ⟨k1, k2⟩ := cva_cases hA hB
    rcases root_ix hB with ⟨b1, b2, b3⟩ | ⟨b1, e, b2⟩
    · rw [b1]
      refine ⟨true, ?_, fun _ => k1 b2, fun _ => rfl⟩
      by_cases z : nI (ix A 10000) = 0
      · rw [if_pos z, if_pos (by decide)]
      · rw [if_neg z, if_pos (by decide), if_pos (by decide)]
    · rcases root_ix hA with ⟨a1, a2, a3⟩ | ⟨a1, d, a2⟩
      · rw [a1, if_pos (by decide), if_neg (nI_ne0 b1 (by omega))]
        exact ⟨false, rfl, (fun w => by cases w), fun w => absurd w (k2 a2 e b2)⟩
      · rw [if_neg (nI_ne0 a1 (by omega)), if_neg (nI_ne0 b1 (by omega))]
        obtain ⟨r, r1, r2⟩ := covers_node hA hB h1 o1 h2 o2 8 0 d e (by omega) a2 b2
        exact ⟨r, by rw [ob1_s (show F_X4_coversNode 8 (g_State_tree k (g_LS_now S)) (g_State_tree (!k) (g_LS_now S)) 0 0 0 = some r from r1)], r2.trans (cva_root hB).symm⟩
  cases k with
  | false =>
    unfold F_X4_coversOther
    rw [if_pos (show (if false = true then (1 : Int32) else 0) = 0 from rfl), if_neg (show ¬ (1 : Int32) - (if false = true then (1 : Int32) else 0) = 0 by decide)]
    exact key
  | true =>
    unfold F_X4_coversOther
    rw [if_neg (show ¬ (if true = true then (1 : Int32) else 0) = 0 by decide), if_pos (show (1 : Int32) - (if true = true then (1 : Int32) else 0) = 0 by decide)]
    exact key
