/-! ===== pure: the digests, alike ===== -/
section DIG
variable {S T : S_LS} {Z : Nat → S_State} {M : S_Model} {R1 : S_Reader}
theorem dig_shape {f0 : Nat → Int32} {T0 : S_Tree} {s : Nat} {A : Mp} (hA : SH T0 (g_Model_now M) s A) (hs : s ≤ 1) (k45 : S_Model → Int64 → Int32 → Option (Int64 × S_Model)) : ∀ g j f f' h, 6 - j < g → g ≤ f → g ≤ f' → j ≤ 6 → ∃ v n, F_X4_digestNodes_5 T0 f h (nI j) = F_X4_digestNodes_34 T0 5000 v 0 ∧ F_X5_digest_53 k45 f' M h (nI s) (nI j) = F_X5_digest_84 k45 (F_X5_digest_53 k45 n) 5000 M v (nI s) 0 := by
  intro g
  induction g with
  | zero => intro j f f' h h1; omega
  | succ g ihr =>
    intro j f f' h h1 h2 h2' h3
    obtain ⟨f, rfl⟩ : ∃ m, f = m + 1 := ⟨f - 1, by omega⟩
    obtain ⟨f', rfl⟩ : ∃ m, f' = m + 1 := ⟨f' - 1, by omega⟩
    rw [F_X4_digestNodes_5_s, F_X5_digest_53_s]
    rcases Nat.lt_or_ge j 6 with z | z
    · obtain ⟨r, r1, r2⟩ := shapeNumber_ok hA hs j (by omega)
      rw [if_neg (show ¬ (5 : Int32) < nI j from nI_nlt (a := 5) (b := j) (by omega) (by omega)), if_neg (show ¬ (6 : Int32) ≤ nI j from nI_ge (a := j) (b := 6) z (by omega)), ob1_s r1, ob1_s r2, nI_1]
      exact ihr (j + 1) f f' _ (by omega) (by omega) (by omega) (by omega)
    · obtain rfl : j = 6 := by omega
      rw [if_pos (show (5 : Int32) < nI 6 by decide), if_pos (show (6 : Int32) ≤ nI 6 by decide)]
      exact ⟨h, f', rfl, rfl⟩
theorem dig_node {T0 : S_Tree} {s : Nat} {A : Mp} (hA : SH T0 (g_Model_now M) s A) (hs : s ≤ 1) (k45 : S_Model → Int64 → Int32 → Option (Int64 × S_Model)) (k53 k84 : S_Model → Int64 → Int32 → Int32 → Option (Int64 × S_Model)) (k34 : Int64 → Int32 → Option Int64) {i : Nat} (hi : i < ix A 10000) : ∀ g j f f' h, 10 - j < g → g ≤ f → g ≤ f' → j ≤ 10 → ∃ v, F_X4_digestNodes_46 T0 k34 f h (nI i) (nI j) = k34 v (nI (i + 1)) ∧ F_X5_digest_100 k45 k53 k84 f' M h (nI s) (nI i) (nI j) = k84 M v (nI s) (nI (i + 1)) := by
  obtain ⟨c, d, c1, c2, c3⟩ := ix_at hi
  subst c3
  intro g
  induction g with
  | zero => intro j f f' h h1; omega
  | succ g ihr =>
    intro j f f' h h1 h2 h2' h3
    obtain ⟨f, rfl⟩ : ∃ m, f = m + 1 := ⟨f - 1, by omega⟩
    obtain ⟨f', rfl⟩ : ∃ m, f' = m + 1 := ⟨f' - 1, by omega⟩
    rw [F_X4_digestNodes_46_s, F_X5_digest_100_s]
    rcases Nat.lt_or_ge j 10 with z | z
    · rw [if_neg (show ¬ (9 : Int32) < nI j from nI_nlt (a := 9) (b := j) (by omega) (by omega)), if_neg (show ¬ (10 : Int32) ≤ nI j from nI_ge (a := j) (b := 10) z (by omega)), ob1_s (nodeNumber_ok hA c2 j (by omega)), ob1_s (ofNode_ok hA.1 hA.2.2.2.1 hs c2 j (by omega)), nI_1]
      exact ihr (j + 1) f f' _ (by omega) (by omega) (by omega) (by omega)
    · obtain rfl : j = 10 := by omega
      rw [if_pos (show (9 : Int32) < nI 10 by decide), if_pos (show (10 : Int32) ≤ nI 10 by decide), nI_1]
      exact ⟨h, rfl, rfl⟩
theorem dig_nodes {T0 : S_Tree} {s : Nat} {A : Mp} (hA : SH T0 (g_Model_now M) s A) (hs : s ≤ 1) (k45 : S_Model → Int64 → Int32 → Option (Int64 × S_Model)) (k53 : S_Model → Int64 → Int32 → Int32 → Option (Int64 × S_Model)) : ∀ g i f f' h, ix A 10000 - i < g → g ≤ f → g ≤ f' → i ≤ ix A 10000 → ∃ v n, F_X4_digestNodes_34 T0 f h (nI i) = some v ∧ F_X5_digest_84 k45 k53 f' M h (nI s) (nI i) = F_X5_digest_139 k45 k53 (F_X5_digest_84 k45 k53 n) 5000 M v (nI s) 0 := by
  have hle := hA.2.2.2.1.2.1
  intro g
  induction g with
  | zero => intro j f f' h h1; omega
  | succ g ihr =>
    intro i f f' h h1 h2 h2' h3
    obtain ⟨f, rfl⟩ : ∃ m, f = m + 1 := ⟨f - 1, by omega⟩
    obtain ⟨f', rfl⟩ : ∃ m, f' = m + 1 := ⟨f' - 1, by omega⟩
    rw [F_X4_digestNodes_34_s, F_X5_digest_84_s, hA.2.1.1, show (3 : Int32) = nI 3 from rfl, nI_add, og_t (inb_nI (by omega) (by omega)), nI_clamp (by omega), hA.2.2.2.1.1]
    rcases Nat.lt_or_ge i (ix A 10000) with z | z
    · rw [if_neg (show ¬ nI (ix A 10000) ≤ nI i from nI_ge (a := i) z (by omega)), if_neg (show ¬ nI (ix A 10000) ≤ nI i from nI_ge (a := i) z (by omega))]
      obtain ⟨v, v1, v2⟩ := dig_node hA hs k45 k53 (F_X5_digest_84 k45 k53 f') (F_X4_digestNodes_34 T0 f) z 11 0 5000 5000 h (by omega) (by omega) (by omega) (by omega)
      have v1' : F_X4_digestNodes_46 T0 (F_X4_digestNodes_34 T0 f) 5000 h (nI i) 0 = F_X4_digestNodes_34 T0 f v (nI (i + 1)) := v1
      have v2' : F_X5_digest_100 k45 k53 (F_X5_digest_84 k45 k53 f') 5000 M h (nI s) (nI i) 0 = F_X5_digest_84 k45 k53 f' M v (nI s) (nI (i + 1)) := v2
      rw [v1', v2']
      exact ihr (i + 1) f f' _ (by omega) (by omega) (by omega) (by omega)
    · rw [if_pos (nI_le (by omega) (by omega)), if_pos (nI_le (by omega) (by omega))]
      exact ⟨h, f', rfl, rfl⟩
/-- fits, number by number -/
theorem dig_fit {v2 v3 : Int32} {k : Bool} {s : Nat} (F : Nat → Int32) (hF : ∀ w, w ≤ 2 → ¬ v3 = 0 → F_X4_misfitNumber T (nI w) = some (F w)) (hG : ∀ w, w ≤ 2 → v3 = 0 → F w = -1) (hM : ∀ M, INV S Z M → ∀ w, w ≤ 2 → ∃ M', F_X5_fitOf M (nI s) (nI w) = some (F w, M') ∧ INV S Z M' ∧ g_Model_thrown M' = g_Model_thrown M)
    (k45 : S_Model → Int64 → Int32 → Option (Int64 × S_Model)) (k53 k84 : S_Model → Int64 → Int32 → Int32 → Option (Int64 × S_Model)) : ∀ g j f f' M h, INV S Z M → 3 - j < g → g ≤ f → g ≤ f' → j ≤ 3 → ∃ v n M', F_X4_digestShape_38 v2 v3 k f T h (nI j) = F_X4_digestShape_78 v2 v3 k 5000 T v 0 ∧ F_X5_digest_139 k45 k53 k84 f' M h (nI s) (nI j) = F_X5_digest_169 k45 k53 k84 (F_X5_digest_139 k45 k53 k84 n) 5000 M' v (nI s) 0 ∧ INV S Z M' ∧ g_Model_thrown M' = g_Model_thrown M := by
  intro g
  induction g with
  | zero => intro j f f' M h hI h1; omega
  | succ g ihr =>
    intro j f f' M h hI h1 h2 h2' h3
    obtain ⟨f, rfl⟩ : ∃ m, f = m + 1 := ⟨f - 1, by omega⟩
    obtain ⟨f', rfl⟩ : ∃ m, f' = m + 1 := ⟨f' - 1, by omega⟩
    rw [F_X4_digestShape_38_s, F_X5_digest_139_s]
    rcases Nat.lt_or_ge j 3 with z | z
    · obtain ⟨M1, m1, m2, m3⟩ := hM M hI j (by omega)
      rw [if_neg (show ¬ (2 : Int32) < nI j from nI_nlt (a := 2) (b := j) (by omega) (by omega)), if_neg (show ¬ (3 : Int32) ≤ nI j from nI_ge (a := j) (b := 3) z (by omega)), ob2_s m1, nI_1]
      obtain ⟨v, n, M', e1, e2, e3, e4⟩ := ihr (j + 1) f f' M1 (((31 : Int64) * h) + ((F j).toInt64)) m2 (by omega) (by omega) (by omega) (by omega)
      refine ⟨v, n, M', ?_, e2, e3, e4.trans m3⟩
      by_cases y : v3 = 0
      · rw [if_pos y, ← hG j (by omega) y]
        exact e1
      · rw [if_neg y, ob1_s (hF j (by omega) y)]
        exact e1
    · obtain rfl : j = 3 := by omega
      rw [if_pos (show (2 : Int32) < nI 3 by decide), if_pos (show (3 : Int32) ≤ nI 3 by decide)]
      exact ⟨h, f', M, rfl, rfl, hI, rfl⟩
/-- what learning would bring, number by number; then what covers, and the share -/
theorem dig_learned {v2 v3 : Int32} {k : Bool} {s : Nat} (hk : KS k s) (hv2 : v2 = if k then 1 else 0) (hR : RS S R1 T) (F : Nat → Int32) (hF : ∀ w, w ≤ 4 → ¬ v3 = 0 → F_X4_outlookNumber T k (nI w) = some (F w)) (hG : ∀ w, w ≤ 4 → v3 = 0 → F w = -1) (hM : ∀ M, INV S Z M → ∀ w, w ≤ 4 → ∃ M', F_X5_learnedOf M (nI s) (nI w) = some (F w, M') ∧ INV S Z M' ∧ g_Model_thrown M' = g_Model_thrown M)
    (k45 : S_Model → Int64 → Int32 → Option (Int64 × S_Model)) (k53 k84 k139 : S_Model → Int64 → Int32 → Int32 → Option (Int64 × S_Model)) : ∀ g j f f' M h, INV S Z M → 5 - j < g → g ≤ f → g ≤ f' → j ≤ 5 → ∃ v M', F_X4_digestShape_78 v2 v3 k f T h (nI j) = some (v, T) ∧ F_X5_digest_169 k45 k53 k84 k139 f' M h (nI s) (nI j) = k45 M' v (nI (s + 1)) ∧ INV S Z M' ∧ g_Model_thrown M' = g_Model_thrown M := by
  intro g
  induction g with
  | zero => intro j f f' M h hI h1; omega
  | succ g ihr =>
    intro j f f' M h hI h1 h2 h2' h3
    obtain ⟨f, rfl⟩ : ∃ m, f = m + 1 := ⟨f - 1, by omega⟩
    obtain ⟨f', rfl⟩ : ∃ m, f' = m + 1 := ⟨f' - 1, by omega⟩
    rw [F_X4_digestShape_78_s, F_X5_digest_169_s]
    rcases Nat.lt_or_ge j 5 with z | z
    · obtain ⟨M1, m1, m2, m3⟩ := hM M hI j (by omega)
      rw [if_neg (show ¬ (4 : Int32) < nI j from nI_nlt (a := 4) (b := j) (by omega) (by omega)), if_neg (show ¬ (5 : Int32) ≤ nI j from nI_ge (a := j) (b := 5) z (by omega)), ob2_s m1, nI_1]
      obtain ⟨v, M', e1, e2, e3, e4⟩ := ihr (j + 1) f f' M1 (((31 : Int64) * h) + ((F j).toInt64)) m2 (by omega) (by omega) (by omega) (by omega)
      refine ⟨v, M', ?_, e2, e3, e4.trans m3⟩
      by_cases y : v3 = 0
      · rw [if_pos y, ← hG j (by omega) y]
        exact e1
      · rw [if_neg y, ob1_s (hF j (by omega) y)]
        exact e1
    · obtain rfl : j = 5 := by omega
      obtain ⟨r, p, r1, r2, r3, r4⟩ := covers_num (hR.inv hI) hk
      have r3' : INV S Z (s_Model_place M p) := hR.vni r3
      obtain ⟨A, hA⟩ := r3.1.tree hk
      obtain ⟨a, n, a1, a2, a3, a4⟩ := share_ok hA hk.le
      obtain ⟨bv, b1, b2⟩ := bits_ok a1 a2
      rw [← hv2] at r1
      rw [if_pos (show (4 : Int32) < nI 5 by decide), if_pos (show (5 : Int32) ≤ nI 5 by decide), ob2_s r2, ob1_s a4, ob1_s b2, ob1_s r1, nI_1]
      refine ⟨_, _, ?_, rfl, r3', r4⟩
      cases r
      · rw [b2i_f, if_pos rfl, ob1_s a3, ob1_s b1]
      · rw [b2i_t, if_neg one_ne0, ob1_s a3, ob1_s b1]
/-- one shape's part of the digest -/
theorem dig_one {r : Bool} (hr : F_X1_read (g_LS_reader S) (g_LS_codes S) (g_LS_length S) = some (r, R1)) (hI : INV S Z M) (hR : RS S R1 T) {k : Bool} {s : Nat} (hk : KS k s) {v2 : Int32} (hv2 : v2 = if k then 1 else 0) (h : Int64) (n0 : Nat) : ∃ v T' M', F_X4_digestShape T k h v2 (b2i r) = some (v, T') ∧ F_X5_digest_53 (F_X5_digest_45 n0) 5000 M h (nI s) 0 = F_X5_digest_45 n0 M' v (nI (s + 1)) ∧ RS S R1 T' ∧ INV S Z M' ∧ g_Model_thrown M' = g_Model_thrown M := by
  obtain ⟨A, hA⟩ := (hR.inv hI).1.tree hk
  have hle := hA.2.2.2.1.2.1
  obtain ⟨w1, n1, e1, e2⟩ := dig_shape (f0 := g_Model_now M) hA hk.le (F_X5_digest_45 n0) 7 0 5000 5000 h (by omega) (by omega) (by omega) (by omega)
  obtain ⟨w2, n2, e3, e4⟩ := dig_nodes hA hk.le (F_X5_digest_45 n0) (F_X5_digest_53 (F_X5_digest_45 n0) n1) 31 0 5000 5000 w1 (by omega) (by omega) (by omega) (by omega)
  have ec : F_X4_digestNodes (g_State_tree k (g_LS_now T)) h = some w2 := e1.trans e3
  have em : F_X5_digest_53 (F_X5_digest_45 n0) 5000 M h (nI s) 0 = _ := e2.trans e4
  rw [em]
  unfold F_X4_digestShape
  rw [ob1_s ec]
  cases r
  · rw [b2i_f, if_pos rfl]
    obtain ⟨x1, n3, M1, f1, f2, f3, f4⟩ := dig_fit (S := S) (T := T) (Z := Z) (v2 := v2) (v3 := 0) (k := k) (s := s) (fun _ => -1) (fun w _ z => absurd rfl z) (fun w _ _ => rfl) (fun M2 hM2 w _ => fit_no hM2 hr _ _) (F_X5_digest_45 n0) (F_X5_digest_53 (F_X5_digest_45 n0) n1) (F_X5_digest_84 (F_X5_digest_45 n0) (F_X5_digest_53 (F_X5_digest_45 n0) n1) n2) 4 0 5000 5000 M w2 hI (by omega) (by omega) (by omega) (by omega)
    obtain ⟨x2, M2, g1, g2, g3, g4⟩ := dig_learned (S := S) (T := T) (Z := Z) (v2 := v2) (v3 := 0) hk hv2 hR (fun _ => -1) (fun w _ z => absurd rfl z) (fun w _ _ => rfl) (fun M2 hM2 w _ => learned_no hM2 hr _ _) (F_X5_digest_45 n0) (F_X5_digest_53 (F_X5_digest_45 n0) n1) (F_X5_digest_84 (F_X5_digest_45 n0) (F_X5_digest_53 (F_X5_digest_45 n0) n1) n2) _ 6 0 5000 5000 M1 x1 f3 (by omega) (by omega) (by omega) (by omega)
    exact ⟨x2, T, M2, f1.trans g1, f2.trans g2, hR, g3, g4.trans f4⟩
  · rw [b2i_t, if_neg one_ne0]
    obtain ⟨mis, M0, s1, -⟩ := fit_num hI hr hR hk (w := 0) (by omega)
    have hR2 : RS S R1 (s_LS_misfit T mis) := hR.misfit mis
    obtain ⟨T1, a0, M00, t1, t2, t3, -⟩ := learned_num hI hr hR2 hk (w := 0) (by omega)
    rw [ob1_s s1, ob1_s t1]
    have hml : ∀ w, w ≤ 4 → ∃ a, F_X4_outlookNumber T1 k (nI w) = some a ∧ ∀ M2, INV S Z M2 → ∃ M', F_X5_learnedOf M2 (nI s) (nI w) = some (a, M') ∧ INV S Z M' ∧ g_Model_thrown M' = g_Model_thrown M2 := by
      intro w hw
      obtain ⟨T2, a, M3, u1, u2, u3, u4, u5, u6, u7⟩ := learned_num hI hr hR2 hk hw
      have hT2 : T1 = T2 := Option.some.inj (t1.symm.trans u1)
      refine ⟨a, by rw [hT2]; exact u4, fun M2 hM2 => ?_⟩
      obtain ⟨T4, a', M4, y1, y2, y3, y4, y5, y6, y7⟩ := learned_num hM2 hr hR2 hk hw
      have hT4 : T2 = T4 := Option.some.inj (u1.symm.trans y1)
      rw [← hT4] at y4
      have haa : a = a' := Option.some.inj (u4.symm.trans y4)
      rw [haa]
      exact ⟨M4, y5, y6, y7⟩
    have hfl : ∀ M2, INV S Z M2 → ∀ w, w ≤ 2 → ∃ M', F_X5_fitOf M2 (nI s) (nI w) = some (misv mis w, M') ∧ INV S Z M' ∧ g_Model_thrown M' = g_Model_thrown M2 := by
      intro M2 hM2 w hw
      obtain ⟨mis', M3, y1, y2, y3, y4⟩ := fit_num hM2 hr hR hk hw
      have hmm : mis = mis' := congrArg g_LS_misfit (Option.some.inj (s1.symm.trans y1))
      rw [hmm]
      exact ⟨M3, y2, y3, y4⟩
    have hmisT : g_LS_misfit T1 = mis := t3
    let F : Nat → Int32 := fun w => (F_X4_outlookNumber T1 k (nI w)).getD 0
    have hF : ∀ w, w ≤ 4 → F_X4_outlookNumber T1 k (nI w) = some (F w) := fun w hw => by
      obtain ⟨a, a1, -⟩ := hml w hw
      show F_X4_outlookNumber T1 k (nI w) = some ((F_X4_outlookNumber T1 k (nI w)).getD 0)
      rw [a1]; rfl
    have hFM : ∀ M2, INV S Z M2 → ∀ w, w ≤ 4 → ∃ M', F_X5_learnedOf M2 (nI s) (nI w) = some (F w, M') ∧ INV S Z M' ∧ g_Model_thrown M' = g_Model_thrown M2 := fun M2 hM2 w hw => by
      obtain ⟨a, a1, a2⟩ := hml w hw
      have : F w = a := Option.some.inj ((hF w hw).symm.trans a1)
      rw [this]
      exact a2 M2 hM2
    obtain ⟨x1, n3, M1, f1, f2, f3, f4⟩ := dig_fit (S := S) (T := T1) (Z := Z) (v2 := v2) (v3 := 1) (k := k) (s := s) (misv mis) (fun w hw _ => mis_num hmisT w hw) (fun w _ z => absurd z one_ne0) hfl (F_X5_digest_45 n0) (F_X5_digest_53 (F_X5_digest_45 n0) n1) (F_X5_digest_84 (F_X5_digest_45 n0) (F_X5_digest_53 (F_X5_digest_45 n0) n1) n2) 4 0 5000 5000 M w2 hI (by omega) (by omega) (by omega) (by omega)
    obtain ⟨x2, M2, g1, g2, g3, g4⟩ := dig_learned (S := S) (T := T1) (Z := Z) (v2 := v2) (v3 := 1) hk hv2 t2 F (fun w hw _ => hF w hw) (fun w _ z => absurd z one_ne0) hFM (F_X5_digest_45 n0) (F_X5_digest_53 (F_X5_digest_45 n0) n1) (F_X5_digest_84 (F_X5_digest_45 n0) (F_X5_digest_53 (F_X5_digest_45 n0) n1) n2) _ 6 0 5000 5000 M1 x1 f3 (by omega) (by omega) (by omega) (by omega)
    exact ⟨x2, T1, M2, f1.trans g1, f2.trans g2, t2, g3, g4.trans f4⟩
/-- the text's numbers -/
theorem dig_text {N : Nat} {t : Nat → Nat} (h1 : g_LS_length T = nI N) (h2 : CX (g_LS_codes T) t N) (h3 : TX M N t) : ∀ g j f f' h, N - j < g → g ≤ f → g ≤ f' → j ≤ N → ∃ v, F_X4_digest_139 f T h (nI j) = some (v, T) ∧ F_X5_digest_269 f' M h (nI j) = some (v, M) := by
  have h60 := h2.1
  intro g
  induction g with
  | zero => intro j f f' h h1; omega
  | succ g ihr =>
    intro j f f' h hg hf hf' hj
    obtain ⟨f, rfl⟩ : ∃ m, f = m + 1 := ⟨f - 1, by omega⟩
    obtain ⟨f', rfl⟩ : ∃ m, f' = m + 1 := ⟨f' - 1, by omega⟩
    rw [F_X4_digest_139_s, F_X5_digest_269_s, h1, h3.1]
    rcases Nat.lt_or_ge j N with z | z
    · rw [if_neg (show ¬ nI N ≤ nI j from nI_ge (a := j) z (by omega)), if_neg (show ¬ nI N ≤ nI j from nI_ge (a := j) z (by omega)), if_neg (show ¬ (60 : Int32) ≤ nI j from nI_ge (a := j) (b := 60) (by omega) (by omega)), og_t (inb_nI (by omega) (by omega)), og_t (inb_nI (by omega) (by omega)), nI_clamp (by omega), (h2.2 j z).1, (h3.2.2 j z).1, nI_1]
      exact ihr (j + 1) f f' _ (by omega) (by omega) (by omega) (by omega)
    · rw [if_pos (nI_le (by omega) (by omega)), if_pos (nI_le (by omega) (by omega))]
      exact ⟨h, rfl, rfl⟩
/-- the document's numbers, then the text's -/
theorem dig_doc {r : Bool} (hr : F_X1_read (g_LS_reader S) (g_LS_codes S) (g_LS_length S) = some (r, R1)) (hR : RS S R1 T) : ∀ g j f f' M h, INV S Z M → 9 - j < g → g ≤ f → g ≤ f' → j ≤ 9 → ∃ v M', F_X4_digest_101 f T r h (nI j) = some (v, T) ∧ F_X5_digest_242 f' M h (nI j) = some (v, M') ∧ INV S Z M' ∧ g_Model_thrown M' = g_Model_thrown M := by
  intro g
  induction g with
  | zero => intro j f f' M h hI h1; omega
  | succ g ihr =>
    intro j f f' M h hI h1 h2 h2' h3
    obtain ⟨f, rfl⟩ : ∃ m, f = m + 1 := ⟨f - 1, by omega⟩
    obtain ⟨f', rfl⟩ : ∃ m, f' = m + 1 := ⟨f' - 1, by omega⟩
    rw [F_X4_digest_101_s, F_X5_digest_242_s]
    rcases Nat.lt_or_ge j 9 with z | z
    · rw [if_neg (show ¬ (8 : Int32) < nI j from nI_nlt (a := 8) (b := j) (by omega) (by omega)), if_neg (show ¬ (9 : Int32) ≤ nI j from nI_ge (a := j) (b := 9) z (by omega)), nI_1]
      cases r
      · obtain ⟨M1, m1, m2, m3⟩ := doc_no hI hr (nI j)
        obtain ⟨v, M', e1, e2, e3, e4⟩ := ihr (j + 1) f f' M1 (((31 : Int64) * h) + (((-1 : Int32)).toInt64)) m2 (by omega) (by omega) (by omega) (by omega)
        rw [b2i_f, if_pos rfl, ob2_s m1]
        exact ⟨v, M', e1, e2, e3, e4.trans m3⟩
      · obtain ⟨a, M1, m0, m1, m2, m3⟩ := doc_num hI hr hR (nI j)
        obtain ⟨v, M', e1, e2, e3, e4⟩ := ihr (j + 1) f f' M1 (((31 : Int64) * h) + ((a).toInt64)) m2 (by omega) (by omega) (by omega) (by omega)
        rw [b2i_t, if_neg one_ne0, ob1_s m0, ob2_s m1]
        exact ⟨v, M', e1, e2, e3, e4.trans m3⟩
    · obtain rfl : j = 9 := by omega
      obtain ⟨a1, a2, N, t, a3, a4, a5⟩ := hR.inv hI
      obtain ⟨v, v1, v2⟩ := dig_text a3 a4 a5 (N + 1) 0 5000 5000 h (by omega) (by have := a4.1; omega) (by have := a4.1; omega) (by omega)
      have v1' : F_X4_digest_139 5000 T h 0 = some (v, T) := v1
      have v2' : F_X5_digest_269 5000 M h 0 = some (v, M) := v2
      rw [if_pos (show (8 : Int32) < nI 9 by decide), if_pos (show (9 : Int32) ≤ nI 9 by decide), v1', v2']
      exact ⟨v, M, rfl, rfl, hI, rfl⟩
theorem digest_ok (h : INV S Z M) : ∃ v S' M', F_X4_digest S = some (v, S') ∧ F_X5_digest M = some (v, M') ∧ INV S' Z M' ∧ g_Model_thrown M' = 0 := by
  have h0 := h.thrown 0
  obtain ⟨r, R1, hr⟩ : ∃ r R1, F_X1_read (g_LS_reader S) (g_LS_codes S) (g_LS_length S) = some (r, R1) := by
    obtain ⟨N, t1, t2, hcase⟩ := INV_text h0
    rcases hcase with ⟨e, M', R', a1, a2, a3, a4, a5⟩ | ⟨D, x, M', R', K, U, L, B, E, W, O, a1, a2, a3⟩
    · exact ⟨_, _, a4⟩
    · exact ⟨_, _, a2⟩
  have hR0 : RS S R1 (s_LS_reader S R1) := RS.rf
  have hset : g_State_setting (g_LS_now S) = g_Model_now M 0 := h.1.2.2
  have hlen : g_LS_length S = g_Model_typed M := by
    obtain ⟨-, -, N, t, a3, a4, a5⟩ := h
    rw [a3, a5.1]
  have hkept : g_LS_savedStates S = g_Model_kept M := by
    obtain ⟨-, ⟨q, q1, q2, q3, -⟩, -⟩ := h
    rw [q2, q3]
  generalize hh : (((31 : Int64) * (((31 : Int64) * (((31 : Int64) * (2707 : Int64)) + ((g_Model_now M 0).toInt64))) + ((g_Model_typed M).toInt64))) + ((g_Model_kept M).toInt64)) = h3
  -- the class's first three numbers
  have hc : F_X4_digest S = (ob2 (F_X4_digestShape (s_LS_reader S R1) false h3 0 (b2i r)) fun r5 u6 => (ob2 (F_X4_digestShape u6 true r5 (1 : Int32) (b2i r)) fun r8 u9 => (ob1 (F_X4_workOutJoined u9 false) fun u11 => (F_X4_digest_101 5000 u11 r (((31 : Int64) * r8) + (((g_Tree_size (g_LS_work u11))).toInt64)) (0 : Int32))))) := by
    have n0 : F_X4_stateNumber (s_LS_reader S R1) 0 = some (g_Model_now M 0) := by
      unfold F_X4_stateNumber
      rw [if_pos rfl]; exact congrArg some hset
    have n1 : F_X4_stateNumber (s_LS_reader S R1) (0 + 1) = some (g_Model_typed M) := by
      unfold F_X4_stateNumber
      rw [if_neg (by decide), if_pos (by decide)]; exact congrArg some hlen
    have n2 : F_X4_stateNumber (s_LS_reader S R1) (0 + 1 + 1) = some (g_Model_kept M) := by
      unfold F_X4_stateNumber
      rw [if_neg (by decide), if_neg (by decide)]; exact congrArg some hkept
    unfold F_X4_digest
    rw [ob2_s hr, show F_X4_digest_23 5000 = F_X4_digest_23 (4996 + 1 + 1 + 1 + 1) from rfl, F_X4_digest_23_s, if_neg (by decide), ob1_s n0, F_X4_digest_23_s, if_neg (by decide), ob1_s n1, F_X4_digest_23_s, if_neg (by decide), ob1_s n2, F_X4_digest_23_s, if_pos (by decide), hh]
  have hm : F_X5_digest M = F_X5_digest_45 5000 (s_Model_thrown M 0) h3 0 := by
    unfold F_X5_digest
    rw [og_t (by decide), show ((0 : Int32)).toNatClampNeg = 0 from rfl, hh]
  obtain ⟨v1, T1, M1, a1, a2, a3, a4, a5⟩ := dig_one hr h0 hR0 (k := false) (s := 0) (Or.inl ⟨rfl, rfl⟩) (v2 := 0) rfl h3 4999
  obtain ⟨v2, T2, M2, b1, b2, b3, b4, b5⟩ := dig_one hr a4 a3 (k := true) (s := 1) (Or.inr ⟨rfl, rfl⟩) (v2 := 1) rfl v1 4998
  obtain ⟨w, T3, M3, c1, c2, c3, c4, c5, W, c6⟩ := joinedNodes_ok (b3.inv b4)
  have hR3 : RS S R1 T3 := by rw [c6]; exact b3.work W
  obtain ⟨v3, M4, d1, d2, d3, d4⟩ := dig_doc hr hR3 10 0 5000 5000 M3 (((31 : Int64) * v2) + (w.toInt64)) (hR3.vni c4) (by omega) (by omega) (by omega) (by omega)
  have a2' : F_X5_digest_53 (F_X5_digest_45 4999) 5000 (s_Model_thrown M 0) h3 0 0 = F_X5_digest_45 4999 M1 v1 (nI 1) := a2
  have b2' : F_X5_digest_53 (F_X5_digest_45 4998) 5000 M1 v1 (nI 1) 0 = F_X5_digest_45 4998 M2 v2 (nI 2) := b2
  have d1' : F_X4_digest_101 5000 T3 r (((31 : Int64) * v2) + (w.toInt64)) 0 = some (v3, T3) := d1
  have d2' : F_X5_digest_242 5000 M3 (((31 : Int64) * v2) + (w.toInt64)) 0 = some (v3, M4) := d2
  refine ⟨v3, T3, M4, ?_, ?_, hR3.inv d3, ?_⟩
  · rw [hc, ob2_s a1, ob2_s b1, ob1_s c1, c2]
    exact d1'
  · rw [hm, show F_X5_digest_45 5000 = F_X5_digest_45 (4999 + 1) from rfl, F_X5_digest_45_s, if_neg (by decide)]
    refine Eq.trans a2' ?_
    rw [show F_X5_digest_45 4999 = F_X5_digest_45 (4998 + 1) from rfl, F_X5_digest_45_s, if_neg (by decide)]
    refine Eq.trans b2' ?_
    rw [show F_X5_digest_45 4998 = F_X5_digest_45 (4997 + 1) from rfl, F_X5_digest_45_s, if_pos (by decide), ob2_s c3]
    exact d2'
  · rw [d4, c5, b5, a5, gs_thrown_thrown]
end DIG
