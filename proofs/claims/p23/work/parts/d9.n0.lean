/-! ===== p23, pure: the law looks at a node ===== -/
/-- how many children have a letter ahead of l -/
def kl (M : Mp) (c : Nat) : Nat → Nat
  | 0 => 0
  | l + 1 => kl M c l + has1 M (ch c l)
theorem kl_s (M : Mp) (c l : Nat) : kl M c (l + 1) = kl M c l + has1 M (ch c l) := rfl
theorem kl_le (M : Mp) (c : Nat) : ∀ l, kl M c l ≤ l := by
  intro l
  induction l with
  | zero => exact Nat.le_refl _
  | succ l ihl =>
    have := has1_le M (ch c l)
    rw [kl_s]; omega
theorem cw_s {c l : Nat} (hd : dp c < 4) : cw c (l + 1) = ch c l + wt (ch c l) ∨ 9 ≤ l := by
  rcases Nat.lt_or_ge l 9 with h | h
  · left
    have h1 := @ch_of c l
    have h2 := @cw_of c (l + 1)
    have h3 := dpw c
    have h4 := dpw (ch c l)
    omega
  · exact Or.inr h
theorem kl_kc {M : Mp} (hM : Wf M) {c : Nat} {d : Dt} (hc : M c = some d) (hd : dp c < 4) : ∀ l, l ≤ 9 → kc M c (cw c l) = kl M c l := by
  have hv := hM.vd hc
  have hw := wt_pos c
  have hcw := fun l => @cw_of c l
  have hdw := dpw c
  intro l
  induction l with
  | zero =>
    intro _
    have h0 := (kc_all hM.wf0 hc).1
    have h1 := hcw 0
    rw [kc_gap (a := c + 1) (by omega) (fun y h2 h3 => ?_), h0]
    · rfl
    · cases hy : M y with
      | none => exact isKid_none hy
      | some e => exact (no_between hv (hM.vd hy) hd (by omega) h3).elim
  | succ l ihl =>
    intro hl
    have hs := (cw_s (c := c) (l := l) hd).resolve_right (by omega)
    obtain ⟨o1, o2, o3, o4, o5⟩ := ch_ok hv hd (show l < 9 by omega)
    have hwl := wt_pos (ch c l)
    rw [hs, kl_s, ← ihl (by omega), cw_ch hd, kc_gap (a := ch c l + 1) (by omega) (fun y h2 h3 => ?_), kc_s]
    · congr 1
      cases hy : M (ch c l) with
      | none => rw [isKid_none hy, has1_none hy]
      | some e => rw [isKid_yes hy (by omega) (pa_ch hv hd (by omega)).1, has1_some hy]
    · cases hy : M y with
      | none => exact isKid_none hy
      | some e =>
        have hvy := hM.vd hy
        have hn := nest o1 hvy (by omega) h3
        exact isKid_no (fun z => by
          have := kid_in hvy z.1
          rw [z.2] at this
          omega)
theorem kc_kl {M : Mp} (hM : Wf M) {c : Nat} {d : Dt} (hc : M c = some d) : kc M c 10000 = kl M c 9 := by
  have hv := hM.vd hc
  obtain ⟨k1, k2⟩ := kc_all hM.wf0 hc
  rw [k2]
  rcases Nat.lt_or_ge (dp c) 4 with h | h
  · rw [← kl_kc hM hc h 9 (Nat.le_refl _)]
    have h1 := @cw_of c 9
    have h2 := dpw c
    congr 1
    omega
  · have h2 := dpw c
    have hw : wt c = 1 := by omega
    have hch : ∀ l, ch c l = 10000 := fun l => by unfold ch; rw [if_pos hw]
    have hno : M 10000 = none := by
      cases hx : M 10000 with
      | none => rfl
      | some e => have := hM.lt hx; omega
    have hz : ∀ l, kl M c l = 0 := fun l => by
      induction l with
      | zero => rfl
      | succ l ihl => rw [kl_s, ihl, hch, has1_none hno]
    rw [hw, k1, hz]
section NODE
variable {S : S_LS} {k : Bool} {M : Mp} {n : Int} {c : Nat} {d : Dt}
theorem nd_cl (hT : GT (g_State_tree k (g_LS_now S)) M n) (hc : M c = some d) (j : Nat) (hj : j ≤ 9) : okr (F_X4_node S (b2i k) (nI (ix M c)) (nI j)) = some (ndv M c d j) := okr_s (node_cl hT.1.1 hT.2.1 hT.2.2.1 hc j hj)
theorem kd_cl (hT : GT (g_State_tree k (g_LS_now S)) M n) (hc : M c = some d) (l : Nat) (hl : l < 9) : okr (F_X4_child S (b2i k) (nI (ix M c)) (nI l)) = some (rn M (ch c l)) := okr_s (child_cl hT.1.1 hT.2.1 hc l hl)
theorem sh_cl (hT : GT (g_State_tree k (g_LS_now S)) M n) : okr (F_X4_shape S (b2i k) 0) = some (g_Tree_documents (g_State_tree k (g_LS_now S))) ∧ okr (F_X4_shape S (b2i k) 1) = some (nI (ix M 10000)) := by
  obtain ⟨h0, h1, -⟩ := shapeNum_cl hT.2.1.size hT.2.1.le
  exact ⟨okr_s (shape_cl (j := 0) (by omega) h0), okr_s (shape_cl (j := 1) (by omega) h1)⟩
theorem lt_toI {a b : Int32} : a < b ↔ a.toInt < b.toInt := Int32.lt_iff_toInt_lt
/-- behind the children -/
theorem node_433 (hT : GT (g_State_tree k (g_LS_now S)) M n) (hc : M c = some d) : F_L_node_433 (b2i k) (nI (ix M c)) S d.1 true (nI (kl M c 9)) = some true := by
  have h9 : okr (F_X4_node S (b2i k) (nI (ix M c)) 9) = some (nI (kc M c 10000)) := nd_cl hT hc 9 (by omega)
  have h5 : okr (F_X4_node S (b2i k) (nI (ix M c)) 5) = some d.2.2.1 := nd_cl hT hc 5 (by omega)
  rw [kc_kl hT.1.1 hc] at h9
  have hG := (hT.1.2.2.2.2.2 c d hc).1
  unfold F_L_node_433
  rw [b2i_t, if_neg one_ne0, ob1_s h9, if_pos rfl]
  have mark : (if d.1 = 0 then (ob1 (okr (F_X4_node S (b2i k) (nI (ix M c)) (5 : Int32))) fun r71 => (if r71 = (1 : Int32) then (some true) else (some false))) else (some true)) = some true := by
    by_cases z : d.1 = 0
    · rw [if_pos z, ob1_s h5, if_pos (hG.2.2.2.2.2.2.1 z)]
    · rw [if_neg z]
  by_cases z : nI (kl M c 9) = 0
  · rw [if_pos z]; exact mark
  · rw [if_neg z]
    have h56 : d.1 = 5 ∨ d.1 = 6 := by
      have hex : ∃ l e, l < 9 ∧ M (ch c l) = some e := by
        have key : ∀ m, m ≤ 9 → kl M c m ≠ 0 → ∃ l e, l < 9 ∧ M (ch c l) = some e := by
          intro m
          induction m with
          | zero => intro _ h; exact absurd rfl h
          | succ m ihm =>
            intro h1 h2
            cases hy : M (ch c m) with
            | some e => exact ⟨m, e, by omega, hy⟩
            | none =>
              rw [kl_s, has1_none hy] at h2
              exact ihm (by omega) h2
        exact key 9 (Nat.le_refl _) (fun w => z (by rw [w]; rfl))
      obtain ⟨l, e, hl, he⟩ := hex
      obtain ⟨w1, w2, w3, w4, -, -, w5, w6⟩ := ch_up hT.1.1 hc he hl
      obtain ⟨d', q1, q2⟩ := (hT.1.2.2.2.2.2 _ e he).2 w2
      rw [w5, hc] at q1
      cases q1
      rcases q2 with ⟨-, q2, -⟩ | ⟨-, q2⟩
      · exact Or.inr q2
      · exact Or.inl q2
    rcases h56 with y | y
    · rw [if_pos y]; exact mark
    · rw [if_neg (by rw [y]; decide), if_pos y]; exact mark
/-- the children in their order -/
theorem node_342 (hT : GT (g_State_tree k (g_LS_now S)) M n) (hc : M c = some d) : ∀ (f l p : Nat), l ≤ 9 → 9 - l < f → p < 64 → (∀ l', l ≤ l' → l' < 9 → ∀ e, M (ch c l') = some e → p < ix M (ch c l')) → F_L_node_342 (b2i k) (nI (ix M c)) S f d.1 true (nI (kl M c l)) (nI p) (nI l) = some true := by
  intro f
  induction f with
  | zero => intro l p _ h; omega
  | succ f ihf =>
    intro l p h1 h2 hp h3
    have hle := hT.2.1.le
    rw [F_L_node_342_s]
    rcases Nat.lt_or_ge l 9 with z | z
    · have hk := kd_cl hT hc l z
      rw [if_neg (show ¬ (9 : Int32) ≤ nI l from nI_ge (a := l) (b := 9) z (by omega)), b2i_t, if_neg one_ne0, ob1_s hk]
      cases he : M (ch c l) with
      | none =>
        have hx := ihf (l + 1) p (by omega) (by omega) hp (fun l' a b e h => h3 l' (by omega) b e h)
        rw [kl_s, has1_none he] at hx
        rw [rn_none he, if_pos rfl]
        unfold F_L_node_394
        rw [if_pos rfl, if_pos rfl, Int32.add_zero, nI_1]
        exact hx
      | some e =>
        obtain ⟨w1, w2, w3, w4, w7, -, w5, w6⟩ := ch_up hT.1.1 hc he z
        have hlt := ix_lt he (hT.1.1.lt he)
        have h2n : okr (F_X4_node S (b2i k) (nI (ix M (ch c l))) 2) = some (upI M (ch c l)) := nd_cl hT he 2 (by omega)
        have hpl := h3 l (Nat.le_refl _) z e he
        have hx := ihf (l + 1) (ix M (ch c l)) (by omega) (by omega) (by omega) (fun l' a b e' h => by
          refine ix_lt he ?_
          rcases ch_mono (c := c) w1 (show l < l' by omega) with y | y
          · have := wt_pos (ch c l); omega
          · omega)
        rw [kl_s, has1_some he] at hx
        rw [rn_some he, if_neg (nI_m1 (by omega)), if_neg (nI_ge hpl (by omega)), ob1_s h2n, w7, if_pos rfl]
        unfold F_L_node_394
        rw [if_neg (nI_m1 (by omega)), if_neg (nI_m1 (by omega)), nI_1, nI_1]
        exact hx
    · obtain rfl : l = 9 := by omega
      rw [if_pos (show (9 : Int32) ≤ nI 9 by decide)]
      exact node_433 hT hc
theorem node_342_0 (hT : GT (g_State_tree k (g_LS_now S)) M n) (hc : M c = some d) : F_L_node_342 (b2i k) (nI (ix M c)) S 5000 d.1 true 0 (nI (ix M c)) 0 = some true := by
  have hle := hT.2.1.le
  have hlt := ix_lt hc (hT.1.1.lt hc)
  exact node_342 hT hc 5000 0 (ix M c) (by omega) (by omega) (by omega) (fun l' _ b e h => by
    obtain ⟨w1, w2, w3, w4, w7, -, w5, w6⟩ := ch_up hT.1.1 hc h b
    exact ix_lt hc w3)
/-- a node, beside what is above it -/
theorem node_up (hT : GT (g_State_tree k (g_LS_now S)) M n) (hc : M c = some d) (h0 : c ≠ 0) : F_L_node_151 (b2i k) (nI (ix M c)) S d.1 (nI (ix M (pa c))) (nI (ltr c)) true = some true := by
  have hM := hT.1.1
  have hv := hM.vd hc
  have hle := hT.2.1.le
  have hlt := ix_lt hc (hM.lt hc)
  obtain ⟨c1, c2, c3, c4, c5⟩ := ch_pa hv h0
  obtain ⟨d', q1, q2⟩ := (hT.1.2.2.2.2.2 c d hc).2 h0
  have hup := ix_lt q1 c5
  have n4 : okr (F_X4_node S (b2i k) (nI (ix M c)) 4) = some d.2.1 := nd_cl hT hc 4 (by omega)
  have n3 : okr (F_X4_node S (b2i k) (nI (ix M c)) 3) = some (nI (dp c)) := nd_cl hT hc 3 (by omega)
  have n7 : okr (F_X4_node S (b2i k) (nI (ix M c)) 7) = some (b2i (opt M c d)) := nd_cl hT hc 7 (by omega)
  have u6 : okr (F_X4_node S (b2i k) (nI (ix M (pa c))) 6) = some d'.2.2.2.1 := nd_cl hT q1 6 (by omega)
  have u3 : okr (F_X4_node S (b2i k) (nI (ix M (pa c))) 3) = some (nI (dp (pa c))) := nd_cl hT q1 3 (by omega)
  have u0 : okr (F_X4_node S (b2i k) (nI (ix M (pa c))) 0) = some d'.1 := nd_cl hT q1 0 (by omega)
  have kid : okr (F_X4_child S (b2i k) (nI (ix M (pa c))) (nI (ltr c))) = some (nI (ix M c)) := by
    have := kd_cl hT q1 (ltr c) c2
    rw [c1, rn_some hc] at this
    exact this
  have fin := node_342_0 hT hc
  have s280 : F_L_node_280 (b2i k) (nI (ix M c)) S d.1 (nI (ix M (pa c))) (nI (ltr c)) true = some true := by
    unfold F_L_node_280
    rw [b2i_t, if_neg one_ne0, ob1_s u0]
    rcases q2 with ⟨l8, k6, -⟩ | ⟨l8, k5⟩
    · rw [if_pos k6, if_pos (show nI (ltr c) < (8 : Int32) from nI_lt (b := 8) l8 (by omega))]
      exact fin
    · rw [if_neg (by rw [k5]; decide)]
      unfold F_L_node_307
      rw [ob1_s u0, if_pos k5, if_pos (by rw [l8]; rfl)]
      exact fin
  have s246 : F_L_node_246 (b2i k) (nI (ix M c)) S d.1 (nI (ix M (pa c))) (nI (ltr c)) (b2i (opt M c d)) (opt M c d) = some true := by
    unfold F_L_node_246
    rw [if_pos rfl]
    by_cases l8 : nI (ltr c) = (8 : Int32)
    · rw [if_pos l8]; exact s280
    · rw [if_neg l8, ob1_s n4, ob1_s u6]
      rcases q2 with ⟨-, -, q2⟩ | ⟨q2, -⟩
      · rw [if_neg (fun w => by
          rw [lt_toI] at w
          unfold vI gI at q2
          omega)]
        exact s280
      · exact absurd (by rw [q2]; rfl) l8
  have s193 : F_L_node_193 (b2i k) (nI (ix M c)) S d.1 (nI (ix M (pa c))) (nI (ltr c)) (opt M c d) = some true := by
    unfold F_L_node_193
    rw [ob1_s kid, if_pos rfl, ob1_s n3, ob1_s u3, nI_1, if_pos (by rw [c4]), ob1_s n7]
    have h2 := s246
    cases ho : opt M c d with
    | false =>
      rw [ho] at h2
      rw [b2i_f, if_pos rfl]
      exact h2
    | true =>
      rw [ho] at h2
      rw [b2i_t, if_neg one_ne0]
      exact h2
  have hopt : opt M c d = decide (ltr c < 8 ∧ d.2.1 < d'.2.2.2.1) := by
    unfold opt
    rw [grp_some q1]
    exact decide_eq_decide.mpr ⟨fun h => h.2, fun h => ⟨h0, h⟩⟩
  unfold F_L_node_151
  rw [b2i_t, if_neg one_ne0, if_neg (show ¬ nI (ix M c) ≤ 0 from nI_ge (a := 0) (b := ix M c) (by omega) (by omega))]
  by_cases l8 : 8 ≤ ltr c
  · rw [decide_eq_false (by omega)] at hopt
    rw [hopt] at s193
    rw [if_pos (show (8 : Int32) ≤ nI (ltr c) from nI_le (a := 8) l8 (by omega))]
    exact s193
  · rw [if_neg (show ¬ (8 : Int32) ≤ nI (ltr c) from nI_ge (a := ltr c) (b := 8) (by omega) (by omega)), ob1_s n4, ob1_s u6]
    by_cases y : d'.2.2.2.1 ≤ d.2.1
    · rw [decide_eq_false (fun w => Int32.not_lt.mpr y w.2)] at hopt
      rw [hopt] at s193
      rw [if_pos y]
      exact s193
    · rw [decide_eq_true ⟨by omega, Int32.not_le.mp y⟩] at hopt
      rw [hopt] at s193
      rw [if_neg y]
      exact s193
/-- a node is as it must be -/
theorem node_law (hT : GT (g_State_tree k (g_LS_now S)) M n) (hc : M c = some d) : F_L_node S (b2i k) (nI (ix M c)) = some true := by
  have hM := hT.1.1
  have hv := hM.vd hc
  have hle := hT.2.1.le
  have hlt := ix_lt hc (hM.lt hc)
  have n0 : okr (F_X4_node S (b2i k) (nI (ix M c)) 0) = some d.1 := nd_cl hT hc 0 (by omega)
  have n1 : okr (F_X4_node S (b2i k) (nI (ix M c)) 1) = some (l32 c) := nd_cl hT hc 1 (by omega)
  have n2 : okr (F_X4_node S (b2i k) (nI (ix M c)) 2) = some (upI M c) := nd_cl hT hc 2 (by omega)
  have n4 : okr (F_X4_node S (b2i k) (nI (ix M c)) 4) = some d.2.1 := nd_cl hT hc 4 (by omega)
  have n6 : okr (F_X4_node S (b2i k) (nI (ix M c)) 6) = some d.2.2.2.1 := nd_cl hT hc 6 (by omega)
  have n8 : okr (F_X4_node S (b2i k) (nI (ix M c)) 8) = some d.2.2.2.2 := nd_cl hT hc 8 (by omega)
  obtain ⟨s0, -⟩ := sh_cl hT
  obtain ⟨g1, g2, g3, g4, g5, g6, g7, g8⟩ := (hT.1.2.2.2.2.2 c d hc).1
  obtain ⟨j, hj, hkj⟩ := (hM c d hc).2.1
  have hdoc := hT.2.2.2.2
  have i1 : (1 : Int32).toInt = 1 := rfl
  have s75 : ∀ (x4 x5 : Int32) (t : Bool), F_L_node_151 (b2i k) (nI (ix M c)) S d.1 x4 x5 true = some true → F_L_node_75 (b2i k) (nI (ix M c)) S d.1 x4 x5 t t = some true := by
    intro x4 x5 t h
    unfold F_L_node_75
    rw [if_pos rfl, if_neg (by rw [hkj]; exact nI_nneg (by omega)), if_neg (by rw [hkj]; exact nI_ge (a := j) (b := 8) (by omega) (by omega)), ob1_s n8, if_neg (by rw [lt_toI]; unfold eI at g5; omega), ob1_s n8, ob1_s s0, if_neg (by rw [lt_toI, hdoc]; unfold eI at g6; omega), ob1_s n4, if_neg (by rw [lt_toI]; unfold vI at g1; omega), ob1_s n6, ob1_s n4, if_neg (by rw [lt_toI]; unfold vI gI at g4; omega)]
    exact h
  unfold F_L_node
  rw [ob1_s n0, ob1_s n2, ob1_s n1]
  by_cases z : c = 0
  · subst z
    have hix : ix M 0 = 0 := rfl
    have hu : upI M 0 = -1 := if_pos rfl
    have hl : l32 0 = -1 := if_pos rfl
    rw [hu, hl]
    have h151 : F_L_node_151 (b2i k) (nI (ix M 0)) S d.1 (-1) (-1) true = some true := by
      unfold F_L_node_151
      rw [b2i_t, if_neg one_ne0, if_pos (by rw [hix]; decide)]
      exact node_342_0 hT hc
    have h43 : F_L_node_43 (b2i k) (nI (ix M 0)) S d.1 (-1) (-1) true = some true := by
      unfold F_L_node_43
      rw [if_pos (by rw [hix]; rfl), b2i_t, if_pos rfl, if_pos rfl, if_pos (by rw [hix]; rfl)]
      exact s75 _ _ true h151
    rw [if_neg (by rw [hix]; decide), if_pos rfl]
    exact h43
  · obtain ⟨c1, c2, c3, c4, c5⟩ := ch_pa hv z
    obtain ⟨d', q1, -⟩ := hM.up hc z
    have hup := ix_lt q1 c5
    have hu : upI M c = nI (ix M (pa c)) := if_neg z
    have hl : l32 c = nI (ltr c) := if_neg z
    rw [hu, hl, if_neg (nI_ge hup (by omega)), if_neg (nI_m1 (by omega))]
    have h43 : F_L_node_43 (b2i k) (nI (ix M c)) S d.1 (nI (ix M (pa c))) (nI (ltr c)) false = some true := by
      unfold F_L_node_43
      rw [if_neg (nI_ne0 (by omega) (by omega)), b2i_f, if_pos rfl, if_neg (nI_m1 (by omega)), if_neg (nI_ne0 (by omega) (by omega))]
      exact s75 _ _ false (node_up hT hc z)
    exact h43
end NODE
