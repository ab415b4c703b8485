/-! ===== pure: the class works out the joined shape ===== -/
/-- a row is written behind all others -/
theorem join_row {T : S_Tree} {M : Mp} {c : Nat} {nd : Dt} (hT : TR T M c) (hn : ix M c < 64) (hc : M c = some nd) : ∃ T', F_X3_addRow T (l32 c) (nI (dp c)) = some (nI (ix M c), T') ∧ g_Tree_documents T' = g_Tree_documents T ∧ g_Tree_size T' = nI (ix M c + 1) ∧ ∀ U, g_Tree_size U = nI (ix M c + 1) → (∀ r k, r ≠ ix M c → k < 9 → tc U r k = tc T' r k) → (∀ k, k < 9 → tc U (ix M c) k = if k = 0 then nd.1 else if k = 3 then nd.2.1 else if k = 4 then nd.2.2.1 else if k = 5 then nd.2.2.2.1 else if k = 6 then nd.2.2.2.2 else tc T' (ix M c) k) → TR U M (c + 1) := by
  obtain ⟨T', e1, e2, e3, e4, e5⟩ := add_ok (l := l32 c) (d := nI (dp c)) hT.size hn
  refine ⟨T', e1, e3, e2, fun U u1 u2 u3 => ?_⟩
  have hix : ix M (c + 1) = ix M c + 1 := ix_some hc
  refine ⟨by rw [hix]; exact u1, by omega, fun x d hx hd => ?_⟩
  by_cases q : x = c
  · subst q
    rw [hc] at hd
    cases hd
    have b0 := u3 0 (by omega)
    have b1 := u3 1 (by omega)
    have b2 := u3 2 (by omega)
    have b3 := u3 3 (by omega)
    have b4 := u3 4 (by omega)
    have b5 := u3 5 (by omega)
    have b6 := u3 6 (by omega)
    rw [if_pos rfl] at b0
    rw [if_neg (by omega), if_neg (by omega), if_neg (by omega), if_neg (by omega), if_neg (by omega), e4 1 (by omega)] at b1
    rw [if_neg (by omega), if_neg (by omega), if_neg (by omega), if_neg (by omega), if_neg (by omega), e4 2 (by omega)] at b2
    rw [if_neg (by omega), if_pos rfl] at b3
    rw [if_neg (by omega), if_neg (by omega), if_pos rfl] at b4
    rw [if_neg (by omega), if_neg (by omega), if_neg (by omega), if_pos rfl] at b5
    rw [if_neg (by omega), if_neg (by omega), if_neg (by omega), if_neg (by omega), if_pos rfl] at b6
    exact ⟨b0, b1, b2, b3, b4, b5, b6⟩
  · have hlt := ix_lt hd (show x < c by omega)
    have := hT.2.2 x d (by omega) hd
    unfold rowIs at this ⊢
    rw [u2 _ 0 (by omega) (by omega), u2 _ 1 (by omega) (by omega), u2 _ 2 (by omega) (by omega), u2 _ 3 (by omega) (by omega), u2 _ 4 (by omega) (by omega), u2 _ 5 (by omega) (by omega), u2 _ 6 (by omega) (by omega), e5 _ 0 (by omega) (by omega), e5 _ 1 (by omega) (by omega), e5 _ 2 (by omega) (by omega), e5 _ 3 (by omega) (by omega), e5 _ 4 (by omega) (by omega), e5 _ 5 (by omega) (by omega), e5 _ 6 (by omega) (by omega)]
    exact this
def jput (T : S_Tree) (r : Nat) (nd : Dt) : S_Tree := tput (tput (tput (tput (tput T r 0 nd.1) r 3 nd.2.1) r 4 nd.2.2.1) r 5 nd.2.2.2.1) r 6 nd.2.2.2.2
theorem jput_tc (T : S_Tree) (r : Nat) (nd : Dt) (r' k : Nat) (hk : k < 9) : tc (jput T r nd) r' k = if r' = r then (if k = 0 then nd.1 else if k = 3 then nd.2.1 else if k = 4 then nd.2.2.1 else if k = 5 then nd.2.2.2.1 else if k = 6 then nd.2.2.2.2 else tc T r' k) else tc T r' k := by
  unfold jput
  rw [tc_tput (by omega) hk, tc_tput (by omega) hk, tc_tput (by omega) hk, tc_tput (by omega) hk, tc_tput (by omega) hk]
  by_cases q : r' = r
  · rw [if_pos q]
    by_cases k0 : k = 0
    · rw [if_neg (by omega), if_neg (by omega), if_neg (by omega), if_neg (by omega), if_pos ⟨q, k0⟩, if_pos k0]
    · rw [if_neg k0]
      by_cases k3 : k = 3
      · rw [if_neg (by omega), if_neg (by omega), if_neg (by omega), if_pos ⟨q, k3⟩, if_pos k3]
      · rw [if_neg k3]
        by_cases k4 : k = 4
        · rw [if_neg (by omega), if_neg (by omega), if_pos ⟨q, k4⟩, if_pos k4]
        · rw [if_neg k4]
          by_cases k5 : k = 5
          · rw [if_neg (by omega), if_pos ⟨q, k5⟩, if_pos k5]
          · rw [if_neg k5]
            by_cases k6 : k = 6
            · rw [if_pos ⟨q, k6⟩, if_pos k6]
            · rw [if_neg (fun z => k6 z.2), if_neg (fun z => k5 z.2), if_neg (fun z => k4 z.2), if_neg (fun z => k3 z.2), if_neg (fun z => k0 z.2), if_neg k6]
  · rw [if_neg q, if_neg (fun z => q z.1), if_neg (fun z => q z.1), if_neg (fun z => q z.1), if_neg (fun z => q z.1), if_neg (fun z => q z.1)]
theorem join_81 {S1 S2 T : S_Tree} {A B : Mp} (hA : Wf A) (hB : Wf B) (h1 : TR S1 A 10000) (h2 : TR S2 B 10000) {c : Nat} {nd : Dt} (hJ : jm A B (g_Tree_documents S1) c = some nd) (hT : TR T (jm A B (g_Tree_documents S1)) c) (hn : ix (jm A B (g_Tree_documents S1)) c < 64) (v6 : Int32) (hv6 : v6 = nI (dp c)) (self : S_Tree → S_Tree → S_Tree → Int32 → Int32 → Int32 → Option S_Tree) (x9 : Bool) (hx9 : x9 = decide ((A c).isSome = true ∧ jk (o0 (A c)).1 (o0 (B c)).1 = (o0 (A c)).1)) :
    ∃ U, F_X4_joinNodes_81 (rn A c) (rn B c) v6 S1 S2 self T (jk (o0 (A c)).1 (o0 (B c)).1) x9 (l32 c) = (if nd.1 = 7 then some U else F_X4_joinNodes_214 (rn A c) (rn B c) v6 S1 S2 self 5000 U 0) ∧ TR U (jm A B (g_Tree_documents S1)) (c + 1) ∧ g_Tree_documents U = g_Tree_documents T := by
  subst hv6
  obtain ⟨T', e1, e2, e3, e4⟩ := join_row hT hn hJ
  obtain ⟨a0, a3, a4, a5, a6, -⟩ := rn_row hA h1 c
  obtain ⟨b0, b3, b4, b5, b6, -⟩ := rn_row hB h2 c
  obtain ⟨hs, hnd⟩ := jd_src (jm_sub hJ)
  have hr : ix (jm A B (g_Tree_documents S1)) c < ix (jm A B (g_Tree_documents S1)) c + 1 := Nat.lt_succ_self _
  have hn' : ix (jm A B (g_Tree_documents S1)) c + 1 ≤ 64 := hn
  have s1 : g_Tree_size (tput T' (ix (jm A B (g_Tree_documents S1)) c) 0 nd.1) = nI (ix (jm A B (g_Tree_documents S1)) c + 1) := e3
  have s2 : g_Tree_size (tput (tput T' (ix (jm A B (g_Tree_documents S1)) c) 0 nd.1) (ix (jm A B (g_Tree_documents S1)) c) 3 nd.2.1) = nI (ix (jm A B (g_Tree_documents S1)) c + 1) := e3
  have s3 : g_Tree_size (tput (tput (tput T' (ix (jm A B (g_Tree_documents S1)) c) 0 nd.1) (ix (jm A B (g_Tree_documents S1)) c) 3 nd.2.1) (ix (jm A B (g_Tree_documents S1)) c) 4 nd.2.2.1) = nI (ix (jm A B (g_Tree_documents S1)) c + 1) := e3
  have s4 : g_Tree_size (tput (tput (tput (tput T' (ix (jm A B (g_Tree_documents S1)) c) 0 nd.1) (ix (jm A B (g_Tree_documents S1)) c) 3 nd.2.1) (ix (jm A B (g_Tree_documents S1)) c) 4 nd.2.2.1) (ix (jm A B (g_Tree_documents S1)) c) 5 nd.2.2.2.1) = nI (ix (jm A B (g_Tree_documents S1)) c + 1) := e3
  refine ⟨jput T' (ix (jm A B (g_Tree_documents S1)) c) nd, ?_, ?_, e2⟩
  · unfold F_X4_joinNodes_81
    have n1 : jk (o0 (A c)).1 (o0 (B c)).1 = nd.1 := by rw [hnd]; rfl
    have n2 : (o0 (A c)).2.1 + (o0 (B c)).2.1 = nd.2.1 := by rw [hnd]; rfl
    have n3 : (if (o0 (A c)).2.2.1 < (o0 (B c)).2.2.1 then (o0 (B c)).2.2.1 else (o0 (A c)).2.2.1) = nd.2.2.1 := by rw [hnd]; rfl
    have n4 : (o0 (A c)).2.2.2.1 + (o0 (B c)).2.2.2.1 = nd.2.2.2.1 := by rw [hnd]; rfl
    have n5 : (if (A c).isSome = true ∧ jk (o0 (A c)).1 (o0 (B c)).1 = (o0 (A c)).1 then (o0 (A c)).2.2.2.2 else g_Tree_documents S1 + (o0 (B c)).2.2.2.2) = nd.2.2.2.2 := by rw [hnd]; rfl
    rw [ob2_s e1, n1, ob1_s (put_0 _ e3 hn' hr), ob1_s a3, ob1_s b3, n2, ob1_s (put_3 _ s1 hn' hr), ob1_s a4, ob1_s b4, n3, ob1_s (put_4 _ s2 hn' hr), ob1_s a5, ob1_s b5, n4, ob1_s (put_5 _ s3 hn' hr)]
    by_cases z : (A c).isSome = true ∧ jk (o0 (A c)).1 (o0 (B c)).1 = (o0 (A c)).1
    · rw [if_pos z] at n5
      rw [hx9, decide_eq_true z, b2i_t, if_neg one_ne0, ob1_s a6, n5, ob1_s (put_6 _ s4 hn' hr)]
      rfl
    · rw [if_neg z] at n5
      rw [hx9, decide_eq_false z, b2i_f, if_pos rfl, ob1_s b6, n5, ob1_s (put_6 _ s4 hn' hr)]
      rfl
  · refine e4 _ e3 (fun r k hr hk => ?_) (fun k hk => ?_)
    · rw [jput_tc _ _ _ _ _ hk, if_neg hr]
    · rw [jput_tc _ _ _ _ _ hk, if_pos rfl]
theorem join_17 {S1 S2 T : S_Tree} {A B : Mp} (hA : Wf A) (hB : Wf B) (h1 : TR S1 A 10000) (h2 : TR S2 B 10000) {c : Nat} {nd : Dt} (hJ : jm A B (g_Tree_documents S1) c = some nd) (hT : TR T (jm A B (g_Tree_documents S1)) c) (hn : ix (jm A B (g_Tree_documents S1)) c < 64) (v6 : Int32) (hv6 : v6 = nI (dp c)) (self : S_Tree → S_Tree → S_Tree → Int32 → Int32 → Int32 → Option S_Tree) :
    ∃ U, F_X4_joinNodes_17 (rn A c) (rn B c) v6 S1 S2 self T (A c).isSome = (if nd.1 = 7 then some U else F_X4_joinNodes_214 (rn A c) (rn B c) v6 S1 S2 self 5000 U 0) ∧ TR U (jm A B (g_Tree_documents S1)) (c + 1) ∧ g_Tree_documents U = g_Tree_documents T := by
  obtain ⟨a0, -, -, -, -, a1⟩ := rn_row hA h1 c
  obtain ⟨b0, -, -, -, -, b1⟩ := rn_row hB h2 c
  obtain ⟨hs, hnd⟩ := jd_src (jm_sub hJ)
  have key := fun x9 hx9 => join_81 hA hB h1 h2 hJ hT hn v6 hv6 self x9 hx9
  unfold F_X4_joinNodes_17
  rw [ob1_s a0, ob1_s b0, ob1_s (jk_X4 _ _)]
  cases hAc : A c with
  | none =>
    rw [hAc] at hs
    have hb : ∃ e, B c = some e := by
      rcases hs with z | z
      · cases z
      · exact Option.isSome_iff_exists.mp z
    obtain ⟨e, he⟩ := hb
    rw [show (none : Option Dt).isSome = false from rfl, b2i_f, if_pos rfl, if_pos rfl, ob1_s (b1 e he), ← hAc]
    exact key false (decide_eq_false (fun z => by rw [hAc] at z; cases z.1)).symm
  | some d =>
    rw [show (some d).isSome = true from rfl, b2i_t, if_neg one_ne0, if_neg one_ne0, if_neg one_ne0, ob1_s (a1 d hAc), ← hAc]
    by_cases z : jk (o0 (A c)).1 (o0 (B c)).1 = (o0 (A c)).1
    · rw [if_pos z]
      exact key true (decide_eq_true ⟨by rw [hAc]; rfl, z⟩).symm
    · rw [if_neg z, ob1_s (a1 d hAc)]
      exact key false (decide_eq_false (fun y => z y.2)).symm
theorem join_node {S1 S2 : S_Tree} {A B : Mp} (hA : Wf A) (hB : Wf B) (h1 : TR S1 A 10000) (h2 : TR S2 B 10000) (hle : ix A 10000 + ix B 10000 ≤ 60) : ∀ (f : Nat) (T : S_Tree) (c : Nat) (nd : Dt), 5 ≤ f + dp c → jm A B (g_Tree_documents S1) c = some nd → TR T (jm A B (g_Tree_documents S1)) c → ∃ T', F_X4_joinNodes f T S1 S2 (rn A c) (rn B c) (nI (dp c)) = some T' ∧ TR T' (jm A B (g_Tree_documents S1)) (c + wt c) ∧ g_Tree_documents T' = g_Tree_documents T
  | 0, T, c, nd, hf, _, _ => by have := dp_le c; omega
  | f + 1, T, c, nd, hf, hJ, hT => by
    have hJw := jm_wf hA hB (g_Tree_documents S1)
    have hJl := jm_le A B (g_Tree_documents S1)
    have hv := hJw.vd hJ
    have hix := ix_lt hJ (hJw.lt hJ)
    have hd := dp_le c
    obtain ⟨U, u1, u2, u3⟩ := join_17 hA hB h1 h2 hJ hT (by omega) (nI (dp c)) rfl (F_X4_joinNodes f)
    have hstart : F_X4_joinNodes (f + 1) T S1 S2 (rn A c) (rn B c) (nI (dp c)) = F_X4_joinNodes_17 (rn A c) (rn B c) (nI (dp c)) S1 S2 (F_X4_joinNodes f) T (A c).isSome := by
      rw [F_X4_joinNodes_s, if_pos (show nI (dp c) ≤ (4 : Int32) from nI_le (a := dp c) (b := 4) hd (by omega))]
      cases hAc : A c with
      | none => rw [rn_none hAc, if_pos rfl]; rfl
      | some d =>
        have hl := ix_lt hAc (hA.lt hAc)
        rw [rn_some hAc, if_neg (nI_m1 (by omega))]; rfl
    rw [hstart, u1]
    by_cases h7 : nd.1 = 7
    · rw [if_pos h7]
      refine ⟨U, rfl, u2.shift (by have := wt_pos c; omega) (fun y y1 y2 => hJw.any hJ h7 (by omega) y2), u3⟩
    · rw [if_neg h7]
      -- the loop over the letters
      have loop : ∀ (q l : Nat) (V : S_Tree) (x : Nat), l ≤ 9 → 9 - l < q → ((dp c = 4 ∧ x = c + 1) ∨ (dp c < 4 ∧ x = cw c l)) → TR V (jm A B (g_Tree_documents S1)) x → ∃ T', F_X4_joinNodes_214 (rn A c) (rn B c) (nI (dp c)) S1 S2 (F_X4_joinNodes f) q V (nI l) = some T' ∧ TR T' (jm A B (g_Tree_documents S1)) (c + wt c) ∧ g_Tree_documents T' = g_Tree_documents V := by
        intro q
        induction q with
        | zero => intro l V x _ h; exact absurd h (Nat.not_lt_zero _)
        | succ q ih =>
          intro l V x hl hq hx hV
          rw [F_X4_joinNodes_214_s]
          by_cases z : l = 9
          · rw [if_pos (by rw [z]; decide)]
            refine ⟨V, rfl, ?_, rfl⟩
            have hxe : x = c + wt c := by
              have h3 := dpw c
              have h4 := @cw_of c l
              omega
            rw [← hxe]; exact hV
          · rw [if_neg (show ¬ (8 : Int32) < nI l from nI_nlt (b := l) (a := 8) (by omega) (by omega)), ob1_s (rn_find hA h1 c l (by omega)), ob1_s (rn_find hB h2 c l (by omega)), nI_1, nI_1]
            -- no child at the letter
            have skip : A (ch c l) = none → B (ch c l) = none → ∃ T', F_X4_joinNodes_214 (rn A c) (rn B c) (nI (dp c)) S1 S2 (F_X4_joinNodes f) q V (nI (l + 1)) = some T' ∧ TR T' (jm A B (g_Tree_documents S1)) (c + wt c) ∧ g_Tree_documents T' = g_Tree_documents V := by
              intro ha hb
              rcases hx with ⟨hx1, hx2⟩ | ⟨hx1, hx2⟩
              · exact ih (l + 1) V x (by omega) (by omega) (Or.inl ⟨hx1, hx2⟩) hV
              · have hch := ch_ok hv hx1 (show l < 9 by omega)
                have hcw := @cw_ch c l hx1
                have hcw2 : cw c (l + 1) = ch c l + wt (ch c l) := by
                  have g1 := @cw_of c l
                  have g2 := @cw_of c (l + 1)
                  omega
                refine ih (l + 1) V (cw c (l + 1)) (by omega) (by omega) (Or.inr ⟨hx1, rfl⟩) (hV.shift (by omega) (fun y y1 y2 => ?_))
                cases hy : jm A B (g_Tree_documents S1) y with
                | none => rfl
                | some e =>
                  exfalso
                  obtain ⟨e', he'⟩ := hJw.wf0.anc hch.1 _ y e rfl hy (by omega) (by omega)
                  rcases (jd_src (jm_sub he')).1 with w | w
                  · rw [ha] at w; cases w
                  · rw [hb] at w; cases w
            -- a child there
            have deep : (A (ch c l)).isSome = true ∨ (B (ch c l)).isSome = true → ∃ T', ob1 (F_X4_joinNodes f V S1 S2 (rn A (ch c l)) (rn B (ch c l)) (nI (dp c + 1))) (fun u => F_X4_joinNodes_214 (rn A c) (rn B c) (nI (dp c)) S1 S2 (F_X4_joinNodes f) q u (nI (l + 1))) = some T' ∧ TR T' (jm A B (g_Tree_documents S1)) (c + wt c) ∧ g_Tree_documents T' = g_Tree_documents V := by
              intro hs
              have hlt : ch c l < 10000 := by
                rcases hs with w | w
                · obtain ⟨e, he⟩ := Option.isSome_iff_exists.mp w
                  exact hA.lt he
                · obtain ⟨e, he⟩ := Option.isSome_iff_exists.mp w
                  exact hB.lt he
              have hd4 : dp c < 4 := by
                have g1 := dpw c
                have g2 := @ch_of c l
                omega
              have hch := ch_ok hv hd4 (show l < 9 by omega)
              have hpc := (pa_ch hv hd4 (show l < 9 by omega)).1
              have hcw := @cw_ch c l hd4
              have hcw2 : cw c (l + 1) = ch c l + wt (ch c l) := by
                have g1 := @cw_of c l
                have g2 := @cw_of c (l + 1)
                omega
              have hxx : x = ch c l := by rcases hx with w | w <;> omega
              have hJc : jm A B (g_Tree_documents S1) (ch c l) = some (jdc (A (ch c l)) (B (ch c l)) (g_Tree_documents S1)) := by
                rw [jm_of hch.1 (by omega) (by rw [hpc]; exact hJ) h7]
                exact jd_some hs
              rw [hxx] at hV
              obtain ⟨T1, t1, t2, t3⟩ := join_node hA hB h1 h2 hle f V (ch c l) _ (by omega) hJc hV
              rw [hch.2.1] at t1
              rw [ob1_s t1]
              rw [← hcw2] at t2
              obtain ⟨T2, t4, t5, t6⟩ := ih (l + 1) T1 (cw c (l + 1)) (by omega) (by omega) (Or.inr ⟨hd4, rfl⟩) t2
              exact ⟨T2, t4, t5, t6.trans t3⟩
            cases ha : A (ch c l) with
            | none =>
              rw [rn_none ha, if_pos rfl]
              cases hb : B (ch c l) with
              | none => rw [rn_none hb, if_pos rfl]; exact skip ha hb
              | some e =>
                have hbl := ix_lt hb (hB.lt hb)
                have := deep (Or.inr (by rw [hb]; rfl))
                rw [rn_none ha, rn_some hb] at this
                rw [rn_some hb, if_neg (nI_m1 (by omega))]
                exact this
            | some e =>
              have hal := ix_lt ha (hA.lt ha)
              have := deep (Or.inl (by rw [ha]; rfl))
              rw [rn_some ha] at this
              rw [rn_some ha, if_neg (nI_m1 (by omega))]
              exact this
      by_cases h4 : dp c = 4
      · exact (loop 5000 0 U (c + 1) (by omega) (by omega) (Or.inl ⟨h4, rfl⟩) u2).imp (fun T' h => ⟨h.1, h.2.1, h.2.2.trans u3⟩)
      · have hcw : c + 1 ≤ cw c 0 := by
          have g1 := @cw_of c 0
          have g2 := dpw c
          omega
        exact (loop 5000 0 U (cw c 0) (by omega) (by omega) (Or.inr ⟨by omega, rfl⟩) (u2.shift hcw (fun y y1 y2 => by
          cases hy : jm A B (g_Tree_documents S1) y with
          | none => rfl
          | some e => exact (no_between hv (hJw.vd hy) (by omega) (by omega) y2).elim))).imp (fun T' h => ⟨h.1, h.2.1, h.2.2.trans u3⟩)
/-- the first node is there where there are nodes -/
theorem root_ix {M : Mp} (hM : Wf M) : (ix M 10000 = 0 ∧ M 0 = none ∧ ∀ x, M x = none) ∨ (0 < ix M 10000 ∧ ∃ d, M 0 = some d) := by
  rcases Nat.eq_zero_or_pos (ix M 10000) with w | w
  · left
    have hno : ∀ x, M x = none := fun x => by
      cases h : M x with
      | none => rfl
      | some d => have := ix_lt h (hM.lt h); omega
    exact ⟨w, hno 0, hno⟩
  · right
    obtain ⟨x, e, g1, g2, g3⟩ := ix_at w
    exact ⟨w, hM.root (dp x) rfl g2⟩
theorem class_join {S : S_LS} {k : Bool} {A B : Mp} (hA : Wf A) (hB : Wf B) (h1 : TR (g_State_tree k (g_LS_now S)) A 10000) (h2 : TR (g_State_tree (!k) (g_LS_now S)) B 10000) (hla : ix A 10000 ≤ 30) (hlb : ix B 10000 ≤ 30) :
    ∃ W, F_X4_workOutJoined S k = some (s_LS_work S W) ∧ TR W (jm A B (g_Tree_documents (g_State_tree k (g_LS_now S)))) 10000 ∧ g_Tree_documents W = g_Tree_documents (g_State_tree k (g_LS_now S)) + g_Tree_documents (g_State_tree (!k) (g_LS_now S)) := by
  have hclr : F_X3_clear (g_LS_work S) = some (s_Tree_documents (s_Tree_size (g_LS_work S) 0) 0) := rfl
  generalize hU : s_Tree_documents (s_Tree_documents (s_Tree_size (g_LS_work S) 0) 0) (g_Tree_documents (g_State_tree k (g_LS_now S)) + g_Tree_documents (g_State_tree (!k) (g_LS_now S))) = U
  have hUs : g_Tree_size U = nI 0 := by rw [← hU]; rfl
  have hUd : g_Tree_documents U = g_Tree_documents (g_State_tree k (g_LS_now S)) + g_Tree_documents (g_State_tree (!k) (g_LS_now S)) := by rw [← hU]; rfl
  have hnow : g_LS_now (s_LS_work S U) = g_LS_now S := rfl
  have hwork : g_LS_work (s_LS_work S U) = U := rfl
  have hJw := jm_wf hA hB (g_Tree_documents (g_State_tree k (g_LS_now S)))
  have hU0 : TR U (jm A B (g_Tree_documents (g_State_tree k (g_LS_now S)))) 0 := ⟨hUs, Nat.zero_le _, fun c d hc => absurd hc (Nat.not_lt_zero _)⟩
  -- what the recursion gives
  have run : (A 0).isSome = true ∨ (B 0).isSome = true → ∃ W, F_X4_joinNodes 8 U (g_State_tree k (g_LS_now S)) (g_State_tree (!k) (g_LS_now S)) (rn A 0) (rn B 0) (nI (dp 0)) = some W ∧ TR W (jm A B (g_Tree_documents (g_State_tree k (g_LS_now S)))) 10000 ∧ g_Tree_documents W = g_Tree_documents (g_State_tree k (g_LS_now S)) + g_Tree_documents (g_State_tree (!k) (g_LS_now S)) := by
    intro h
    obtain ⟨W, w1, w2, w3⟩ := join_node hA hB h1 h2 (by omega) 8 U 0 _ (by omega) ((jm_0 A B _).trans (jd_some h)) hU0
    exact ⟨W, w1, w2, w3.trans hUd⟩
  have fin37 : (A 0).isSome = true ∨ (B 0).isSome = true → ∃ W, F_X4_workOutJoined_37 k (s_LS_work S U) = some (s_LS_work S W) ∧ TR W (jm A B (g_Tree_documents (g_State_tree k (g_LS_now S)))) 10000 ∧ g_Tree_documents W = g_Tree_documents (g_State_tree k (g_LS_now S)) + g_Tree_documents (g_State_tree (!k) (g_LS_now S)) := by
    intro h
    obtain ⟨W, w1, w2, w3⟩ := run h
    refine ⟨W, ?_, w2, w3⟩
    unfold F_X4_workOutJoined_37
    rw [hnow, hwork, h1.size, h2.size]
    rcases root_ix hA with ⟨a1, a2, a3⟩ | ⟨a1, d, a2⟩
    · rw [rn_none a2] at w1
      rw [a1, if_pos (show nI 0 ≤ 0 by decide)]
      rcases root_ix hB with ⟨b1, b2, b3⟩ | ⟨b1, e, b2⟩
      · rw [rn_none b2] at w1
        rw [b1, if_pos (show nI 0 ≤ 0 by decide)]
        exact ob1_s w1
      · rw [rn_some b2] at w1
        rw [if_neg (nI_nle b1 (by omega))]
        exact ob1_s w1
    · rw [rn_some a2] at w1
      rw [if_neg (nI_nle a1 (by omega))]
      rcases root_ix hB with ⟨b1, b2, b3⟩ | ⟨b1, e, b2⟩
      · rw [rn_none b2] at w1
        rw [b1, if_pos (show nI 0 ≤ 0 by decide)]
        exact ob1_s w1
      · rw [rn_some b2] at w1
        rw [if_neg (nI_nle b1 (by omega))]
        exact ob1_s w1
  unfold F_X4_workOutJoined
  rw [ob1_s hclr, hU, h1.size, h2.size]
  rcases root_ix hA with ⟨a1, a2, a3⟩ | ⟨a1, d, a2⟩
  · rw [a1, if_neg (show ¬ (0 : Int32) < nI 0 by decide)]
    rcases root_ix hB with ⟨b1, b2, b3⟩ | ⟨b1, e, b2⟩
    · rw [b1, if_pos (show nI 0 ≤ 0 by decide)]
      have hJn : ∀ y, jm A B (g_Tree_documents (g_State_tree k (g_LS_now S))) y = none := fun y => by
        cases hy : jm A B (g_Tree_documents (g_State_tree k (g_LS_now S))) y with
        | none => rfl
        | some e =>
          rcases (jd_src (jm_sub hy)).1 with w | w
          · rw [a3 y] at w; cases w
          · rw [b3 y] at w; cases w
      exact ⟨U, rfl, hU0.shift (Nat.zero_le _) (fun y _ _ => hJn y), hUd⟩
    · rw [if_neg (nI_nle b1 (by omega))]
      exact fin37 (Or.inr (by rw [b2]; rfl))
  · rw [if_pos (show (0 : Int32) < nI (ix A 10000) from nI_lt (a := 0) a1 (by omega))]
    exact fin37 (Or.inl (by rw [a2]; rfl))
