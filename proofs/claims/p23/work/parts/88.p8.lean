/-! ===== pure: a value is shown to a node, in the class's tree ===== -/
def lsv (S : S_LS) (V W : S_Tree) : S_LS := s_LS_work (s_LS_reader S (s_Reader_values (g_LS_reader S) V)) W
theorem TR.upd {T T' : S_Tree} {M : Mp} {c : Nat} {d d' : Dt} (hT : TR T M 10000) (hc : M c = some d) (hlt : c < 10000) (hs : g_Tree_size T' = g_Tree_size T) (ho : ∀ r k, r ≠ ix M c → k < 9 → tc T' r k = tc T r k) (hr : rowIs T' (ix M c) c d') : TR T' (setM M c d') 10000 := by
  obtain ⟨h1, h2, h3⟩ := hT
  have e := ix_set_old (d := d') hc
  refine ⟨by rw [e, hs]; exact h1, by rw [e]; exact h2, ?_⟩
  intro x e' hx he
  rw [e]
  by_cases q : x = c
  · subst q
    rw [setM_at] at he
    cases he
    exact hr
  · rw [setM_ne q] at he
    have hne : ix M x ≠ ix M c := fun z => q (ix_inj he hc z)
    have := h3 x e' hx he
    unfold rowIs at this ⊢
    rw [ho _ 0 hne (by omega), ho _ 1 hne (by omega), ho _ 2 hne (by omega), ho _ 3 hne (by omega), ho _ 4 hne (by omega), ho _ 5 hne (by omega), ho _ 6 hne (by omega)]
    exact this
/-- a shown node's numbers, its kind not yet -/
def shn (d : Dt) (k : Int32) : Dt := (d.1, d.2.1 + 1, (if k = 0 then 1 else d.2.2.1), (if k = 6 then d.2.2.2.1 + 1 else d.2.2.2.1), d.2.2.2.2)
def nW2 (W : S_Tree) (r : Nat) (k : Int32) : S_Tree := if k = 6 then tput (tput W r 3 (tc W r 3 + 1)) r 5 (tc W r 5 + 1) else tput W r 3 (tc W r 3 + 1)
def nW3 (W : S_Tree) (r : Nat) (k : Int32) : S_Tree := if k = 0 then tput (nW2 W r k) r 4 1 else nW2 W r k
def nW4 (W : S_Tree) (r : Nat) (k j : Int32) (new : Bool) : S_Tree := if new = true ∨ ¬ j = tc W r 0 then tput (tput (nW3 W r k) r 0 j) r 6 (g_Tree_documents W) else nW3 W r k
theorem nW2_size (W : S_Tree) (r : Nat) (k : Int32) : g_Tree_size (nW2 W r k) = g_Tree_size W ∧ g_Tree_documents (nW2 W r k) = g_Tree_documents W := by
  unfold nW2; split <;> exact ⟨rfl, rfl⟩
theorem nW3_size (W : S_Tree) (r : Nat) (k : Int32) : g_Tree_size (nW3 W r k) = g_Tree_size W ∧ g_Tree_documents (nW3 W r k) = g_Tree_documents W := by
  unfold nW3; split
  · exact nW2_size W r k
  · exact nW2_size W r k
theorem nW4_size (W : S_Tree) (r : Nat) (k j : Int32) (new : Bool) : g_Tree_size (nW4 W r k j new) = g_Tree_size W ∧ g_Tree_documents (nW4 W r k j new) = g_Tree_documents W := by
  unfold nW4; split
  · exact nW3_size W r k
  · exact nW3_size W r k
theorem nW2_tc (W : S_Tree) (r : Nat) (k : Int32) {r' i : Nat} (hi : i < 9) : tc (nW2 W r k) r' i = if r' = r ∧ i = 3 then tc W r 3 + 1 else if r' = r ∧ i = 5 then (if k = 6 then tc W r 5 + 1 else tc W r 5) else tc W r' i := by
  unfold nW2
  by_cases hk : k = 6
  · rw [if_pos hk, if_pos hk, tc_tput (by omega) hi, tc_tput (by omega) hi]
    by_cases h5 : r' = r ∧ i = 5
    · rw [if_pos h5, if_neg (by omega), if_pos h5]
    · rw [if_neg h5, if_neg h5]
  · rw [if_neg hk, if_neg hk, tc_tput (by omega) hi]
    by_cases h3 : r' = r ∧ i = 3
    · rw [if_pos h3, if_pos h3]
    · rw [if_neg h3, if_neg h3]
      by_cases h5 : r' = r ∧ i = 5
      · rw [if_pos h5, h5.1, h5.2]
      · rw [if_neg h5]
theorem nW3_tc (W : S_Tree) (r : Nat) (k : Int32) {r' i : Nat} (hi : i < 9) : tc (nW3 W r k) r' i = if r' = r ∧ i = 3 then tc W r 3 + 1 else if r' = r ∧ i = 5 then (if k = 6 then tc W r 5 + 1 else tc W r 5) else if r' = r ∧ i = 4 then (if k = 0 then 1 else tc W r 4) else tc W r' i := by
  unfold nW3
  by_cases hk : k = 0
  · rw [if_pos hk, if_pos hk, tc_tput (by omega) hi, nW2_tc W r k hi]
    by_cases h4 : r' = r ∧ i = 4
    · rw [if_pos h4, if_neg (by omega), if_neg (by omega), if_pos h4]
    · rw [if_neg h4, if_neg h4]
  · rw [if_neg hk, if_neg hk, nW2_tc W r k hi]
    by_cases h4 : r' = r ∧ i = 4
    · rw [if_pos h4, h4.1, h4.2]
    · rw [if_neg h4]
theorem show153 {S0 : S_LS} {V W : S_Tree} {n r : Nat} {v k j : Int32} {new : Bool} (hs : g_Tree_size W = nI n) (hn : n ≤ 64) (hr : r < n) : F_X4_showValue_153 v (lsv S0 V W) (nI r) new k j = F_X4_showValue_206 v (lsv S0 V (nW2 W r k)) (nI r) new k j := by
  unfold F_X4_showValue_153
  have hw : g_LS_work (lsv S0 V W) = W := rfl
  have s1 : g_Tree_size (tput W r 3 (tc W r 3 + 1)) = nI n := hs
  rw [hw, ob1_s (get_3 _ hs hn hr), ob1_s (put_3 _ hs hn hr)]
  unfold nW2
  by_cases hk : k = 6
  · rw [if_pos hk, if_pos hk, ob1_s (get_5 _ s1 hn hr), ob1_s (put_5 _ s1 hn hr), tc_tput (by omega) (by omega), if_neg (by omega)]
    rfl
  · rw [if_neg hk, if_neg hk]
    rfl
theorem show206 {S0 : S_LS} {V W : S_Tree} {n r : Nat} {v k j : Int32} {new : Bool} (hs : g_Tree_size W = nI n) (hn : n ≤ 64) (hr : r < n) : F_X4_showValue_206 v (lsv S0 V (nW2 W r k)) (nI r) new k j = F_X4_showValue_272 v (lsv S0 V (nW4 W r k j new)) (nI r) j := by
  have s2 : g_Tree_size (nW2 W r k) = nI n := (nW2_size W r k).1.trans hs
  have s3 : g_Tree_size (nW3 W r k) = nI n := (nW3_size W r k).1.trans hs
  have h242 : ∀ U, g_Tree_size U = nI n → g_Tree_documents U = g_Tree_documents W → F_X4_showValue_242 v (lsv S0 V U) (nI r) j = F_X4_showValue_272 v (lsv S0 V (tput (tput U r 0 j) r 6 (g_Tree_documents W))) (nI r) j := by
    intro U hU hD
    unfold F_X4_showValue_242
    have hw : g_LS_work (lsv S0 V U) = U := rfl
    have s4 : g_Tree_size (tput U r 0 j) = nI n := hU
    rw [hw, ob1_s (put_0 _ hU hn hr), ob1_s (put_6 _ s4 hn hr), show g_Tree_documents (tput U r 0 j) = g_Tree_documents U from rfl, hD]
    rfl
  have hend : ∀ U, U = nW3 W r k → (if (b2i new) = 0 then (ob1 (F_X3_get U (nI r) 0) fun r47 => (if j = r47 then (F_X4_showValue_272 v (lsv S0 V U) (nI r) j) else (F_X4_showValue_242 v (lsv S0 V U) (nI r) j))) else (F_X4_showValue_242 v (lsv S0 V U) (nI r) j)) = F_X4_showValue_272 v (lsv S0 V (nW4 W r k j new)) (nI r) j := by
    intro U hU
    subst hU
    unfold nW4
    cases new with
    | true =>
      rw [b2i_t, if_neg one_ne0, if_pos (Or.inl rfl)]
      exact h242 _ s3 (nW3_size W r k).2
    | false =>
      have e0 : tc (nW3 W r k) r 0 = tc W r 0 := by rw [nW3_tc W r k (by omega), if_neg (by omega), if_neg (by omega), if_neg (by omega)]
      rw [b2i_f, if_pos rfl, ob1_s (get_0 _ s3 hn hr), e0]
      by_cases q : j = tc W r 0
      · rw [if_pos q, if_neg (fun z => z.elim (fun y => by cases y) (fun y => y q))]
      · rw [if_neg q, if_pos (Or.inr q)]
        exact h242 _ s3 (nW3_size W r k).2
  unfold F_X4_showValue_206
  have hw : g_LS_work (lsv S0 V (nW2 W r k)) = nW2 W r k := rfl
  rw [hw]
  by_cases hk : k = 0
  · rw [if_pos hk, ob1_s (put_4 _ s2 hn hr)]
    exact hend (tput (nW2 W r k) r 4 1) (by unfold nW3; rw [if_pos hk])
  · rw [if_neg hk]
    exact hend (nW2 W r k) (by unfold nW3; rw [if_neg hk])
/-- the numbers of a node that was shown a value of kind k -/
def shw (new : Bool) (d : Dt) (k doc : Int32) : Dt := if new then (k, 1, (if k = 0 then 1 else 0), (if k = 6 then 1 else 0), doc) else wd (shn d k) (jk d.1 k) doc
theorem shw_1 (new : Bool) (d : Dt) (k doc : Int32) : (shw new d k doc).1 = if new then k else jk d.1 k := by
  unfold shw
  cases new
  · show (wd (shn d k) (jk d.1 k) doc).1 = _
    rw [wd_1]; rfl
  · rfl
theorem nW4_row {W : S_Tree} {r c : Nat} {d : Dt} {k : Int32} {new : Bool} (h : rowIs W r c d) (hnew : new = true → d = d00) : rowIs (nW4 W r k (if new then k else jk d.1 k) new) r c (shw new d k (g_Tree_documents W)) ∧ (∀ r' i, r' ≠ r → i < 9 → tc (nW4 W r k (if new then k else jk d.1 k) new) r' i = tc W r' i) ∧ tc (nW4 W r k (if new then k else jk d.1 k) new) r 7 = tc W r 7 := by
  obtain ⟨h0, h1, h2, h3, h4, h5, h6⟩ := h
  have t3 := fun i (hi : i < 9) => nW3_tc W r k (r' := r) hi
  have a0 := t3 0 (by omega)
  have a1 := t3 1 (by omega)
  have a2 := t3 2 (by omega)
  have a3 := t3 3 (by omega)
  have a4 := t3 4 (by omega)
  have a5 := t3 5 (by omega)
  have a6 := t3 6 (by omega)
  have a7 := t3 7 (by omega)
  rw [if_neg (by omega), if_neg (by omega), if_neg (by omega), h0] at a0
  rw [if_neg (by omega), if_neg (by omega), if_neg (by omega), h1] at a1
  rw [if_neg (by omega), if_neg (by omega), if_neg (by omega), h2] at a2
  rw [if_pos (by omega), h3] at a3
  rw [if_neg (by omega), if_neg (by omega), if_pos (by omega), h4] at a4
  rw [if_neg (by omega), if_pos (by omega), h5] at a5
  rw [if_neg (by omega), if_neg (by omega), if_neg (by omega), h6] at a6
  rw [if_neg (by omega), if_neg (by omega), if_neg (by omega)] at a7
  have tn : ∀ r' i, r' ≠ r → i < 9 → tc (nW3 W r k) r' i = tc W r' i := fun r' i hne hi => by
    rw [nW3_tc W r k hi, if_neg (by omega), if_neg (by omega), if_neg (by omega)]
  unfold nW4
  by_cases q : new = true ∨ ¬ (if new then k else jk d.1 k) = tc W r 0
  · rw [if_pos q]
    refine ⟨?_, ?_, ?_⟩
    · have p : ∀ i, i < 9 → tc (tput (tput (nW3 W r k) r 0 (if new then k else jk d.1 k)) r 6 (g_Tree_documents W)) r i = if i = 6 then g_Tree_documents W else if i = 0 then (if new then k else jk d.1 k) else tc (nW3 W r k) r i := by
        intro i hi
        rw [tc_tput (by omega) hi, tc_tput (by omega) hi]
        by_cases z6 : i = 6
        · rw [if_pos z6, if_pos ⟨rfl, z6⟩]
        · rw [if_neg z6, if_neg (fun y => z6 y.2)]
          by_cases z0 : i = 0
          · rw [if_pos z0, if_pos ⟨rfl, z0⟩]
          · rw [if_neg z0, if_neg (fun y => z0 y.2)]
      have b0 := p 0 (by omega)
      have b1 := p 1 (by omega)
      have b2 := p 2 (by omega)
      have b3 := p 3 (by omega)
      have b4 := p 4 (by omega)
      have b5 := p 5 (by omega)
      have b6 := p 6 (by omega)
      rw [if_neg (show ¬ (0 : Nat) = 6 by omega), if_pos (show (0 : Nat) = 0 from rfl)] at b0
      rw [if_neg (show ¬ (1 : Nat) = 6 by omega), if_neg (show ¬ (1 : Nat) = 0 by omega), a1] at b1
      rw [if_neg (show ¬ (2 : Nat) = 6 by omega), if_neg (show ¬ (2 : Nat) = 0 by omega), a2] at b2
      rw [if_neg (show ¬ (3 : Nat) = 6 by omega), if_neg (show ¬ (3 : Nat) = 0 by omega), a3] at b3
      rw [if_neg (show ¬ (4 : Nat) = 6 by omega), if_neg (show ¬ (4 : Nat) = 0 by omega), a4] at b4
      rw [if_neg (show ¬ (5 : Nat) = 6 by omega), if_neg (show ¬ (5 : Nat) = 0 by omega), a5] at b5
      rw [if_pos (show (6 : Nat) = 6 from rfl)] at b6
      unfold rowIs
      rw [b0, b1, b2, b3, b4, b5, b6]
      cases new with
      | true =>
        rw [hnew rfl]
        exact ⟨rfl, rfl, rfl, rfl, rfl, rfl, rfl⟩
      | false =>
        have q2 : ¬ jk d.1 k = (shn d k).1 := by
          rcases q with z | z
          · cases z
          · rw [h0] at z; exact z
        show jk d.1 k = (wd (shn d k) (jk d.1 k) _).1 ∧ _ ∧ _ ∧ _ = (wd (shn d k) (jk d.1 k) _).2.1 ∧ _ = (wd (shn d k) (jk d.1 k) _).2.2.1 ∧ _ = (wd (shn d k) (jk d.1 k) _).2.2.2.1 ∧ _ = (wd (shn d k) (jk d.1 k) _).2.2.2.2
        unfold wd
        rw [if_neg q2]
        exact ⟨rfl, rfl, rfl, rfl, rfl, rfl, rfl⟩
    · intro r' i hne hi
      rw [tc_tput (by omega) hi, if_neg (by omega), tc_tput (by omega) hi, if_neg (by omega), tn r' i hne hi]
    · rw [tc_tput (by omega) (by omega), if_neg (by omega), tc_tput (by omega) (by omega), if_neg (by omega), a7]
  · rw [if_neg q]
    refine ⟨?_, tn, a7⟩
    cases new with
    | true => exact absurd (Or.inl rfl) q
    | false =>
      have q2 : jk d.1 k = (shn d k).1 := by
        have : ¬ ¬ jk d.1 k = tc W r 0 := fun z => q (Or.inr z)
        rw [h0] at this
        exact Classical.not_not.mp this
      show rowIs (nW3 W r k) r c (wd (shn d k) (jk d.1 k) _)
      unfold wd
      rw [if_pos q2]
      exact ⟨a0, a1, a2, a3, a4, a5, a6⟩
/-- from the kind on: the node at c is shown the value v -/
theorem show_at {S0 : S_LS} {V W : S_Tree} {M : Mp} {c v n : Nat} {d : Dt} {k : Int32} {new : Bool} (hM : Wf0 M) (hW : TR W M 10000) (hc : M c = some d) (hj : isK (if new then k else jk d.1 k)) (hs : g_Tree_size V = nI n) (hn : n ≤ 64) (hv : v < n) (hk : tc V v 0 = k) (hnew : new = true → d = d00) :
    ∃ W', F_X4_showValue_120 (nI v) (lsv S0 V W) (nI (ix M c)) new = some (lsv S0 (if (if new then k else jk d.1 k) = 7 then V else tput V v 7 (nI (ix M c))) W') ∧ TR W' (shM M c (shw new d k (g_Tree_documents W))) 10000 ∧ g_Tree_documents W' = g_Tree_documents W ∧ ∀ x e, shM M c (shw new d k (g_Tree_documents W)) x = some e → tc W' (ix (shM M c (shw new d k (g_Tree_documents W))) x) 7 = tc W (ix M x) 7 := by
  have hlt := hM.lt hc
  have hrow := hW.row hc hlt
  have hil := ix_lt hc hlt
  obtain ⟨w1, w2, w3⟩ := nW4_row (k := k) (new := new) hrow hnew
  generalize hjj : (if new then k else jk d.1 k) = j at hj w1 w2 w3 ⊢
  have hsz := nW4_size W (ix M c) k j new
  have hnd : (shw new d k (g_Tree_documents W)).1 = j := by rw [shw_1, hjj]
  have hT4 : TR (nW4 W (ix M c) k j new) (setM M c (shw new d k (g_Tree_documents W))) 10000 := hW.upd hc hlt hsz.1 w2 w1
  have h272 : F_X4_showValue_120 (nI v) (lsv S0 V W) (nI (ix M c)) new = F_X4_showValue_272 (nI v) (lsv S0 V (nW4 W (ix M c) k j new)) (nI (ix M c)) j := by
    unfold F_X4_showValue_120
    rw [show g_Reader_values (g_LS_reader (lsv S0 V W)) = V from rfl, show g_LS_work (lsv S0 V W) = W from rfl, ob1_s (get_0 _ hs hn hv), hk]
    cases new with
    | true =>
      rw [b2i_t, if_neg one_ne0, show153 hW.size hW.le hil, show206 hW.size hW.le hil]
      have : k = j := hjj
      rw [this]
    | false =>
      rw [b2i_f, if_pos rfl, ob1_s (hW.g0 hc hlt), hrow.1, ob1_s (jk_X4 d.1 k), show153 hW.size hW.le hil, show206 hW.size hW.le hil]
      have : jk d.1 k = j := hjj
      rw [this]
  rw [h272]
  have h7 : ∀ x e, M x = some e → tc (nW4 W (ix M c) k j new) (ix M x) 7 = tc W (ix M x) 7 := by
    intro x e hx
    by_cases q : ix M x = ix M c
    · rw [q]; exact w3
    · exact w2 _ 7 q (by omega)
  unfold F_X4_showValue_272
  by_cases q : j = 7
  · rw [if_pos q, if_pos q]
    have hcc : setM M c (shw new d k (g_Tree_documents W)) c = some (shw new d k (g_Tree_documents W)) := setM_at
    obtain ⟨W', e1, e2, e3, e4⟩ := drop_ok (hM.upd hc (by rw [hnd]; exact hj)) hT4 hcc
    rw [ix_set_old hc] at e1
    refine ⟨W', ?_, ?_, e4.trans hsz.2, ?_⟩
    · rw [show g_LS_work (lsv S0 V (nW4 W (ix M c) k j new)) = nW4 W (ix M c) k j new from rfl, ob1_s e1]
      rfl
    · unfold shM; rw [hnd, if_pos q]; exact e2
    · unfold shM
      rw [hnd, if_pos q]
      intro x e he
      obtain ⟨g1, g2⟩ := cutM_some he
      rw [e3 x e e g1 he 7 (by omega), ix_set_old hc]
      by_cases z : x = c
      · rw [z]; exact w3
      · rw [setM_ne z] at g1
        exact h7 x e g1
  · rw [if_neg q, if_neg q]
    refine ⟨nW4 W (ix M c) k j new, ?_, ?_, hsz.2, ?_⟩
    · rw [show g_Reader_values (g_LS_reader (lsv S0 V (nW4 W (ix M c) k j new))) = V from rfl, ob1_s (put_7 _ hs hn hv)]
      rfl
    · unfold shM; rw [hnd, if_neg q]; exact hT4
    · unfold shM
      rw [hnd, if_neg q]
      intro x e he
      rw [ix_set_old hc]
      by_cases z : x = c
      · rw [z]; exact w3
      · rw [setM_ne z] at he
        exact h7 x e he
/-! ===== pure: documents ===== -/
/-- a document: its values, how many; of each the kind, the parent, the letter, where it begins and ends, its letters used, its depth -/
abbrev Dc : Type := Nat × (Nat → Int32) × (Nat → Nat) × (Nat → Nat) × (Nat → Nat) × (Nat → Nat) × (Nat → Nat) × (Nat → Nat)
def dN (D : Dc) : Nat := D.1
def dK (D : Dc) : Nat → Int32 := D.2.1
def dP (D : Dc) : Nat → Nat := D.2.2.1
def dL (D : Dc) : Nat → Nat := D.2.2.2.1
def dB (D : Dc) : Nat → Nat := D.2.2.2.2.1
def dE (D : Dc) : Nat → Nat := D.2.2.2.2.2.1
def dU (D : Dc) : Nat → Nat := D.2.2.2.2.2.2.1
def dD (D : Dc) : Nat → Nat := D.2.2.2.2.2.2.2
def pI (D : Dc) (v : Nat) : Int32 := if v = 0 then -1 else nI (dP D v)
def lI (D : Dc) (v : Nat) : Int32 := if v = 0 then -1 else nI (dL D v)
/-- the class's rows of the document -/
def CV (V : S_Tree) (D : Dc) : Prop := g_Tree_size V = nI (dN D) ∧ ∀ v, v < dN D → tc V v 0 = dK D v ∧ tc V v 1 = lI D v ∧ tc V v 2 = nI (dD D v) ∧ tc V v 3 = nI (dB D v) ∧ tc V v 5 = pI D v ∧ (dK D v = 6 → tc V v 4 = nI (dE D v) ∧ tc V v 6 = nI (dU D v))
/-- the reference's arrays of the document -/
def MV (S : S_Model) (D : Dc) : Prop := g_Model_valued S = nI (dN D) ∧ ∀ v, v < dN D → g_Model_kinds S v = dK D v ∧ g_Model_letters S v = lI D v ∧ g_Model_begins S v = nI (dB D v) ∧ g_Model_above S v = pI D v ∧ (dK D v = 6 → g_Model_ends S v = nI (dE D v) ∧ g_Model_used S v = nI (dU D v))
/-- a document that is well made -/
def DW (D : Dc) : Prop := 1 ≤ dN D ∧ dN D ≤ 32 ∧ dK D 0 = 6 ∧ dD D 0 = 0 ∧ (∀ v, v < dN D → ∃ j, j ≤ 6 ∧ dK D v = nI j) ∧ (∀ v, 0 < v → v < dN D → dP D v < v ∧ dD D v = dD D (dP D v) + 1 ∧ dD D v ≤ 4 ∧ ((dK D (dP D v) = 6 ∧ dL D v < 8) ∨ (dK D (dP D v) = 5 ∧ dL D v = 8))) ∧ (∀ v, 0 < v → v < dN D → ∀ u, dP D v < u → u < v → dP D v ≤ dP D u)
/-- where a value is shown -/
def tg (D : Dc) (pl : Nat → Option Nat) (v : Nat) : Option Nat := if v = 0 then some 0 else match pl (dP D v) with | none => none | some c => some (ch c (dL D v))
def shd (o : Option Dt) (k doc : Int32) : Dt := match o with | none => shw true d00 k doc | some d => shw false d k doc
def lstep (D : Dc) (doc : Int32) (M : Mp) (pl : Nat → Option Nat) (v : Nat) : Mp × (Nat → Option Nat) := match tg D pl v with
  | none => (M, fun u => if u = v then none else pl u)
  | some c => (shM M c (shd (M c) (dK D v) doc), fun u => if u = v then (if (shd (M c) (dK D v) doc).1 = 7 then none else some c) else pl u)
/-- the document shown to a shape, as far as the value v -/
def lrun (D : Dc) (doc : Int32) (B : Mp) : Nat → Mp × (Nat → Option Nat)
  | 0 => (B, fun _ => none)
  | v + 1 => lstep D doc (lrun D doc B v).1 (lrun D doc B v).2 v
/-- u is open at v: all between is in it -/
def opn (D : Dc) (u v : Nat) : Prop := u < v ∧ ∀ w, u < w → w ≤ v → u ≤ dP D w
theorem opn_p {D : Dc} (h : DW D) {v : Nat} (h0 : 0 < v) (hv : v < dN D) : opn D (dP D v) v := by
  obtain ⟨-, -, -, -, -, h6, h7⟩ := h
  refine ⟨(h6 v h0 hv).1, fun w h1 h2 => ?_⟩
  by_cases q : w = v
  · rw [q]; exact Nat.le_refl _
  · exact h7 v h0 hv w h1 (by omega)
theorem opn_s {D : Dc} {u v : Nat} (h : opn D u (v + 1)) (hu : u < v) : opn D u v := ⟨hu, fun w h1 h2 => h.2 w h1 (by omega)⟩
theorem opn_le {D : Dc} {u v : Nat} (h : opn D u v) : u ≤ dP D v := h.2 v h.1 (Nat.le_refl _)
/-- what was there and isn't any more is below any -/
def gone (B M : Mp) : Prop := ∀ c d0, B c = some d0 → M c = none → c ≠ 0 ∧ ∀ d', M (pa c) = some d' → d'.1 = 7
def stay7 (B M : Mp) : Prop := ∀ c d0 d, B c = some d0 → M c = some d → d0.1 = 7 → d.1 = 7
def LPx (D : Dc) (B M : Mp) (pl : Nat → Option Nat) (v : Nat) : Prop := Wf M ∧ gone B M ∧ stay7 B M ∧ ix M 10000 ≤ ix B 10000 + v ∧ (∀ u c, opn D u v → pl u = some c → dp c = dD D u ∧ ∃ d, M c = some d ∧ ¬ d.1 = 7) ∧ (∀ u u' c', opn D u v → opn D u' v → u ≤ u' → pl u' = some c' → ∃ c, pl u = some c ∧ c ≤ c' ∧ c' < c + wt c)
theorem shd_1 (o : Option Dt) (k doc : Int32) : (shd o k doc).1 = match o with | none => k | some d => jk d.1 k := by
  cases o with
  | none => rfl
  | some d => exact shw_1 false d k doc
theorem shd_mark {o : Option Dt} {k doc : Int32} (h : ∀ d, o = some d → d.2.2.1 = 0 ∨ d.2.2.1 = 1) : (shd o k doc).2.2.1 = 0 ∨ (shd o k doc).2.2.1 = 1 := by
  cases o with
  | none =>
    show (if k = 0 then (1 : Int32) else 0) = 0 ∨ (if k = 0 then (1 : Int32) else 0) = 1
    by_cases q : k = 0
    · rw [if_pos q]; exact Or.inr rfl
    · rw [if_neg q]; exact Or.inl rfl
  | some d =>
    have : (shd (some d) k doc).2.2.1 = if k = 0 then 1 else d.2.2.1 := by
      show (wd (shn d k) (jk d.1 k) doc).2.2.1 = _
      unfold wd
      split <;> rfl
    rw [this]
    by_cases q : k = 0
    · rw [if_pos q]; exact Or.inr rfl
    · rw [if_neg q]; exact h d rfl
theorem isK_ne7 {k : Int32} {j : Nat} (hj : j ≤ 6) (h : k = nI j) : isK k ∧ ¬ k = 7 := by
  subst h
  exact ⟨⟨j, by omega, rfl⟩, fun z => by have := nI_inj (a := j) (b := 7) (by omega) (by omega) z; omega⟩
theorem ix_cut_all {M : Mp} (c : Nat) (x : Nat) : ix (cutM M c) x ≤ ix M x := ix_le_of (fun y _ h => by
  unfold cutM at h
  split at h
  · cases h
  · exact h)
theorem shM_le {M : Mp} {c : Nat} {d : Dt} (hc : c < 10000) : ix (shM M c d) 10000 ≤ ix M 10000 + 1 := by
  have h : ix (setM M c d) 10000 ≤ ix M 10000 + 1 := by
    cases hm : M c with
    | none => rw [ix_set_gt hm hc]; exact Nat.le_refl _
    | some e => rw [ix_set_old hm]; omega
  unfold shM
  split
  · have := ix_cut_all (M := setM M c d) c 10000
    omega
  · exact h
theorem shM_lt {M : Mp} {c x : Nat} {d : Dt} (h : x < c) : shM M c d x = M x := by
  unfold shM
  split
  · rw [cutM_out (by omega), setM_ne (by omega)]
  · rw [setM_ne (by omega)]
theorem shM_at {M : Mp} {c : Nat} {d : Dt} : shM M c d c = some d := by
  unfold shM
  split
  · rw [cutM_out (by omega), setM_at]
  · exact setM_at
theorem shM_out {M : Mp} {c x : Nat} {d : Dt} (h : x ≠ c) (h2 : ¬ (c < x ∧ x < c + wt c)) : shM M c d x = M x := by
  unfold shM
  split
  · rw [cutM_out h2, setM_ne h]
  · rw [setM_ne h]
theorem shM_some {M : Mp} {c x : Nat} {d e : Dt} (h : shM M c d x = some e) (hx : x ≠ c) : M x = some e := by
  unfold shM at h
  split at h
  · have := (cutM_some h).1
    rw [setM_ne hx] at this; exact this
  · rw [setM_ne hx] at h; exact h
theorem shM_none {M : Mp} {c x : Nat} {d : Dt} (h : shM M c d x = none) : x ≠ c ∧ (M x = none ∨ (d.1 = 7 ∧ c < x ∧ x < c + wt c)) := by
  have hx : x ≠ c := by intro q; rw [q, shM_at] at h; cases h
  refine ⟨hx, ?_⟩
  unfold shM at h
  split at h
  · rename_i h7
    unfold cutM at h
    split at h
    · exact Or.inr ⟨h7, by assumption⟩
    · rw [setM_ne hx] at h; exact Or.inl h
  · rw [setM_ne hx] at h; exact Or.inl h
/-- the map after a value is shown at c: c is there, or can be made -/
theorem shM_wf {M : Mp} (hM : Wf M) {c : Nat} {k doc : Int32} (hv : okc c) (hk : isK k) (hk7 : ¬ k = 7) (hu : M c = none → c ≠ 0 → ∃ d', M (pa c) = some d' ∧ ¬ d'.1 = 7) : Wf (shM M c (shd (M c) k doc)) := by
  cases hc : M c with
  | none =>
    have h1 : ¬ (shd none k doc).1 = 7 := by rw [shd_1]; exact hk7
    unfold shM
    rw [if_neg h1]
    exact hM.add hv hc (by rw [shd_1]; exact hk) (shd_mark (fun d h => by cases h)) (hu hc)
  | some d =>
    have h1 : (shd (some d) k doc).1 = jk d.1 k := shd_1 _ _ _
    have h2 : isK (jk d.1 k) := jk_isK (hM c d hc).2.1 hk
    have h3 := shd_mark (o := some d) (k := k) (doc := doc) (fun e he => by cases he; exact (hM c d hc).2.2.1)
    unfold shM
    by_cases q : (shd (some d) k doc).1 = 7
    · rw [if_pos q]
      exact hM.cut hc (by rw [h1]; exact h2) h3
    · rw [if_neg q]
      exact hM.upd hc (by rw [h1]; exact h2) h3 (fun z => absurd z q)
theorem tg_some {D : Dc} {pl : Nat → Option Nat} {v c : Nat} (h : tg D pl v = some c) : (v = 0 ∧ c = 0) ∨ (v ≠ 0 ∧ ∃ cp, pl (dP D v) = some cp ∧ c = ch cp (dL D v)) := by
  unfold tg at h
  by_cases q : v = 0
  · rw [if_pos q] at h; cases h; exact Or.inl ⟨q, rfl⟩
  · rw [if_neg q] at h
    right
    refine ⟨q, ?_⟩
    cases hp : pl (dP D v) with
    | none => rw [hp] at h; cases h
    | some cp => rw [hp] at h; cases h; exact ⟨cp, rfl, rfl⟩
theorem tg_none {D : Dc} {pl : Nat → Option Nat} {v : Nat} (h : tg D pl v = none) : v ≠ 0 ∧ pl (dP D v) = none := by
  unfold tg at h
  by_cases q : v = 0
  · rw [if_pos q] at h; cases h
  · rw [if_neg q] at h
    refine ⟨q, ?_⟩
    cases hp : pl (dP D v) with
    | none => rfl
    | some cp => rw [hp] at h; cases h
/-- what is known of a value's place -/
theorem tg_ok {D : Dc} (hD : DW D) {B M : Mp} {pl : Nat → Option Nat} {v c : Nat} (h : LPx D B M pl v) (hv : v < dN D) (ht : tg D pl v = some c) : okc c ∧ dp c = dD D v ∧ (c ≠ 0 → v ≠ 0 ∧ pl (dP D v) = some (pa c) ∧ c = ch (pa c) (dL D v) ∧ dL D v < 9 ∧ dp (pa c) < 4 ∧ ∃ d', M (pa c) = some d' ∧ ¬ d'.1 = 7) ∧ (v = 0 → c = 0) ∧ (∀ u cu, opn D u v → pl u = some cu → cu < c ∧ c < cu + wt cu) ∧ (∀ u, opn D u v → ∃ cu, pl u = some cu) := by
  obtain ⟨l1, l2, l3, l4, l5, l6⟩ := h
  rcases tg_some ht with ⟨q1, q2⟩ | ⟨q1, cp, q2, q3⟩
  · subst q1; subst q2
    exact ⟨vd_0, hD.2.2.2.1.symm, fun z => absurd rfl z, fun _ => rfl, fun u cu hu => absurd hu.1 (Nat.not_lt_zero _), fun u hu => absurd hu.1 (Nat.not_lt_zero _)⟩
  · have hop := opn_p hD (by omega) hv
    obtain ⟨g1, d, g2, g3⟩ := l5 _ _ hop q2
    obtain ⟨m1, m2, m3, m4⟩ := hD.2.2.2.2.2.1 v (by omega) hv
    have hl9 : dL D v < 9 := by rcases m4 with z | z <;> omega
    have hd4 : dp cp < 4 := by omega
    obtain ⟨o1, o2, o3, o4, o5⟩ := ch_ok (l1.vd g2) hd4 hl9
    have hpc := (pa_ch (l1.vd g2) hd4 hl9).1
    have hw := wt_pos (ch cp (dL D v))
    subst q3
    refine ⟨o1, by omega, fun _ => ⟨q1, by rw [hpc]; exact q2, by rw [hpc], hl9, by rw [hpc]; exact hd4, d, by rw [hpc]; exact g2, g3⟩, fun z => absurd z q1, ?_, ?_⟩
    · intro u cu hu hcu
      obtain ⟨cu', r1, r2, r3⟩ := l6 u _ cp hu hop (opn_le hu) q2
      rw [hcu] at r1
      cases r1
      refine ⟨by omega, ?_⟩
      obtain ⟨-, du, s1, -⟩ := l5 u cu hu hcu
      rcases Nat.lt_or_ge cu cp with z | z
      · have := (nest (l1.vd s1) (l1.vd g2) z r3).2.1
        omega
      · have : cu = cp := by omega
        rw [this]; omega
    · intro u hu
      obtain ⟨cu', r1, -⟩ := l6 u _ cp hu hop (opn_le hu) q2
      exact ⟨cu', r1⟩
theorem lstep_LP {D : Dc} (hD : DW D) {doc : Int32} {B M : Mp} {pl : Nat → Option Nat} {v : Nat} (hB : Wf B) (h : LPx D B M pl v) (hv : v < dN D) : LPx D B (lstep D doc M pl v).1 (lstep D doc M pl v).2 (v + 1) := by
  have h0 := h
  obtain ⟨l1, l2, l3, l4, l5, l6⟩ := h0
  unfold lstep
  cases ht : tg D pl v with
  | none =>
    show LPx D B M (fun u => if u = v then none else pl u) (v + 1)
    refine ⟨l1, l2, l3, by omega, ?_, ?_⟩
    · intro u c hu hc
      by_cases q : u = v
      · have hc2 : (if u = v then none else pl u) = some c := hc
        rw [if_pos q] at hc2; cases hc2
      · have hc2 : (if u = v then none else pl u) = some c := hc
        rw [if_neg q] at hc2
        exact l5 u c (opn_s hu (by have := hu.1; omega)) hc2
    · intro u u' c' hu hu' hle hc
      have hc2 : (if u' = v then none else pl u') = some c' := hc
      by_cases q : u' = v
      · rw [if_pos q] at hc2; cases hc2
      · rw [if_neg q] at hc2
        have h1 := hu'.1
        obtain ⟨c, r1, r2⟩ := l6 u u' c' (opn_s hu (by omega)) (opn_s hu' (by omega)) hle hc2
        exact ⟨c, by show (if u = v then none else pl u) = some c; rw [if_neg (by omega)]; exact r1, r2⟩
  | some c =>
    obtain ⟨t1, t2, t3, t4, t5, t6⟩ := tg_ok hD h hv ht
    obtain ⟨j, hj, hk⟩ := hD.2.2.2.2.1 v hv
    obtain ⟨hkk, hk7⟩ := isK_ne7 hj hk
    have hwf : Wf (shM M c (shd (M c) (dK D v) doc)) := shM_wf l1 t1 hkk hk7 (fun _ h0 => (t3 h0).2.2.2.2.2)
    have hnot : ∀ d, M c = some d → (shd (M c) (dK D v) doc).1 = jk d.1 (dK D v) := fun d hd => by rw [shd_1, hd]
    have hnew : M c = none → ¬ (shd (M c) (dK D v) doc).1 = 7 := fun hd => by rw [shd_1, hd]; exact hk7
    show LPx D B (shM M c (shd (M c) (dK D v) doc)) (fun u => if u = v then (if (shd (M c) (dK D v) doc).1 = 7 then none else some c) else pl u) (v + 1)
    refine ⟨hwf, ?_, ?_, ?_, ?_, ?_⟩
    · intro x d0 hx hn
      obtain ⟨n1, n2⟩ := shM_none hn
      rcases n2 with n2 | ⟨n2, n3, n4⟩
      · obtain ⟨g1, g2⟩ := l2 x d0 hx n2
        refine ⟨g1, fun d' hd' => ?_⟩
        by_cases q : pa x = c
        · rw [q, shM_at] at hd'
          cases hd'
          cases hm : M c with
          | none =>
            exfalso
            obtain ⟨e, u1, -⟩ := hB.up hx g1
            rw [q] at u1
            obtain ⟨w1, w2⟩ := l2 c e u1 hm
            obtain ⟨-, -, -, -, -, d2, w3, w4⟩ := t3 w1
            exact w4 (w2 d2 w3)
          | some e =>
            have := g2 e (by rw [q]; exact hm)
            rw [shd_1]
            show jk e.1 (dK D v) = 7
            rw [this]; exact jk_7 hkk
        · exact g2 d' (shM_some hd' q)
      · refine ⟨by omega, fun d' hd' => ?_⟩
        have hvx := hB.vd hx
        have hne := nest t1 hvx n3 n4
        by_cases q : pa x = c
        · rw [q, shM_at] at hd'
          cases hd'; exact n2
        · exfalso
          have hpx := (ch_pa hvx (by omega)).2.2.2.2
          have : shM M c (shd (M c) (dK D v) doc) (pa x) = none := by
            unfold shM
            rw [if_pos n2]
            exact cutM_in (by omega) (by omega)
          rw [this] at hd'; cases hd'
    · intro x d0 d hx hd h7
      by_cases q : x = c
      · rw [q, shM_at] at hd
        cases hd
        cases hm : M c with
        | none =>
          exfalso
          rw [q] at hx
          obtain ⟨w1, w2⟩ := l2 c d0 hx hm
          obtain ⟨-, -, -, -, -, d2, w3, w4⟩ := t3 w1
          exact w4 (w2 d2 w3)
        | some e =>
          rw [shd_1]
          show jk e.1 (dK D v) = 7
          rw [l3 c d0 e (by rw [← q]; exact hx) hm h7]
          exact jk_7 hkk
      · exact l3 x d0 d hx (shM_some hd q) h7
    · have := shM_le (M := M) (d := shd (M c) (dK D v) doc) t1.1
      omega
    · intro u cu hu hcu
      have hc2 : (if u = v then (if (shd (M c) (dK D v) doc).1 = 7 then none else some c) else pl u) = some cu := hcu
      by_cases q : u = v
      · rw [if_pos q] at hc2
        by_cases z : (shd (M c) (dK D v) doc).1 = 7
        · rw [if_pos z] at hc2; cases hc2
        · rw [if_neg z] at hc2
          cases hc2
          exact ⟨by rw [q]; exact t2, _, shM_at, z⟩
      · rw [if_neg q] at hc2
        have hop := opn_s hu (by have := hu.1; omega)
        obtain ⟨g1, d, g2, g3⟩ := l5 u cu hop hc2
        exact ⟨g1, d, by rw [shM_lt (t5 u cu hop hc2).1]; exact g2, g3⟩
    · intro u u' c' hu hu' hle hc
      have hc2 : (if u' = v then (if (shd (M c) (dK D v) doc).1 = 7 then none else some c) else pl u') = some c' := hc
      have h1 := hu'.1
      by_cases q : u' = v
      · rw [if_pos q] at hc2
        by_cases z : (shd (M c) (dK D v) doc).1 = 7
        · rw [if_pos z] at hc2; cases hc2
        · rw [if_neg z] at hc2
          have hc3 : c = c' := Option.some.inj hc2
          subst hc3
          by_cases q2 : u = v
          · exact ⟨c, by show (if u = v then (if (shd (M c) (dK D v) doc).1 = 7 then none else some c) else pl u) = some c; rw [if_pos q2, if_neg z], Nat.le_refl _, by have := wt_pos c; omega⟩
          · have hop := opn_s hu (by omega)
            obtain ⟨cu, hcu⟩ := t6 u hop
            have := t5 u cu hop hcu
            exact ⟨cu, by show (if u = v then (if (shd (M c) (dK D v) doc).1 = 7 then none else some c) else pl u) = some cu; rw [if_neg q2]; exact hcu, by omega, this.2⟩
      · rw [if_neg q] at hc2
        obtain ⟨cu, r1, r2⟩ := l6 u u' c' (opn_s hu (by omega)) (opn_s hu' (by omega)) hle hc2
        exact ⟨cu, by show (if u = v then (if (shd (M c) (dK D v) doc).1 = 7 then none else some c) else pl u) = some cu; rw [if_neg (by omega)]; exact r1, r2⟩
