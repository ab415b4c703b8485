/-! ===== pure: the class shows a document ===== -/
def CI (D : Dc) (B : Mp) (doc : Int32) (v : Nat) (V W : S_Tree) (M : Mp) (pl : Nat → Option Nat) : Prop := CV V D ∧ TR W M 10000 ∧ g_Tree_documents W = doc ∧ (∀ x e, M x = some e → tc W (ix M x) 7 = rn B x) ∧ ∀ u, opn D u v → tc V u 7 = match pl u with | none => -1 | some c => nI (ix M c)
theorem CV.put7 {V : S_Tree} {D : Dc} (h : CV V D) (v : Nat) (x : Int32) : CV (tput V v 7 x) D := by
  refine ⟨h.1, fun u hu => ?_⟩
  obtain ⟨h0, h1, h2, h3, h5, h6⟩ := h.2 u hu
  rw [tc_tput (by omega) (by omega), if_neg (by omega), tc_tput (by omega) (by omega), if_neg (by omega), tc_tput (by omega) (by omega), if_neg (by omega), tc_tput (by omega) (by omega), if_neg (by omega), tc_tput (by omega) (by omega), if_neg (by omega), tc_tput (by omega) (by omega), if_neg (by omega), tc_tput (by omega) (by omega), if_neg (by omega)]
  exact ⟨h0, h1, h2, h3, h5, h6⟩
theorem gone_new {D : Dc} (hD : DW D) {B M : Mp} {pl : Nat → Option Nat} {v c : Nat} (h : LPx D B M pl v) (hv : v < dN D) (ht : tg D pl v = some c) (hc : M c = none) : B c = none := by
  cases hb : B c with
  | none => rfl
  | some d0 =>
    exfalso
    obtain ⟨w1, w2⟩ := h.2.1 c d0 hb hc
    obtain ⟨-, -, -, -, -, d2, w3, w4⟩ := (tg_ok hD h hv ht).2.2.1 w1
    exact w4 (w2 d2 w3)
theorem shM_new {M : Mp} {c : Nat} {d e : Dt} (h : ¬ d.1 = 7) : shM (setM M c e) c d = shM M c d := by
  unfold shM
  rw [if_neg h, if_neg h, setM_setM]
/-- the class shows one value -/
theorem class_step {S0 : S_LS} {D : Dc} (hD : DW D) {B M : Mp} {pl : Nat → Option Nat} {doc : Int32} {v : Nat} {V W : S_Tree} (hB : ix B 10000 ≤ 30) (hL : LPx D B M pl v) (hC : CI D B doc v V W M pl) (hv : v < dN D) :
    ∃ V' W', F_X4_showValue (lsv S0 V W) (nI v) = some (lsv S0 V' W') ∧ CI D B doc (v + 1) V' W' (lstep D doc M pl v).1 (lstep D doc M pl v).2 := by
  obtain ⟨hV, hW, hdoc, hO, hS⟩ := hC
  have hM := hL.1
  have hn : dN D ≤ 64 := by have := hD.2.1; omega
  have hVs := hV.1
  have hVr := hV.2 v hv
  have hV1 := hV.put7 v (-1)
  have hV1s : g_Tree_size (tput V v 7 (-1)) = nI (dN D) := hVs
  have hrv : g_Reader_values (g_LS_reader (lsv S0 V W)) = V := rfl
  obtain ⟨jj, hj6, hkj⟩ := hD.2.2.2.2.1 v hv
  obtain ⟨hkk, hk7⟩ := isK_ne7 hj6 hkj
  have hlen : ix M 10000 < 64 := by have := hL.2.2.2.1; have := hD.2.1; omega
  -- the shown node, old or new
  have old : ∀ c d, tg D pl v = some c → M c = some d → ∃ V' W', F_X4_showValue_120 (nI v) (lsv S0 (tput V v 7 (-1)) W) (nI (ix M c)) false = some (lsv S0 V' W') ∧ CI D B doc (v + 1) V' W' (lstep D doc M pl v).1 (lstep D doc M pl v).2 := by
    intro c d ht hc
    obtain ⟨t1, t2, t3, t4, t5, t6⟩ := tg_ok hD hL hv ht
    have hjk : isK (jk d.1 (dK D v)) := jk_isK (hM c d hc).2.1 hkk
    obtain ⟨W', e1, e2, e3, e4⟩ := show_at (S0 := S0) (V := tput V v 7 (-1)) (k := dK D v) (new := false) hM.wf0 hW hc hjk hV1s hn hv (hV1.2 v hv).1 (fun z => by cases z)
    have hsh : shd (M c) (dK D v) doc = shw false d (dK D v) (g_Tree_documents W) := by rw [hc, hdoc]; rfl
    have hst : lstep D doc M pl v = (shM M c (shw false d (dK D v) (g_Tree_documents W)), fun u => if u = v then (if jk d.1 (dK D v) = 7 then none else some c) else pl u) := by
      unfold lstep
      rw [ht]
      show (shM M c (shd (M c) (dK D v) doc), fun u => if u = v then (if (shd (M c) (dK D v) doc).1 = 7 then none else some c) else pl u) = _
      rw [hsh, shw_1]
      rfl
    rw [hst]
    refine ⟨_, W', e1, ?_, e2, e3.trans hdoc, ?_, ?_⟩
    · by_cases q : (if false = true then dK D v else jk d.1 (dK D v)) = 7
      · rw [if_pos q]; exact hV1
      · rw [if_neg q]; exact hV1.put7 _ _
    · intro x e hx
      rw [e4 x e hx]
      by_cases q : x = c
      · rw [q]; exact hO c d hc
      · exact hO x e (shM_some hx q)
    · intro u hu
      have huv := hu.1
      have hix : ∀ y, y ≤ c → ix (shM M c (shw false d (dK D v) (g_Tree_documents W))) y = ix M y := fun y hy => ix_congr (fun z hz => by rw [shM_lt (by omega)])
      show tc (if jk d.1 (dK D v) = 7 then tput V v 7 (-1) else tput (tput V v 7 (-1)) v 7 (nI (ix M c))) u 7 = match (if u = v then (if jk d.1 (dK D v) = 7 then none else some c) else pl u) with | none => -1 | some c1 => nI (ix (shM M c (shw false d (dK D v) (g_Tree_documents W))) c1)
      by_cases q : u = v
      · rw [if_pos q]
        by_cases z : jk d.1 (dK D v) = 7
        · rw [if_pos z, if_pos z, tc_tput (by omega) (by omega), if_pos ⟨q, rfl⟩]
        · rw [if_neg z, if_neg z, tc_tput (by omega) (by omega), if_pos ⟨q, rfl⟩]
          show _ = nI (ix _ c)
          rw [hix c (Nat.le_refl _)]
      · rw [if_neg q]
        have hop := opn_s hu (by omega)
        obtain ⟨cu, hcu⟩ := t6 u hop
        have hlt := t5 u cu hop hcu
        have hold := hS u hop
        rw [hcu] at hold ⊢
        show _ = nI (ix _ cu)
        rw [hix cu (by omega)]
        by_cases z : jk d.1 (dK D v) = 7
        · rw [if_pos z, tc_tput (by omega) (by omega), if_neg (by omega)]; exact hold
        · rw [if_neg z, tc_tput (by omega) (by omega), if_neg (by omega), tc_tput (by omega) (by omega), if_neg (by omega)]; exact hold
  have new : ∀ c W1, tg D pl v = some c → M c = none → TR W1 (setM M c d00) 10000 → Moved W W1 M (setM M c d00) → g_Tree_documents W1 = g_Tree_documents W → tc W1 (ix M c) 7 = -1 → ∃ V' W', F_X4_showValue_120 (nI v) (lsv S0 (tput V v 7 (-1)) W1) (nI (ix M c)) true = some (lsv S0 V' W') ∧ CI D B doc (v + 1) V' W' (lstep D doc M pl v).1 (lstep D doc M pl v).2 := by
    intro c W1 ht hc r1 r2 r3 r4
    obtain ⟨t1, t2, t3, t4, t5, t6⟩ := tg_ok hD hL hv ht
    have hcc : setM M c d00 c = some d00 := setM_at
    have hw0 : Wf (setM M c d00) := hM.add t1 hc isK_0 (Or.inl rfl) (fun h0 => (t3 h0).2.2.2.2.2)
    have hixc : ix (setM M c d00) c = ix M c := ix_set_le (Nat.le_refl _)
    obtain ⟨W', e1, e2, e3, e4⟩ := show_at (S0 := S0) (V := tput V v 7 (-1)) (k := dK D v) (new := true) hw0.wf0 r1 hcc hkk hV1s hn hv (hV1.2 v hv).1 (fun _ => rfl)
    have hd1 : g_Tree_documents W1 = doc := r3.trans hdoc
    have hn7 : ¬ (shw true d00 (dK D v) (g_Tree_documents W1)).1 = 7 := by rw [shw_1]; exact hk7
    rw [shM_new hn7] at e2 e4
    have hst : lstep D doc M pl v = (shM M c (shw true d00 (dK D v) (g_Tree_documents W1)), fun u => if u = v then some c else pl u) := by
      unfold lstep
      rw [ht]
      show (shM M c (shd (M c) (dK D v) doc), fun u => if u = v then (if (shd (M c) (dK D v) doc).1 = 7 then none else some c) else pl u) = _
      rw [hc, hd1]
      show (shM M c (shw true d00 (dK D v) doc), fun u => if u = v then (if (shw true d00 (dK D v) doc).1 = 7 then none else some c) else pl u) = _
      rw [hd1] at hn7
      rw [if_neg hn7]
    rw [hst]
    rw [hixc] at e1
    have q7 : ¬ (if true = true then dK D v else jk d00.1 (dK D v)) = 7 := hk7
    rw [if_neg q7] at e1
    refine ⟨_, W', e1, hV1.put7 _ _, e2, e3.trans hd1, ?_, ?_⟩
    · intro x e hx
      rw [e4 x e hx]
      by_cases q : x = c
      · rw [q, hixc, r4, rn_none (gone_new hD hL hv ht hc)]
      · have hx2 := shM_some hx q
        rw [r2 x e e hx2 (by rw [setM_ne q]; exact hx2) 7 (by omega)]
        exact hO x e hx2
    · intro u hu
      have huv := hu.1
      have hix : ∀ y, y ≤ c → ix (shM M c (shw true d00 (dK D v) (g_Tree_documents W1))) y = ix M y := fun y hy => ix_congr (fun z hz => by rw [shM_lt (by omega)])
      show tc (tput (tput V v 7 (-1)) v 7 (nI (ix M c))) u 7 = match (if u = v then some c else pl u) with | none => -1 | some c1 => nI (ix (shM M c (shw true d00 (dK D v) (g_Tree_documents W1))) c1)
      by_cases q : u = v
      · rw [if_pos q, tc_tput (by omega) (by omega), if_pos ⟨q, rfl⟩]
        show _ = nI (ix _ c)
        rw [hix c (Nat.le_refl _)]
      · rw [if_neg q]
        have hop := opn_s hu (by omega)
        obtain ⟨cu, hcu⟩ := t6 u hop
        have hlt := t5 u cu hop hcu
        have hold := hS u hop
        rw [hcu] at hold ⊢
        show _ = nI (ix _ cu)
        rw [hix cu (by omega), tc_tput (by omega) (by omega), if_neg (by omega), tc_tput (by omega) (by omega), if_neg (by omega)]
        exact hold
  have h87 : ∀ c x4 x5 t0, tg D pl v = some c → t0 = rn M c → (M c = none → ∃ W1, F_X3_insertBelow W x4 x5 = some (nI (ix M c), W1) ∧ TR W1 (setM M c d00) 10000 ∧ Moved W W1 M (setM M c d00) ∧ g_Tree_documents W1 = g_Tree_documents W ∧ tc W1 (ix M c) 7 = -1) → ∃ V' W', F_X4_showValue_87 (nI v) (lsv S0 (tput V v 7 (-1)) W) x4 x5 t0 = some (lsv S0 V' W') ∧ CI D B doc (v + 1) V' W' (lstep D doc M pl v).1 (lstep D doc M pl v).2 := by
    intro c x4 x5 t0 ht h0 hi
    subst h0
    unfold F_X4_showValue_87
    cases hc : M c with
    | none =>
      obtain ⟨W1, i1, i2, i3, i4, i5⟩ := hi hc
      rw [rn_none hc, if_pos rfl, show g_LS_work (lsv S0 (tput V v 7 (-1)) W) = W from rfl, ob2_s i1]
      exact new c W1 ht hc i2 i3 i4 i5
    | some d =>
      have hlt := ix_lt hc (hM.lt hc)
      rw [rn_some hc, if_neg (nI_m1 (by omega))]
      exact old c d ht hc
  unfold F_X4_showValue
  rw [hrv, ob1_s (get_5 _ hVs hn hv), hVr.2.2.2.2.1]
  by_cases hv0 : v = 0
  · have hp : pI D v = -1 := by unfold pI; rw [if_pos hv0]
    have hl : lI D v = -1 := by unfold lI; rw [if_pos hv0]
    have ht : tg D pl v = some 0 := by unfold tg; rw [if_pos hv0]
    rw [hp, if_pos rfl, ob1_s (put_7 _ hVs hn hv), if_pos rfl]
    show ∃ V' W', F_X4_showValue_45 (nI v) (lsv S0 (tput V v 7 (-1)) W) (-1) (-1) = _ ∧ _
    unfold F_X4_showValue_45
    rw [show g_Reader_values (g_LS_reader (lsv S0 (tput V v 7 (-1)) W)) = tput V v 7 (-1) from rfl, ob1_s (get_1 _ hV1s hn hv), (hV1.2 v hv).2.1, hl, if_pos rfl, show g_LS_work (lsv S0 (tput V v 7 (-1)) W) = W from rfl, hW.size]
    by_cases hz : ix M 10000 = 0
    · rw [hz, if_pos (by decide)]
      have h00 : M 0 = none := by
        cases h : M 0 with
        | none => rfl
        | some d => have := ix_lt h (show 0 < 10000 by omega); omega
      refine h87 0 (-1) (-1) (-1) ht (rn_none h00).symm (fun _ => ?_)
      obtain ⟨W1, i1, i2, i3, i4, i5⟩ := insert0_ok hM.wf0 hW hz
      exact ⟨W1, i1, i2, i3, i4, i5⟩
    · rw [if_neg (nI_nle (by omega) (by omega))]
      obtain ⟨x, e, g1, g2, g3⟩ := ix_at (M := M) (i := 0) (b := 10000) (by omega)
      obtain ⟨d0, g4⟩ := hM.root (dp x) rfl g2
      refine h87 0 (-1) (-1) 0 ht (by rw [rn_some g4]; rfl) (fun hz2 => ?_)
      rw [g4] at hz2; cases hz2
  · have hop := opn_p hD (by omega) hv
    obtain ⟨m1, m2, m3, m4⟩ := hD.2.2.2.2.2.1 v (by omega) hv
    have hp : pI D v = nI (dP D v) := by unfold pI; rw [if_neg hv0]
    have hl : lI D v = nI (dL D v) := by unfold lI; rw [if_neg hv0]
    have hst := hS _ hop
    rw [hp, if_neg (nI_m1 (by omega)), ob1_s (get_7 (dP D v) hVs hn (by omega)), ob1_s (put_7 _ hVs hn hv), if_neg (nI_m1 (by omega)), hst]
    cases hpl : pl (dP D v) with
    | none =>
      have ht : tg D pl v = none := by unfold tg; rw [if_neg hv0, hpl]
      show ∃ V' W', (if (-1 : Int32) = -1 then some (lsv S0 (tput V v 7 (-1)) W) else _) = _ ∧ _
      rw [if_pos rfl]
      refine ⟨_, W, rfl, ?_⟩
      have hstp : lstep D doc M pl v = (M, fun u => if u = v then none else pl u) := by unfold lstep; rw [ht]
      rw [hstp]
      refine ⟨hV1, hW, hdoc, hO, fun u hu => ?_⟩
      have huv := hu.1
      show tc (tput V v 7 (-1)) u 7 = match (if u = v then none else pl u) with | none => -1 | some c1 => nI (ix M c1)
      rw [tc_tput (by omega) (by omega)]
      by_cases q : u = v
      · rw [if_pos q, if_pos ⟨q, rfl⟩]
      · rw [if_neg q, if_neg (by omega)]
        exact hS u (opn_s hu (by omega))
    | some cp =>
      have ht : tg D pl v = some (ch cp (dL D v)) := by unfold tg; rw [if_neg hv0, hpl]
      obtain ⟨t1, t2, t3, t4, t5, t6⟩ := tg_ok hD hL hv ht
      obtain ⟨g1, d, g2, g3⟩ := hL.2.2.2.2.1 _ _ hop hpl
      have hlt := ix_lt g2 (hM.lt g2)
      have hl9 : dL D v < 9 := by rcases m4 with z | z <;> omega
      show ∃ V' W', (if nI (ix M cp) = -1 then some (lsv S0 (tput V v 7 (-1)) W) else F_X4_showValue_45 (nI v) (lsv S0 (tput V v 7 (-1)) W) (nI (dP D v)) (nI (ix M cp))) = _ ∧ _
      rw [if_neg (nI_m1 (by omega))]
      unfold F_X4_showValue_45
      rw [show g_Reader_values (g_LS_reader (lsv S0 (tput V v 7 (-1)) W)) = tput V v 7 (-1) from rfl, ob1_s (get_1 _ hV1s hn hv), (hV1.2 v hv).2.1, hl, if_neg (nI_m1 (by omega)), show g_LS_work (lsv S0 (tput V v 7 (-1)) W) = W from rfl, ob1_s (find_ok hM.wf0 hW g2 hl9)]
      refine h87 _ _ _ _ ht rfl (fun hc => ?_)
      obtain ⟨W1, i1, i2, i3, i4, i5⟩ := insert_ok hM.wf0 hW g2 hl9 (by omega) hc hlen
      exact ⟨W1, i1, i2, i3, i4, i5⟩
theorem lrun_s (D : Dc) (doc : Int32) (B : Mp) (v : Nat) : lrun D doc B (v + 1) = lstep D doc (lrun D doc B v).1 (lrun D doc B v).2 v := rfl
theorem lrun_LP {D : Dc} (hD : DW D) {doc : Int32} {B : Mp} (hB : Wf B) : ∀ v, v ≤ dN D → LPx D B (lrun D doc B v).1 (lrun D doc B v).2 v
  | 0, _ => by
    show LPx D B B (fun _ => none) 0
    refine ⟨hB, ?_, ?_, by omega, ?_, ?_⟩
    · intro c d0 h h2
      rw [h] at h2; cases h2
    · intro c d0 d h h2 h7
      rw [h] at h2; cases h2; exact h7
    · intro u c hu
      exact absurd hu.1 (Nat.not_lt_zero _)
    · intro u u' c' hu
      exact absurd hu.1 (Nat.not_lt_zero _)
  | v + 1, h => by
    rw [lrun_s]
    exact lstep_LP hD hB (lrun_LP hD hB v (by omega)) (by omega)
theorem class_loop {S0 : S_LS} {D : Dc} (hD : DW D) {B : Mp} {doc : Int32} (hB : Wf B) (hBl : ix B 10000 ≤ 30) : ∀ (f v : Nat) (V W : S_Tree), v ≤ dN D → dN D - v < f → CI D B doc v V W (lrun D doc B v).1 (lrun D doc B v).2 → ∃ V' W', F_X4_workOutLearned_67 f (lsv S0 V W) (nI (dN D)) (nI v) = some (lsv S0 V' W') ∧ CI D B doc (dN D) V' W' (lrun D doc B (dN D)).1 (lrun D doc B (dN D)).2
  | 0, v, _, _, _, h, _ => absurd h (Nat.not_lt_zero _)
  | f + 1, v, V, W, h1, h2, hC => by
    have hn := hD.2.1
    rw [F_X4_workOutLearned_67_s]
    by_cases q : v = dN D
    · rw [if_pos (by rw [q]; exact nI_le (Nat.le_refl _) (by omega))]
      rw [q] at hC
      exact ⟨V, W, rfl, hC⟩
    · obtain ⟨V1, W1, e1, e2⟩ := class_step (S0 := S0) hD hBl (lrun_LP hD hB v h1) hC (by omega)
      rw [if_neg (nI_ge (by omega) (by omega)), ob1_s e1, nI_1]
      exact class_loop hD hB hBl f (v + 1) V1 W1 (by omega) (by omega) e2
