/-! ===== p23, pure: the law looks at a shape ===== -/
theorem shr_cmp_tab : ∀ n, n < 31 → ∀ a, a < 31 → n < a ∨ Op.cmpValue (FP.dcmp (shr a n) (shr a n)) .l = 0 := by decide +kernel
theorem shr_cmp {a n : Nat} (h1 : a ≤ n) (h2 : n ≤ 30) : Op.cmpValue (FP.dcmp (shr a n) (shr a n)) .l = 0 := (shr_cmp_tab n (by omega) a (by omega)).resolve_left (by omega)
theorem cnI_b {p : Nat → Bool} {i : Nat} {b : Bool} (h : p i = b) : nI (cnI p i) + b2i b = nI (cnI p (i + 1)) := by
  cases b with
  | true => rw [b2i_t, cnI_t h, nI_1]
  | false => rw [b2i_f, cnI_f (by rw [h]; decide), Int32.add_zero]
section SHL
variable {S : S_LS} {k : Bool} {M : Mp} {n : Int}
theorem mxI_lt (hM : Wf M) {T : S_Tree} (hT : TR T M 10000) : ∀ i, i ≤ ix M 10000 → (mxI T i).toInt < 5 := by
  intro i
  induction i with
  | zero => intro _; show ((-1 : Int32)).toInt < 5; decide
  | succ i ihi =>
    intro hi
    rw [mxI_s]
    split
    · obtain ⟨c, d, g1, g2, g3⟩ := ix_at (M := M) (i := i) (b := 10000) (by omega)
      have hr := (hT.row g2 g1).2.2.1
      rw [g3] at hr
      have h4 := dp_le c
      rw [hr, nI_toInt (by omega)]
      omega
    · exact ihi (by omega)
/-- behind the rows -/
theorem shape_331 (hT : GT (g_State_tree k (g_LS_now S)) M n) : F_L_shape_331 (b2i k) S (nI (ix M 10000)) (nI (cnI (pSur (g_State_tree k (g_LS_now S))) (ix M 10000))) true = some true := by
  have h30 := hT.2.2.2.1
  have hs := okr_s (sure_cl (k := k) (S := S) (share_cl hT.2.1.size h30))
  have hle := cnI_le (pSur (g_State_tree k (g_LS_now S))) (ix M 10000)
  have hc := shr_cmp hle h30
  unfold F_L_shape_331
  rw [b2i_t, if_neg one_ne0, ob1_s hs]
  by_cases z : ix M 10000 = 0
  · rw [if_pos (by rw [z]; rfl)]
    have e : shr (cnI (pSur (g_State_tree k (g_LS_now S))) (ix M 10000)) (ix M 10000) = 4607182418800017408 := if_pos z
    rw [e] at hc ⊢
    rw [if_pos hc]
  · have e : shr (cnI (pSur (g_State_tree k (g_LS_now S))) (ix M 10000)) (ix M 10000) = FP.ddiv (FP.i2d (nI (cnI (pSur (g_State_tree k (g_LS_now S))) (ix M 10000)))) (FP.i2d (nI (ix M 10000))) := if_neg z
    rw [if_neg (nI_ne0 (by omega) (by omega)), og_t (shr_n64 z h30 (by omega)), ← e, if_pos hc]
theorem shape_211 (hT : GT (g_State_tree k (g_LS_now S)) M n) : F_L_shape_211 (b2i k) S (nI (ix M 10000)) (nI (cnI (pAny (g_State_tree k (g_LS_now S))) (ix M 10000))) (nI (cnI (pMis (g_State_tree k (g_LS_now S))) (ix M 10000))) (nI (cnI (pMrk (g_State_tree k (g_LS_now S))) (ix M 10000))) (mxI (g_State_tree k (g_LS_now S)) (ix M 10000)) (nI (cnI (pSur (g_State_tree k (g_LS_now S))) (ix M 10000))) true = some true := by
  have h30 := hT.2.2.2.1
  obtain ⟨h0, -, h2, h3, h4, h5⟩ := shapeNum_cl hT.2.1.size hT.2.1.le
  have s0 : okr (F_X4_shape S (b2i k) 0) = some (g_Tree_documents (g_State_tree k (g_LS_now S))) := okr_s (shape_cl (j := 0) (by omega) h0)
  have s2 : okr (F_X4_shape S (b2i k) 2) = _ := okr_s (shape_cl (j := 2) (by omega) h2)
  have s3 : okr (F_X4_shape S (b2i k) 3) = _ := okr_s (shape_cl (j := 3) (by omega) h3)
  have s4 : okr (F_X4_shape S (b2i k) 4) = _ := okr_s (shape_cl (j := 4) (by omega) h4)
  have s5 : okr (F_X4_shape S (b2i k) 5) = _ := okr_s (shape_cl (j := 5) (by omega) h5)
  have hmx := mxI_lt hT.1.1 hT.2.1 (ix M 10000) (Nat.le_refl _)
  have h331 := shape_331 hT
  have h270 : F_L_shape_270 (b2i k) S (nI (ix M 10000)) (nI (cnI (pSur (g_State_tree k (g_LS_now S))) (ix M 10000))) true = some true := by
    unfold F_L_shape_270
    rw [b2i_t, if_neg one_ne0]
    by_cases z : ix M 10000 = 0
    · rw [if_pos (by rw [z]; rfl)]
      exact h331
    · rw [if_neg (nI_ne0 (by omega) (by omega))]
      rcases root_ix hT.1.1 with ⟨w, -⟩ | ⟨-, d, hd⟩
      · exact absurd w z
      · obtain ⟨r1, r2, r3⟩ := hT.1.2.2.2.2.1 d hd
        have hdoc := hT.2.2.2.2
        have e4 : d.2.1 = g_Tree_documents (g_State_tree k (g_LS_now S)) := by
          rw [← Int32.toInt_inj, hdoc]; exact r2
        have e6 : d.2.2.2.1 = g_Tree_documents (g_State_tree k (g_LS_now S)) := by
          rw [← Int32.toInt_inj, hdoc]; exact r3
        have n4 : okr (F_X4_node S (b2i k) 0 4) = some d.2.1 := nd_cl hT hd 4 (by omega)
        have n6 : okr (F_X4_node S (b2i k) 0 6) = some d.2.2.2.1 := nd_cl hT hd 6 (by omega)
        have n0 : okr (F_X4_node S (b2i k) 0 0) = some d.1 := nd_cl hT hd 0 (by omega)
        rw [ob1_s n4, ob1_s s0, if_pos e4, ob1_s n6, ob1_s s0, if_pos e6, ob1_s n0, if_pos r1]
        exact h331
  unfold F_L_shape_211
  rw [b2i_t, if_neg one_ne0, ob1_s s2, if_pos rfl, ob1_s s3, if_pos rfl, ob1_s s4, if_pos rfl, ob1_s s5, if_pos rfl, if_neg (fun w => by
    rw [Int32.le_iff_toInt_le] at w
    have : (5 : Int32).toInt = 5 := rfl
    omega)]
  exact h270
/-- the rows one after another -/
theorem shape_63 (hT : GT (g_State_tree k (g_LS_now S)) M n) : ∀ f i, i ≤ ix M 10000 → ix M 10000 - i < f → F_L_shape_63 (b2i k) S f (nI (ix M 10000)) (nI (cnI (pAny (g_State_tree k (g_LS_now S))) i)) (nI (cnI (pMis (g_State_tree k (g_LS_now S))) i)) (nI (cnI (pMrk (g_State_tree k (g_LS_now S))) i)) (mxI (g_State_tree k (g_LS_now S)) i) (nI (cnI (pSur (g_State_tree k (g_LS_now S))) i)) true (nI i) = some true := by
  intro f
  induction f with
  | zero => intro i _ h; omega
  | succ f ihf =>
    intro i hi hf
    have h30 := hT.2.2.2.1
    rw [F_L_shape_63_s]
    rcases Nat.lt_or_ge i (ix M 10000) with z | z
    · have hx := ihf (i + 1) (by omega) (by omega)
      obtain ⟨c, d, g1, g2, g3⟩ := ix_at z
      have hM := hT.1.1
      have hrow := hT.2.1.row g2 g1
      have hO := hT.2.2.1 c d g2
      rw [g3] at hrow hO
      obtain ⟨r0, -, r2, -, r4, -⟩ := hrow
      have hnode := node_law hT g2
      have n0 : okr (F_X4_node S (b2i k) (nI (ix M c)) 0) = some d.1 := nd_cl hT g2 0 (by omega)
      have n7 : okr (F_X4_node S (b2i k) (nI (ix M c)) 7) = some (b2i (opt M c d)) := nd_cl hT g2 7 (by omega)
      have n5 : okr (F_X4_node S (b2i k) (nI (ix M c)) 5) = some d.2.2.1 := nd_cl hT g2 5 (by omega)
      have n3 : okr (F_X4_node S (b2i k) (nI (ix M c)) 3) = some (nI (dp c)) := nd_cl hT g2 3 (by omega)
      rw [g3] at hnode n0 n7 n5 n3
      obtain ⟨-, ⟨kj, kj1, kj2⟩, hmk, -⟩ := hM c d g2
      have e3 : ∀ t : Bool, pAny (g_State_tree k (g_LS_now S)) i = t → nI (cnI (pAny (g_State_tree k (g_LS_now S))) i) + b2i t = nI (cnI (pAny (g_State_tree k (g_LS_now S))) (i + 1)) := fun t h => cnI_b h
      have e7 : ∀ t : Bool, pSur (g_State_tree k (g_LS_now S)) i = t → nI (cnI (pSur (g_State_tree k (g_LS_now S))) i) + b2i t = nI (cnI (pSur (g_State_tree k (g_LS_now S))) (i + 1)) := fun t h => cnI_b h
      have e4 : nI (cnI (pMis (g_State_tree k (g_LS_now S))) i) + b2i (opt M c d) = nI (cnI (pMis (g_State_tree k (g_LS_now S))) (i + 1)) := cnI_b (by
        unfold pMis
        rw [hO]
        cases opt M c d <;> rfl)
      have e5 : nI (cnI (pMrk (g_State_tree k (g_LS_now S))) i) + d.2.2.1 = nI (cnI (pMrk (g_State_tree k (g_LS_now S))) (i + 1)) := by
        rcases hmk with w | w
        · rw [w]
          exact cnI_b (b := false) (by unfold pMrk; rw [r4, w]; rfl)
        · rw [w]
          exact cnI_b (b := true) (by unfold pMrk; rw [r4, w]; rfl)
      have s174 : ∀ t : Bool, pSur (g_State_tree k (g_LS_now S)) i = t → F_L_shape_174 (b2i k) S (F_L_shape_63 (b2i k) S f) (nI (ix M 10000)) (nI (cnI (pAny (g_State_tree k (g_LS_now S))) (i + 1))) (nI (cnI (pMis (g_State_tree k (g_LS_now S))) (i + 1))) (nI (cnI (pMrk (g_State_tree k (g_LS_now S))) (i + 1))) (mxI (g_State_tree k (g_LS_now S)) i) true (nI i) (nI (cnI (pSur (g_State_tree k (g_LS_now S))) i)) t = some true := by
        intro t ht
        unfold F_L_shape_174
        rw [ob1_s n3, e7 t ht, nI_1]
        rw [mxI_s, r2] at hx
        by_cases w : nI (dp c) ≤ mxI (g_State_tree k (g_LS_now S)) i
        · rw [if_pos w]
          rw [if_neg (Int32.not_lt.mpr w)] at hx
          exact hx
        · rw [if_neg w, ob1_s n3]
          rw [if_pos (Int32.not_le.mp w)] at hx
          exact hx
      have s102 : ∀ t : Bool, pAny (g_State_tree k (g_LS_now S)) i = t → F_L_shape_102 (b2i k) S (F_L_shape_63 (b2i k) S f) (nI (ix M 10000)) (nI (cnI (pMis (g_State_tree k (g_LS_now S))) i)) (nI (cnI (pMrk (g_State_tree k (g_LS_now S))) i)) (mxI (g_State_tree k (g_LS_now S)) i) (nI (cnI (pSur (g_State_tree k (g_LS_now S))) i)) true (nI i) (nI (cnI (pAny (g_State_tree k (g_LS_now S))) i)) t = some true := by
        intro t ht
        unfold F_L_shape_102
        rw [ob1_s n7, ob1_s n5, ob1_s n0, e3 t ht, e4, e5]
        by_cases w : (7 : Int32) ≤ d.1
        · rw [if_pos w]
          refine s174 false (decide_eq_false (fun y => y.2.1 ?_))
          rw [r0, kj2]
          rw [kj2] at w
          have : kj = 7 := by
            rcases Nat.lt_or_ge kj 7 with u | u
            · exact absurd w (nI_ge (a := kj) (b := 7) u (by omega))
            · omega
          rw [this]; rfl
        · have hk7 : ¬ d.1 = 7 := fun y => w (by rw [y]; decide)
          rw [if_neg w, ob1_s n7]
          by_cases y7 : b2i (opt M c d) = 0
          · rw [if_pos y7, ob1_s n5]
            by_cases y5 : d.2.2.1 = 0
            · rw [if_pos y5]
              exact s174 true (decide_eq_true ⟨by rw [r4]; exact y5, by rw [r0]; exact hk7, by rw [hO]; exact y7⟩)
            · rw [if_neg y5]
              exact s174 false (decide_eq_false (fun y => y5 (by rw [← r4]; exact y.1)))
          · rw [if_neg y7]
            exact s174 false (decide_eq_false (fun y => y7 (by rw [← hO]; exact y.2.2)))
      rw [if_neg (nI_ge z (by omega)), b2i_t, if_neg one_ne0, ob1_s hnode, ob1_s n0]
      by_cases w : d.1 = 7
      · rw [if_pos w]
        exact s102 true (decide_eq_true (by rw [r0]; exact w))
      · rw [if_neg w]
        exact s102 false (decide_eq_false (fun y => w (by rw [← r0]; exact y)))
    · obtain rfl : i = ix M 10000 := by omega
      rw [if_pos (nI_le (Nat.le_refl _) (by omega))]
      exact shape_211 hT
/-- a shape is as it must be -/
theorem shape_law (hT : GT (g_State_tree k (g_LS_now S)) M n) : F_L_shape S (b2i k) = some true := by
  have h30 := hT.2.2.2.1
  obtain ⟨s0, s1⟩ := sh_cl hT
  have hdoc := hT.2.2.2.2
  have h63 := shape_63 hT 5000 0 (Nat.zero_le _) (by omega)
  have h63' : F_L_shape_63 (b2i k) S 5000 (nI (ix M 10000)) 0 0 0 (-1) 0 true 0 = some true := h63
  unfold F_L_shape
  rw [ob1_s s1, if_neg (show ¬ (30 : Int32) < nI (ix M 10000) from nI_nlt (a := 30) (b := ix M 10000) (by omega) (by omega))]
  rcases root_ix hT.1.1 with ⟨w, w2, -⟩ | ⟨w, d, hd⟩
  · have hn0 := hT.1.2.2.2.1 w2
    have hd0 : g_Tree_documents (g_State_tree k (g_LS_now S)) = 0 := by
      rw [← Int32.toInt_inj, hdoc, hn0]; rfl
    rw [if_pos (by rw [w]; rfl)]
    unfold F_L_shape_36
    rw [ob1_s s0, if_pos hd0, b2i_t, if_pos rfl]
    exact h63'
  · have hn1 := hT.1.pos hd
    have hd0 : ¬ g_Tree_documents (g_State_tree k (g_LS_now S)) = 0 := fun y => by
      rw [y] at hdoc
      have : (0 : Int32).toInt = 0 := rfl
      omega
    rw [if_neg (nI_ne0 w (by omega))]
    unfold F_L_shape_36
    rw [ob1_s s0, if_neg hd0, b2i_f, if_pos rfl]
    exact h63'
end SHL
