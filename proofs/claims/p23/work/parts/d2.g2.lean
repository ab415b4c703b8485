/-! ===== p23, pure: what the class answers of a shape ===== -/
theorem b2i_shape (k : Bool) : F_X4_isShape (b2i k) = some true := by cases k <;> rfl
theorem nodeNum_cl {T : S_Tree} {M : Mp} (hM : Wf M) (hT : TR T M 10000) (hO : OP T M) {c : Nat} {d : Dt} (hc : M c = some d) : ∀ k, k ≤ 9 → F_X4_nodeNumber T (nI (ix M c)) (nI k) = some (ndv M c d k) := by
  have hl := hM.lt hc
  have hrow := hT.row hc hl
  apply all10
  · unfold F_X4_nodeNumber
    rw [if_pos (by decide), ob1_s (hT.g0 hc hl), hrow.1]
    try rfl
  · unfold F_X4_nodeNumber
    rw [if_neg (by decide), if_pos (by decide), ob1_s (hT.g1 hc hl), hrow.2.1]
    try rfl
  · unfold F_X4_nodeNumber
    rw [if_neg (by decide), if_neg (by decide), if_pos (by decide), ob1_s (above_ok hM.wf0 hT hc)]
    rfl
  · unfold F_X4_nodeNumber
    rw [if_neg (by decide), if_neg (by decide), if_neg (by decide), if_pos (by decide), ob1_s (hT.g2 hc hl), hrow.2.2.1]
    try rfl
  · unfold F_X4_nodeNumber
    rw [if_neg (by decide), if_neg (by decide), if_neg (by decide), if_neg (by decide), if_pos (by decide), ob1_s (hT.g3 hc hl), hrow.2.2.2.1]
    try rfl
  · unfold F_X4_nodeNumber
    rw [if_neg (by decide), if_neg (by decide), if_neg (by decide), if_neg (by decide), if_neg (by decide), if_pos (by decide), ob1_s (hT.g4 hc hl), hrow.2.2.2.2.1]
    try rfl
  · unfold F_X4_nodeNumber
    rw [if_neg (by decide), if_neg (by decide), if_neg (by decide), if_neg (by decide), if_neg (by decide), if_neg (by decide), if_pos (by decide), ob1_s (hT.g5 hc hl), hrow.2.2.2.2.2.1]
    try rfl
  · unfold F_X4_nodeNumber
    rw [if_neg (by decide), if_neg (by decide), if_neg (by decide), if_neg (by decide), if_neg (by decide), if_neg (by decide), if_neg (by decide), if_pos (by decide), ob1_s (hT.g8 hc hl), hO c d hc]
    try rfl
  · unfold F_X4_nodeNumber
    rw [if_neg (by decide), if_neg (by decide), if_neg (by decide), if_neg (by decide), if_neg (by decide), if_neg (by decide), if_neg (by decide), if_neg (by decide), if_pos (by decide), ob1_s (hT.g6 hc hl), hrow.2.2.2.2.2.2]
    try rfl
  · unfold F_X4_nodeNumber
    rw [if_neg (by decide), if_neg (by decide), if_neg (by decide), if_neg (by decide), if_neg (by decide), if_neg (by decide), if_neg (by decide), if_neg (by decide), if_neg (by decide), ob1_s (countBelow_ok hM.wf0 hT hc)]
    rfl
section LOOKS
variable {S : S_LS} {k : Bool} {M : Mp}
theorem has_cl {T : S_Tree} (hM : Wf M) (hT : TR T M 10000) {c : Nat} {d : Dt} (hc : M c = some d) : F_X3_has T (nI (ix M c)) = some true := has_at hT.size hT.le (ix_lt hc (hM.lt hc))
theorem nI_nneg {j : Nat} (h : j < 2 ^ 31) : ¬ nI j < 0 := nI_nlt (a := j) (b := 0) (by omega) (by omega)
theorem node_cl (hM : Wf M) (hT : TR (g_State_tree k (g_LS_now S)) M 10000) (hO : OP (g_State_tree k (g_LS_now S)) M) {c : Nat} {d : Dt} (hc : M c = some d) (j : Nat) (hj : j ≤ 9) : F_X4_node S (b2i k) (nI (ix M c)) (nI j) = some (.inr (ndv M c d j)) := by
  have h1 := has_cl hM hT hc
  have h2 := nodeNum_cl hM hT hO hc j hj
  unfold F_X4_node
  rw [ob1_s (b2i_shape k), b2i_t, if_neg one_ne0]
  cases k with
  | false =>
    have h1' : F_X3_has (g_State_first (g_LS_now S)) (nI (ix M c)) = some true := h1
    have h2' : F_X4_nodeNumber (g_State_first (g_LS_now S)) (nI (ix M c)) (nI j) = some (ndv M c d j) := h2
    rw [b2i_f, if_pos rfl, ob1_s h1', b2i_t, if_neg one_ne0, if_neg (nI_nneg (by omega)), if_pos (show nI j ≤ (9 : Int32) from nI_le (b := 9) hj (by omega)), ob1_s h2']
  | true =>
    have h1' : F_X3_has (g_State_second (g_LS_now S)) (nI (ix M c)) = some true := h1
    have h2' : F_X4_nodeNumber (g_State_second (g_LS_now S)) (nI (ix M c)) (nI j) = some (ndv M c d j) := h2
    rw [b2i_t, if_neg one_ne0, ob1_s h1', b2i_t, if_neg one_ne0, if_neg (nI_nneg (by omega)), if_pos (show nI j ≤ (9 : Int32) from nI_le (b := 9) hj (by omega)), ob1_s h2']
theorem child_cl (hM : Wf M) (hT : TR (g_State_tree k (g_LS_now S)) M 10000) {c : Nat} {d : Dt} (hc : M c = some d) (l : Nat) (hl : l < 9) : F_X4_child S (b2i k) (nI (ix M c)) (nI l) = some (.inr (rn M (ch c l))) := by
  have h1 := has_cl hM hT hc
  have h2 := rn_find hM hT c l hl
  rw [rn_some hc] at h2
  unfold F_X4_child
  rw [ob1_s (b2i_shape k), b2i_t, if_neg one_ne0]
  cases k with
  | false =>
    have h1' : F_X3_has (g_State_first (g_LS_now S)) (nI (ix M c)) = some true := h1
    have h2' : F_X3_findBelow (g_State_first (g_LS_now S)) (nI (ix M c)) (nI l) = some (rn M (ch c l)) := h2
    rw [b2i_f, if_pos rfl, ob1_s h1', b2i_t, if_neg one_ne0, if_neg (nI_nneg (by omega)), if_pos (show nI l ≤ (8 : Int32) from nI_le (b := 8) (by omega) (by omega)), ob1_s h2']
  | true =>
    have h1' : F_X3_has (g_State_second (g_LS_now S)) (nI (ix M c)) = some true := h1
    have h2' : F_X3_findBelow (g_State_second (g_LS_now S)) (nI (ix M c)) (nI l) = some (rn M (ch c l)) := h2
    rw [b2i_t, if_neg one_ne0, ob1_s h1', b2i_t, if_neg one_ne0, if_neg (nI_nneg (by omega)), if_pos (show nI l ≤ (8 : Int32) from nI_le (b := 8) (by omega) (by omega)), ob1_s h2']
theorem shape_cl {j : Nat} (hj : j ≤ 5) {v : Int32} (h : F_X4_shapeNumber (g_State_tree k (g_LS_now S)) (nI j) = some v) : F_X4_shape S (b2i k) (nI j) = some (.inr v) := by
  unfold F_X4_shape
  rw [ob1_s (b2i_shape k), b2i_t, if_neg one_ne0, if_neg (nI_nneg (by omega)), if_pos (show nI j ≤ (5 : Int32) from nI_le (b := 5) hj (by omega))]
  cases k with
  | false =>
    have h' : F_X4_shapeNumber (g_State_first (g_LS_now S)) (nI j) = some v := h
    rw [b2i_f, if_pos rfl, ob1_s h']
  | true =>
    have h' : F_X4_shapeNumber (g_State_second (g_LS_now S)) (nI j) = some v := h
    rw [b2i_t, if_neg one_ne0, ob1_s h']
theorem sure_cl {v : UInt64} (h : F_X4_shareOfSure (g_State_tree k (g_LS_now S)) = some v) : F_X4_sureShare S (b2i k) = some (.inr v) := by
  unfold F_X4_sureShare
  rw [ob1_s (b2i_shape k), b2i_t, if_neg one_ne0]
  cases k with
  | false =>
    have h' : F_X4_shareOfSure (g_State_first (g_LS_now S)) = some v := h
    rw [b2i_f, if_pos rfl, ob1_s h']
  | true =>
    have h' : F_X4_shareOfSure (g_State_second (g_LS_now S)) = some v := h
    rw [b2i_t, if_neg one_ne0, ob1_s h']
end LOOKS
/-- counting rows -/
def cnI (p : Nat → Bool) : Nat → Nat
  | 0 => 0
  | n + 1 => cnI p n + (if p n then 1 else 0)
theorem cnI_s (p : Nat → Bool) (n : Nat) : cnI p (n + 1) = cnI p n + (if p n then 1 else 0) := rfl
theorem cnI_le (p : Nat → Bool) : ∀ n, cnI p n ≤ n := by
  intro n
  induction n with
  | zero => exact Nat.le_refl _
  | succ n ihn => rw [cnI_s]; split <;> omega
theorem cnI_t {p : Nat → Bool} {n : Nat} (h : p n = true) : cnI p (n + 1) = cnI p n + 1 := by rw [cnI_s, if_pos h]
theorem cnI_f {p : Nat → Bool} {n : Nat} (h : ¬ p n = true) : cnI p (n + 1) = cnI p n := by rw [cnI_s, if_neg h]; rfl
/-- the deepest of the first rows -/
def mxI (T : S_Tree) : Nat → Int32
  | 0 => -1
  | n + 1 => if mxI T n < tc T n 2 then tc T n 2 else mxI T n
theorem mxI_s (T : S_Tree) (n : Nat) : mxI T (n + 1) = if mxI T n < tc T n 2 then tc T n 2 else mxI T n := rfl
section SHN
variable {T : S_Tree} {n : Nat}
def pAny (T : S_Tree) (i : Nat) : Bool := decide (tc T i 0 = 7)
def pMis (T : S_Tree) (i : Nat) : Bool := decide (tc T i 8 = 1)
def pMrk (T : S_Tree) (i : Nat) : Bool := decide (tc T i 4 = 1)
def pSur (T : S_Tree) (i : Nat) : Bool := decide (tc T i 4 = 0 ∧ ¬ tc T i 0 = 7 ∧ tc T i 8 = 0)
theorem shn2 (hs : g_Tree_size T = nI n) (hn : n ≤ 64) : ∀ f i, i ≤ n → n - i < f → F_X4_shapeNumber_32 2 T f (nI (cnI (pAny T) i)) (nI i) = some (nI (cnI (pAny T) n)) := by
  intro f
  induction f with
  | zero => intro i _ h; omega
  | succ f ihf =>
    intro i hi hf
    rw [F_X4_shapeNumber_32_s, hs]
    rcases Nat.lt_or_ge i n with z | z
    · rw [if_neg (nI_ge z (by omega)), if_neg (by decide), if_pos rfl, ob1_s (get_0 i hs hn z), nI_1]
      have hx := ihf (i + 1) (by omega) (by omega)
      by_cases y : tc T i 0 = 7
      · rw [if_pos y, nI_1]
        rw [cnI_t (p := pAny T) (decide_eq_true y)] at hx
        exact hx
      · rw [if_neg y]
        unfold F_X4_shapeNumber_75
        rw [if_neg (by decide), if_neg (by decide), nI_1]
        rw [cnI_f (p := pAny T) (fun w => y (of_decide_eq_true w))] at hx
        exact hx
    · obtain rfl : i = n := by omega
      rw [if_pos (nI_le (Nat.le_refl _) (by omega))]
theorem shn3 (hs : g_Tree_size T = nI n) (hn : n ≤ 64) : ∀ f i, i ≤ n → n - i < f → F_X4_shapeNumber_32 3 T f (nI (cnI (pMis T) i)) (nI i) = some (nI (cnI (pMis T) n)) := by
  intro f
  induction f with
  | zero => intro i _ h; omega
  | succ f ihf =>
    intro i hi hf
    rw [F_X4_shapeNumber_32_s, hs]
    rcases Nat.lt_or_ge i n with z | z
    · have hx := ihf (i + 1) (by omega) (by omega)
      rw [if_neg (nI_ge z (by omega)), if_neg (by decide), if_neg (by decide)]
      unfold F_X4_shapeNumber_75
      rw [if_pos rfl, ob1_s (get_8 i hs hn z), nI_1]
      by_cases y : tc T i 8 = 1
      · rw [if_pos y, nI_1]
        rw [cnI_t (p := pMis T) (decide_eq_true y)] at hx
        exact hx
      · rw [if_neg y, if_neg (by decide), nI_1]
        rw [cnI_f (p := pMis T) (fun w => y (of_decide_eq_true w))] at hx
        exact hx
    · obtain rfl : i = n := by omega
      rw [if_pos (nI_le (Nat.le_refl _) (by omega))]
theorem shn4 (hs : g_Tree_size T = nI n) (hn : n ≤ 64) : ∀ f i, i ≤ n → n - i < f → F_X4_shapeNumber_32 4 T f (nI (cnI (pMrk T) i)) (nI i) = some (nI (cnI (pMrk T) n)) := by
  intro f
  induction f with
  | zero => intro i _ h; omega
  | succ f ihf =>
    intro i hi hf
    rw [F_X4_shapeNumber_32_s, hs]
    rcases Nat.lt_or_ge i n with z | z
    · have hx := ihf (i + 1) (by omega) (by omega)
      rw [if_neg (nI_ge z (by omega)), if_neg (by decide), if_neg (by decide)]
      unfold F_X4_shapeNumber_75
      rw [if_neg (by decide), if_pos rfl, ob1_s (get_4 i hs hn z), nI_1]
      by_cases y : tc T i 4 = 1
      · rw [if_pos y, nI_1]
        rw [cnI_t (p := pMrk T) (decide_eq_true y)] at hx
        exact hx
      · rw [if_neg y, nI_1]
        rw [cnI_f (p := pMrk T) (fun w => y (of_decide_eq_true w))] at hx
        exact hx
    · obtain rfl : i = n := by omega
      rw [if_pos (nI_le (Nat.le_refl _) (by omega))]
theorem shn5 (hs : g_Tree_size T = nI n) (hn : n ≤ 64) : ∀ f i, i ≤ n → n - i < f → F_X4_shapeNumber_32 5 T f (mxI T i) (nI i) = some (mxI T n) := by
  intro f
  induction f with
  | zero => intro i _ h; omega
  | succ f ihf =>
    intro i hi hf
    rw [F_X4_shapeNumber_32_s, hs]
    rcases Nat.lt_or_ge i n with z | z
    · have hx := ihf (i + 1) (by omega) (by omega)
      rw [if_neg (nI_ge z (by omega)), if_pos rfl, ob1_s (get_2 i hs hn z), nI_1]
      rw [mxI_s] at hx
      exact hx
    · obtain rfl : i = n := by omega
      rw [if_pos (nI_le (Nat.le_refl _) (by omega))]
theorem shapeNum_cl (hs : g_Tree_size T = nI n) (hn : n ≤ 64) : F_X4_shapeNumber T 0 = some (g_Tree_documents T) ∧ F_X4_shapeNumber T 1 = some (nI n) ∧ F_X4_shapeNumber T 2 = some (nI (cnI (pAny T) n)) ∧ F_X4_shapeNumber T 3 = some (nI (cnI (pMis T) n)) ∧ F_X4_shapeNumber T 4 = some (nI (cnI (pMrk T) n)) ∧ F_X4_shapeNumber T 5 = some (mxI T n) := by
  unfold F_X4_shapeNumber
  refine ⟨by rw [if_pos rfl], by rw [if_neg (by decide), if_pos rfl, hs], ?_, ?_, ?_, ?_⟩
  · rw [if_neg (by decide), if_neg (by decide), if_neg (by decide)]
    exact shn2 hs hn 5000 0 (Nat.zero_le _) (by omega)
  · rw [if_neg (by decide), if_neg (by decide), if_neg (by decide)]
    exact shn3 hs hn 5000 0 (Nat.zero_le _) (by omega)
  · rw [if_neg (by decide), if_neg (by decide), if_neg (by decide)]
    exact shn4 hs hn 5000 0 (Nat.zero_le _) (by omega)
  · rw [if_neg (by decide), if_neg (by decide), if_pos rfl]
    exact shn5 hs hn 5000 0 (Nat.zero_le _) (by omega)
theorem sur_loop (hs : g_Tree_size T = nI n) (hn : n ≤ 30) (h0 : n ≠ 0) : ∀ f i, i ≤ n → n - i < f → F_X4_shareOfSure_13 T f (nI (cnI (pSur T) i)) (nI i) = some (shr (cnI (pSur T) n) n) := by
  intro f
  induction f with
  | zero => intro i _ h; omega
  | succ f ihf =>
    intro i hi hf
    rw [F_X4_shareOfSure_13_s, hs]
    rcases Nat.lt_or_ge i n with z | z
    · have hx := ihf (i + 1) (by omega) (by omega)
      rw [if_neg (nI_ge z (by omega)), ob1_s (get_4 i hs (by omega) z), ob1_s (get_0 i hs (by omega) z), ob1_s (get_8 i hs (by omega) z), nI_1]
      by_cases y4 : tc T i 4 = 0
      · rw [if_pos y4]
        by_cases y0 : tc T i 0 = 7
        · rw [if_pos y0]
          rw [cnI_f (p := pSur T) (fun w => (of_decide_eq_true w).2.1 y0)] at hx
          exact hx
        · rw [if_neg y0]
          by_cases y8 : tc T i 8 = 0
          · rw [if_pos y8, nI_1]
            rw [cnI_t (p := pSur T) (decide_eq_true ⟨y4, y0, y8⟩)] at hx
            exact hx
          · rw [if_neg y8]
            rw [cnI_f (p := pSur T) (fun w => y8 (of_decide_eq_true w).2.2)] at hx
            exact hx
      · rw [if_neg y4]
        rw [cnI_f (p := pSur T) (fun w => y4 (of_decide_eq_true w).1)] at hx
        exact hx
    · obtain rfl : i = n := by omega
      have := cnI_le (pSur T) i
      rw [if_pos (nI_le (Nat.le_refl _) (by omega)), og_t (shr_n64 h0 hn (by omega))]
      unfold shr; rw [if_neg h0]
theorem share_cl (hs : g_Tree_size T = nI n) (hn : n ≤ 30) : F_X4_shareOfSure T = some (shr (cnI (pSur T) n) n) := by
  unfold F_X4_shareOfSure
  rw [hs]
  by_cases z : n = 0
  · subst z
    rw [if_neg (by decide)]
    rfl
  · rw [if_pos (show (0 : Int32) < nI n from nI_lt (a := 0) (by omega) (by omega))]
    exact sur_loop hs hn z 5000 0 (Nat.zero_le _) (by omega)
end SHN
