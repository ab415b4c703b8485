/-! ===== pure: the tree's cells ===== -/
def tc (T : S_Tree) (r k : Nat) : Int32 := g_Tree_cells T (r * 9 + k)
def tput (T : S_Tree) (r k : Nat) (v : Int32) : S_Tree := s_Tree_cells T (upd (g_Tree_cells T) (r * 9 + k) v)
theorem tput_size (T : S_Tree) (r k : Nat) (v : Int32) : g_Tree_size (tput T r k v) = g_Tree_size T := rfl
theorem tput_docs (T : S_Tree) (r k : Nat) (v : Int32) : g_Tree_documents (tput T r k v) = g_Tree_documents T := rfl
theorem tc_tput {T : S_Tree} {r k r' k' : Nat} {v : Int32} (hk : k < 9) (hk' : k' < 9) : tc (tput T r k v) r' k' = if r' = r ∧ k' = k then v else tc T r' k' := by
  show (if r' * 9 + k' = r * 9 + k then v else g_Tree_cells T (r' * 9 + k')) = _
  by_cases h : r' = r ∧ k' = k
  · rw [if_pos h, if_pos (by rw [h.1, h.2])]
  · rw [if_neg h, if_neg (by omega)]
    rfl
theorem ix9 (r k : Nat) : nI r * (9 : Int32) + nI k = nI (r * 9 + k) := by rw [show (9 : Int32) = nI 9 from rfl, pk_mul, nI_add]
theorem get_at {T : S_Tree} {n r : Nat} (k : Nat) {x y : Int32} (hs : g_Tree_size T = nI n) (hn : n ≤ 64) (hr : r < n) (hk : k < 9) (hx : x = nI r) (hy : y = nI k) : F_X3_get T x y = some (tc T r k) := by
  subst hx; subst hy
  unfold F_X3_get
  rw [if_neg (nI_pos (by omega)), hs, if_neg (nI_ge hr (by omega)), ix9, if_neg (nI_pos (by omega)), show (576 : Int32) = nI 576 from rfl, if_neg (nI_ge (by omega) (by omega)), og_t (inb_nI (by omega) (by omega)), nI_clamp (by omega)]
  rfl
theorem get_none {T : S_Tree} {y : Int32} : F_X3_get T (-1) y = some 0 := by
  unfold F_X3_get
  rw [if_pos (by decide)]
theorem put_at {T : S_Tree} {n r : Nat} (k : Nat) {x y v : Int32} (hs : g_Tree_size T = nI n) (hn : n ≤ 64) (hr : r < n) (hk : k < 9) (hx : x = nI r) (hy : y = nI k) : F_X3_put T x y v = some (tput T r k v) := by
  subst hx; subst hy
  unfold F_X3_put
  rw [if_neg (nI_pos (by omega)), hs, if_neg (nI_ge hr (by omega)), ix9, if_neg (nI_pos (by omega)), show (576 : Int32) = nI 576 from rfl, if_neg (nI_ge (by omega) (by omega)), og_t (inb_nI (by omega) (by omega)), nI_clamp (by omega)]
  rfl
theorem get_0 {T : S_Tree} {n : Nat} (r : Nat) (hs : g_Tree_size T = nI n) (hn : n ≤ 64) (hr : r < n) : F_X3_get T (nI r) 0 = some (tc T r 0) := get_at 0 hs hn hr (by omega) rfl rfl
theorem put_0 {T : S_Tree} {n : Nat} (r : Nat) {v : Int32} (hs : g_Tree_size T = nI n) (hn : n ≤ 64) (hr : r < n) : F_X3_put T (nI r) 0 v = some (tput T r 0 v) := put_at 0 hs hn hr (by omega) rfl rfl
theorem get_1 {T : S_Tree} {n : Nat} (r : Nat) (hs : g_Tree_size T = nI n) (hn : n ≤ 64) (hr : r < n) : F_X3_get T (nI r) 1 = some (tc T r 1) := get_at 1 hs hn hr (by omega) rfl rfl
theorem put_1 {T : S_Tree} {n : Nat} (r : Nat) {v : Int32} (hs : g_Tree_size T = nI n) (hn : n ≤ 64) (hr : r < n) : F_X3_put T (nI r) 1 v = some (tput T r 1 v) := put_at 1 hs hn hr (by omega) rfl rfl
theorem get_2 {T : S_Tree} {n : Nat} (r : Nat) (hs : g_Tree_size T = nI n) (hn : n ≤ 64) (hr : r < n) : F_X3_get T (nI r) 2 = some (tc T r 2) := get_at 2 hs hn hr (by omega) rfl rfl
theorem put_2 {T : S_Tree} {n : Nat} (r : Nat) {v : Int32} (hs : g_Tree_size T = nI n) (hn : n ≤ 64) (hr : r < n) : F_X3_put T (nI r) 2 v = some (tput T r 2 v) := put_at 2 hs hn hr (by omega) rfl rfl
theorem get_3 {T : S_Tree} {n : Nat} (r : Nat) (hs : g_Tree_size T = nI n) (hn : n ≤ 64) (hr : r < n) : F_X3_get T (nI r) 3 = some (tc T r 3) := get_at 3 hs hn hr (by omega) rfl rfl
theorem put_3 {T : S_Tree} {n : Nat} (r : Nat) {v : Int32} (hs : g_Tree_size T = nI n) (hn : n ≤ 64) (hr : r < n) : F_X3_put T (nI r) 3 v = some (tput T r 3 v) := put_at 3 hs hn hr (by omega) rfl rfl
theorem get_4 {T : S_Tree} {n : Nat} (r : Nat) (hs : g_Tree_size T = nI n) (hn : n ≤ 64) (hr : r < n) : F_X3_get T (nI r) 4 = some (tc T r 4) := get_at 4 hs hn hr (by omega) rfl rfl
theorem put_4 {T : S_Tree} {n : Nat} (r : Nat) {v : Int32} (hs : g_Tree_size T = nI n) (hn : n ≤ 64) (hr : r < n) : F_X3_put T (nI r) 4 v = some (tput T r 4 v) := put_at 4 hs hn hr (by omega) rfl rfl
theorem get_5 {T : S_Tree} {n : Nat} (r : Nat) (hs : g_Tree_size T = nI n) (hn : n ≤ 64) (hr : r < n) : F_X3_get T (nI r) 5 = some (tc T r 5) := get_at 5 hs hn hr (by omega) rfl rfl
theorem put_5 {T : S_Tree} {n : Nat} (r : Nat) {v : Int32} (hs : g_Tree_size T = nI n) (hn : n ≤ 64) (hr : r < n) : F_X3_put T (nI r) 5 v = some (tput T r 5 v) := put_at 5 hs hn hr (by omega) rfl rfl
theorem get_6 {T : S_Tree} {n : Nat} (r : Nat) (hs : g_Tree_size T = nI n) (hn : n ≤ 64) (hr : r < n) : F_X3_get T (nI r) 6 = some (tc T r 6) := get_at 6 hs hn hr (by omega) rfl rfl
theorem put_6 {T : S_Tree} {n : Nat} (r : Nat) {v : Int32} (hs : g_Tree_size T = nI n) (hn : n ≤ 64) (hr : r < n) : F_X3_put T (nI r) 6 v = some (tput T r 6 v) := put_at 6 hs hn hr (by omega) rfl rfl
theorem get_7 {T : S_Tree} {n : Nat} (r : Nat) (hs : g_Tree_size T = nI n) (hn : n ≤ 64) (hr : r < n) : F_X3_get T (nI r) 7 = some (tc T r 7) := get_at 7 hs hn hr (by omega) rfl rfl
theorem put_7 {T : S_Tree} {n : Nat} (r : Nat) {v : Int32} (hs : g_Tree_size T = nI n) (hn : n ≤ 64) (hr : r < n) : F_X3_put T (nI r) 7 v = some (tput T r 7 v) := put_at 7 hs hn hr (by omega) rfl rfl
theorem get_8 {T : S_Tree} {n : Nat} (r : Nat) (hs : g_Tree_size T = nI n) (hn : n ≤ 64) (hr : r < n) : F_X3_get T (nI r) 8 = some (tc T r 8) := get_at 8 hs hn hr (by omega) rfl rfl
theorem put_8 {T : S_Tree} {n : Nat} (r : Nat) {v : Int32} (hs : g_Tree_size T = nI n) (hn : n ≤ 64) (hr : r < n) : F_X3_put T (nI r) 8 v = some (tput T r 8 v) := put_at 8 hs hn hr (by omega) rfl rfl
theorem has_at {T : S_Tree} {n r : Nat} (hs : g_Tree_size T = nI n) (hn : n ≤ 64) (hr : r < n) : F_X3_has T (nI r) = some true := by
  unfold F_X3_has
  rw [if_neg (nI_pos (by omega)), hs, if_neg (nI_ge hr (by omega))]
theorem has_none {T : S_Tree} : F_X3_has T (-1) = some false := by
  unfold F_X3_has
  rw [if_pos (by decide)]
/-! ===== pure: scans of the rows ===== -/
theorem behind_loop {T : S_Tree} {n d : Nat} (hs : g_Tree_size T = nI n) (hn : n ≤ 64) : ∀ (f j b : Nat), j ≤ b → b ≤ n → b - j < f → (∀ i, j ≤ i → i < b → ∃ e, tc T i 2 = nI e ∧ d < e ∧ e < 2 ^ 31) → (b < n → ∃ e, tc T b 2 = nI e ∧ e ≤ d) → d < 2 ^ 31 → F_X3_behind_11 T f (nI d) (nI j) = some (nI b)
  | 0, j, b, _, _, h, _, _, _ => absurd h (Nat.not_lt_zero _)
  | f + 1, j, b, hj, hb, hf, hin, hat, hd => by
    rw [F_X3_behind_11_s, hs]
    by_cases q : j = b
    · subst q
      by_cases q2 : j = n
      · rw [if_pos (by rw [q2]; exact nI_le (Nat.le_refl _) (by omega)), q2]
      · obtain ⟨e, h1, h2⟩ := hat (by omega)
        rw [if_neg (nI_ge (by omega) (by omega)), ob1_s (get_2 j hs hn (by omega)), if_pos (by rw [h1]; exact nI_le h2 hd)]
    · obtain ⟨e, h1, h2, h3⟩ := hin j (Nat.le_refl _) (by omega)
      rw [if_neg (nI_ge (by omega) (by omega)), ob1_s (get_2 j hs hn (by omega)), if_neg (by rw [h1]; exact nI_ge h2 h3), nI_1]
      exact behind_loop hs hn f (j + 1) b (by omega) hb (by omega) (fun i h1 h2 => hin i (by omega) h2) hat hd
theorem find_loop {T : S_Tree} {n d : Nat} {l : Int32} (hs : g_Tree_size T = nI n) (hn : n ≤ 64) (hd : d < 2 ^ 31) (b : Nat) (hb : b ≤ n) (r : Int32)
    (hat : (b = n ∧ r = -1) ∨ (b < n ∧ ∃ e, tc T b 2 = nI e ∧ e < d ∧ r = -1) ∨ (b < n ∧ tc T b 2 = nI d ∧ tc T b 1 = l ∧ r = nI b)) : ∀ (f j : Nat), j ≤ b → b - j < f → (∀ i, j ≤ i → i < b → ∃ e, tc T i 2 = nI e ∧ d ≤ e ∧ e < 2 ^ 31 ∧ (e = d → ¬ tc T i 1 = l)) → F_X3_findBelow_24 l T f (nI d) (nI j) = some r
  | 0, j, _, h, _ => absurd h (Nat.not_lt_zero _)
  | f + 1, j, hj, hf, hin => by
    rw [F_X3_findBelow_24_s, hs]
    by_cases q : j = b
    · subst q
      rcases hat with ⟨h1, h2⟩ | ⟨h1, e, h2, h3, h4⟩ | ⟨h1, h2, h3, h4⟩
      · rw [if_pos (by rw [h1]; exact nI_le (Nat.le_refl _) (by omega)), h2]
      · rw [if_neg (nI_ge h1 (by omega)), ob1_s (get_2 _ hs hn h1), if_pos (by rw [h2]; exact nI_lt h3 hd), h4]
      · rw [if_neg (nI_ge h1 (by omega)), ob1_s (get_2 _ hs hn h1), if_neg (by rw [h2]; exact nI_nlt (Nat.le_refl _) hd), ob1_s (get_2 _ hs hn h1), if_pos h2, ob1_s (get_1 _ hs hn h1), if_pos h3, h4]
    · obtain ⟨e, h1, h2, h3, h4⟩ := hin j (Nat.le_refl _) (by omega)
      have ihr := find_loop hs hn hd b hb r hat f (j + 1) (by omega) (by omega) (fun i q1 q2 => hin i (by omega) q2)
      rw [if_neg (nI_ge (by omega) (by omega)), ob1_s (get_2 j hs hn (by omega)), if_neg (by rw [h1]; exact nI_nlt h2 h3), ob1_s (get_2 j hs hn (by omega))]
      by_cases q2 : e = d
      · rw [if_pos (by rw [h1, q2]), ob1_s (get_1 j hs hn (by omega)), if_neg (h4 q2), nI_1]
        exact ihr
      · rw [if_neg (by rw [h1]; intro z; exact q2 (nI_inj h3 hd z)), nI_1]
        exact ihr
/-! ===== pure: what the methods of Tree do to the rows ===== -/
theorem cpy_row {f g : Nat → Int32} {a b m r k : Nat} (hk : k < 9) : va_cpy f g (a * 9) (b * 9) (m * 9) (r * 9 + k) = if b ≤ r ∧ r < b + m then f ((r - b + a) * 9 + k) else g (r * 9 + k) := by
  unfold va_cpy
  by_cases h : b ≤ r ∧ r < b + m
  · rw [if_pos h, if_pos (by omega)]
    congr 1
    omega
  · rw [if_neg h, if_neg (by omega)]
theorem cpy_0 {f g : Nat → Int32} {a b : Nat} : va_cpy f g a b 0 = g := by
  funext k
  unfold va_cpy
  rw [if_neg (by omega)]
theorem mv_ok {f g : Nat → Int32} {a b m : Nat} (h1 : a + m ≤ 64) (h2 : b + m ≤ 64) : F_X3_moveCells f g (nI a) (nI b) (nI m) = some (va_cpy f g (a * 9) (b * 9) (m * 9)) := by
  unfold F_X3_moveCells
  have e : ∀ n, nI n * (9 : Int32) = nI (n * 9) := fun n => by rw [show (9 : Int32) = nI 9 from rfl, pk_mul]
  rw [e, e, e, if_neg (nI_pos (by omega)), if_neg (nI_pos (by omega))]
  by_cases hm : m = 0
  · subst hm
    rw [if_pos (by decide), Nat.zero_mul, cpy_0]
  · rw [if_neg (nI_nle (by omega) (by omega)), show (576 : Int32) = nI 576 from rfl, pk_sub (by omega), pk_sub (by omega), if_neg (nI_nlt (by omega) (by omega)), if_neg (nI_nlt (by omega) (by omega))]
    have hc : cpok (nI (a * 9)) (nI (b * 9)) (nI (m * 9)) 576 576 = true := by
      unfold cpok
      refine decide_eq_true ⟨nI_pos (by omega), nI_pos (by omega), nI_pos (by omega), ?_, ?_⟩
      · rw [nI_clamp (by omega), nI_clamp (by omega)]; omega
      · rw [nI_clamp (by omega), nI_clamp (by omega)]; omega
    rw [og_t hc, nI_clamp (by omega), nI_clamp (by omega), nI_clamp (by omega)]
theorem copy_ok (S : S_Tree) {S1 : S_Tree} {n : Nat} (hs : g_Tree_size S1 = nI n) (hn : n ≤ 64) : ∃ S', F_X3_copyFrom S S1 = some S' ∧ g_Tree_size S' = nI n ∧ g_Tree_documents S' = g_Tree_documents S1 ∧ ∀ r k, r < n → k < 9 → tc S' r k = tc S1 r k := by
  have h := mv_ok (f := g_Tree_cells S1) (g := g_Tree_cells S) (a := 0) (b := 0) (m := n) (by omega) (by omega)
  rw [nI_0] at h
  refine ⟨s_Tree_documents (s_Tree_size (s_Tree_cells S (va_cpy (g_Tree_cells S1) (g_Tree_cells S) (0 * 9) (0 * 9) (n * 9))) (g_Tree_size S1)) (g_Tree_documents S1), ?_, ?_, ?_, ?_⟩
  · unfold F_X3_copyFrom
    rw [hs, ob1_s h]
  · exact hs
  · rfl
  · intro r k hr hk
    show va_cpy (g_Tree_cells S1) (g_Tree_cells S) (0 * 9) (0 * 9) (n * 9) (r * 9 + k) = _
    rw [cpy_row hk, if_pos (by omega)]
    show g_Tree_cells S1 ((r - 0 + 0) * 9 + k) = g_Tree_cells S1 (r * 9 + k)
    rw [Nat.sub_zero, Nat.add_zero]
/-- a row as startRow leaves it -/
def fresh (l d : Int32) (k : Nat) : Int32 := if k = 1 then l else if k = 2 then d else if k = 7 then -1 else 0
theorem start_loop {n r : Nat} {l d : Int32} (hn : n ≤ 64) (hr : r < n) : ∀ (f j : Nat) (S : S_Tree), j ≤ 9 → 9 - j < f → g_Tree_size S = nI n → (∀ k, k < j → tc S r k = 0) →
    ∃ S', F_X3_startRow_3 (nI r) l d f S (nI j) = some S' ∧ g_Tree_size S' = nI n ∧ g_Tree_documents S' = g_Tree_documents S ∧ (∀ k, k < 9 → tc S' r k = fresh l d k) ∧ ∀ r' k, r' ≠ r → k < 9 → tc S' r' k = tc S r' k
  | 0, j, S, _, h, _, _ => absurd h (Nat.not_lt_zero _)
  | f + 1, j, S, hj, hf, hs, h0 => by
    rw [F_X3_startRow_3_s]
    by_cases q : j = 9
    · subst q
      rw [if_pos (by decide)]
      have s1 : g_Tree_size (tput S r 1 l) = nI n := hs
      have s2 : g_Tree_size (tput (tput S r 1 l) r 2 d) = nI n := hs
      refine ⟨tput (tput (tput S r 1 l) r 2 d) r 7 (-1), ?_, hs, rfl, ?_, ?_⟩
      · rw [ob1_s (put_1 _ hs hn hr), ob1_s (put_2 _ s1 hn hr), ob1_s (put_7 _ s2 hn hr)]
      · intro k hk
        rw [tc_tput (by omega) hk, tc_tput (by omega) hk, tc_tput (by omega) hk]
        unfold fresh
        by_cases q1 : k = 1
        · subst q1; rw [if_neg (by omega), if_neg (by omega), if_pos ⟨rfl, rfl⟩, if_pos rfl]
        · by_cases q2 : k = 2
          · subst q2; rw [if_neg (by omega), if_pos ⟨rfl, rfl⟩, if_neg (by omega), if_pos rfl]
          · by_cases q7 : k = 7
            · subst q7; rw [if_pos ⟨rfl, rfl⟩, if_neg (by omega), if_neg (by omega), if_pos rfl]
            · rw [if_neg (by omega), if_neg (by omega), if_neg (by omega), if_neg q1, if_neg q2, if_neg q7, h0 k (by omega)]
      · intro r' k hne hk
        rw [tc_tput (by omega) hk, tc_tput (by omega) hk, tc_tput (by omega) hk, if_neg (by omega), if_neg (by omega), if_neg (by omega)]
    · have s1 : g_Tree_size (tput S r j 0) = nI n := hs
      obtain ⟨S', h1, h2, h3, h4, h5⟩ := start_loop hn hr f (j + 1) (tput S r j 0) (by omega) (by omega) s1 (fun k hk => by
        rw [tc_tput (by omega) (by omega)]
        by_cases z : k = j
        · rw [if_pos ⟨rfl, z⟩]
        · rw [if_neg (by omega), h0 k (by omega)])
      refine ⟨S', ?_, h2, h3, h4, fun r' k hne hk => by rw [h5 r' k hne hk, tc_tput (by omega) hk, if_neg (by omega)]⟩
      rw [if_neg (by rw [show (9 : Int32) = nI 9 from rfl]; exact nI_ge (by omega) (by omega)), ob1_s (put_at j hs hn hr (by omega) rfl rfl), nI_1, h1]
theorem start_ok {n r : Nat} {S : S_Tree} {l d : Int32} (hs : g_Tree_size S = nI n) (hn : n ≤ 64) (hr : r < n) : ∃ S', F_X3_startRow S (nI r) l d = some S' ∧ g_Tree_size S' = nI n ∧ g_Tree_documents S' = g_Tree_documents S ∧ (∀ k, k < 9 → tc S' r k = fresh l d k) ∧ ∀ r' k, r' ≠ r → k < 9 → tc S' r' k = tc S r' k := by
  unfold F_X3_startRow
  rw [← nI_0]
  exact start_loop hn hr 5000 0 S (by omega) (by omega) hs (fun k hk => by omega)
theorem add_ok {n : Nat} {S : S_Tree} {l d : Int32} (hs : g_Tree_size S = nI n) (hn : n < 64) : ∃ S', F_X3_addRow S l d = some (nI n, S') ∧ g_Tree_size S' = nI (n + 1) ∧ g_Tree_documents S' = g_Tree_documents S ∧ (∀ k, k < 9 → tc S' n k = fresh l d k) ∧ ∀ r' k, r' ≠ n → k < 9 → tc S' r' k = tc S r' k := by
  have s1 : g_Tree_size (s_Tree_size S (nI (n + 1))) = nI (n + 1) := rfl
  obtain ⟨S', h1, h2, h3, h4, h5⟩ := start_ok (l := l) (d := d) s1 (by omega) (Nat.lt_succ_self n)
  refine ⟨S', ?_, h2, h3, h4, h5⟩
  unfold F_X3_addRow
  rw [hs, show (64 : Int32) = nI 64 from rfl, if_pos (nI_lt hn (by omega)), nI_1, nI_pred, ob1_s h1, h2, nI_pred]
theorem ins_86 {S : S_Tree} {n b : Nat} {l d : Int32} (hs : g_Tree_size S = nI n) (hn : n < 64) (hb : b ≤ n) : ∃ S', F_X3_insertBelow_86 l S d (nI b) = some (nI b, S') ∧ g_Tree_size S' = nI (n + 1) ∧ g_Tree_documents S' = g_Tree_documents S ∧ (∀ k, k < 9 → tc S' b k = fresh l d k) ∧ (∀ r k, r < b → k < 9 → tc S' r k = tc S r k) ∧ ∀ r k, b ≤ r → r < n → k < 9 → tc S' (r + 1) k = tc S r k := by
  have hmv := mv_ok (f := g_Tree_cells S) (g := g_Tree_cells S) (a := b) (b := b + 1) (m := n - b) (by omega) (by omega)
  have s1 : g_Tree_size (s_Tree_size (s_Tree_cells S (va_cpy (g_Tree_cells S) (g_Tree_cells S) (b * 9) ((b + 1) * 9) ((n - b) * 9))) (nI (n + 1))) = nI (n + 1) := rfl
  obtain ⟨S', h1, h2, h3, h4, h5⟩ := start_ok (l := l) (d := d) s1 (by omega) (show b < n + 1 by omega)
  have hrow : ∀ r k, k < 9 → tc (s_Tree_size (s_Tree_cells S (va_cpy (g_Tree_cells S) (g_Tree_cells S) (b * 9) ((b + 1) * 9) ((n - b) * 9))) (nI (n + 1))) r k = if b + 1 ≤ r ∧ r < b + 1 + (n - b) then tc S (r - (b + 1) + b) k else tc S r k := fun r k hk => cpy_row hk
  refine ⟨S', ?_, h2, h3, h4, ?_, ?_⟩
  · unfold F_X3_insertBelow_86
    rw [hs, show (64 : Int32) = nI 64 from rfl, if_pos (nI_lt hn (by omega)), nI_1, nI_1, pk_sub hb, ob1_s hmv, ob1_s h1]
  · intro r k hr hk
    rw [h5 r k (by omega) hk, hrow r k hk, if_neg (by omega)]
  · intro r k hr hr2 hk
    rw [h5 (r + 1) k (by omega) hk, hrow (r + 1) k hk, if_pos (by omega), show r + 1 - (b + 1) + b = r by omega]
theorem ins_loop {S : S_Tree} {n d : Nat} {l : Int32} (hs : g_Tree_size S = nI n) (hn : n ≤ 64) (hd : d < 2 ^ 31) (b : Nat) (hb : b ≤ n)
    (hat : b = n ∨ (b < n ∧ ∃ e, tc S b 2 = nI e ∧ e < 2 ^ 31 ∧ (e < d ∨ (e = d ∧ l ≤ tc S b 1)))) : ∀ (f j : Nat), j ≤ b → b - j < f → (∀ i, j ≤ i → i < b → ∃ e, tc S i 2 = nI e ∧ e < 2 ^ 31 ∧ (d < e ∨ (e = d ∧ ¬ l ≤ tc S i 1))) → F_X3_insertBelow_38 l f S (nI d) (nI j) = F_X3_insertBelow_86 l S (nI d) (nI b)
  | 0, j, _, h, _ => absurd h (Nat.not_lt_zero _)
  | f + 1, j, hj, hf, hin => by
    rw [F_X3_insertBelow_38_s, hs]
    by_cases q : j = b
    · subst q
      rcases hat with h1 | ⟨h1, e, h2, h3, h4⟩
      · rw [if_pos (by rw [h1]; exact nI_le (Nat.le_refl _) (by omega))]
      · rw [if_neg (nI_ge h1 (by omega)), ob1_s (get_2 _ hs hn h1)]
        rcases h4 with h4 | ⟨h4, h5⟩
        · rw [if_pos (by rw [h2]; exact nI_lt h4 hd)]
        · subst h4
          rw [if_neg (by rw [h2]; exact nI_nlt (Nat.le_refl _) hd), ob1_s (get_2 _ hs hn h1), if_neg (by rw [h2]; exact nI_nlt (Nat.le_refl _) hd), ob1_s (get_1 _ hs hn h1), if_pos h5]
    · obtain ⟨e, h1, h3, h2⟩ := hin j (Nat.le_refl _) (by omega)
      have ihr := ins_loop hs hn hd b hb hat f (j + 1) (by omega) (by omega) (fun i q1 q2 => hin i (by omega) q2)
      rw [if_neg (nI_ge (by omega) (by omega)), ob1_s (get_2 j hs hn (by omega)), if_neg (by rw [h1]; exact nI_nlt (by omega) h3), ob1_s (get_2 j hs hn (by omega))]
      rcases h2 with h2 | ⟨h2, h4⟩
      · rw [if_pos (by rw [h1]; exact nI_lt h2 h3), nI_1, ihr]
      · subst h2
        rw [if_neg (by rw [h1]; exact nI_nlt (Nat.le_refl _) hd), ob1_s (get_1 j hs hn (by omega)), if_neg h4, nI_1, ihr]
/-! ===== pure: a tree's rows hold a map ===== -/
def l32 (c : Nat) : Int32 := if c = 0 then -1 else nI (ltr c)
def rowIs (T : S_Tree) (i c : Nat) (d : Dt) : Prop := tc T i 0 = d.1 ∧ tc T i 1 = l32 c ∧ tc T i 2 = nI (dp c) ∧ tc T i 3 = d.2.1 ∧ tc T i 4 = d.2.2.1 ∧ tc T i 5 = d.2.2.2.1 ∧ tc T i 6 = d.2.2.2.2
/-- the rows of T are the nodes of M ahead of x -/
def TR (T : S_Tree) (M : Mp) (x : Nat) : Prop := g_Tree_size T = nI (ix M x) ∧ ix M x ≤ 64 ∧ ∀ c d, c < x → M c = some d → rowIs T (ix M c) c d
def rn (M : Mp) (c : Nat) : Int32 := if (M c).isSome then nI (ix M c) else -1
theorem rn_some {M : Mp} {c : Nat} {d : Dt} (h : M c = some d) : rn M c = nI (ix M c) := by unfold rn; rw [h]; rfl
theorem rn_none {M : Mp} {c : Nat} (h : M c = none) : rn M c = -1 := by unfold rn; rw [h]; rfl
theorem ix_mid {M : Mp} {a b i : Nat} (h1 : ix M a ≤ i) (h2 : i < ix M b) : ∃ x d, a ≤ x ∧ x < b ∧ M x = some d ∧ ix M x = i := by
  obtain ⟨x, d, g1, g2, g3⟩ := ix_at h2
  refine ⟨x, d, ?_, g1, g2, g3⟩
  rcases Nat.lt_or_ge x a with q | q
  · have := ix_lt g2 q; omega
  · exact q
theorem vd_share {c : Nat} (h : okc c) : c + wt c ≤ 10000 := by
  obtain ⟨h1, h2⟩ := h
  rcases dpw c with h | h | h | h | h <;> omega
theorem TR.size {T : S_Tree} {M : Mp} {x : Nat} (h : TR T M x) : g_Tree_size T = nI (ix M x) := h.1
theorem TR.le {T : S_Tree} {M : Mp} {x : Nat} (h : TR T M x) : ix M x ≤ 64 := h.2.1
theorem TR.get {T : S_Tree} {M : Mp} {x c : Nat} {d : Dt} (h : TR T M x) (hc : M c = some d) (hx : c < x) (k : Nat) (hk : k < 9) {i y : Int32} (hi : i = nI (ix M c)) (hy : y = nI k) : F_X3_get T i y = some (tc T (ix M c) k) :=
  get_at k h.1 h.2.1 (ix_lt hc hx) hk hi hy
theorem TR.g0 {T : S_Tree} {M : Mp} {x c : Nat} {d : Dt} (h : TR T M x) (hc : M c = some d) (hx : c < x) : F_X3_get T (nI (ix M c)) 0 = some (tc T (ix M c) 0) := h.get hc hx 0 (by omega) rfl rfl
theorem TR.g1 {T : S_Tree} {M : Mp} {x c : Nat} {d : Dt} (h : TR T M x) (hc : M c = some d) (hx : c < x) : F_X3_get T (nI (ix M c)) 1 = some (tc T (ix M c) 1) := h.get hc hx 1 (by omega) rfl rfl
theorem TR.g2 {T : S_Tree} {M : Mp} {x c : Nat} {d : Dt} (h : TR T M x) (hc : M c = some d) (hx : c < x) : F_X3_get T (nI (ix M c)) 2 = some (tc T (ix M c) 2) := h.get hc hx 2 (by omega) rfl rfl
theorem TR.g3 {T : S_Tree} {M : Mp} {x c : Nat} {d : Dt} (h : TR T M x) (hc : M c = some d) (hx : c < x) : F_X3_get T (nI (ix M c)) 3 = some (tc T (ix M c) 3) := h.get hc hx 3 (by omega) rfl rfl
theorem TR.g4 {T : S_Tree} {M : Mp} {x c : Nat} {d : Dt} (h : TR T M x) (hc : M c = some d) (hx : c < x) : F_X3_get T (nI (ix M c)) 4 = some (tc T (ix M c) 4) := h.get hc hx 4 (by omega) rfl rfl
theorem TR.g5 {T : S_Tree} {M : Mp} {x c : Nat} {d : Dt} (h : TR T M x) (hc : M c = some d) (hx : c < x) : F_X3_get T (nI (ix M c)) 5 = some (tc T (ix M c) 5) := h.get hc hx 5 (by omega) rfl rfl
theorem TR.g6 {T : S_Tree} {M : Mp} {x c : Nat} {d : Dt} (h : TR T M x) (hc : M c = some d) (hx : c < x) : F_X3_get T (nI (ix M c)) 6 = some (tc T (ix M c) 6) := h.get hc hx 6 (by omega) rfl rfl
theorem TR.g7 {T : S_Tree} {M : Mp} {x c : Nat} {d : Dt} (h : TR T M x) (hc : M c = some d) (hx : c < x) : F_X3_get T (nI (ix M c)) 7 = some (tc T (ix M c) 7) := h.get hc hx 7 (by omega) rfl rfl
theorem TR.g8 {T : S_Tree} {M : Mp} {x c : Nat} {d : Dt} (h : TR T M x) (hc : M c = some d) (hx : c < x) : F_X3_get T (nI (ix M c)) 8 = some (tc T (ix M c) 8) := h.get hc hx 8 (by omega) rfl rfl
theorem TR.put {T : S_Tree} {M : Mp} {x c : Nat} {d : Dt} (h : TR T M x) (hc : M c = some d) (hx : c < x) (k : Nat) (hk : k < 9) {i y v : Int32} (hi : i = nI (ix M c)) (hy : y = nI k) : F_X3_put T i y v = some (tput T (ix M c) k v) :=
  put_at k h.1 h.2.1 (ix_lt hc hx) hk hi hy
theorem TR.row {T : S_Tree} {M : Mp} {x c : Nat} {d : Dt} (h : TR T M x) (hc : M c = some d) (hx : c < x) : rowIs T (ix M c) c d := h.2.2 c d hx hc
/-- the first node behind a node's share isn't deeper -/
theorem after_dp {M : Mp} (hM : Wf0 M) {c x : Nat} {d e : Dt} (hc : M c = some d) (hx : M x = some e) (h1 : c + wt c ≤ x) (hn : ∀ y, c + wt c ≤ y → y < x → M y = none) : dp x ≤ dp c := by
  rcases Nat.lt_or_ge (dp c) (dp x) with q | q
  · exfalso
    have h0 : x ≠ 0 := by have := wt_pos c; omega
    obtain ⟨e', g1⟩ := hM.up hx h0
    obtain ⟨p1, p2, p3, p4, p5⟩ := ch_pa (hM.vd hx) h0
    have h4 := dp_le x
    have hw := (ch_ok (l := ltr x) p3 (by omega) p2).2.2.2.2
    rw [p1] at hw
    have hp := wt_pos x
    rcases Nat.lt_or_ge (pa x) (c + wt c) with r | r
    · rcases Nat.lt_trichotomy c (pa x) with z | z | z
      · have := (nest (hM.vd hc) p3 z r).2.1
        omega
      · rw [← z] at hw; omega
      · have := (nest p3 (hM.vd hc) z (by omega)).1
        omega
    · rw [hn (pa x) r p5] at g1; cases g1
  · exact q
theorem share_le {M : Mp} (hM : Wf0 M) {c : Nat} {d : Dt} (hc : M c = some d) : ix M c + 1 ≤ ix M (c + wt c) ∧ ix M (c + wt c) ≤ ix M 10000 := by
  have h1 := ix_lt hc (show c < c + wt c by have := wt_pos c; omega)
  have h2 := @ix_mono M (c + wt c) 10000 (vd_share (hM.vd hc))
  omega
/-- the row behind a node's share: the depth there -/
theorem behind_at {T : S_Tree} {M : Mp} (hM : Wf0 M) (hT : TR T M 10000) {c : Nat} {d : Dt} (hc : M c = some d) (h : ix M (c + wt c) < ix M 10000) : ∃ e, tc T (ix M (c + wt c)) 2 = nI e ∧ e ≤ dp c := by
  obtain ⟨x, e, h1, h2, h3, h4, h5⟩ := ix_next h
  refine ⟨dp x, ?_, after_dp hM hc h3 h1 h5⟩
  rw [← h4]
  exact (hT.row h3 h2).2.2.1
theorem behind_in {T : S_Tree} {M : Mp} (hM : Wf0 M) (hT : TR T M 10000) {c i : Nat} {d : Dt} (hc : M c = some d) (h1 : ix M c + 1 ≤ i) (h2 : i < ix M (c + wt c)) : ∃ x e, c < x ∧ x < c + wt c ∧ M x = some e ∧ ix M x = i ∧ dp c < dp x ∧ rowIs T i x e := by
  rw [← ix_some hc] at h1
  obtain ⟨x, e, g1, g2, g3, g4⟩ := ix_mid h1 h2
  refine ⟨x, e, g1, g2, g3, g4, (nest (hM.vd hc) (hM.vd g3) g1 g2).1, ?_⟩
  rw [← g4]
  exact hT.row g3 (hM.lt g3)
theorem dp_lt31 (c : Nat) : dp c < 2 ^ 31 := by have := dp_le c; omega
theorem behind_ok {T : S_Tree} {M : Mp} (hM : Wf0 M) (hT : TR T M 10000) {c : Nat} {d : Dt} (hc : M c = some d) : F_X3_behind T (nI (ix M c)) = some (nI (ix M (c + wt c))) := by
  obtain ⟨s1, s2⟩ := share_le hM hc
  have hle := hT.le
  unfold F_X3_behind
  rw [ob1_s (hT.g2 hc (hM.lt hc)), (hT.row hc (hM.lt hc)).2.2.1, nI_1]
  refine behind_loop hT.size hle 5000 _ _ s1 s2 (by omega) ?_ ?_ (dp_lt31 c)
  · intro i h1 h2
    obtain ⟨x, e, g1, g2, g3, g4, g5, g6⟩ := behind_in hM hT hc h1 h2
    exact ⟨dp x, g6.2.2.1, g5, dp_lt31 x⟩
  · intro h
    exact behind_at hM hT hc h
theorem l32_nI {c : Nat} (h : c ≠ 0) : l32 c = nI (ltr c) := if_neg h
theorem lt_le (c : Nat) : ltr c < 10 := by unfold ltr; omega
theorem find_ok {T : S_Tree} {M : Mp} (hM : Wf0 M) (hT : TR T M 10000) {c l : Nat} {d : Dt} (hc : M c = some d) (hl : l < 9) : F_X3_findBelow T (nI (ix M c)) (nI l) = some (rn M (ch c l)) := by
  obtain ⟨s1, s2⟩ := share_le hM hc
  have hle := hT.le
  have hvc := hM.vd hc
  unfold F_X3_findBelow
  rw [ob1_s (has_at hT.size hle (by omega)), b2i_t, if_neg one_ne0, ob1_s (hT.g2 hc (hM.lt hc)), (hT.row hc (hM.lt hc)).2.2.1, nI_1, nI_1]
  have hd1 : dp c + 1 < 2 ^ 31 := by have := dp_le c; omega
  cases ht : M (ch c l) with
  | none =>
    rw [rn_none ht]
    refine find_loop hT.size hle hd1 (ix M (c + wt c)) s2 (-1) ?_ 5000 _ s1 (by omega) ?_
    · rcases Nat.lt_or_ge (ix M (c + wt c)) (ix M 10000) with q | q
      · obtain ⟨e, h1, h2⟩ := behind_at hM hT hc q
        exact Or.inr (Or.inl ⟨q, e, h1, by omega, rfl⟩)
      · exact Or.inl ⟨by omega, rfl⟩
    · intro i h1 h2
      obtain ⟨x, e, g1, g2, g3, g4, g5, g6⟩ := behind_in hM hT hc h1 h2
      refine ⟨dp x, g6.2.2.1, by omega, dp_lt31 x, fun h3 h4 => ?_⟩
      have hp := nest_pa hvc (hM.vd g3) g1 g2 h3
      have hq := (ch_pa (hM.vd g3) (by omega)).1
      rw [g6.2.1, l32_nI (by omega)] at h4
      have := nI_inj (by have := lt_le x; omega) (by omega) h4
      rw [hp, this] at hq
      rw [hq, g3] at ht; cases ht
  | some e0 =>
    rw [rn_some ht]
    have hlt : ch c l < 10000 := hM.lt ht
    have hd4 : dp c < 4 := by
      have h1 := dpw c
      have h2 := @ch_of c l
      omega
    obtain ⟨o1, o2, o3, o4, o5⟩ := ch_ok hvc hd4 hl
    obtain ⟨q1, q2⟩ := pa_ch hvc hd4 hl
    have hin : ch c l < c + wt c := by have := wt_pos (ch c l); omega
    have i1 := ix_lt ht hin
    have i2 := @ix_mono M (c + 1) (ch c l) (by omega)
    rw [ix_some hc] at i2
    have hr := hT.row ht hlt
    refine find_loop hT.size hle hd1 (ix M (ch c l)) (by omega) _ ?_ 5000 _ i2 (by omega) ?_
    · refine Or.inr (Or.inr ⟨by omega, ?_, ?_, rfl⟩)
      · rw [hr.2.2.1, o2]
      · rw [hr.2.1, l32_nI (by omega), q2]
    · intro i h1 h2
      obtain ⟨x, e, g1, g2, g3, g4, g5, g6⟩ := behind_in hM hT hc h1 (by omega)
      refine ⟨dp x, g6.2.2.1, by omega, dp_lt31 x, fun h3 h4 => ?_⟩
      have hp := nest_pa hvc (hM.vd g3) g1 g2 h3
      have hq := (ch_pa (hM.vd g3) (by omega)).1
      rw [g6.2.1, l32_nI (by omega)] at h4
      have := nI_inj (by have := lt_le x; omega) (by omega) h4
      rw [hp, this] at hq
      rw [← hq] at g4
      omega
/-- no node: the tables' answers -/
theorem find_none {T : S_Tree} {y : Int32} : F_X3_findBelow T (-1) y = some (-1) := by
  unfold F_X3_findBelow
  rw [ob1_s has_none, b2i_f, if_pos rfl]
theorem above_loop {T : S_Tree} {n d : Nat} (hs : g_Tree_size T = nI n) (hn : n ≤ 64) (hd : d < 2 ^ 31) (b : Nat) (hat : ∃ e, tc T b 2 = nI e ∧ e ≤ d) : ∀ (f j : Nat), b ≤ j → j < n → j - b < f → (∀ i, b < i → i ≤ j → ∃ e, tc T i 2 = nI e ∧ d < e ∧ e < 2 ^ 31) → F_X3_above_13 T f (nI d) (nI j) = some (nI b)
  | 0, j, _, _, h, _ => absurd h (Nat.not_lt_zero _)
  | f + 1, j, hj, hjn, hf, hin => by
    rw [F_X3_above_13_s, if_neg (nI_pos (by omega)), ob1_s (get_2 _ hs hn hjn)]
    by_cases q : j = b
    · subst q
      obtain ⟨e, h1, h2⟩ := hat
      rw [h1, if_pos (nI_le h2 hd), if_pos (nI_pos' (by omega))]
    · obtain ⟨e, h1, h2, h3⟩ := hin j (by omega) (Nat.le_refl _)
      rw [h1, if_neg (nI_ge h2 h3), nI_m j (by omega)]
      exact above_loop hs hn hd b hat f (j - 1) (by omega) (by omega) (by omega) (fun i h1 h2 => hin i h1 (by omega))
theorem above_ok {T : S_Tree} {M : Mp} (hM : Wf0 M) (hT : TR T M 10000) {c : Nat} {d : Dt} (hc : M c = some d) : F_X3_above T (nI (ix M c)) = some (if c = 0 then -1 else nI (ix M (pa c))) := by
  have hle := hT.le
  have hl := hM.lt hc
  have hn := ix_lt hc hl
  unfold F_X3_above
  rw [ob1_s (hT.g2 hc hl), (hT.row hc hl).2.2.1]
  by_cases h0 : c = 0
  · subst h0
    rw [if_pos rfl, F_X3_above_13_s]
    show (if nI 0 - 1 < 0 then (if (0 : Int32) ≤ nI 0 - 1 then some (nI 0 - 1) else some (-1)) else _) = _
    rw [if_pos (by decide), if_neg (by decide)]
  · obtain ⟨e', g1⟩ := hM.up hc h0
    obtain ⟨p1, p2, p3, p4, p5⟩ := ch_pa (hM.vd hc) h0
    have i1 := ix_lt g1 p5
    rw [if_neg h0, show (1 : Int32) = nI 1 from rfl, nI_sub (by omega), nI_sub (by omega)]
    refine above_loop hT.size hle (by have := dp_le c; omega) _ ⟨dp (pa c), (hT.row g1 (hM.lt g1)).2.2.1, by omega⟩ 5000 _ (by omega) (by omega) (by omega) ?_
    intro i h1 h2
    have hin : c < pa c + wt (pa c) := by
      have h4 := dp_le c
      have := ch_ok (l := ltr c) p3 (by omega) p2
      rw [p1] at this
      have := wt_pos c
      omega
    have i3 := ix_lt hc hin
    obtain ⟨x, e, q1, q2, q3, q4, q5, q6⟩ := behind_in hM hT g1 (i := i) (by omega) (by omega)
    exact ⟨dp x, q6.2.2.1, by omega, dp_lt31 x⟩
