/-! ===== pure: the relation, and the methods of the text ===== -/
/-- LearnedShapes and the reference stand alike -/
def INV (S : S_LS) (Z : Nat → S_State) (M : S_Model) : Prop := ST (g_LS_now S) (g_Model_now M) ∧ SVx S Z M ∧ ∃ N t, g_LS_length S = nI N ∧ CX (g_LS_codes S) t N ∧ TX M N t
theorem nI_between {v : Int32} {a b : Nat} (hb : b < 2 ^ 31) (ha : a < 2 ^ 31) (h1 : ¬ v < nI a) (h2 : v ≤ nI b) : ∃ c : Nat, v = nI c ∧ c ≤ b ∧ a ≤ c := by
  rw [Int32.lt_iff_toInt_lt, nI_toInt ha] at h1
  rw [Int32.le_iff_toInt_le, nI_toInt hb] at h2
  have hc : v.toInt.toNat < 2 ^ 31 := by omega
  refine ⟨v.toInt.toNat, ?_, by omega, by omega⟩
  rw [← Int32.toInt_inj, nI_toInt hc]
  omega
def upd_t (t : Nat → Nat) (n c : Nat) : Nat → Nat := fun i => if i = n then c else t i
section INVS
variable {S : S_LS} {Z : Nat → S_State} {M : S_Model}
/-- what INV looks at, of the reference -/
theorem INV.ext {M' : S_Model} (h : INV S Z M) (h1 : g_Model_now M' = g_Model_now M) (h2 : g_Model_past M' = g_Model_past M) (h3 : g_Model_kept M' = g_Model_kept M) (h4 : g_Model_text M' = g_Model_text M) (h5 : g_Model_typed M' = g_Model_typed M) : INV S Z M' := by
  obtain ⟨a1, a2, N, t, a3, a4, a5⟩ := h
  refine ⟨?_, ?_, N, t, a3, a4, ?_⟩
  · rw [h1]; exact a1
  · unfold SVx at a2 ⊢
    rw [h2, h3]; exact a2
  · unfold TX at a5 ⊢
    rw [h4, h5]; exact a5
theorem INV.thrown (h : INV S Z M) (v : Int32) : INV S Z (s_Model_thrown M v) := h.ext (gs_now_thrown ..) (gs_past_thrown ..) (gs_kept_thrown ..) (gs_text_thrown ..) (gs_typed_thrown ..)
theorem INV_pmv {i : Nat} {K U L B E W : Nat → Int32} {n : Nat} {O : Nat → Int32} {d x : Nat} {q : Int32} (h : INV S Z M) : INV S Z (pmv M i K U L B E W n O d x q) := h.ext (pmv_now ..) (pmv_past ..) (pmv_kept ..) (pmv_text ..) (pmv_typed ..)
theorem INV.reader (h : INV S Z M) (R : S_Reader) : INV (s_LS_reader S R) Z M := h
/-- reading, from the relation -/
theorem INV_text (h : INV S Z M) : ∃ N, g_Model_typed M = nI N ∧ N ≤ 60 ∧ ((∃ e M' R', e ≤ N ∧ F_X5_isText M = some (false, M') ∧ FAILS M N e M' ∧ F_X1_read (g_LS_reader S) (g_LS_codes S) (g_LS_length S) = some (false, R') ∧ g_Reader_firstWrong R' = nI e) ∨
    (∃ D x M' R' K U L B E W O, F_X5_isText M = some (true, M') ∧ F_X1_read (g_LS_reader S) (g_LS_codes S) (g_LS_length S) = some (true, R') ∧ g_Reader_firstWrong R' = nI N ∧ DW D ∧ DX D ∧ CV (g_Reader_values R') D ∧ MV M' D ∧ XX D x ∧ M' = pmv M N K U L B E W (dN D) O 0 x 0)) := by
  obtain ⟨a1, a2, N, t, a3, a4, a5⟩ := h
  refine ⟨N, a5.1, a4.1, ?_⟩
  rw [a3]
  exact text_ok a4 a5 (g_LS_reader S)
theorem FAILS_INV {N e : Nat} {M' : S_Model} (h : INV S Z M) (h2 : FAILS M N e M') : INV S Z M' ∧ g_Model_thrown M' = g_Model_thrown M ∧ g_Model_typed M' = g_Model_typed M ∧ g_Model_at M' = nI e ∧ g_Model_isFault M' = flt N e := by
  obtain ⟨K, U, L, B, E, W, n, O, d, x, rfl⟩ := h2
  rw [pmv_thrown, pmv_typed, pmv_at, pmv_isFault]
  exact ⟨INV_pmv h, rfl, rfl, rfl, rfl⟩
theorem firstError_ok (h : INV S Z M) : ∃ v S' M', F_X4_firstError S = some (v, S') ∧ F_X5_firstError M = some (v, M') ∧ INV S' Z M' ∧ g_Model_thrown M' = 0 := by
  have h0 := h.thrown 0
  obtain ⟨N, t1, t2, hcase⟩ := INV_text h0
  unfold F_X4_firstError F_X5_firstError
  rcases hcase with ⟨e, M', R', a1, a2, a3, a4, a5⟩ | ⟨D, x, M', R', K, U, L, B, E, W, O, a1, a2, a3, a4, a5, a6, a7, a8, a9⟩
  · obtain ⟨f1, f2, f3, f4, f5⟩ := FAILS_INV h0 a3
    rw [gs_thrown_thrown] at f2
    rw [ob2_s a4, ob2_s a2, b2i_f, if_pos rfl, a5, f5, f4, f3, t1]
    unfold flt
    by_cases z : e < N
    · rw [if_pos z, if_neg one_ne0]
      exact ⟨nI e, _, _, rfl, rfl, f1.reader R', f2⟩
    · obtain rfl : e = N := by omega
      rw [if_neg z, if_pos rfl]
      exact ⟨nI e, _, _, rfl, rfl, f1.reader R', f2⟩
  · rw [ob2_s a2, ob2_s a1, b2i_t, if_neg one_ne0, a3, a9, pmv_typed, t1]
    exact ⟨nI N, _, _, rfl, rfl, (INV_pmv h0).reader R', by rw [pmv_thrown, gs_thrown_thrown]⟩
theorem clearBuffer_ok (h : INV S Z M) : ∃ v S' M', F_X4_clearBuffer S = some (v, S') ∧ F_X5_clearBuffer M = some (v, M') ∧ INV S' Z M' ∧ g_Model_thrown M' = 0 := by
  obtain ⟨a1, a2, N, t, a3, a4, a5⟩ := h
  unfold F_X4_clearBuffer F_X5_clearBuffer
  rw [a3, a5.1]
  refine ⟨nI N, _, _, rfl, rfl, ⟨?_, ?_, 0, t, rfl, ⟨by omega, fun i hi => by omega⟩, ⟨?_, by omega, fun i hi => by omega⟩⟩, ?_⟩
  · rw [gs_now_typed, gs_now_thrown]; exact a1
  · unfold SVx at a2 ⊢
    rw [gs_past_typed, gs_past_thrown, gs_kept_typed, gs_kept_thrown]; exact a2
  · rw [gs_typed_typed]; rfl
  · rw [gs_thrown_typed, gs_thrown_thrown]
/-- a number taken or refused -/
theorem append_ok (h : INV S Z M) (v : Int32) : ∃ M', (∃ e c, F_X4_append S v = some (.inl (e, S)) ∧ F_X5_append M v = some (0, M') ∧ INV S Z M' ∧ g_Model_thrown M' = nI c ∧ ((c = 1 ∧ e = "java/lang/IllegalArgumentException") ∨ (c = 2 ∧ e = "java/lang/IllegalStateException"))) ∨ (∃ r S', F_X4_append S v = some (.inr (r, S')) ∧ F_X5_append M v = some (r, M') ∧ INV S' Z M' ∧ g_Model_thrown M' = 0) := by
  have hh := h
  obtain ⟨a1, a2, N, t, a3, a4, a5⟩ := hh
  have hT := a5.1
  have h60 := a4.1
  unfold F_X4_append F_X5_append
  have hout : v < 33 ∨ 126 < v → F_X5_in v 33 126 = some false := fun z => in_f z
  by_cases h1 : v < 33
  · rw [if_pos h1, ob1_s (hout (Or.inl h1)), b2i_f, if_pos rfl]
    exact ⟨_, Or.inl ⟨_, 1, rfl, rfl, (h.thrown 0).thrown 1, by rw [gs_thrown_thrown]; rfl, Or.inl ⟨rfl, rfl⟩⟩⟩
  · rw [if_neg h1]
    by_cases h2 : v ≤ 126
    · have h2' : ¬ (126 : Int32) < v := Int32.not_lt.mpr h2
      rw [if_pos h2, a3, ob1_s (show F_X5_in v 33 126 = some true from in_t h1 h2'), b2i_t, if_neg one_ne0, hT, if_neg (show ¬ nI N < 0 from nI_nlt (a := N) (b := 0) (by omega) (by omega))]
      by_cases h3 : N < 60
      · rw [if_pos (show nI N < (60 : Int32) from nI_lt (a := N) (b := 60) h3 (by omega)), if_neg (show ¬ nI N = (60 : Int32) from nI_ne (b := 60) (by omega) (by omega) (by omega)), og_t (inb_nI (by omega) (by omega)), og_t (inb_nI (by omega) (by omega)), nI_clamp (by omega), nI_1]
        obtain ⟨c, hc1, hc2, hc3⟩ : ∃ c : Nat, v = nI c ∧ c < 128 ∧ 33 ≤ c := by
          obtain ⟨c, c1, c2, c3⟩ := nI_between (v := v) (a := 33) (b := 126) (by omega) (by omega) h1 h2
          exact ⟨c, c1, by omega, c3⟩
        have ht1 : ∀ i, i ≠ N → upd_t t N c i = t i := fun i hi => if_neg hi
        have ht2 : upd_t t N c N = c := if_pos rfl
        refine ⟨_, Or.inr ⟨_, _, rfl, rfl, ⟨?_, ?_, N + 1, upd_t t N c, rfl, ?_, ?_⟩, ?_⟩⟩
        · rw [gs_now_typed, gs_now_text, gs_now_thrown]; exact a1
        · unfold SVx at a2 ⊢
          rw [gs_past_typed, gs_past_text, gs_past_thrown, gs_kept_typed, gs_kept_text, gs_kept_thrown]; exact a2
        · refine ⟨by omega, fun i hi => ?_⟩
          show upd (g_LS_codes S) N v i = nI (upd_t t N c i) ∧ upd_t t N c i < 128
          by_cases z : i = N
          · subst z; rw [upd_at, ht2]; exact ⟨hc1, hc2⟩
          · rw [upd_ne z, ht1 i z]; exact a4.2 i (by omega)
        · refine ⟨by rw [gs_typed_typed], by omega, fun i hi => ?_⟩
          rw [gs_text_typed, gs_text_text]
          by_cases z : i = N
          · subst z; rw [upd_at, ht2]; exact ⟨hc1, hc2, hc3⟩
          · rw [upd_ne z, ht1 i z]; exact a5.2.2 i (by omega)
        · rw [gs_thrown_typed, gs_thrown_text, gs_thrown_thrown]
      · obtain rfl : N = 60 := by omega
        rw [if_neg (show ¬ nI 60 < (60 : Int32) by decide), if_pos (show nI 60 = (60 : Int32) from rfl)]
        exact ⟨_, Or.inl ⟨_, 2, rfl, rfl, (h.thrown 0).thrown 2, by rw [gs_thrown_thrown]; rfl, Or.inr ⟨rfl, rfl⟩⟩⟩
    · have h2' : (126 : Int32) < v := Int32.not_le.mp h2
      rw [if_neg h2, ob1_s (hout (Or.inr h2')), b2i_f, if_pos rfl]
      exact ⟨_, Or.inl ⟨_, 1, rfl, rfl, (h.thrown 0).thrown 1, by rw [gs_thrown_thrown]; rfl, Or.inl ⟨rfl, rfl⟩⟩⟩
end INVS
