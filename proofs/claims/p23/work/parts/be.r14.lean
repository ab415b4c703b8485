/-! ===== pure: numbers of a document, alike ===== -/
def cnum (D : Dc) (k : Int32) : Nat → Nat
  | 0 => 0
  | n + 1 => cnum D k n + (if dK D n = k then 1 else 0)
def dmax (D : Dc) : Nat → Nat
  | 0 => 0
  | n + 1 => if (dK D n = 5 ∨ dK D n = 6) ∧ dmax D n < dD D n + 1 then dD D n + 1 else dmax D n
section DOC
variable {D : Dc}
theorem cnum_le (k : Int32) : ∀ n, cnum D k n ≤ n := by
  intro n
  induction n with
  | zero => exact Nat.le_refl _
  | succ n ihr =>
    show cnum D k n + _ ≤ n + 1
    split <;> omega
theorem dmax_ge : ∀ n v, v < n → dK D v = 5 ∨ dK D v = 6 → dD D v + 1 ≤ dmax D n := by
  intro n
  induction n with
  | zero => intro v h; omega
  | succ n ihr =>
    intro v h hk
    show dD D v + 1 ≤ if (dK D n = 5 ∨ dK D n = 6) ∧ dmax D n < dD D n + 1 then dD D n + 1 else dmax D n
    by_cases z : v = n
    · subst z
      by_cases y : dmax D v < dD D v + 1
      · rw [if_pos ⟨hk, y⟩]; exact Nat.le_refl _
      · rw [if_neg (fun w => y w.2)]; omega
    · have := ihr v (by omega) hk
      by_cases y : (dK D n = 5 ∨ dK D n = 6) ∧ dmax D n < dD D n + 1
      · rw [if_pos y]; omega
      · rw [if_neg y]; exact this
theorem dmax_le {x : Nat} : ∀ n, (∀ v, v < n → dK D v = 5 ∨ dK D v = 6 → dD D v + 1 ≤ x) → dmax D n ≤ x := by
  intro n
  induction n with
  | zero => intro _; exact Nat.zero_le _
  | succ n ihr =>
    intro h
    show (if (dK D n = 5 ∨ dK D n = 6) ∧ dmax D n < dD D n + 1 then dD D n + 1 else dmax D n) ≤ x
    by_cases y : (dK D n = 5 ∨ dK D n = 6) ∧ dmax D n < dD D n + 1
    · rw [if_pos y]; exact h n (by omega) y.1
    · rw [if_neg y]; exact ihr fun v hv => h v (by omega)
theorem dmax_x {x : Nat} (h : XX D x) : dmax D (dN D) = x := by
  obtain ⟨h1, h2, v, h3, h4, h5⟩ := h
  have a := dmax_le (D := D) (dN D) h2
  have b := dmax_ge (D := D) (dN D) v h3 h4
  omega
theorem dd_le (hD : DW D) {v : Nat} (hv : v < dN D) : dD D v ≤ 4 := by
  rcases Nat.eq_zero_or_pos v with z | z
  · rw [z, hD.2.2.2.1]; omega
  · exact (hD.2.2.2.2.2.1 v z hv).2.2.1
variable {S : S_LS} {M : S_Model}
theorem doc13 (hC : CV (g_Reader_values (g_LS_reader S)) D) (hD : DW D) (w : Int32) (h8 : ¬ w = 8) : ∀ g j f, dN D - j < g → g ≤ f → j ≤ dN D → F_X4_documentNumber_13 w S f (nI (if w = 0 then j else cnum D (w - 1) j)) (nI j) = some (nI (if w = 0 then dN D else cnum D (w - 1) (dN D))) := by
  have h32 := hD.2.1
  intro g
  induction g with
  | zero => intro j f h; omega
  | succ g ihr =>
    intro j f h1 h2 h3
    obtain ⟨f, rfl⟩ : ∃ k, f = k + 1 := ⟨f - 1, by omega⟩
    rw [F_X4_documentNumber_13_s, hC.1]
    rcases Nat.lt_or_ge j (dN D) with z | z
    · have hnx := ihr (j + 1) f (by omega) (by omega) z
      rw [if_neg (nI_ge z (by omega)), ob1_s (get_0 j hC.1 (by omega) z), if_neg h8, (hC.2 j z).1]
      by_cases y : w = 0
      · rw [if_pos y, if_pos y, nI_1]
        rw [if_pos y] at hnx
        exact hnx
      · rw [if_neg y, if_neg y]
        rw [if_neg y] at hnx
        have e : cnum D (w - 1) (j + 1) = cnum D (w - 1) j + (if dK D j = w - 1 then 1 else 0) := rfl
        by_cases u : dK D j = w - 1
        · rw [if_pos u, nI_1, nI_1]
          rw [e, if_pos u] at hnx
          exact hnx
        · rw [if_neg u, nI_1]
          rw [e, if_neg u, Nat.add_zero] at hnx
          exact hnx
    · obtain rfl : j = dN D := by omega
      rw [if_pos (nI_le (Nat.le_refl _) (by omega))]
theorem doc8 (hC : CV (g_Reader_values (g_LS_reader S)) D) (hD : DW D) : ∀ g j f, dN D - j < g → g ≤ f → j ≤ dN D → F_X4_documentNumber_13 8 S f (nI (dmax D j)) (nI j) = some (nI (dmax D (dN D))) := by
  have h32 := hD.2.1
  have hmx : ∀ j, j ≤ dN D → dmax D j ≤ 5 := fun j hj => dmax_le j fun v hv _ => by have := dd_le hD (v := v) (by omega); omega
  intro g
  induction g with
  | zero => intro j f h; omega
  | succ g ihr =>
    intro j f h1 h2 h3
    obtain ⟨f, rfl⟩ : ∃ k, f = k + 1 := ⟨f - 1, by omega⟩
    rw [F_X4_documentNumber_13_s, hC.1]
    rcases Nat.lt_or_ge j (dN D) with z | z
    · have hnx := ihr (j + 1) f (by omega) (by omega) z
      have e : dmax D (j + 1) = if (dK D j = 5 ∨ dK D j = 6) ∧ dmax D j < dD D j + 1 then dD D j + 1 else dmax D j := rfl
      have hd4 := dd_le hD z
      have hm5 := hmx j h3
      have ht : (dK D j = 5 ∨ dK D j = 6) → F_X4_documentNumber_55 8 S (F_X4_documentNumber_13 8 S f) (nI (dmax D j)) (nI j) true = some (nI (dmax D (dN D))) := by
        intro hk
        unfold F_X4_documentNumber_55
        rw [b2i_t, if_neg one_ne0, ob1_s (get_2 j hC.1 (by omega) z), (hC.2 j z).2.2.1, nI_1, nI_1]
        by_cases y : dmax D j < dD D j + 1
        · rw [if_pos (nI_lt y (by omega))]
          rw [e, if_pos ⟨hk, y⟩] at hnx
          exact hnx
        · rw [if_neg (nI_nlt (by omega) (by omega))]
          rw [e, if_neg (fun u => y u.2)] at hnx
          exact hnx
      rw [if_neg (nI_ge z (by omega)), ob1_s (get_0 j hC.1 (by omega) z), if_pos rfl, (hC.2 j z).1]
      by_cases y5 : dK D j = 5
      · rw [if_pos y5]; exact ht (Or.inl y5)
      · rw [if_neg y5]
        by_cases y6 : dK D j = 6
        · rw [if_pos y6]; exact ht (Or.inr y6)
        · rw [if_neg y6]
          unfold F_X4_documentNumber_55
          rw [b2i_f, if_pos rfl, nI_1]
          rw [e, if_neg (fun u => u.1.elim y5 y6)] at hnx
          exact hnx
    · obtain rfl : j = dN D := by omega
      rw [if_pos (nI_le (Nat.le_refl _) (by omega))]
theorem of39 (hM : MV M D) (hD : DW D) (w : Int32) : ∀ g j f, dN D - j < g → g ≤ f → j ≤ dN D → F_X5_ofDocument_39 w f M (nI (cnum D (w - 1) j)) (nI j) = some (nI (cnum D (w - 1) (dN D)), M) := by
  have h32 := hD.2.1
  intro g
  induction g with
  | zero => intro j f h; omega
  | succ g ihr =>
    intro j f h1 h2 h3
    obtain ⟨f, rfl⟩ : ∃ k, f = k + 1 := ⟨f - 1, by omega⟩
    rw [F_X5_ofDocument_39_s, hM.1]
    rcases Nat.lt_or_ge j (dN D) with z | z
    · have hnx := ihr (j + 1) f (by omega) (by omega) z
      have e : cnum D (w - 1) (j + 1) = cnum D (w - 1) j + (if dK D j = w - 1 then 1 else 0) := rfl
      rw [if_neg (nI_ge z (by omega)), og_t (inb_nI (by omega) (by omega)), nI_clamp (by omega), (hM.2 j z).1]
      by_cases u : dK D j = w - 1
      · rw [if_pos u, nI_1, nI_1]
        rw [e, if_pos u] at hnx
        exact hnx
      · rw [if_neg u, nI_1, Int32.add_zero]
        rw [e, if_neg u, Nat.add_zero] at hnx
        exact hnx
    · obtain rfl : j = dN D := by omega
      rw [if_pos (nI_le (Nat.le_refl _) (by omega))]
/-- a document's number, behind the reading -/
theorem docNumber_ok {x : Nat} {w : Int32} (hC : CV (g_Reader_values (g_LS_reader S)) D) (hD : DW D) (hM : MV M D) (hX : XX D x) (hx : g_Model_deepest M = nI x) : ∃ v, F_X4_documentNumber S w = some v ∧ (if w = 0 then some (g_Model_valued M, M) else if w = 8 then some (g_Model_deepest M, M) else F_X5_ofDocument_39 w 5000 M 0 0) = some (v, M) := by
  have h32 := hD.2.1
  unfold F_X4_documentNumber
  by_cases h8 : w = 8
  · subst h8
    refine ⟨nI x, ?_, ?_⟩
    · have h1 := doc8 hC hD 100 0 5000 (by omega) (by omega) (Nat.zero_le _)
      rw [dmax_x hX] at h1
      exact h1
    · rw [if_neg (by decide), if_pos rfl, hx]
  · have h1 := doc13 hC hD w h8 100 0 5000 (by omega) (by omega) (Nat.zero_le _)
    by_cases h0 : w = 0
    · subst h0
      rw [if_pos rfl, if_pos rfl] at h1
      refine ⟨nI (dN D), h1, ?_⟩
      rw [if_pos rfl, hM.1]
    · rw [if_neg h0, if_neg h0] at h1
      refine ⟨_, h1, ?_⟩
      rw [if_neg h0, if_neg h8]
      exact of39 hM hD w 100 0 5000 (by omega) (by omega) (Nat.zero_le _)
end DOC
