/-! ===== p23, pure: the document that was written, and its reading ===== -/
/-- the first node alone -/
def D0 : Dc := (1, (fun _ => 6), (fun _ => 0), (fun _ => 0), (fun _ => 0), (fun _ => 0), (fun _ => 0), (fun _ => 0))
/-- a document with other places -/
def DZ (D : Dc) (B E : Nat → Nat) : Dc := (dN D, dK D, dP D, dL D, B, E, dU D, dD D)
theorem lrun_DZ (D : Dc) (B E : Nat → Nat) (doc : Int32) (M : Mp) : ∀ v, lrun (DZ D B E) doc M v = lrun D doc M v := by
  intro v
  induction v with
  | zero => rfl
  | succ v ihv =>
    rw [lrun_s, lrun_s, ihv]
    rfl
theorem lrn_DZ (D : Dc) (B E : Nat → Nat) (doc : Int32) (M : Mp) : lrn (DZ D B E) doc M = lrn D doc M := by
  unfold lrn
  show (lrun (DZ D B E) doc M (dN D)).1 = _
  rw [lrun_DZ]
theorem DW_of {D : Dc} (hA : DA D) (hN : dN D ≤ 12) : DW D := ⟨hA.1, by omega, hA.2.1, hA.2.2.1, hA.2.2.2.1, hA.2.2.2.2.1, hA.2.2.2.2.2⟩
theorem DA_0 : DA D0 := ⟨Nat.le_refl _, rfl, rfl, fun v _ => ⟨6, by omega, rfl⟩, fun v h1 h2 => by have h2 : v < 1 := h2; omega, fun v h1 h2 => by have h2 : v < 1 := h2; omega⟩
theorem SK_0 : SK D0 1 (fun _ => 0) := by
  refine ⟨by omega, fun j hj => ⟨Nat.one_pos, Or.inr rfl, ?_⟩, fun _ => rfl, fun j hj => by omega, fun j _ u _ _ => Nat.zero_le _⟩
  have e : j = 0 := by omega
  rw [e]
  rfl
theorem DQ_0 : DQ D0 := ⟨fun w w' h1 h2 h3 => by have h3 : w' < 1 := h3; omega, fun v h1 h2 => by have h2 : v < 1 := h2; omega, fun v _ _ => by show 0 < 256; omega⟩
theorem t16_0 {V : S_Tree} {fw pl op le ru : Int32} {R : S_Reader} (h : F_X1_takeValue (rdr V fw pl 0 op le ru) (nI 40) = some (true, R)) : F_X1_take_16 (nI 40) (rdr V fw pl 0 op le ru) = some (true, R) := by
  unfold F_X1_take_16
  rw [show g_Reader_state (rdr V fw pl 0 op le ru) = 0 from rfl, if_pos rfl, if_pos (show nI 40 = (40 : Int32) from rfl), ob2_s h, b2i_t, if_neg one_ne0]
/-- the document that the law writes is read as a document -/
theorem types_cl {S : S_LS} {L : Nat} {xs : Nat → Int32} (hL : L < 2 ^ 31) {a : Nat} (ha : a ≤ 1000) (h0 : g_LS_length S = 0) : ∃ r S' D, F_L_types L xs S (nI a) = some (r, S') ∧ SM S S' ∧ DW D ∧ DL D ∧ ∀ R : S_Reader, ∃ R' B E, F_X1_read R (g_LS_codes S') (g_LS_length S') = some (true, R') ∧ CV (g_Reader_values R') (DZ D B E) := by
  have hR0 : RS S 0 (fun V st op le _ => g_Tree_size V = nI 0 ∧ st = 0 ∧ op = -1 ∧ le = -1) := ⟨h0, fun C N V0 pl0 _ _ _ h4 => ⟨V0, pl0, 0, -1, -1, 0, ⟨h4, rfl, rfl, rfl⟩, RUN.refl⟩⟩
  obtain ⟨r1, S1, a1, a2, a3⟩ := hR0.step (c := 40) (Q := BT D0 1 (fun _ => 0) false) (by omega) (by omega) (by omega) (fun V st op le ru h fw pl => by
    obtain ⟨h1, rfl, rfl, rfl⟩ := h
    have hdn : dnx V (-1) 0 = 0 := if_pos rfl
    have hln : lnx V (-1) 0 (-1) = -1 := if_pos rfl
    obtain ⟨V', e1, e2⟩ := take_holder (V := V) (fw := fw) (pl := pl) (st := 0) (op := -1) (le := -1) (ru := ru) (n := 0) (o := 0) (c := 40) h1 (by omega) (Or.inl rfl) (by omega) (Or.inr rfl) (by rw [hdn]; decide)
    rw [hdn, hln] at e1
    obtain ⟨v1, v2, v3, v4, v5, v6, v7, v8, v9⟩ := e1
    refine ⟨V', 1, nI 0, -1, 0, ⟨⟨v1, fun v hv => ?_⟩, rfl, Or.inl ⟨rfl, Or.inl ?_⟩⟩, ?_⟩
    · have hv : v < 1 := hv
      obtain rfl : v = 0 := by omega
      exact ⟨v3, v4, v5, v8, fun _ => v9⟩
    · show (1 : Int32) = sbv V' (nI 0) 0
      unfold sbv
      rw [if_neg (by decide), v3]
      rfl
    · rw [tk_plain (by omega) rfl]
      exact t16_0 e2)
  have a1' : okr (F_X4_append S 40) = some (r1, S1) := a1
  obtain ⟨w, e1⟩ := cell_cl L xs (a := a) hL (by omega)
  obtain ⟨q, q1, q2⟩ := low_cl w (m := 8) (by omega) (by omega)
  have q2' : F_L_low w 8 = some (nI q) := q2
  have hT : TI S1 1 D0 1 (fun _ => 0) false 0 0 0 0 := ⟨a2, by omega, SK_0, DA_0, DQ_0, Nat.le_refl _, by omega, fun w => absurd w (by decide), ⟨fun j _ => by rw [b_0]; rfl, fun j hj _ l _ => by
    rw [b_0]
    exact Nat.zero_testBit l⟩, fun j _ hk => by
    have hk : (6 : Int32) = 5 := hk
    exact absurd hk (by decide)⟩
  obtain ⟨r, S', n', D, c1, c2, c3, c4, c5, c6, c7⟩ := res_38 (L := L) (xs := xs) hL (a := a) (t := 1 + q) ha (by omega) 5000 0 S1 1 D0 1 (fun _ => 0) false 0 0 0 1 (by omega) (by omega) hT
  refine ⟨r, S', D, ?_, a3.trans c7, DW_of c4 c6, c5.1, fun R => ?_⟩
  · unfold F_L_types
    rw [ob2_s a1', ob1_s e1, ob1_s q2', show (1 : Int32) + nI q = nI (1 + q) from nI_add 1 q]
    exact c1
  · obtain ⟨V, pl, st, op, le, ru, ⟨g1, rfl⟩, g2⟩ := c2.2 (g_LS_codes S') n' (s_Tree_documents (s_Tree_size (g_Reader_values R) 0) 0) (g_Reader_place R) (Nat.le_refl _) c3 (fun _ _ => rfl) rfl
    obtain ⟨g3, g4⟩ := g2
    have hrd : F_X1_read R (g_LS_codes S') (g_LS_length S') = some (true, rdr V (nI n') pl 12 op le ru) := by
      unfold F_X1_read
      have hcl : F_X3_clear (g_Reader_values R) = some (s_Tree_documents (s_Tree_size (g_Reader_values R) 0) 0) := rfl
      rw [ob1_s hcl, c2.1]
      have h5 := g4 (5000 - n')
      rw [show 5000 - n' + (n' - 0) = 5000 by omega] at h5
      have h6 := done_end (C := g_LS_codes S') (N := n') (V := V) (fw := nI n') (pl := pl) (op := op) (le := le) (ru := ru) c3 (5000 - n' - 1)
      rw [show 5000 - n' - 1 + 1 = 5000 - n' by omega] at h6
      exact h5.trans h6
    refine ⟨_, fun v => (i_of32 (tc V v 3)).choose, fun v => (i_of32 (tc V v 4)).choose, hrd, g1.1, fun v hv => ?_⟩
    obtain ⟨k1, k2, k3, k4, k5⟩ := g1.2 v hv
    exact ⟨k1, k2, k3, (i_of32 (tc V v 3)).choose_spec.2, k4, fun h6 => ⟨(i_of32 (tc V v 4)).choose_spec.2, k5 h6⟩⟩
