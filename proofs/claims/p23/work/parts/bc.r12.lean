/-! ===== pure: the whole text, read by both ===== -/
section TEXT
variable {S : S_Model} {C : Nat → Int32} {t : Nat → Nat} {N : Nat} {q : Int32}
/-- the end of a good text -/
def GOOD (S : S_Model) (N : Nat) (t : Nat → Nat) (D : Dc) (M : S_Model) (R : S_Reader) : Prop := ∃ V K U L B E W O x pl op le ru os, M = pmv S N K U L B E W (dN D) O 0 x 0 ∧ R = rdr V (nI N) pl 12 op le ru ∧ JB D N N 0 os false V K U L B E W O x
theorem loop_ok (hC : CX C t N) (hT : TX S N t) : ∀ g i D d os fr M R f, N - i < g → g ≤ f → AT S N t q D i d os fr M R →
    (∃ e M', e ≤ N ∧ F_X5_isText_49 f M = some (false, M') ∧ FAILS S N e M' ∧ STOP C N R i e) ∨ (∃ D' M' R', F_X5_isText_49 f M = some (true, M') ∧ GOOD S N t D' M' R' ∧ RUN C N R i R' N) := by
  intro g
  induction g with
  | zero => intro i D d os fr M R f h; omega
  | succ g ihr =>
    intro i D d os fr M R f h1 h2 hAT
    obtain ⟨f, rfl⟩ : ∃ k, f = k + 1 := ⟨f - 1, by omega⟩
    have h60 := hC.1
    have hT1 := hT.1
    rw [F_X5_isText_49_s]
    rcases Nat.eq_zero_or_pos d with z | z
    · subst z
      obtain ⟨V, K, U, L, B, E, W, O, x, pl, st, op, le, ru, rfl, rfl, hJ, h0, _⟩ := hAT
      obtain ⟨hop, hst⟩ := h0 rfl
      subst hst
      have hiN : i ≤ N := hJ.2.2.2.2.2.2.2.2.2
      have hfr : fr = false := by
        cases fr with
        | true => have := (hJ.2.2.2.2.2.2.1 rfl).1; omega
        | false => rfl
      subst hfr
      rw [pmv_deep, if_pos (show nI 0 ≤ 0 by decide), pmv_typed, pmv_at, hT1]
      rcases Nat.lt_or_ge i N with y | y
      · rw [if_neg (nI_ge y (by omega)), if_neg (nI_ne (by omega) (by omega) (by omega)), pmv_s_isFault]
        refine Or.inl ⟨i, _, hiN, rfl, ⟨K, U, L, B, E, W, dN D, O, 0, x, by unfold flt; rw [if_pos y]⟩, ?_⟩
        refine stop_bad (R' := rdr V (nI N) (nI i) 12 op le ru) y h60 ?_
        rw [(hC.2 i y).1]
        unfold F_X1_take
        rw [ob1_s (ends_ok (hC.2 i y).2), show pnd 12 = false from rfl, Bool.false_and, Bool.false_and, b2i_f, if_pos rfl]
        unfold F_X1_take_16
        show (if (12 : Int32) = 0 then _ else if (12 : Int32) = 1 then _ else if (12 : Int32) = 2 then _ else if (12 : Int32) = 3 then _ else if (12 : Int32) = 4 then _ else if (12 : Int32) = 5 then _ else if (12 : Int32) = 6 then _ else if (12 : Int32) = 7 then _ else if (12 : Int32) = 8 then _ else if (12 : Int32) = 9 then _ else if (12 : Int32) = 10 then _ else if (12 : Int32) = 11 then _ else if (12 : Int32) = 12 then some (false, rdr V (nI N) (nI i) 12 op le ru) else _) = _
        rw [if_neg (by decide), if_neg (by decide), if_neg (by decide), if_neg (by decide), if_neg (by decide), if_neg (by decide), if_neg (by decide), if_neg (by decide), if_neg (by decide), if_neg (by decide), if_neg (by decide), if_neg (by decide), if_pos rfl]
      · obtain rfl : i = N := by omega
        rw [if_pos (nI_le (Nat.le_refl _) (by omega)), if_pos rfl, pmv_s_isFault]
        exact Or.inr ⟨D, _, _, rfl, ⟨V, K, U, L, B, E, W, O, x, pl, op, le, ru, os, rfl, rfl, hJ⟩, RUN.refl⟩
    · have hstep := goes_ok hC hT hAT z
      obtain ⟨V, K, U, L, B, E, W, O, x, pl, st, op, le, ru, rfl, rfl, hJ, h0, _⟩ := hAT
      have hd4 := hJ.1.1
      rw [pmv_deep, if_neg (show ¬ nI d ≤ 0 from nI_ge (a := 0) (b := d) z (by omega))]
      rcases hstep with ⟨e, M', a1, a2, a3, a4, a5⟩ | ⟨D', e, d', os', fr', M', R', a1, a2, a3, a4, a5⟩
      · rw [ob2_s a3, b2i_f, if_pos rfl]
        exact Or.inl ⟨e, M', a2, rfl, a4, a5⟩
      · rw [ob2_s a3, b2i_t, if_neg one_ne0]
        rcases ihr e D' d' os' fr' M' R' f (by omega) (by omega) a4 with ⟨e2, M2, c1, c2, c3, c4⟩ | ⟨D2, M2, R2, c1, c2, c3⟩
        · exact Or.inl ⟨e2, M2, c1, c2, c3, c4.run a5 a2⟩
        · exact Or.inr ⟨D2, M2, R2, c1, c2, a5.trans c3⟩
def D00 : Dc := (1, (fun _ => 6), (fun _ => 0), (fun _ => 0), (fun _ => 0), (fun _ => 0), (fun _ => 0), (fun _ => 0))
theorem start_jb {V V0 : S_Tree} {K U L B E W O : Nat → Int32} (hN : 1 ≤ N) (hv : vnew V0 V 0 6 (-1) 0 0 (-1)) : JB D00 N 1 1 (fun _ => 0) false V (upd K 0 6) (upd U 0 (-1)) (upd L 0 (-1)) (upd B 0 0) E (upd W 0 0) (upd O 0 0) 1 := by
  obtain ⟨v1, v2, v3, v4, v5, v6, v7, v8, v9⟩ := hv
  refine ⟨⟨by omega, fun j hj => ⟨Nat.one_pos, Or.inr rfl, (by show 0 = j; omega)⟩, fun _ => rfl, fun j hj => by omega, fun j hj u hu hun => ?_⟩, ⟨Nat.le_refl _, rfl, rfl, fun v _ => ⟨6, by omega, rfl⟩, fun v h0 hv => ?_, fun v h0 hv => ?_⟩, ⟨fun v _ => ?_, fun v w hvw hw => ?_, fun v _ _ => ?_, fun v hv _ hc => ?_⟩, ⟨v1, fun v hv => ?_⟩, fun j hj => ?_, fun j hj hk => ?_, fun z => absurd z (by decide), ⟨by omega, fun v _ _ => Nat.le_refl _, 0, Nat.one_pos, Or.inr rfl, rfl⟩, Nat.le_refl _, hN⟩
  · have : u < 1 := hun
    have hu' : 0 < u := hu
    omega
  · have : v < 1 := hv
    omega
  · have : v < 1 := hv
    omega
  · show 0 < 1
    omega
  · have : w < 1 := hw
    omega
  · show 0 < 256
    omega
  · have h1 : v < 1 := hv
    exact absurd ⟨0, by omega, by show 0 = v; omega⟩ hc
  · have h1 : v < 1 := hv
    obtain rfl : v = 0 := by omega
    rw [upd_at, upd_at, upd_at, upd_at, upd_at]
    exact ⟨v3, v4, v5, v6, v8, rfl, rfl, rfl, rfl, fun _ => ⟨v9, rfl, fun hc => absurd ⟨0, by omega, rfl⟩ hc⟩⟩
  · obtain rfl : j = 0 := by omega
    rw [upd_at]; rfl
  · exact absurd (show (6 : Int32) = 5 from hk) (by decide)
end TEXT
