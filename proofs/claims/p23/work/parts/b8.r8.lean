/-! ===== pure: a value behind a value ===== -/
def JB (D : Dc) (N i d : Nat) (os : Nat → Nat) (fr : Bool) (V : S_Tree) (K U L B E W O : Nat → Int32) (x : Nat) : Prop := SK D d os ∧ DA D ∧ DB D i d os ∧ DV D d os V K U L B E W ∧ (∀ j, j < d → O j = nI (os j)) ∧ (∀ j, j < d → dK D (os j) = 5 → W (os j) = if j + 1 = d ∧ fr = true then 0 else 1) ∧ (fr = true → 0 < d ∧ dK D (os (d - 1)) = 5) ∧ XX D x ∧ 2 * dN D + (if fr = true then 1 else 0) ≤ i + d ∧ i ≤ N
/-- both stand at i, between two values -/
def AT (S : S_Model) (N : Nat) (t : Nat → Nat) (q : Int32) (D : Dc) (i d : Nat) (os : Nat → Nat) (fr : Bool) (M : S_Model) (R : S_Reader) : Prop := ∃ V K U L B E W O x pl st op le ru, M = pmv S i K U L B E W (dN D) O d x q ∧ R = rdr V (nI N) pl st op le ru ∧ JB D N i d os fr V K U L B E W O x ∧ (d = 0 → op = -1 ∧ st = 12) ∧ (0 < d → op = nI (os (d - 1)) ∧ (fr = true → st = 3) ∧ (fr = false → st = sbv V op (os (d - 1)) ∨ PEND t N i st ru))
def FAILS (S : S_Model) (N f : Nat) (M : S_Model) : Prop := ∃ K U L B E W n O d x, M = pmv S f K U L B E W n O d x (flt N f)
/-- a step of both: no document, or both stand between two values again -/
def STEP (S : S_Model) (C : Nat → Int32) (t : Nat → Nat) (N : Nat) (q : Int32) (R : S_Reader) (i : Nat) (r : Option (Bool × S_Model)) : Prop :=
  (∃ f M', i ≤ f ∧ f ≤ N ∧ r = some (false, M') ∧ FAILS S N f M' ∧ STOP C N R i f) ∨
  (∃ D' e d' os' fr' M' R', i < e ∧ e ≤ N ∧ r = some (true, M') ∧ AT S N t q D' e d' os' fr' M' R' ∧ RUN C N R i R' e)
theorem STEP.run {S : S_Model} {C : Nat → Int32} {t : Nat → Nat} {N : Nat} {q : Int32} {R R2 : S_Reader} {i j : Nat} {r : Option (Bool × S_Model)} (h : RUN C N R i R2 j) (hj : j ≤ N) (h2 : STEP S C t N q R2 j r) : STEP S C t N q R i r := by
  have hij := h.1
  rcases h2 with ⟨f, M', a1, a2, a3, a4, a5⟩ | ⟨D', e, d', os', fr', M', R', a1, a2, a3, a4, a5⟩
  · exact Or.inl ⟨f, M', by omega, a2, a3, a4, a5.run h hj⟩
  · exact Or.inr ⟨D', e, d', os', fr', M', R', by omega, a2, a3, a4, h.trans a5⟩
section VA
variable {S : S_Model} {C : Nat → Int32} {t : Nat → Nat} {N : Nat} {q : Int32} {D : Dc} {i d : Nat} {os : Nat → Nat} {V : S_Tree} {K U L B E W O : Nat → Int32} {x : Nat}
theorem val_at {b lt : Nat} {pl st le ru : Int32} (hC : CX C t N) (hT : TX S N t) (hS : SK D d os) (hA : DA D) (hB : DB D i d os) (hV : DV D d os V K U L B E W) (hO : ∀ j, j < d → O j = nI (os j)) (hW : ∀ j, j < d → dK D (os j) = 5 → W (os j) = 1) (hX : XX D x) (hd : 0 < d)
    (hb : i ≤ if lt = 8 then b else b - 1) (hlt : (dK D (os (d - 1)) = 6 ∧ lt < 8) ∨ (dK D (os (d - 1)) = 5 ∧ lt = 8)) (hle : nI lt = lnx V (nI (os (d - 1))) (os (d - 1)) le) (hcnt : 2 * dN D + 1 ≤ b + d) (hbN : b ≤ N) (hst : st = 2 ∨ (st = 3 ∧ (b < N → t b ≠ 93))) :
    STEP S C t N q (rdr V (nI N) pl st (nI (os (d - 1))) le ru) b (F_X5_isValue (pmv S b K U L B E W (dN D) O d x q) (nI lt)) := by
  have ho := (hS.2.1 (d - 1) (by omega))
  have h60 := hC.1
  have hd4 := hS.1
  have hdn : dnx V (nI (os (d - 1))) (os (d - 1)) = nI d := by
    unfold dnx
    rw [if_neg (nI_m1 (by have := ho.1; omega)), (hV.2 _ ho.1).2.2.1, ho.2.2, nI_1]
    congr 1; omega
  have hpar : par O d = nI (os (d - 1)) := by
    unfold par
    rw [if_neg (by omega)]
    exact hO _ (by omega)
  have hn0 : 0 < dN D := by have := hA.1; omega
  rcases value_ok (S := S) (K := K) (U := U) (L := L) (B := B) (E := E) (W := W) (O := O) (x := x) (q := q) (pl := pl) (ru := ru) hC hT (by omega) hd4 hX.1 hV.1 (Or.inr ⟨rfl, ho.1⟩) hdn hle hbN hst with ⟨f, a1, a2, a3, a4⟩ | ⟨e, k, V', pl', st', ru', a1, a2, a3, a4, a5, a6, a7⟩ | ⟨k, V', pl', a1, a2, a3, a4, a5, a6⟩
  · exact Or.inl ⟨f, _, a1, a2, a3, ⟨_, _, _, _, _, _, _, _, _, _, rfl⟩, a4⟩
  · rw [hpar] at a4
    have hk56 : ¬ (nI k = 5 ∨ nI k = 6) := by
      rintro (z | z)
      · have := (nI_eq (a := k) (b := 5) (by omega) (by omega)).mp z; omega
      · have := (nI_eq (a := k) (b := 6) (by omega) (by omega)).mp z; omega
    refine Or.inr ⟨dnew D (nI k) (os (d - 1)) lt b d, e, d, os, false, _, _, a1, a2, a4, ⟨V', _, _, _, _, E, _, O, x, pl', st', _, le, ru', rfl, rfl, ⟨hS.new hd, hA.new hS hd ⟨k, by omega, rfl⟩ hlt, hB.new hS hd hb a1 (fun _ _ => Iff.rfl) (fun z => absurd (Or.inr z) hk56), hV.new hn0 a5 (fun _ _ => Iff.rfl) (fun z => absurd (Or.inr z) hk56), hO, fun j hj hk => ?_, fun z => absurd z (by decide), hX.new hk56, ?_, a2⟩, fun z => by omega, fun _ => ⟨rfl, fun z => absurd z (by decide), fun _ => ?_⟩⟩, a6⟩
    · have hj2 := (hS.2.1 j hj).1
      rw [dK_old hj2] at hk
      rw [upd_ne (by omega), if_neg (by rintro ⟨_, z⟩; exact absurd z (by decide))]
      exact hW j hj hk
    · rw [dN_new, if_neg (by decide)]; omega
    · rw [sbv_new a5 (Or.inr ⟨rfl, ho.1⟩)]
      exact a7
  · rw [hpar] at a4
    have hk56 : nI k = 5 ∨ nI k = 6 := by
      rcases a2 with z | z
      · left; rw [z]; rfl
      · right; rw [z]; rfl
    have hk5 : (nI k = 5) ↔ k = 5 := nI_eq (a := k) (b := 5) (by omega) (by omega)
    have hbo : updo os d (dN D) d = dN D := if_pos rfl
    refine Or.inr ⟨dnew D (nI k) (os (d - 1)) lt b d, b + 1, d + 1, updo os d (dN D), decide (k = 5), _, _, by omega, by omega, a4, ⟨V', _, _, _, _, E, _, _, _, pl', _, _, le, 0, rfl, rfl, ⟨hS.opn hd a3 hk56, hA.new hS hd ⟨k, by omega, rfl⟩ hlt, hB.new hS hd hb (by omega) (fun v hv => opd_up hv) (fun _ => opd_top), hV.new hn0 a5 (fun v hv => opd_up hv) (fun _ => opd_top), fun j hj => ?_, fun j hj hk => ?_, fun z => ⟨by omega, ?_⟩, hX.opn hk56 a3, ?_, by omega⟩, fun z => by omega, fun _ => ⟨?_, fun z => ?_, fun z => Or.inl ?_⟩⟩, a6⟩
    · unfold updo
      by_cases z : j = d
      · rw [if_pos z, z, upd_at]
      · rw [if_neg z, upd_ne z]
        exact hO j (by omega)
    · by_cases z : j = d
      · subst z
        rw [hbo, dK_at] at hk
        rw [hbo, upd_at, if_pos ⟨rfl, decide_eq_true (hk5.mp hk)⟩]
      · have hj2 := (hS.2.1 j (by omega)).1
        have e1 : updo os d (dN D) j = os j := if_neg z
        rw [e1, dK_old hj2] at hk
        rw [e1, upd_ne (by omega), if_neg (by omega)]
        exact hW j (by omega) hk
    · rw [Nat.add_sub_cancel, hbo, dK_at]
      exact hk5.mpr (of_decide_eq_true z)
    · rw [dN_new]
      split <;> omega
    · rw [Nat.add_sub_cancel, hbo]
    · exact if_pos (of_decide_eq_true z)
    · have hk6 : k = 6 := by
        have := of_decide_eq_false z
        omega
      have hm : ¬ nI (dN D) = -1 := nI_m1 (by omega)
      rw [if_neg (by omega), Nat.add_sub_cancel, hbo]
      unfold sbv
      rw [if_neg hm, a5.2.2.1, hk6]
      rfl
end VA
