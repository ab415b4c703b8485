/-! ===== pure: where a document does not fit ===== -/
def fok (d : Dt) (k : Int32) : Bool := if k = 0 then decide (d.2.2.1 = 1) else decide (jk d.1 k = d.1)
/-- the place of a value in the shape, and what stays open of it -/
def ft (D : Dc) (pl : Nat → Option Nat) (v : Nat) : Option Nat := if v = 0 then some 0 else match pl (dP D v) with | none => none | some c => some (ch c (dL D v))
def fstep (D : Dc) (A : Mp) (pl : Nat → Option Nat) (v : Nat) : Option Nat := match ft D pl v with | none => none | some c => match A c with | none => none | some d => if fok d (dK D v) = true ∧ ¬ d.1 = 7 then some c else none
def frun (D : Dc) (A : Mp) : Nat → Nat → Option Nat
  | 0 => fun _ => none
  | v + 1 => fun u => if u = v then fstep D A (frun D A v) v else frun D A v u
def fp (D : Dc) (A : Mp) (u : Nat) : Option Nat := frun D A (u + 1) u
theorem frun_fp (D : Dc) (A : Mp) (u : Nat) : ∀ v, u < v → frun D A v u = fp D A u
  | 0, h => absurd h (Nat.not_lt_zero _)
  | v + 1, h => by
    by_cases q : u = v
    · rw [q]; rfl
    · have e : frun D A (v + 1) u = frun D A v u := if_neg q
      rw [e]
      exact frun_fp D A u v (by omega)
theorem fp_s (D : Dc) (A : Mp) (v : Nat) : fp D A v = fstep D A (frun D A v) v := if_pos rfl
theorem ft_congr {D : Dc} {p q : Nat → Option Nat} {v : Nat} (h : v ≠ 0 → p (dP D v) = q (dP D v)) : ft D p v = ft D q v := by
  unfold ft
  by_cases z : v = 0
  · rw [if_pos z, if_pos z]
  · rw [if_neg z, if_neg z, h z]
def fta (D : Dc) (A : Mp) (v : Nat) : Option Nat := ft D (fp D A) v
theorem fta_run {D : Dc} {A : Mp} (hD : DW D) {v : Nat} (hv : v < dN D) : ft D (frun D A v) v = fta D A v := ft_congr (fun h0 => frun_fp D A _ v (hD.2.2.2.2.2.1 v (by omega) hv).1)
theorem fp_of {D : Dc} {A : Mp} (hD : DW D) {v : Nat} (hv : v < dN D) : fp D A v = match fta D A v with | none => none | some c => match A c with | none => none | some d => if fok d (dK D v) = true ∧ ¬ d.1 = 7 then some c else none := by
  rw [fp_s]
  unfold fstep
  rw [fta_run hD hv]
theorem fta_0 (D : Dc) (A : Mp) : fta D A 0 = some 0 := by
  unfold fta ft
  rw [if_pos rfl]
theorem fta_p {D : Dc} {A : Mp} {v : Nat} (h0 : v ≠ 0) : fta D A v = match fp D A (dP D v) with | none => none | some c => some (ch c (dL D v)) := if_neg h0
theorem fta_none {D : Dc} {A : Mp} {v : Nat} (h0 : v ≠ 0) (h : fp D A (dP D v) = none) : fta D A v = none := by rw [fta_p h0, h]
theorem fta_some {D : Dc} {A : Mp} {v c : Nat} (h0 : v ≠ 0) (h : fp D A (dP D v) = some c) : fta D A v = some (ch c (dL D v)) := by rw [fta_p h0, h]
theorem fp_none {D : Dc} {A : Mp} (hD : DW D) {v : Nat} (hv : v < dN D) (h : fta D A v = none) : fp D A v = none := by rw [fp_of hD hv, h]
theorem fp_some {D : Dc} {A : Mp} (hD : DW D) {v c : Nat} {d : Dt} (hv : v < dN D) (h : fta D A v = some c) (hc : A c = some d) : fp D A v = if fok d (dK D v) = true ∧ ¬ d.1 = 7 then some c else none := by
  rw [fp_of hD hv, h]
  show (match A c with | none => none | some d => if fok d (dK D v) = true ∧ ¬ d.1 = 7 then some c else none) = _
  rw [hc]
theorem fp_no {D : Dc} {A : Mp} (hD : DW D) {v c : Nat} (hv : v < dN D) (h : fta D A v = some c) (hc : A c = none) : fp D A v = none := by
  rw [fp_of hD hv, h]
  show (match A c with | none => none | some d => if fok d (dK D v) = true ∧ ¬ d.1 = 7 then some c else none) = _
  rw [hc]
/-- a letter isn't used -/
def ub (u l : Nat) : Bool := decide (((nI u >>> (nI l &&& 31)) &&& 1) = 0)
theorem ub_tab : ∀ u, u < 256 → ∀ l, l < 8 → ((nI u &&& ((1 : Int32) <<< (nI l &&& 31))) = 0 ↔ ((nI u >>> (nI l &&& 31)) &&& 1) = 0) := by decide +kernel
def lack (D : Dc) (A : Mp) (v c : Nat) : Prop := ∃ l, l < 8 ∧ ub (dU D v) l = true ∧ mb A (ch c l) = true
abbrev Ev : Type := Nat × Nat × Nat
/-- what is amiss with a value: the reason, the index, the node -/
def EV (D : Dc) (A : Mp) (v : Nat) (e : Ev) : Prop := (∃ c, fta D A v = some c ∧ A c = none ∧ e.1 = 2 ∧ e.2.1 = (if dL D v = 8 then dB D v else dB D v - 1) ∧ ∃ cp, fp D A (dP D v) = some cp ∧ e.2.2 = ix A cp) ∨ (∃ c d, fta D A v = some c ∧ A c = some d ∧ fok d (dK D v) = false ∧ e = (1, dB D v, ix A c)) ∨ (∃ c, fp D A v = some c ∧ dK D v = 6 ∧ lack D A v c ∧ e = (3, dE D v, ix A c))
/-- the indices of a document -/
def DX (D : Dc) : Prop := (∀ v w, v < w → w < dN D → dB D v < (if dL D w = 8 then dB D w else dB D w - 1)) ∧ (∀ v, v < dN D → dK D v = 6 → dB D v < dE D v ∧ dE D v < 60 ∧ dU D v < 256) ∧ (∀ v w, v < w → w < dN D → dK D v = 6 → (opn D v w → dB D w < dE D v ∧ (dK D w = 6 → dE D w < dE D v)) ∧ (¬ opn D v w → dE D v < (if dL D w = 8 then dB D w else dB D w - 1))) ∧ (∀ v, v < dN D → dB D v < 60)
theorem EV_none {D : Dc} {A : Mp} {v : Nat} {e : Ev} (h1 : fta D A v = none) (h2 : fp D A v = none) : ¬ EV D A v e := by
  rintro (⟨c, h, -⟩ | ⟨c, d, h, -⟩ | ⟨c, h, -⟩)
  · rw [h1] at h; cases h
  · rw [h1] at h; cases h
  · rw [h2] at h; cases h
/-- below what isn't looked at, nothing is amiss -/
theorem closed_below {D : Dc} {A : Mp} (hD : DW D) {v : Nat} (h : fp D A v = none) : ∀ w, opn D v w → w < dN D → fta D A w = none ∧ fp D A w = none := by
  intro w
  induction w using Nat.strongRecOn with
  | ind w ih =>
    intro ho hw
    have hvw := ho.1
    have hp := opn_le ho
    have hpw := (hD.2.2.2.2.2.1 w (by omega) hw).1
    have hpn : fp D A (dP D w) = none := by
      by_cases q : dP D w = v
      · rw [q]; exact h
      · exact (ih (dP D w) hpw ⟨by omega, fun u u1 u2 => ho.2 u u1 (by omega)⟩ (by omega)).2
    have := fta_none (by omega) hpn
    exact ⟨this, fp_none hD hw this⟩
theorem EV_idx {D : Dc} {A : Mp} {v : Nat} {e : Ev} (h : EV D A v e) : ((if dL D v = 8 then dB D v else dB D v - 1) ≤ e.2.1 ∧ e.2.1 ≤ dB D v) ∨ (dK D v = 6 ∧ e.2.1 = dE D v) := by
  rcases h with ⟨c, -, -, -, h, -⟩ | ⟨c, d, -, -, -, h⟩ | ⟨c, -, h6, -, h⟩
  · left
    rw [h]
    by_cases q : dL D v = 8
    · rw [if_pos q]; omega
    · rw [if_neg q]; omega
  · left
    rw [h]
    show (if dL D v = 8 then dB D v else dB D v - 1) ≤ dB D v ∧ dB D v ≤ dB D v
    by_cases q : dL D v = 8
    · rw [if_pos q]; omega
    · rw [if_neg q]; omega
  · exact Or.inr ⟨h6, by rw [h]⟩
/-- of one value: only one thing is amiss -/
theorem EV_one {D : Dc} {A : Mp} (hD : DW D) {v : Nat} (hv : v < dN D) {e e' : Ev} (h : EV D A v e) (h' : EV D A v e') : e = e' := by
  have key : ∀ {x y : Ev}, x.1 = y.1 → x.2.1 = y.2.1 → x.2.2 = y.2.2 → x = y := by
    rintro ⟨a, b, c⟩ ⟨a', b', c'⟩ h1 h2 h3
    have h1 : a = a' := h1
    have h2 : b = b' := h2
    have h3 : c = c' := h3
    subst h1; subst h2; subst h3; rfl
  rcases h with ⟨c, a1, a2, a3, a4, cp, a5, a6⟩ | ⟨c, d, a1, a2, a3, a4⟩ | ⟨c, a1, a2, a3, a4⟩
  · rcases h' with ⟨c', b1, b2, b3, b4, cp', b5, b6⟩ | ⟨c', d', b1, b2, b3, b4⟩ | ⟨c', b1, b2, b3, b4⟩
    · rw [a5] at b5
      cases b5
      exact key (a3.trans b3.symm) (a4.trans b4.symm) (a6.trans b6.symm)
    · rw [a1] at b1; cases b1; rw [a2] at b2; cases b2
    · rw [fp_no hD hv a1 a2] at b1; cases b1
  · rcases h' with ⟨c', b1, b2, b3, b4, cp', b5, b6⟩ | ⟨c', d', b1, b2, b3, b4⟩ | ⟨c', b1, b2, b3, b4⟩
    · rw [a1] at b1; cases b1; rw [a2] at b2; cases b2
    · rw [a1] at b1; cases b1; rw [a4, b4]
    · rw [fp_some hD hv a1 a2, if_neg (fun z => by rw [a3] at z; cases z.1)] at b1; cases b1
  · rcases h' with ⟨c', b1, b2, b3, b4, cp', b5, b6⟩ | ⟨c', d', b1, b2, b3, b4⟩ | ⟨c', b1, b2, b3, b4⟩
    · rw [fp_no hD hv b1 b2] at a1; cases a1
    · rw [fp_some hD hv b1 b2, if_neg (fun z => by rw [b3] at z; cases z.1)] at a1; cases a1
    · rw [a1] at b1; cases b1; rw [a4, b4]
/-- things amiss at one index are one -/
theorem EV_inj {D : Dc} {A : Mp} (hD : DW D) (hX : DX D) {v w : Nat} (hv : v < dN D) (hw : w < dN D) {e e' : Ev} (h : EV D A v e) (h' : EV D A w e') (hi : e.2.1 = e'.2.1) : e = e' := by
  obtain ⟨x1, x2, x3, x4⟩ := hX
  have key : ∀ {v w : Nat} {e e' : Ev}, v < w → w < dN D → EV D A v e → EV D A w e' → e.2.1 ≠ e'.2.1 := by
    intro v w e e' hvw hw h h' hi
    have hb := x1 v w hvw hw
    rcases EV_idx h with ⟨a1, a2⟩ | ⟨a1, a2⟩
    · rcases EV_idx h' with ⟨b1, b2⟩ | ⟨b1, b2⟩
      · omega
      · have := (x2 w hw b1).1
        have : (if dL D w = 8 then dB D w else dB D w - 1) ≤ dB D w := by
          by_cases q : dL D w = 8
          · rw [if_pos q]; omega
          · rw [if_neg q]; omega
        omega
    · obtain ⟨y1, y2⟩ := x3 v w hvw hw a1
      by_cases ho : opn D v w
      · obtain ⟨z1, z2⟩ := y1 ho
        rcases EV_idx h' with ⟨b1, b2⟩ | ⟨b1, b2⟩
        · omega
        · have := z2 b1
          omega
      · have z := y2 ho
        rcases EV_idx h' with ⟨b1, b2⟩ | ⟨b1, b2⟩
        · omega
        · have := (x2 w hw b1).1
          have : (if dL D w = 8 then dB D w else dB D w - 1) ≤ dB D w := by
            by_cases q : dL D w = 8
            · rw [if_pos q]; omega
            · rw [if_neg q]; omega
          omega
  rcases Nat.lt_trichotomy v w with q | q | q
  · exact absurd hi (key q hw h h')
  · subst q; exact EV_one hD hv h h'
  · exact absurd hi.symm (key q hv h' h)
/-- the first that is amiss among the values that P holds of -/
def first1 (D : Dc) (A : Mp) (P : Nat → Prop) (e : Ev) : Prop := (∃ v, P v ∧ v < dN D ∧ EV D A v e) ∧ ∀ w e', P w → w < dN D → EV D A w e' → e.2.1 ≤ e'.2.1
theorem first1_one {D : Dc} {A : Mp} (hD : DW D) (hX : DX D) {P : Nat → Prop} {e e' : Ev} (h : first1 D A P e) (h' : first1 D A P e') : e = e' := by
  obtain ⟨⟨v, a1, a2, a3⟩, a4⟩ := h
  obtain ⟨⟨w, b1, b2, b3⟩, b4⟩ := h'
  have h1 := a4 w e' b1 b2 b3
  have h2 := b4 v e a1 a2 a3
  exact EV_inj hD hX a2 b2 a3 b3 (by omega)
/-- the end of a value's share -/
theorem bh_ex (D : Dc) (v : Nat) (hv : v < dN D) : ∃ b, v < b ∧ b ≤ dN D ∧ (∀ w, v < w → w < b → v ≤ dP D w) ∧ (b < dN D → dP D b < v) := by
  have key : ∀ k m, dN D - m = k → v < m → m ≤ dN D → (∀ w, v < w → w < m → v ≤ dP D w) → ∃ b, v < b ∧ b ≤ dN D ∧ (∀ w, v < w → w < b → v ≤ dP D w) ∧ (b < dN D → dP D b < v) := by
    intro k
    induction k with
    | zero => intro m h1 h2 h3 h4; exact ⟨m, h2, h3, h4, fun h => by omega⟩
    | succ k ih =>
      intro m h1 h2 h3 h4
      by_cases q : dP D m < v
      · exact ⟨m, h2, h3, h4, fun _ => q⟩
      · refine ih (m + 1) (by omega) (by omega) (by omega) (fun w w1 w2 => ?_)
        by_cases z : w = m
        · rw [z]; omega
        · exact h4 w w1 (by omega)
  exact key _ (v + 1) rfl (by omega) hv (fun w w1 w2 => by omega)
/-- deeper within a share -/
theorem opn_depth {D : Dc} (hD : DW D) {v : Nat} : ∀ w, opn D v w → w < dN D → dD D v < dD D w := by
  intro w
  induction w using Nat.strongRecOn with
  | ind w ih =>
    intro ho hw
    have hvw := ho.1
    obtain ⟨m1, m2, m3, m4⟩ := hD.2.2.2.2.2.1 w (by omega) hw
    have hp := opn_le ho
    by_cases q : dP D w = v
    · rw [m2, q]; omega
    · have := ih (dP D w) m1 ⟨by omega, fun u u1 u2 => ho.2 u u1 (by omega)⟩ (by omega)
      omega
