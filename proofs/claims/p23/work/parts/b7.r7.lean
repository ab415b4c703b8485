/-! ===== pure: between two values ===== -/
def ld (D : Dc) (w : Nat) : Nat := if dL D w = 8 then dB D w else dB D w - 1
def opd (d : Nat) (os : Nat → Nat) (v : Nat) : Prop := ∃ j, j < d ∧ os j = v
def SK (D : Dc) (d : Nat) (os : Nat → Nat) : Prop := d ≤ 4 ∧ (∀ j, j < d → os j < dN D ∧ (dK D (os j) = 5 ∨ dK D (os j) = 6) ∧ dD D (os j) = j) ∧ (0 < d → os 0 = 0) ∧ (∀ j, j + 1 < d → dP D (os (j + 1)) = os j ∧ os j < os (j + 1)) ∧ (∀ j, j < d → ∀ u, os j < u → u < dN D → os j ≤ dP D u)
def DA (D : Dc) : Prop := 1 ≤ dN D ∧ dK D 0 = 6 ∧ dD D 0 = 0 ∧ (∀ v, v < dN D → ∃ j, j ≤ 6 ∧ dK D v = nI j) ∧ (∀ v, 0 < v → v < dN D → dP D v < v ∧ dD D v = dD D (dP D v) + 1 ∧ dD D v ≤ 4 ∧ ((dK D (dP D v) = 6 ∧ dL D v < 8) ∨ (dK D (dP D v) = 5 ∧ dL D v = 8))) ∧ (∀ v, 0 < v → v < dN D → ∀ u, dP D v < u → u < v → dP D v ≤ dP D u)
def DB (D : Dc) (i d : Nat) (os : Nat → Nat) : Prop := (∀ v, v < dN D → dB D v < i) ∧ (∀ v w, v < w → w < dN D → dB D v < ld D w) ∧ (∀ v, v < dN D → dK D v = 6 → dU D v < 256) ∧ ∀ v, v < dN D → dK D v = 6 → ¬ opd d os v → dB D v < dE D v ∧ dE D v < i ∧ ∀ w, v < w → w < dN D → (opn D v w → dB D w < dE D v ∧ (dK D w = 6 → dE D w < dE D v)) ∧ (¬ opn D v w → dE D v < ld D w)
def DV (D : Dc) (d : Nat) (os : Nat → Nat) (V : S_Tree) (K U L B E W : Nat → Int32) : Prop := g_Tree_size V = nI (dN D) ∧ ∀ v, v < dN D → tc V v 0 = dK D v ∧ tc V v 1 = lI D v ∧ tc V v 2 = nI (dD D v) ∧ tc V v 3 = nI (dB D v) ∧ tc V v 5 = pI D v ∧ K v = dK D v ∧ L v = lI D v ∧ B v = nI (dB D v) ∧ U v = pI D v ∧ (dK D v = 6 → tc V v 6 = nI (dU D v) ∧ W v = nI (dU D v) ∧ (¬ opd d os v → tc V v 4 = nI (dE D v) ∧ E v = nI (dE D v)))
def XX (D : Dc) (x : Nat) : Prop := x ≤ 4 ∧ (∀ v, v < dN D → dK D v = 5 ∨ dK D v = 6 → dD D v + 1 ≤ x) ∧ ∃ v, v < dN D ∧ (dK D v = 5 ∨ dK D v = 6) ∧ dD D v + 1 = x
/-- one value more -/
def dnew (D : Dc) (k : Int32) (p l b dp : Nat) : Dc := (dN D + 1, (fun v => if v = dN D then k else dK D v), (fun v => if v = dN D then p else dP D v), (fun v => if v = dN D then l else dL D v), (fun v => if v = dN D then b else dB D v), dE D, (fun v => if v = dN D then 0 else dU D v), (fun v => if v = dN D then dp else dD D v))
def updo (os : Nat → Nat) (d n : Nat) : Nat → Nat := fun j => if j = d then n else os j
section NEW
variable {D : Dc} {k : Int32} {p l b dp : Nat}
theorem dN_new : dN (dnew D k p l b dp) = dN D + 1 := rfl
theorem dK_at : dK (dnew D k p l b dp) (dN D) = k := if_pos rfl
theorem dP_at : dP (dnew D k p l b dp) (dN D) = p := if_pos rfl
theorem dL_at : dL (dnew D k p l b dp) (dN D) = l := if_pos rfl
theorem dB_at : dB (dnew D k p l b dp) (dN D) = b := if_pos rfl
theorem dU_at : dU (dnew D k p l b dp) (dN D) = 0 := if_pos rfl
theorem dD_at : dD (dnew D k p l b dp) (dN D) = dp := if_pos rfl
theorem dE_new (v : Nat) : dE (dnew D k p l b dp) v = dE D v := rfl
theorem dK_old {v : Nat} (h : v < dN D) : dK (dnew D k p l b dp) v = dK D v := if_neg (by omega)
theorem dP_old {v : Nat} (h : v < dN D) : dP (dnew D k p l b dp) v = dP D v := if_neg (by omega)
theorem dL_old {v : Nat} (h : v < dN D) : dL (dnew D k p l b dp) v = dL D v := if_neg (by omega)
theorem dB_old {v : Nat} (h : v < dN D) : dB (dnew D k p l b dp) v = dB D v := if_neg (by omega)
theorem dU_old {v : Nat} (h : v < dN D) : dU (dnew D k p l b dp) v = dU D v := if_neg (by omega)
theorem dD_old {v : Nat} (h : v < dN D) : dD (dnew D k p l b dp) v = dD D v := if_neg (by omega)
theorem ld_old {v : Nat} (h : v < dN D) : ld (dnew D k p l b dp) v = ld D v := by unfold ld; rw [dL_old h, dB_old h]
theorem opn_old {v w : Nat} (h : w < dN D) : opn (dnew D k p l b dp) v w ↔ opn D v w := by
  unfold opn
  constructor
  · intro z
    exact ⟨z.1, fun u h1 h2 => by have := z.2 u h1 h2; rw [dP_old (by omega)] at this; exact this⟩
  · intro z
    exact ⟨z.1, fun u h1 h2 => by rw [dP_old (by omega)]; exact z.2 u h1 h2⟩
end NEW
section STK
variable {D : Dc} {d : Nat} {os : Nat → Nat}
theorem SK.mono (h : SK D d os) : ∀ g j, j + g < d → os j ≤ os (j + g) := by
  intro g
  induction g with
  | zero => intro j _; exact Nat.le_refl _
  | succ g ihr =>
    intro j hj
    have h1 := ihr j (by omega)
    have h2 := (h.2.2.2.1 (j + g) (by omega)).2
    have h3 : j + (g + 1) = j + g + 1 := by omega
    rw [h3]; omega
theorem SK.top (h : SK D d os) {j : Nat} (hj : j < d) : os j ≤ os (d - 1) := by
  have := h.mono (d - 1 - j) j (by omega)
  rw [show j + (d - 1 - j) = d - 1 by omega] at this
  exact this
/-- a closed value doesn't hold an open one -/
theorem SK.closed (h : SK D d os) {v : Nat} (hv : ¬ opd d os v) : ∀ j, j < d → v ≤ os j → (∀ w, v < w → w ≤ os j → v ≤ dP D w) → False := by
  intro j
  induction j with
  | zero =>
    intro hj hle hw
    have := h.2.2.1 hj
    exact hv ⟨0, hj, by omega⟩
  | succ j ihr =>
    intro hj hle hw
    have h2 := h.2.2.2.1 j hj
    have hne : os (j + 1) ≠ v := fun z => hv ⟨j + 1, hj, z⟩
    have h3 := hw (os (j + 1)) (by omega) (Nat.le_refl _)
    rw [h2.1] at h3
    exact ihr (by omega) h3 (fun w h4 h5 => hw w h4 (by omega))
variable {k : Int32} {l b : Nat}
theorem SK.new (h : SK D d os) (hd : 0 < d) : SK (dnew D k (os (d - 1)) l b d) d os := by
  obtain ⟨h1, h2, h3, h4, h5⟩ := h
  have hh : SK D d os := ⟨h1, h2, h3, h4, h5⟩
  refine ⟨h1, fun j hj => ?_, h3, fun j hj => ?_, fun j hj u hu hun => ?_⟩
  · obtain ⟨a1, a2, a3⟩ := h2 j hj
    rw [dK_old a1, dD_old a1, dN_new]
    exact ⟨by omega, a2, a3⟩
  · rw [dP_old (h2 (j + 1) hj).1]
    exact h4 j hj
  · rw [dN_new] at hun
    rcases Nat.lt_or_ge u (dN D) with z | z
    · rw [dP_old z]; exact h5 j hj u hu z
    · obtain rfl : u = dN D := by omega
      rw [dP_at]
      exact hh.top hj
theorem SK.opn (h : SK D d os) (hd : 0 < d) (hd4 : d < 4) (hk : k = 5 ∨ k = 6) : SK (dnew D k (os (d - 1)) l b d) (d + 1) (updo os d (dN D)) := by
  obtain ⟨h1, h2, h3, h4, h5⟩ := h.new (k := k) (l := l) (b := b) hd
  refine ⟨by omega, fun j hj => ?_, fun _ => ?_, fun j hj => ?_, fun j hj u hu hun => ?_⟩
  · unfold updo
    by_cases z : j = d
    · rw [if_pos z, dK_at, dD_at, dN_new]
      exact ⟨by omega, hk, z.symm⟩
    · rw [if_neg z]
      exact h2 j (by omega)
  · unfold updo
    rw [if_neg (by omega)]
    exact h3 hd
  · unfold updo
    rw [if_neg (show ¬ j = d by omega)]
    by_cases z : j + 1 = d
    · rw [if_pos z, dP_at]
      have e : d - 1 = j := by omega
      rw [e]
      exact ⟨rfl, (h.2.1 j (by omega)).1⟩
    · rw [if_neg z]
      exact h4 j (by omega)
  · unfold updo at hu ⊢
    rw [dN_new] at hun
    by_cases z : j = d
    · rw [if_pos z] at hu; omega
    · rw [if_neg z] at hu ⊢
      exact h5 j (by omega) u hu (by rw [dN_new]; exact hun)
theorem opd_up {v : Nat} (hv : v < dN D) : opd (d + 1) (updo os d (dN D)) v ↔ opd d os v := by
  unfold opd updo
  constructor
  · rintro ⟨j, hj, he⟩
    by_cases z : j = d
    · rw [if_pos z] at he; omega
    · rw [if_neg z] at he
      exact ⟨j, by omega, he⟩
  · rintro ⟨j, hj, he⟩
    exact ⟨j, by omega, by rw [if_neg (by omega)]; exact he⟩
theorem opd_top : opd (d + 1) (updo os d (dN D)) (dN D) := ⟨d, by omega, if_pos rfl⟩
theorem DA.new (hA : DA D) (h : SK D d os) (hd : 0 < d) (hk : ∃ j, j ≤ 6 ∧ k = nI j) (hl : (dK D (os (d - 1)) = 6 ∧ l < 8) ∨ (dK D (os (d - 1)) = 5 ∧ l = 8)) : DA (dnew D k (os (d - 1)) l b d) := by
  obtain ⟨a1, a2, a3, a4, a5, a6⟩ := hA
  have ho := (h.2.1 (d - 1) (by omega)).1
  have hod := (h.2.1 (d - 1) (by omega)).2.2
  refine ⟨by rw [dN_new]; omega, by rw [dK_old a1]; exact a2, by rw [dD_old a1]; exact a3, fun v hv => ?_, fun v h0 hv => ?_, fun v h0 hv u hu huv => ?_⟩
  · rcases Nat.lt_or_ge v (dN D) with z | z
    · rw [dK_old z]; exact a4 v z
    · obtain rfl : v = dN D := by rw [dN_new] at hv; omega
      rw [dK_at]; exact hk
  · rcases Nat.lt_or_ge v (dN D) with z | z
    · have h5 := a5 v h0 z
      rw [dP_old z, dD_old z, dD_old (by omega), dK_old (by omega), dL_old z]
      exact h5
    · obtain rfl : v = dN D := by rw [dN_new] at hv; omega
      rw [dP_at, dD_at, dD_old ho, dK_old ho, dL_at, hod]
      exact ⟨ho, by omega, h.1, hl⟩
  · rcases Nat.lt_or_ge v (dN D) with z | z
    · rw [dP_old z] at hu ⊢
      rw [dP_old (by omega)]
      exact a6 v h0 z u hu huv
    · obtain rfl : v = dN D := by rw [dN_new] at hv; omega
      rw [dP_at] at hu ⊢
      rw [dP_old huv]
      exact h.2.2.2.2 (d - 1) (by omega) u hu huv
theorem DB.new {i e d' : Nat} {os' : Nat → Nat} (hB : DB D i d os) (h : SK D d os) (hd : 0 < d) (hi : i ≤ if l = 8 then b else b - 1) (he : b < e) (h1 : ∀ v, v < dN D → (opd d' os' v ↔ opd d os v)) (h2 : k = 6 → opd d' os' (dN D)) : DB (dnew D k (os (d - 1)) l b d) e d' os' := by
  obtain ⟨b1, b2, b3, b4⟩ := hB
  have hib : i ≤ b := by split at hi <;> omega
  have hld : ld (dnew D k (os (d - 1)) l b d) (dN D) = if l = 8 then b else b - 1 := by unfold ld; rw [dL_at, dB_at]
  refine ⟨fun v hv => ?_, fun v w hvw hw => ?_, fun v hv hk => ?_, fun v hv hk hc => ?_⟩
  · rcases Nat.lt_or_ge v (dN D) with z | z
    · rw [dB_old z]; have := b1 v z; omega
    · obtain rfl : v = dN D := by rw [dN_new] at hv; omega
      rw [dB_at]; exact he
  · rw [dN_new] at hw
    rcases Nat.lt_or_ge w (dN D) with z | z
    · rw [dB_old (by omega), ld_old z]; exact b2 v w hvw z
    · obtain rfl : w = dN D := by omega
      rw [dB_old hvw, hld]
      have := b1 v hvw; omega
  · rcases Nat.lt_or_ge v (dN D) with z | z
    · rw [dK_old z] at hk; rw [dU_old z]; exact b3 v z hk
    · obtain rfl : v = dN D := by rw [dN_new] at hv; omega
      rw [dU_at]; omega
  · rcases Nat.lt_or_ge v (dN D) with z | z
    · rw [dK_old z] at hk
      have hc' : ¬ opd d os v := fun y => hc ((h1 v z).mpr y)
      obtain ⟨c1, c2, c3⟩ := b4 v z hk hc'
      rw [dB_old z, dE_new]
      refine ⟨c1, by omega, fun w hvw hw => ?_⟩
      rw [dN_new] at hw
      rcases Nat.lt_or_ge w (dN D) with y | y
      · rw [opn_old y, dB_old y, dK_old y, dE_new, ld_old y]
        exact c3 w hvw y
      · obtain rfl : w = dN D := by omega
        refine ⟨fun o => ?_, fun _ => by rw [hld]; omega⟩
        exfalso
        have o2 := o.2 (dN D) z (Nat.le_refl _)
        rw [dP_at] at o2
        refine h.closed hc' (d - 1) (by omega) o2 fun w h4 h5 => ?_
        have hw : w < dN D := by have := (h.2.1 (d - 1) (by omega)).1; omega
        have := o.2 w h4 (by omega)
        rw [dP_old hw] at this
        exact this
    · obtain rfl : v = dN D := by rw [dN_new] at hv; omega
      rw [dK_at] at hk
      exact absurd (h2 hk) hc
theorem XX.new {x p dp : Nat} (h : XX D x) (hk : ¬ (k = 5 ∨ k = 6)) : XX (dnew D k p l b dp) x := by
  obtain ⟨h1, h2, v, h3, h4, h5⟩ := h
  refine ⟨h1, fun u hu hku => ?_, v, by rw [dN_new]; omega, by rw [dK_old h3]; exact h4, by rw [dD_old h3]; exact h5⟩
  rcases Nat.lt_or_ge u (dN D) with z | z
  · rw [dK_old z] at hku; rw [dD_old z]; exact h2 u z hku
  · obtain rfl : u = dN D := by rw [dN_new] at hu; omega
    rw [dK_at] at hku; exact absurd hku hk
theorem XX.opn {x p dp : Nat} (h : XX D x) (hk : k = 5 ∨ k = 6) (hdp : dp < 4) : XX (dnew D k p l b dp) (if dp + 1 ≤ x then x else dp + 1) := by
  obtain ⟨h1, h2, v, h3, h4, h5⟩ := h
  refine ⟨by split <;> omega, fun u hu hku => ?_, ?_⟩
  · rcases Nat.lt_or_ge u (dN D) with z | z
    · rw [dK_old z] at hku; rw [dD_old z]; have := h2 u z hku; split <;> omega
    · obtain rfl : u = dN D := by rw [dN_new] at hu; omega
      rw [dD_at]; split <;> omega
  · by_cases z : dp + 1 ≤ x
    · rw [if_pos z]
      exact ⟨v, by rw [dN_new]; omega, by rw [dK_old h3]; exact h4, by rw [dD_old h3]; exact h5⟩
    · rw [if_neg z]
      exact ⟨dN D, by rw [dN_new]; omega, by rw [dK_at]; exact hk, by rw [dD_at]⟩
theorem DV.new {V V' : S_Tree} {K U L B E W : Nat → Int32} {d' p dp : Nat} {os' : Nat → Nat} (h : DV D d os V K U L B E W) (hn : 0 < dN D) (hv : vnew V V' (dN D) k (nI l) (nI dp) (nI b) (nI p)) (h1 : ∀ v, v < dN D → (opd d' os' v ↔ opd d os v)) (h2 : k = 6 → opd d' os' (dN D)) :
    DV (dnew D k p l b dp) d' os' V' (upd K (dN D) k) (upd U (dN D) (nI p)) (upd L (dN D) (nI l)) (upd B (dN D) (nI b)) E (upd W (dN D) 0) := by
  obtain ⟨g1, g2⟩ := h
  obtain ⟨v1, v2, v3, v4, v5, v6, v7, v8, v9⟩ := hv
  refine ⟨v1, fun v hv => ?_⟩
  rcases Nat.lt_or_ge v (dN D) with z | z
  · obtain ⟨a1, a2, a3, a4, a5, a6, a7, a8, a9, a10⟩ := g2 v z
    have hne : v ≠ dN D := by omega
    have el : lI (dnew D k p l b dp) v = lI D v := by unfold lI; rw [dL_old z]
    have ep : pI (dnew D k p l b dp) v = pI D v := by unfold pI; rw [dP_old z]
    rw [v2 v 0 hne (by omega), v2 v 1 hne (by omega), v2 v 2 hne (by omega), v2 v 3 hne (by omega), v2 v 5 hne (by omega), v2 v 6 hne (by omega), v2 v 4 hne (by omega), upd_ne hne, upd_ne hne, upd_ne hne, upd_ne hne, upd_ne hne, dK_old z, dD_old z, dB_old z, dU_old z, dE_new, el, ep, h1 v z]
    exact ⟨a1, a2, a3, a4, a5, a6, a7, a8, a9, a10⟩
  · obtain rfl : v = dN D := by rw [dN_new] at hv; omega
    have el : lI (dnew D k p l b dp) (dN D) = nI l := by unfold lI; rw [if_neg (by omega), dL_at]
    have ep : pI (dnew D k p l b dp) (dN D) = nI p := by unfold pI; rw [if_neg (by omega), dP_at]
    rw [dK_at, dD_at, dB_at, dU_at, el, ep, upd_at, upd_at, upd_at, upd_at, upd_at]
    exact ⟨v3, v4, v5, v6, v8, rfl, rfl, rfl, rfl, fun hk => ⟨v9, rfl, fun hc => absurd (h2 hk) hc⟩⟩
end STK
