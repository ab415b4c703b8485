/-! ===== pure: a value is closed; a letter is taken ===== -/
def dcl (D : Dc) (o e : Nat) : Dc := (dN D, dK D, dP D, dL D, dB D, (fun v => if v = o then e else dE D v), dU D, dD D)
def dset (D : Dc) (o u : Nat) : Dc := (dN D, dK D, dP D, dL D, dB D, dE D, (fun v => if v = o then u else dU D v), dD D)
section CL
variable {D : Dc} {d : Nat} {os : Nat → Nat}
theorem SK.drop (h : SK D d os) (hd : 0 < d) (e : Nat) : SK (dcl D (os (d - 1)) e) (d - 1) os := by
  obtain ⟨h1, h2, h3, h4, h5⟩ := h
  exact ⟨by omega, fun j hj => h2 j (by omega), fun _ => h3 hd, fun j hj => h4 j (by omega), fun j hj => h5 j (by omega)⟩
theorem opd_drop {v : Nat} (hd : 0 < d) (hv : v ≠ os (d - 1)) : opd (d - 1) os v ↔ opd d os v := by
  unfold opd
  constructor
  · rintro ⟨j, hj, he⟩; exact ⟨j, by omega, he⟩
  · rintro ⟨j, hj, he⟩
    refine ⟨j, ?_, he⟩
    rcases Nat.lt_or_ge j (d - 1) with z | z
    · exact z
    · have : j = d - 1 := by omega
      rw [this] at he; exact absurd he.symm hv
theorem DB.close {i : Nat} (hB : DB D i d os) (h : SK D d os) (hd : 0 < d) : DB (dcl D (os (d - 1)) i) (i + 1) (d - 1) os := by
  obtain ⟨b1, b2, b3, b4⟩ := hB
  have ho := h.2.1 (d - 1) (by omega)
  have hEt : dE (dcl D (os (d - 1)) i) (os (d - 1)) = i := if_pos rfl
  have hEo : ∀ v, v ≠ os (d - 1) → dE (dcl D (os (d - 1)) i) v = dE D v := fun v hv => if_neg hv
  refine ⟨fun v hv => Nat.lt_succ_of_lt (b1 v hv), b2, b3, fun v hv hk hc => ?_⟩
  have hv' : v < dN D := hv
  have hk' : dK D v = 6 := hk
  by_cases z : v = os (d - 1)
  · subst z
    rw [hEt]
    refine ⟨b1 _ hv', by omega, fun w hvw hw => ⟨fun _ => ⟨b1 w hw, fun hk6 => ?_⟩, fun hno => ?_⟩⟩
    · rw [hEo w (by omega)]
      have hcw : ¬ opd d os w := by
        rintro ⟨j, hj, he⟩
        have := h.top hj
        omega
      exact (b4 w hw hk6 hcw).2.1
    · exfalso
      refine hno ⟨hvw, fun w' h1 h2 => ?_⟩
      exact h.2.2.2.2 (d - 1) (by omega) w' h1 (Nat.lt_of_le_of_lt h2 hw)
  · rw [hEo v z]
    have hc' : ¬ opd d os v := fun y => hc ((opd_drop hd z).mpr y)
    obtain ⟨c1, c2, c3⟩ := b4 v hv' hk' hc'
    refine ⟨c1, by omega, fun w hvw hw => ?_⟩
    have c4 := c3 w hvw hw
    refine ⟨fun o => ⟨(c4.1 o).1, fun hk6 => ?_⟩, c4.2⟩
    by_cases y : w = os (d - 1)
    · exfalso
      have o' : opn D v w := o
      refine h.closed hc' (d - 1) (by omega) (by omega) fun w' h1 h2 => o'.2 w' h1 (by omega)
    · rw [hEo w y]
      exact (c4.1 o).2 hk6
theorem DV.close {i : Nat} {V : S_Tree} {K U L B E W : Nat → Int32} (h : DV D d os V K U L B E W) (hd : 0 < d) : DV (dcl D (os (d - 1)) i) (d - 1) os (tput V (os (d - 1)) 4 (nI i)) K U L B (upd E (os (d - 1)) (nI i)) W := by
  refine ⟨h.1, fun v hv => ?_⟩
  obtain ⟨a1, a2, a3, a4, a5, a6, a7, a8, a9, a10⟩ := h.2 v hv
  rw [tc_tput (by omega) (by omega), if_neg (by omega), tc_tput (by omega) (by omega), if_neg (by omega), tc_tput (by omega) (by omega), if_neg (by omega), tc_tput (by omega) (by omega), if_neg (by omega), tc_tput (by omega) (by omega), if_neg (by omega), tc_tput (by omega) (by omega), if_neg (by omega), tc_tput (by omega) (by omega)]
  refine ⟨a1, a2, a3, a4, a5, a6, a7, a8, a9, fun hk => ⟨(a10 hk).1, (a10 hk).2.1, fun hc => ?_⟩⟩
  by_cases z : v = os (d - 1)
  · rw [if_pos ⟨z, rfl⟩, show dE (dcl D (os (d - 1)) i) v = i from if_pos z, z, upd_at]
    exact ⟨rfl, rfl⟩
  · rw [if_neg (fun y => z y.1), show dE (dcl D (os (d - 1)) i) v = dE D v from if_neg z, upd_ne z]
    exact (a10 hk).2.2 fun y => hc ((opd_drop hd z).mpr y)
theorem DB.set {i u o : Nat} (hB : DB D i d os) (hu : u < 256) : DB (dset D o u) i d os := by
  obtain ⟨b1, b2, b3, b4⟩ := hB
  refine ⟨b1, b2, fun v hv hk => ?_, b4⟩
  show (if v = o then u else dU D v) < 256
  split
  · exact hu
  · exact b3 v hv hk
theorem DV.set {u o : Nat} {V : S_Tree} {K U L B E W : Nat → Int32} (h : DV D d os V K U L B E W) : DV (dset D o u) d os (tput V o 6 (nI u)) K U L B E (upd W o (nI u)) := by
  refine ⟨h.1, fun v hv => ?_⟩
  obtain ⟨a1, a2, a3, a4, a5, a6, a7, a8, a9, a10⟩ := h.2 v hv
  have ht : ∀ k, k < 9 → k ≠ 6 → tc (tput V o 6 (nI u)) v k = tc V v k := fun k h9 h6 => by rw [tc_tput (by omega) h9, if_neg (fun y => h6 y.2)]
  rw [ht 0 (by omega) (by omega), ht 1 (by omega) (by omega), ht 2 (by omega) (by omega), ht 3 (by omega) (by omega), ht 5 (by omega) (by omega), ht 4 (by omega) (by omega), tc_tput (k' := 6) (by omega) (by omega)]
  refine ⟨a1, a2, a3, a4, a5, a6, a7, a8, a9, fun hk => ?_⟩
  by_cases z : v = o
  · subst z
    rw [if_pos ⟨rfl, rfl⟩, show dU (dset D v u) v = u from if_pos rfl, upd_at]
    exact ⟨rfl, rfl, (a10 hk).2.2⟩
  · rw [if_neg (fun y => z y.1), show dU (dset D o u) v = dU D v from if_neg z, upd_ne z]
    exact a10 hk
theorem DV.row {o : Nat} {V : S_Tree} {K U L B E W : Nat → Int32} (h : DV D d os V K U L B E W) (hk : dK D o = 5) (z : Int32) : DV D d os V K U L B E (upd W o z) := by
  refine ⟨h.1, fun v hv => ?_⟩
  obtain ⟨a1, a2, a3, a4, a5, a6, a7, a8, a9, a10⟩ := h.2 v hv
  refine ⟨a1, a2, a3, a4, a5, a6, a7, a8, a9, fun hk6 => ?_⟩
  rw [upd_ne (fun y => by rw [y, hk] at hk6; exact absurd hk6 (by decide))]
  exact a10 hk6
theorem bit_all : ∀ u : Fin 256, ∀ l : Fin 8, (nI u.val ||| ((1 : Int32) <<< (nI l.val &&& 31))) = nI (u.val ||| 2 ^ l.val) ∧ u.val ||| 2 ^ l.val < 256 ∧ (((nI u.val &&& ((1 : Int32) <<< (nI l.val &&& 31))) = 0) ↔ ¬ ((nI u.val >>> (nI l.val &&& 31)) &&& (1 : Int32)) = 1) := by decide +kernel
end CL
