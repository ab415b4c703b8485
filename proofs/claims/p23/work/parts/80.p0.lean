/-! ===== pure: guards and binds, small numbers ===== -/
theorem og_t {α : Type} {b : Bool} {x : Option α} (h : b = true) : og b x = x := by rw [h]; rfl
theorem inb_nI {i n : Nat} (h : i < n) (hn : n < 2 ^ 31) : inb (nI i) n = true := by
  unfold inb
  exact decide_eq_true (nI_in h hn)
theorem ob1_s {α β : Type} {x : Option α} {k : α → Option β} {a : α} (h : x = some a) : ob1 x k = k a := by rw [h]; rfl
theorem ob2_s {α α2 β : Type} {x : Option (α × α2)} {k : α → α2 → Option β} {a : α} {b : α2} (h : x = some (a, b)) : ob2 x k = k a b := by rw [h]; rfl
theorem ob0_s {β : Type} {x : Option Unit} {k : Option β} (h : x = some ()) : ob0 x k = k := by rw [h]; rfl
theorem ob1_e {α β : Type} {k : α → Option β} {a : α} : ob1 (some a) k = k a := rfl
theorem ob2_e {α α2 β : Type} {k : α → α2 → Option β} {a : α} {b : α2} : ob2 (some (a, b)) k = k a b := rfl
theorem ob0_e {β : Type} {k : Option β} : ob0 (some ()) k = k := rfl
theorem nI_m1 {n : Nat} (h : n < 2 ^ 31) : ¬ nI n = -1 := by
  intro q
  have a := nI_toInt h
  rw [q] at a
  have : (-1 : Int32).toInt = -1 := rfl
  omega
theorem m1_nI {n : Nat} (h : n < 2 ^ 31) : ¬ (-1 : Int32) = nI n := fun q => nI_m1 h q.symm
theorem nI_inj {a b : Nat} (ha : a < 2 ^ 31) (hb : b < 2 ^ 31) (h : nI a = nI b) : a = b := (nI_eq ha hb).mp h
theorem nI_lt_m {n : Nat} (h : n < 2 ^ 31) : ¬ nI n < -1 := by
  rw [Int32.lt_iff_toInt_lt, nI_toInt h]
  have : (-1 : Int32).toInt = -1 := rfl
  omega
theorem nI_mul (a b : Nat) : nI a * nI b = nI (a * b) := (Int32.ofNat_mul a b).symm
theorem nI_sub {a b : Nat} (h : b ≤ a) : nI a - nI b = nI (a - b) := by
  have : nI a = nI (a - b) + nI b := by rw [nI_add, Nat.sub_add_cancel h]
  rw [this, Int32.add_sub_cancel]
theorem nI_m (a : Nat) (h : 0 < a) : nI a + (-1) = nI (a - 1) := by
  have : nI a = nI (a - 1) + 1 := by rw [nI_1, Nat.sub_add_cancel h]
  rw [this, Int32.add_assoc, show (1 : Int32) + -1 = 0 from rfl, Int32.add_zero]
theorem b2i_t : b2i true = 1 := rfl
theorem b2i_f : b2i false = 0 := rfl
theorem one_ne0 : ¬ (1 : Int32) = 0 := by decide
theorem upd_at {f : Nat → Int32} {k : Nat} {x : Int32} : upd f k x k = x := if_pos rfl
theorem upd_ne {f : Nat → Int32} {k j : Nat} {x : Int32} (h : j ≠ k) : upd f k x j = f j := if_neg h
/-! ===== pure: the numbers of places in a tree: a digit a letter, 0 below ===== -/
def wt (c : Nat) : Nat := if c = 0 then 10000 else if c % 1000 = 0 then 1000 else if c % 100 = 0 then 100 else if c % 10 = 0 then 10 else 1
def dp (c : Nat) : Nat := if c = 0 then 0 else if c % 1000 = 0 then 1 else if c % 100 = 0 then 2 else if c % 10 = 0 then 3 else 4
def okc (c : Nat) : Prop := c < 10000 ∧ (c = 0 ∨ (1 ≤ c / 1000 ∧ (c % 1000 = 0 ∨ (1 ≤ c / 100 % 10 ∧ (c % 100 = 0 ∨ 1 ≤ c / 10 % 10)))))
def ch (c l : Nat) : Nat := if wt c = 1 then 10000 else c + (l + 1) * (wt c / 10)
def pa (c : Nat) : Nat := c - c % (wt c * 10)
def ltr (c : Nat) : Nat := (c / wt c) % 10 - 1
theorem dp_le (c : Nat) : dp c ≤ 4 := by unfold dp; split <;> (try split) <;> (try split) <;> (try split) <;> omega
theorem vd_lt {c : Nat} (h : okc c) : c < 10000 := h.1
theorem vd_0 : okc 0 := ⟨by omega, Or.inl rfl⟩
theorem dp_0 : dp 0 = 0 := rfl
theorem wt_0 : wt 0 = 10000 := rfl
theorem dpw (c : Nat) : (c = 0 ∧ wt c = 10000 ∧ dp c = 0) ∨ (c ≠ 0 ∧ c % 1000 = 0 ∧ wt c = 1000 ∧ dp c = 1) ∨ (c % 1000 ≠ 0 ∧ c % 100 = 0 ∧ wt c = 100 ∧ dp c = 2) ∨ (c % 100 ≠ 0 ∧ c % 10 = 0 ∧ wt c = 10 ∧ dp c = 3) ∨ (c % 10 ≠ 0 ∧ wt c = 1 ∧ dp c = 4) := by
  unfold wt dp
  by_cases h0 : c = 0
  · left; simp [h0]
  · by_cases h1 : c % 1000 = 0
    · right; left; simp [h0, h1]
    · by_cases h2 : c % 100 = 0
      · right; right; left; simp [h0, h1, h2]
      · by_cases h3 : c % 10 = 0
        · right; right; right; left; simp [h0, h1, h2, h3]
        · right; right; right; right; simp [h0, h1, h2, h3]
theorem wt_pos (c : Nat) : 1 ≤ wt c := by rcases dpw c with h | h | h | h | h <;> omega
theorem ch_of {c l : Nat} : (wt c = 10000 ∧ ch c l = c + (l + 1) * 1000) ∨ (wt c = 1000 ∧ ch c l = c + (l + 1) * 100) ∨ (wt c = 100 ∧ ch c l = c + (l + 1) * 10) ∨ (wt c = 10 ∧ ch c l = c + (l + 1)) ∨ (wt c = 1 ∧ ch c l = 10000) := by
  unfold ch
  rcases dpw c with h | h | h | h | h
  · left; rw [h.2.1]; exact ⟨rfl, rfl⟩
  · right; left; rw [h.2.2.1]; exact ⟨rfl, rfl⟩
  · right; right; left; rw [h.2.2.1]; exact ⟨rfl, rfl⟩
  · right; right; right; left; rw [h.2.2.1]; refine ⟨rfl, ?_⟩; rw [if_neg (by omega)]; omega
  · right; right; right; right; rw [h.2.1]; exact ⟨rfl, rfl⟩
theorem ch_ok {c l : Nat} (hv : okc c) (hd : dp c < 4) (hl : l < 9) : okc (ch c l) ∧ dp (ch c l) = dp c + 1 ∧ wt (ch c l) * 10 = wt c ∧ c < ch c l ∧ ch c l + wt (ch c l) ≤ c + wt c := by
  obtain ⟨h1, h2⟩ := hv
  have hx := dpw (ch c l)
  have hy := @ch_of c l
  generalize ch c l = x at hx hy ⊢
  rcases dpw c with h | h | h | h | h
  · obtain ⟨h3, h4, h5⟩ := h
    subst h3
    have : x = (l + 1) * 1000 := by omega
    refine ⟨⟨by omega, by omega⟩, by omega, by omega, by omega, by omega⟩
  · have : x = c + (l + 1) * 100 := by omega
    refine ⟨⟨by omega, by omega⟩, by omega, by omega, by omega, by omega⟩
  · have : x = c + (l + 1) * 10 := by omega
    refine ⟨⟨by omega, by omega⟩, by omega, by omega, by omega, by omega⟩
  · have : x = c + (l + 1) := by omega
    refine ⟨⟨by omega, by omega⟩, by omega, by omega, by omega, by omega⟩
  · omega
theorem pa_of (c : Nat) : (wt c = 10000 ∧ pa c = c - c % 100000) ∨ (wt c = 1000 ∧ pa c = c - c % 10000) ∨ (wt c = 100 ∧ pa c = c - c % 1000) ∨ (wt c = 10 ∧ pa c = c - c % 100) ∨ (wt c = 1 ∧ pa c = c - c % 10) := by
  unfold pa
  rcases dpw c with h | h | h | h | h
  · left; rw [h.2.1]; exact ⟨rfl, rfl⟩
  · right; left; rw [h.2.2.1]; exact ⟨rfl, rfl⟩
  · right; right; left; rw [h.2.2.1]; exact ⟨rfl, rfl⟩
  · right; right; right; left; rw [h.2.2.1]; exact ⟨rfl, rfl⟩
  · right; right; right; right; rw [h.2.1]; exact ⟨rfl, rfl⟩
theorem lt_of (c : Nat) : (wt c = 10000 ∧ ltr c = (c / 10000) % 10 - 1) ∨ (wt c = 1000 ∧ ltr c = (c / 1000) % 10 - 1) ∨ (wt c = 100 ∧ ltr c = (c / 100) % 10 - 1) ∨ (wt c = 10 ∧ ltr c = (c / 10) % 10 - 1) ∨ (wt c = 1 ∧ ltr c = c % 10 - 1) := by
  unfold ltr
  rcases dpw c with h | h | h | h | h
  · left; rw [h.2.1]; exact ⟨rfl, rfl⟩
  · right; left; rw [h.2.2.1]; exact ⟨rfl, rfl⟩
  · right; right; left; rw [h.2.2.1]; exact ⟨rfl, rfl⟩
  · right; right; right; left; rw [h.2.2.1]; exact ⟨rfl, rfl⟩
  · right; right; right; right; rw [h.2.1]; refine ⟨rfl, ?_⟩; omega
theorem pa_ch {c l : Nat} (hv : okc c) (hd : dp c < 4) (hl : l < 9) : pa (ch c l) = c ∧ ltr (ch c l) = l := by
  obtain ⟨h1, h2⟩ := hv
  have hx := dpw (ch c l)
  have hy := @ch_of c l
  have hp := pa_of (ch c l)
  have hq := lt_of (ch c l)
  generalize ch c l = x at hx hy hp hq ⊢
  rcases dpw c with h | h | h | h | h
  · obtain ⟨h3, h4, h5⟩ := h
    subst h3
    have : x = (l + 1) * 1000 := by omega
    omega
  · have : x = c + (l + 1) * 100 := by omega
    omega
  · have : x = c + (l + 1) * 10 := by omega
    omega
  · have : x = c + (l + 1) := by omega
    omega
  · omega
theorem ch_pa {c : Nat} (hv : okc c) (h0 : c ≠ 0) : ch (pa c) (ltr c) = c ∧ ltr c < 9 ∧ okc (pa c) ∧ dp (pa c) + 1 = dp c ∧ pa c < c := by
  obtain ⟨h1, h2⟩ := hv
  have hp := pa_of c
  have hq := lt_of c
  have hx := dpw (pa c)
  have hy := @ch_of (pa c) (ltr c)
  generalize pa c = x at hx hy hp ⊢
  generalize ltr c = l at hy hq ⊢
  unfold okc
  rcases dpw c with h | h | h | h | h
  · omega
  · have : x = 0 := by omega
    subst this
    have : l = c / 1000 - 1 := by omega
    omega
  · have : x = c / 1000 * 1000 := by omega
    have : l = c / 100 % 10 - 1 := by omega
    omega
  · have : x = c / 100 * 100 := by omega
    have : l = c / 10 % 10 - 1 := by omega
    omega
  · have : x = c / 10 * 10 := by omega
    have : l = c % 10 - 1 := by omega
    omega
/-- what lies in a place's share is deeper, and its own share lies in it -/
theorem nest {c x : Nat} (hv : okc c) (hx : okc x) (h1 : c < x) (h2 : x < c + wt c) : dp c < dp x ∧ x + wt x ≤ c + wt c ∧ c ≤ pa x := by
  obtain ⟨a1, a2⟩ := hv
  obtain ⟨b1, b2⟩ := hx
  have hp := pa_of x
  rcases dpw c with h | h | h | h | h <;> rcases dpw x with g | g | g | g | g <;> omega
theorem nest_pa {c x : Nat} (hv : okc c) (hx : okc x) (h1 : c < x) (h2 : x < c + wt c) (h3 : dp x = dp c + 1) : pa x = c := by
  obtain ⟨a1, a2⟩ := hv
  obtain ⟨b1, b2⟩ := hx
  have hp := pa_of x
  rcases dpw c with h | h | h | h | h <;> rcases dpw x with g | g | g | g | g <;> omega
theorem out_dp {c x : Nat} (hv : okc c) (hx : okc x) (h1 : c < x) (h2 : dp x ≤ dp c) : c + wt c ≤ x := by
  rcases Nat.lt_or_ge x (c + wt c) with h | h
  · have := (nest hv hx h1 h).1
    omega
  · exact h
