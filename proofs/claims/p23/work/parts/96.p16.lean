/-! ===== pure: two shapes joined, as a map ===== -/
def o0 (o : Option Dt) : Dt := match o with | some d => d | none => d00
def jdc (oa ob : Option Dt) (a : Int32) : Dt := (jk (o0 oa).1 (o0 ob).1, (o0 oa).2.1 + (o0 ob).2.1, (if (o0 oa).2.2.1 < (o0 ob).2.2.1 then (o0 ob).2.2.1 else (o0 oa).2.2.1), (o0 oa).2.2.2.1 + (o0 ob).2.2.2.1, (if oa.isSome = true ∧ jk (o0 oa).1 (o0 ob).1 = (o0 oa).1 then (o0 oa).2.2.2.2 else a + (o0 ob).2.2.2.2))
def jd (oa ob : Option Dt) (a : Int32) : Option Dt := if oa.isSome = true ∨ ob.isSome = true then some (jdc oa ob a) else none
def jnx (o r : Option Dt) : Option Dt := match o with | some d => if d.1 = 7 then none else r | none => none
theorem jnx_none {r : Option Dt} : jnx none r = none := rfl
theorem jnx_7 {d : Dt} {r : Option Dt} (h : d.1 = 7) : jnx (some d) r = none := if_pos h
theorem jnx_some {d : Dt} {r : Option Dt} (h : ¬ d.1 = 7) : jnx (some d) r = r := if_neg h
def jl (A B : Mp) (a : Int32) : Nat → Nat → Option Dt
  | 0, c => if c = 0 then jd (A 0) (B 0) a else none
  | k + 1, c => if c = 0 then jd (A 0) (B 0) a else jnx (jl A B a k (pa c)) (jd (A c) (B c) a)
def jm (A B : Mp) (a : Int32) : Mp := fun c => jl A B a (dp c) c
theorem jm_0 (A B : Mp) (a : Int32) : jm A B a 0 = jd (A 0) (B 0) a := by
  show jl A B a 0 0 = _
  exact if_pos rfl
theorem jm_s {A B : Mp} {a : Int32} {c : Nat} (hc : okc c) (h0 : c ≠ 0) : jm A B a c = jnx (jm A B a (pa c)) (jd (A c) (B c) a) := by
  have hd := (ch_pa hc h0).2.2.2.1
  show jl A B a (dp c) c = jnx (jl A B a (dp (pa c)) (pa c)) (jd (A c) (B c) a)
  rw [← hd]
  exact if_neg h0
theorem jd_none {a : Int32} : jd none none a = none := if_neg (fun h => by rcases h with h | h <;> cases h)
theorem jd_some {oa ob : Option Dt} {a : Int32} (h : oa.isSome = true ∨ ob.isSome = true) : jd oa ob a = some (jdc oa ob a) := if_pos h
theorem jm_sub {A B : Mp} {a : Int32} {c : Nat} {d : Dt} (h : jm A B a c = some d) : jd (A c) (B c) a = some d := by
  have h : jl A B a (dp c) c = some d := h
  by_cases h0 : c = 0
  · subst h0
    have : jl A B a (dp 0) 0 = jd (A 0) (B 0) a := jm_0 A B a
    rw [this] at h; exact h
  · cases hk : dp c with
    | zero =>
      rw [hk] at h
      have : jl A B a 0 c = none := if_neg h0
      rw [this] at h; cases h
    | succ k =>
      rw [hk] at h
      have e : jl A B a (k + 1) c = jnx (jl A B a k (pa c)) (jd (A c) (B c) a) := if_neg h0
      rw [e] at h
      cases hq : jl A B a k (pa c) with
      | none => rw [hq] at h; cases h
      | some d2 =>
        rw [hq] at h
        have h : (if d2.1 = 7 then none else jd (A c) (B c) a) = some d := h
        by_cases z : d2.1 = 7
        · rw [if_pos z] at h; cases h
        · rw [if_neg z] at h; exact h
theorem jd_src {oa ob : Option Dt} {a : Int32} {d : Dt} (h : jd oa ob a = some d) : (oa.isSome = true ∨ ob.isSome = true) ∧ d = jdc oa ob a := by
  unfold jd at h
  split at h
  · rename_i q
    exact ⟨q, (Option.some.inj h).symm⟩
  · cases h
theorem jm_okc {A B : Mp} (hA : Wf A) (hB : Wf B) {a : Int32} {c : Nat} {d : Dt} (h : jm A B a c = some d) : okc c := by
  rcases (jd_src (jm_sub h)).1 with q | q
  · obtain ⟨e, he⟩ := Option.isSome_iff_exists.mp q
    exact hA.vd he
  · obtain ⟨e, he⟩ := Option.isSome_iff_exists.mp q
    exact hB.vd he
theorem jm_up {A B : Mp} {a : Int32} {c : Nat} {d : Dt} (hc : okc c) (h0 : c ≠ 0) (h : jm A B a c = some d) : ∃ d', jm A B a (pa c) = some d' ∧ ¬ d'.1 = 7 := by
  rw [jm_s hc h0] at h
  cases hq : jm A B a (pa c) with
  | none => rw [hq] at h; cases h
  | some d2 =>
    rw [hq] at h
    have h : (if d2.1 = 7 then none else jd (A c) (B c) a) = some d := h
    by_cases z : d2.1 = 7
    · rw [if_pos z] at h; cases h
    · exact ⟨d2, rfl, z⟩
theorem jm_of {A B : Mp} {a : Int32} {c : Nat} {d' : Dt} (hc : okc c) (h0 : c ≠ 0) (h : jm A B a (pa c) = some d') (h7 : ¬ d'.1 = 7) : jm A B a c = jd (A c) (B c) a := by
  rw [jm_s hc h0, h]
  exact if_neg h7
theorem o0_K {M : Mp} (hM : Wf M) (c : Nat) : isK (o0 (M c)).1 ∧ ((o0 (M c)).2.2.1 = 0 ∨ (o0 (M c)).2.2.1 = 1) := by
  cases h : M c with
  | none => exact ⟨isK_0, Or.inl rfl⟩
  | some d => exact ⟨(hM c d h).2.1, (hM c d h).2.2.1⟩
theorem jm_wf {A B : Mp} (hA : Wf A) (hB : Wf B) (a : Int32) : Wf (jm A B a) := by
  intro c d h
  have hv := jm_okc hA hB h
  obtain ⟨h1, h2⟩ := jd_src (jm_sub h)
  obtain ⟨a1, a2⟩ := o0_K hA c
  obtain ⟨b1, b2⟩ := o0_K hB c
  refine ⟨hv, ?_, ?_, fun h0 => jm_up hv h0 h⟩
  · rw [h2]; exact jk_isK a1 b1
  · rw [h2]
    show (if (o0 (A c)).2.2.1 < (o0 (B c)).2.2.1 then (o0 (B c)).2.2.1 else (o0 (A c)).2.2.1) = 0 ∨ (if (o0 (A c)).2.2.1 < (o0 (B c)).2.2.1 then (o0 (B c)).2.2.1 else (o0 (A c)).2.2.1) = 1
    by_cases q : (o0 (A c)).2.2.1 < (o0 (B c)).2.2.1
    · rw [if_pos q]; exact b2
    · rw [if_neg q]; exact a2
theorem ix_add_le {M A B : Mp} : ∀ (x : Nat), (∀ y, y < x → (M y).isSome = true → (A y).isSome = true ∨ (B y).isSome = true) → ix M x ≤ ix A x + ix B x
  | 0, _ => Nat.le_refl _
  | x + 1, h => by
    have h1 := ix_add_le x (fun y hy => h y (by omega))
    have h2 := h x (by omega)
    rw [ix_s, ix_s, ix_s]
    unfold has1
    cases hM : (M x).isSome
    · simp; omega
    · rcases h2 hM with q | q
      · rw [q]; simp; omega
      · rw [q]; simp; omega
theorem jm_le (A B : Mp) (a : Int32) : ix (jm A B a) 10000 ≤ ix A 10000 + ix B 10000 := ix_add_le 10000 (fun y _ h => by
  obtain ⟨d, hd⟩ := Option.isSome_iff_exists.mp h
  exact (jd_src (jm_sub hd)).1)
/-- what is above a node is there -/
theorem Wf0.anc {M : Mp} (h : Wf0 M) {c : Nat} (hv : okc c) : ∀ (k x : Nat) (e : Dt), x - c = k → M x = some e → c ≤ x → x < c + wt c → ∃ d, M c = some d := by
  intro k
  induction k using Nat.strongRecOn with
  | ind k ih =>
    intro x e hk hx h1 h2
    by_cases q : x = c
    · exact ⟨e, by rw [← q]; exact hx⟩
    · have hn := nest hv (h.vd hx) (by omega) h2
      obtain ⟨e', g1⟩ := h.up hx (by omega)
      have hp := (ch_pa (h.vd hx) (by omega)).2.2.2.2
      exact ih (pa x - c) (by omega) (pa x) e' rfl g1 hn.2.2 (by omega)
theorem TR.shift {T : S_Tree} {M : Mp} {x x' : Nat} (h : TR T M x) (hle : x ≤ x') (hn : ∀ y, x ≤ y → y < x' → M y = none) : TR T M x' := by
  have e := ix_gap hle hn
  refine ⟨by rw [e]; exact h.1, by rw [e]; exact h.2.1, fun c d hc hd => ?_⟩
  rcases Nat.lt_or_ge c x with q | q
  · exact h.2.2 c d q hd
  · rw [hn c q hc] at hd; cases hd
theorem no_between {c x : Nat} (hv : okc c) (hx : okc x) (hd : dp c < 4) (h1 : c < x) (h2 : x < cw c 0) : False := by
  have h3 := @cw_of c 0
  have h4 := wt_pos c
  have h5 : cw c 0 ≤ c + wt c := by
    have := dpw c
    omega
  have hn := nest hv hx h1 (by omega)
  obtain ⟨a1, a2⟩ := hv
  obtain ⟨b1, b2⟩ := hx
  rcases dpw c with h | h | h | h | h <;> rcases dpw x with g | g | g | g | g <;> omega
/-! ===== pure: the class joins ===== -/
theorem rn_get {T : S_Tree} {M : Mp} (hM : Wf M) (hT : TR T M 10000) (c k : Nat) (hk : k < 9) (y : Int32) (hy : y = nI k) : F_X3_get T (rn M c) y = some (match M c with | some _ => tc T (ix M c) k | none => 0) := by
  cases h : M c with
  | none => rw [rn_none h]; exact get_none
  | some d => rw [rn_some h]; exact hT.get h (hM.lt h) k hk rfl hy
theorem rn_row {T : S_Tree} {M : Mp} (hM : Wf M) (hT : TR T M 10000) (c : Nat) : F_X3_get T (rn M c) 0 = some (o0 (M c)).1 ∧ F_X3_get T (rn M c) 3 = some (o0 (M c)).2.1 ∧ F_X3_get T (rn M c) 4 = some (o0 (M c)).2.2.1 ∧ F_X3_get T (rn M c) 5 = some (o0 (M c)).2.2.2.1 ∧ F_X3_get T (rn M c) 6 = some (o0 (M c)).2.2.2.2 ∧ (∀ d, M c = some d → F_X3_get T (rn M c) 1 = some (l32 c)) := by
  cases h : M c with
  | none =>
    rw [rn_none h]
    exact ⟨get_none, get_none, get_none, get_none, get_none, fun d hd => by cases hd⟩
  | some d =>
    have hl := hM.lt h
    obtain ⟨r0, r1, r2, r3, r4, r5, r6⟩ := hT.row h hl
    rw [rn_some h]
    refine ⟨?_, ?_, ?_, ?_, ?_, ?_⟩
    · rw [hT.g0 h hl, r0]; rfl
    · rw [hT.g3 h hl, r3]; rfl
    · rw [hT.g4 h hl, r4]; rfl
    · rw [hT.g5 h hl, r5]; rfl
    · rw [hT.g6 h hl, r6]; rfl
    · intro e he
      rw [hT.g1 h hl, r1]
theorem rn_find {T : S_Tree} {M : Mp} (hM : Wf M) (hT : TR T M 10000) (c l : Nat) (hl : l < 9) : F_X3_findBelow T (rn M c) (nI l) = some (rn M (ch c l)) := by
  cases h : M c with
  | some d => rw [rn_some h]; exact find_ok hM.wf0 hT h hl
  | none =>
    rw [rn_none h, find_none]
    cases hc : M (ch c l) with
    | none => rw [rn_none hc]
    | some e =>
      exfalso
      have hlt := hM.lt hc
      have hd4 : dp c < 4 := by
        have h1 := dpw c
        have h2 := @ch_of c l
        omega
      have hv := hM.vd hc
      -- the parent of a node is there
      have h0 : ch c l ≠ 0 := by
        have h1 := dpw c
        have h2 := @ch_of c l
        omega
      obtain ⟨e', u1, -⟩ := hM.up hc h0
      have hpa : pa (ch c l) = c := by
        obtain ⟨p1, p2, p3, p4, p5⟩ := ch_pa hv h0
        have h1 := dpw c
        have h2 := @ch_of c l
        have h3 := pa_of (ch c l)
        have h4 := dpw (ch c l)
        generalize ch c l = x at *
        omega
      rw [hpa, h] at u1; cases u1
