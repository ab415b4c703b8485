/-! ===== p23, pure: the numbers of a shape as they must be ===== -/
def vI (d : Dt) : Int := d.2.1.toInt
def gI (d : Dt) : Int := d.2.2.2.1.toInt
def eI (d : Dt) : Int := d.2.2.2.2.toInt
theorem toI_nI (a : Int32) (h : 0 ≤ a.toInt) : ∃ n : Nat, a = nI n ∧ a.toInt = n ∧ n < 2 ^ 31 := by
  have h2 : a.toInt < 2 ^ 31 := by have := Int32.toInt_lt a; omega
  refine ⟨a.toInt.toNat, ?_, by omega, by omega⟩
  rw [← Int32.toInt_inj, nI_toInt (by omega)]
  omega
theorem add_small {a b : Int32} (ha : 0 ≤ a.toInt) (ha2 : a.toInt < 1000000000) (hb : 0 ≤ b.toInt) (hb2 : b.toInt < 1000000000) : (a + b).toInt = a.toInt + b.toInt := by
  obtain ⟨n, rfl, h1, h2⟩ := toI_nI a ha
  obtain ⟨m, rfl, h3, h4⟩ := toI_nI b hb
  rw [nI_add, nI_toInt (by omega)]
  omega
theorem add_1 {a : Int32} (ha : 0 ≤ a.toInt) (ha2 : a.toInt < 1000000000) : (a + 1).toInt = a.toInt + 1 := add_small (b := 1) ha ha2 (by decide) (by decide)
/-- a node's own numbers: n documents, at most b values -/
def NG (d : Dt) (b n : Int) : Prop := 1 ≤ vI d ∧ vI d ≤ b ∧ 0 ≤ gI d ∧ gI d ≤ vI d ∧ 1 ≤ eI d ∧ eI d ≤ n ∧ (d.1 = 0 → d.2.2.1 = 1) ∧ (d.1 = 6 → 1 ≤ gI d)
/-- a node beside what is above it -/
def PG (M : Mp) (c : Nat) (d : Dt) : Prop := ∃ d', M (pa c) = some d' ∧ ((ltr c < 8 ∧ d'.1 = 6 ∧ vI d ≤ gI d') ∨ (ltr c = 8 ∧ d'.1 = 5))
/-- a shape's numbers -/
def GM (M : Mp) (n : Int) : Prop := Wf M ∧ 0 ≤ n ∧ n ≤ 1000000 ∧ (M 0 = none → n = 0) ∧ (∀ d, M 0 = some d → d.1 = 6 ∧ vI d = n ∧ gI d = n) ∧ ∀ c d, M c = some d → NG d (40 * n) n ∧ (c ≠ 0 → PG M c d)
theorem GM_none : GM (fun _ => none) 0 := ⟨fun _ _ h => (nomatch h), by omega, by omega, fun _ => rfl, fun _ h => (nomatch h), fun _ _ h => (nomatch h)⟩
theorem GM.wf {M : Mp} {n : Int} (h : GM M n) : Wf M := h.1
theorem GM.pos {M : Mp} {n : Int} (h : GM M n) {d : Dt} (h0 : M 0 = some d) : 1 ≤ n := by
  have h1 := (h.2.2.2.2.1 d h0).2.1
  have h2 := (h.2.2.2.2.2 0 d h0).1.1
  omega
theorem jk6_tab : ∀ j, j < 7 → jk 6 (nI j) = 6 ∨ jk 6 (nI j) = 7 := by decide +kernel
theorem jk5_tab : ∀ j, j < 7 → jk 5 (nI j) = 5 ∨ jk 5 (nI j) = 7 := by decide +kernel
theorem jkr6_tab : ∀ j, j < 8 → jk (nI j) 6 = 6 ∨ jk (nI j) 6 = 7 := by decide +kernel
theorem jkr5_tab : ∀ j, j < 8 → jk (nI j) 5 = 5 ∨ jk (nI j) 5 = 7 := by decide +kernel
theorem jk0_tab : ∀ i, i < 8 → ∀ j, j < 8 → (jk (nI i) (nI j) = 0 → nI i = 0 ∧ nI j = 0) ∧ (jk (nI i) (nI j) = 6 → nI i = 6 ∨ nI j = 6) ∧ jk (jk (nI i) (nI j)) (nI j) = jk (nI i) (nI j) := by decide +kernel
theorem jk6 {k : Int32} (hk : ∃ j, j ≤ 6 ∧ k = nI j) : jk 6 k = 6 ∨ jk 6 k = 7 := by obtain ⟨j, h, rfl⟩ := hk; exact jk6_tab j (by omega)
theorem jk5 {k : Int32} (hk : ∃ j, j ≤ 6 ∧ k = nI j) : jk 5 k = 5 ∨ jk 5 k = 7 := by obtain ⟨j, h, rfl⟩ := hk; exact jk5_tab j (by omega)
theorem jkr6 {k : Int32} (hk : isK k) : jk k 6 = 6 ∨ jk k 6 = 7 := by obtain ⟨j, h, rfl⟩ := hk; exact jkr6_tab j (by omega)
theorem jkr5 {k : Int32} (hk : isK k) : jk k 5 = 5 ∨ jk k 5 = 7 := by obtain ⟨j, h, rfl⟩ := hk; exact jkr5_tab j (by omega)
theorem jk_7r_tab : ∀ j, j < 8 → jk (nI j) 7 = 7 := by decide +kernel
theorem jk_7r {a : Int32} (ha : isK a) : jk a 7 = 7 := by obtain ⟨j, h, rfl⟩ := ha; exact jk_7r_tab j (by omega)
theorem jk_0of {a b : Int32} (ha : isK a) (hb : isK b) (h : jk a b = 0) : a = 0 ∧ b = 0 := by
  obtain ⟨i, hi, rfl⟩ := ha; obtain ⟨j, hj, rfl⟩ := hb
  exact (jk0_tab i (by omega) j (by omega)).1 h
theorem jk_6of {a b : Int32} (ha : isK a) (hb : isK b) (h : jk a b = 6) : a = 6 ∨ b = 6 := by
  obtain ⟨i, hi, rfl⟩ := ha; obtain ⟨j, hj, rfl⟩ := hb
  exact (jk0_tab i (by omega) j (by omega)).2.1 h
theorem jk_abs {a b : Int32} (ha : isK a) (hb : isK b) : jk (jk a b) b = jk a b := by
  obtain ⟨i, hi, rfl⟩ := ha; obtain ⟨j, hj, rfl⟩ := hb
  exact (jk0_tab i (by omega) j (by omega)).2.2
/-- the letters of a group are apart -/
def DL (D : Dc) : Prop := ∀ w w', 0 < w → w < w' → w' < dN D → dP D w = dP D w' → dK D (dP D w) = 6 → dL D w ≠ dL D w'
/-- what is known while a document is shown: v values of it have been -/
def LG (D : Dc) (M : Mp) (pl : Nat → Option Nat) (n : Int) (v : Nat) : Prop := (∃ d, M 0 = some d ∧ d.1 = 6 ∧ vI d = n + 1 ∧ gI d = n + 1) ∧ (∀ c d, M c = some d → NG d (40 * n + v) (n + 1) ∧ (c ≠ 0 → PG M c d)) ∧ (v < dN D → ∀ u p, opn D u v → pl u = some p → ∃ dp', M p = some dp' ∧ dp'.1 = dK D u ∧ (dK D u = 6 → 1 ≤ gI dp' ∧ ∀ l, l < 8 → (∀ w, u < w → w < v → dP D w = u → dL D w ≠ l) → ∀ d, M (ch p l) = some d → vI d + 1 ≤ gI dp'))
theorem NG.mono {d : Dt} {b b' n n' : Int} (h : NG d b n) (h1 : b ≤ b') (h2 : n ≤ n') : NG d b' n' := by
  obtain ⟨a1, a2, a3, a4, a5, a6, a7, a8⟩ := h
  exact ⟨a1, by omega, a3, a4, a5, by omega, a7, a8⟩
/-- a node's numbers when it is shown a value -/
theorem shd_NG {o : Option Dt} {k doc : Int32} {b n : Int} (hb : b ≤ 100000000) (hn : 0 ≤ n) (hdoc : doc.toInt = n + 1) (hk : isK k) (hK : ∀ d, o = some d → isK d.1 ∧ NG d b (n + 1)) (hb0 : 0 ≤ b) :
    NG (shd o k doc) (b + 1) (n + 1) ∧ (∀ d, o = some d → vI (shd o k doc) = vI d + 1 ∧ gI (shd o k doc) = gI d + (if k = 6 then 1 else 0)) ∧ (o = none → vI (shd o k doc) = 1 ∧ gI (shd o k doc) = (if k = 6 then 1 else 0)) := by
  have i1 : (1 : Int32).toInt = 1 := rfl
  have i0 : (0 : Int32).toInt = 0 := rfl
  cases o with
  | none =>
    have e1 : vI (shd none k doc) = 1 := rfl
    have e2 : gI (shd none k doc) = (if k = 6 then 1 else 0) := by
      show ((if k = 6 then (1 : Int32) else 0)).toInt = _
      by_cases z : k = 6
      · rw [if_pos z, if_pos z]; rfl
      · rw [if_neg z, if_neg z]; rfl
    refine ⟨⟨by rw [e1]; omega, by rw [e1]; omega, by rw [e2]; split <;> omega, by rw [e1, e2]; split <;> omega, ?_, ?_, fun h => ?_, fun h => ?_⟩, fun d h => (nomatch h), fun _ => ⟨e1, e2⟩⟩
    · show 1 ≤ doc.toInt; omega
    · show doc.toInt ≤ n + 1; omega
    · have h : k = 0 := h
      show (if k = 0 then (1 : Int32) else 0) = 1
      rw [if_pos h]
    · have h : k = 6 := h
      rw [e2, if_pos h]; omega
  | some d =>
    obtain ⟨hd, a1, a2, a3, a4, a5, a6, a7, a8⟩ := hK d rfl
    have hv : (d.2.1 + 1).toInt = d.2.1.toInt + 1 := add_1 (by unfold vI at a1; omega) (by unfold vI at a2; omega)
    have hg : (d.2.2.2.1 + 1).toInt = d.2.2.2.1.toInt + 1 := add_1 a3 (by unfold gI vI at a4; unfold vI at a2; omega)
    have e1 : vI (shd (some d) k doc) = vI d + 1 := by
      show vI (wd (shn d k) (jk d.1 k) doc) = _
      unfold wd
      split <;> exact hv
    have e2 : gI (shd (some d) k doc) = gI d + (if k = 6 then 1 else 0) := by
      have e3 : gI (shd (some d) k doc) = (if k = 6 then d.2.2.2.1 + 1 else d.2.2.2.1).toInt := by
        show gI (wd (shn d k) (jk d.1 k) doc) = _
        unfold wd
        split <;> rfl
      rw [e3]
      by_cases z : k = 6
      · rw [if_pos z, if_pos z]; exact hg
      · rw [if_neg z, if_neg z]; unfold gI; omega
    have e4 : eI (shd (some d) k doc) = eI d ∨ eI (shd (some d) k doc) = n + 1 := by
      show eI (wd (shn d k) (jk d.1 k) doc) = _ ∨ eI (wd (shn d k) (jk d.1 k) doc) = _
      unfold wd
      split
      · exact Or.inl rfl
      · exact Or.inr hdoc
    have e5 : (shd (some d) k doc).1 = jk d.1 k := shd_1 _ _ _
    have e6 : (shd (some d) k doc).2.2.1 = (if k = 0 then 1 else d.2.2.1) := by
      show (wd (shn d k) (jk d.1 k) doc).2.2.1 = _
      unfold wd
      split <;> rfl
    refine ⟨⟨by rw [e1]; omega, by rw [e1]; omega, by rw [e2]; split <;> omega, by rw [e1, e2]; split <;> omega, by rcases e4 with z | z <;> rw [z] <;> omega, by rcases e4 with z | z <;> rw [z] <;> omega, fun h => ?_, fun h => ?_⟩, fun d' h => by cases h; exact ⟨e1, e2⟩, fun h => (nomatch h)⟩
    · rw [e5] at h
      rw [e6, if_pos (jk_0of hd hk h).2]
    · rw [e5] at h
      rw [e2]
      rcases jk_6of hd hk h with z | z
      · have := a8 z; split <;> omega
      · rw [if_pos z]; omega
/-- the first value -/
theorem LG_first {D : Dc} (hD : DW D) {B : Mp} {n : Int} {doc : Int32} (hG : GM B n) (hdoc : doc.toInt = n + 1) : LG D (lrun D doc B 1).1 (lrun D doc B 1).2 n 1 := by
  obtain ⟨g1, g2, g3, g4, g5, g6⟩ := hG
  have hk0 : dK D 0 = 6 := hD.2.2.1
  have e : lrun D doc B 1 = (shM B 0 (shd (B 0) 6 doc), fun u => if u = 0 then (if (shd (B 0) 6 doc).1 = 7 then none else some 0) else none) := by
    show lstep D doc B (fun _ => none) 0 = _
    unfold lstep tg
    rw [if_pos rfl, hk0]
  have hsh := shd_NG (o := B 0) (k := 6) (doc := doc) (b := 40 * n) (n := n) (by omega) g2 hdoc ⟨6, by omega, rfl⟩ (fun d hd => ⟨(g1 0 d hd).2.1, (g6 0 d hd).1.mono (by omega) (by omega)⟩) (by omega)
  have hkind : (shd (B 0) 6 doc).1 = 6 := by
    rw [shd_1]
    cases hB : B 0 with
    | none => rfl
    | some d => show jk d.1 6 = 6; rw [(g5 d hB).1]; exact jk_self 6
  have h67 : ¬ (6 : Int32) = 7 := by decide
  have hvg : vI (shd (B 0) 6 doc) = n + 1 ∧ gI (shd (B 0) 6 doc) = n + 1 := by
    cases hB : B 0 with
    | none =>
      have h := hsh.2.2 hB
      rw [hB, if_pos rfl] at h
      have := g4 hB
      omega
    | some d =>
      have h := hsh.2.1 d hB
      rw [hB, if_pos rfl] at h
      have := g5 d hB
      omega
  have hM : ∀ x, x ≠ 0 → shM B 0 (shd (B 0) 6 doc) x = B x := fun x hx => by
    unfold shM
    rw [hkind, if_neg h67, setM_ne hx]
  rw [e]
  refine ⟨⟨_, shM_at, hkind, hvg.1, hvg.2⟩, fun c d hc => ?_, fun _ u p hu hp => ?_⟩
  · have hc : shM B 0 (shd (B 0) 6 doc) c = some d := hc
    by_cases z : c = 0
    · subst z
      rw [shM_at] at hc
      cases hc
      exact ⟨hsh.1, fun y => absurd rfl y⟩
    · rw [hM c z] at hc
      obtain ⟨h1, h2⟩ := g6 c d hc
      refine ⟨h1.mono (by omega) (by omega), fun _ => ?_⟩
      obtain ⟨d', h3, h4⟩ := h2 z
      by_cases y : pa c = 0
      · rw [y] at h3
        refine ⟨_, by rw [y]; exact shM_at, ?_⟩
        have h5 := hsh.2.1 d' h3
        rw [if_pos rfl] at h5
        rcases h4 with ⟨k1, k2, k3⟩ | ⟨k1, k2⟩
        · exact Or.inl ⟨k1, hkind, by omega⟩
        · have := (g5 d' h3).1
          rw [k2] at this
          exact absurd this (by decide)
      · exact ⟨d', (hM _ y).trans h3, h4⟩
  · have hu0 : u = 0 := by have := hu.1; omega
    subst hu0
    have hp : (if (0 : Nat) = 0 then (if (shd (B 0) 6 doc).1 = 7 then none else some 0) else none) = some p := hp
    rw [if_pos rfl, hkind, if_neg h67] at hp
    cases hp
    refine ⟨_, shM_at, by rw [hkind, hk0], fun _ => ⟨by rw [hvg.2]; omega, fun l hl _ d hd => ?_⟩⟩
    have hd : shM B 0 (shd (B 0) 6 doc) (ch 0 l) = some d := hd
    have hne : ch 0 l ≠ 0 := by
      have := (ch_ok vd_0 (l := l) (by rw [dp_0]; omega) (by omega)).2.2.2.1
      omega
    rw [hM _ hne] at hd
    obtain ⟨d', h3, h4⟩ := (g6 _ d hd).2 hne
    obtain ⟨p1, p2⟩ := pa_ch vd_0 (l := l) (by rw [dp_0]; omega) (by omega)
    rw [p1] at h3
    rw [p2] at h4
    have h5 := (g5 d' h3)
    rcases h4 with ⟨-, -, k3⟩ | ⟨k1, -⟩
    · omega
    · omega
theorem opn_dD {D : Dc} (hD : DW D) {u : Nat} : ∀ (k u' : Nat), u' ≤ k → u < u' → u' < dN D → (∀ w, u < w → w ≤ u' → u ≤ dP D w) → dD D u < dD D u' := by
  intro k
  induction k with
  | zero => intro u' h1 h2; omega
  | succ k ihk =>
    intro u' h1 h2 h3 h4
    obtain ⟨m1, m2, -, -⟩ := hD.2.2.2.2.2.1 u' (by omega) h3
    have h5 := h4 u' h2 (Nat.le_refl _)
    rcases Nat.lt_or_ge u (dP D u') with z | z
    · have := ihk (dP D u') (by omega) z (by omega) (fun w a b => h4 w a (by omega))
      omega
    · have e : dP D u' = u := by omega
      rw [e] at m2; omega
set_option maxHeartbeats 1000000 in
/-- one value more -/
theorem LG_step {D : Dc} (hD : DW D) (hL : DL D) {doc : Int32} {B M : Mp} {pl : Nat → Option Nat} {n : Int} {v : Nat} (hB : Wf B) (hn : 0 ≤ n) (hn2 : n ≤ 1000000) (hdoc : doc.toInt = n + 1) (h : LPx D B M pl v) (hG : LG D M pl n v) (h1 : 1 ≤ v) (hv : v < dN D) : LG D (lstep D doc M pl v).1 (lstep D doc M pl v).2 n (v + 1) := by
  have hLP := lstep_LP (doc := doc) hD hB h hv
  have h32 := hD.2.1
  obtain ⟨l1, l2, l3, l4, l5, l6⟩ := h
  obtain ⟨⟨d0, r1, r2, r3, r4⟩, g2, g3⟩ := hG
  have g3 := g3 hv
  unfold lstep at hLP ⊢
  cases ht : tg D pl v with
  | none =>
    refine ⟨⟨d0, r1, r2, r3, r4⟩, fun c d hc => ⟨(g2 c d hc).1.mono (by omega) (by omega), (g2 c d hc).2⟩, fun _ u p hu hp => ?_⟩
    have hp : (if u = v then none else pl u) = some p := hp
    have hne : u ≠ v := fun e => by rw [if_pos e] at hp; exact nomatch hp
    rw [if_neg hne] at hp
    obtain ⟨dp', a1, a2, a3⟩ := g3 u p (opn_s hu (by have := hu.1; omega)) hp
    exact ⟨dp', a1, a2, fun k6 => ⟨(a3 k6).1, fun l hl hw d hd => (a3 k6).2 l hl (fun w b1 b2 => hw w b1 (by omega)) d hd⟩⟩
  | some c =>
    rw [ht] at hLP
    have hwf : Wf (shM M c (shd (M c) (dK D v) doc)) := hLP.1
    obtain ⟨t1, t2, t3, t4, t5, t6⟩ := tg_ok hD ⟨l1, l2, l3, l4, l5, l6⟩ hv ht
    obtain ⟨j, hj, hk⟩ := hD.2.2.2.2.1 v hv
    obtain ⟨hkk, hk7⟩ := isK_ne7 hj hk
    obtain ⟨m1, m2, m3, m4⟩ := hD.2.2.2.2.2.1 v (by omega) hv
    have hop := opn_p hD (by omega) hv
    have hc0 : c ≠ 0 := by
      rcases tg_some ht with ⟨q1, -⟩ | ⟨-, cp, q2, q3⟩
      · omega
      · have := (t5 _ cp hop q2).1
        omega
    obtain ⟨-, e1, e2, e3, e4, -⟩ := t3 hc0
    obtain ⟨p1, p2⟩ := pa_ch (l1.vd (t3 hc0).2.2.2.2.2.choose_spec.1) e4 e3
    have hlt : ltr c = dL D v := by rw [e2, p2]
    have hpc := (t5 _ _ hop e1).1
    have hsh := shd_NG (o := M c) (k := dK D v) (doc := doc) (b := 40 * n + v) (n := n) (by omega) hn hdoc hkk (fun d hd => ⟨(l1 c d hd).2.1, (g2 c d hd).1⟩) (by omega)
    obtain ⟨dp', a1, a2, a3⟩ := g3 _ _ hop e1
    have hlow : ∀ x, x < c → shM M c (shd (M c) (dK D v) doc) x = M x := fun x hx => shM_lt hx
    have hndk : ∀ d', M c = some d' → (shd (M c) (dK D v) doc).1 = jk d'.1 (dK D v) := fun d' hd' => by rw [shd_1, hd']
    show LG D (shM M c (shd (M c) (dK D v) doc)) (fun u => if u = v then (if (shd (M c) (dK D v) doc).1 = 7 then none else some c) else pl u) n (v + 1)
    refine ⟨⟨d0, by rw [hlow 0 (by omega)]; exact r1, r2, r3, r4⟩, fun x e hx => ?_, fun hv1 u p hu hp => ?_⟩
    · by_cases z : x = c
      · subst z
        rw [shM_at] at hx
        cases hx
        refine ⟨hsh.1.mono (by omega) (by omega), fun _ => ⟨dp', by rw [hlow _ hpc]; exact a1, ?_⟩⟩
        rw [a2, hlt]
        rcases m4 with ⟨k6, l8⟩ | ⟨k5, l8⟩
        · refine Or.inl ⟨l8, k6, ?_⟩
          obtain ⟨b1, b2⟩ := a3 k6
          cases hM : M x with
          | none =>
            have e9 := (hsh.2.2 hM).1
            rw [hM] at e9
            rw [e9]; exact b1
          | some d =>
            have e9 := (hsh.2.1 d hM).1
            rw [hM] at e9
            rw [e9]
            refine b2 (dL D v) l8 (fun w c1 c2 c3 => ?_) d (by rw [← e2]; exact hM)
            exact hL w v (by omega) c2 hv c3 (by rw [c3]; exact k6)
        · exact Or.inr ⟨l8, k5⟩
      · have hx0 := shM_some hx z
        refine ⟨(g2 x e hx0).1.mono (by omega) (by omega), fun hx1 => ?_⟩
        obtain ⟨d', q1, q2⟩ := (g2 x e hx0).2 hx1
        obtain ⟨d'', u1, -⟩ := hwf.up hx hx1
        by_cases y : pa x = c
        · rw [y] at q1 u1
          rw [shM_at] at u1
          cases u1
          have hn7 : ¬ (shd (M c) (dK D v) doc).1 = 7 := by
            intro w
            obtain ⟨s1, s2, -⟩ := kid_in (l1.vd hx0) hx1
            unfold shM at hx
            rw [if_pos w, cutM_in (by omega) (by rw [← y]; exact s2)] at hx
            exact nomatch hx
          rw [hndk d' q1] at hn7
          refine ⟨_, by rw [y]; exact shM_at, ?_⟩
          have hg := (hsh.2.1 d' q1).2
          rcases q2 with ⟨w1, w2, w3⟩ | ⟨w1, w2⟩
          · refine Or.inl ⟨w1, ?_, by rw [hg]; split <;> omega⟩
            rw [hndk d' q1]
            rw [w2] at hn7 ⊢
            exact (jk6 ⟨j, hj, hk⟩).resolve_right hn7
          · refine Or.inr ⟨w1, ?_⟩
            rw [hndk d' q1]
            rw [w2] at hn7 ⊢
            exact (jk5 ⟨j, hj, hk⟩).resolve_right hn7
        · have u2 := shM_some u1 y
          rw [q1] at u2
          cases u2
          exact ⟨d', u1, q2⟩
    · have hp : (if u = v then (if (shd (M c) (dK D v) doc).1 = 7 then none else some c) else pl u) = some p := hp
      by_cases z : u = v
      · subst z
        rw [if_pos rfl] at hp
        have hn7 : ¬ (shd (M c) (dK D u) doc).1 = 7 := fun w => by rw [if_pos w] at hp; exact nomatch hp
        rw [if_neg hn7] at hp
        cases hp
        have hpn : dP D (u + 1) = u := by
          have := hu.2 (u + 1) (by omega) (Nat.le_refl _)
          have := (hD.2.2.2.2.2.1 (u + 1) (by omega) hv1).1
          omega
        have hk56 : dK D u = 6 ∨ dK D u = 5 := by
          have := (hD.2.2.2.2.2.1 (u + 1) (by omega) hv1).2.2.2
          rw [hpn] at this
          rcases this with w | w
          · exact Or.inl w.1
          · exact Or.inr w.1
        have hkind : (shd (M c) (dK D u) doc).1 = dK D u := by
          cases hM : M c with
          | none => rw [shd_1]
          | some d =>
            have hn7' := hn7
            rw [hndk d hM] at hn7'
            rw [hM] at hndk
            rw [hndk d rfl]
            rcases hk56 with w | w
            · rw [w] at hn7' ⊢
              exact (jkr6 (l1 c d hM).2.1).resolve_right hn7'
            · rw [w] at hn7' ⊢
              exact (jkr5 (l1 c d hM).2.1).resolve_right hn7'
        refine ⟨_, shM_at, hkind, fun k6 => ?_⟩
        refine ⟨hsh.1.2.2.2.2.2.2.2 (by rw [hkind]; exact k6), fun l hl _ d hd => ?_⟩
        obtain ⟨w1, w2, w3, w4, -, -, w5, w6⟩ := ch_up hwf shM_at hd (by omega)
        have hd0 := shM_some hd (by omega)
        obtain ⟨d', q1, q2⟩ := (g2 _ d hd0).2 w2
        rw [w5] at q1
        rw [w6] at q2
        have hg := (hsh.2.1 d' q1).2
        rw [if_pos k6] at hg
        rcases q2 with ⟨-, -, x3⟩ | ⟨x1, -⟩
        · omega
        · omega
      · rw [if_neg z] at hp
        have huv : u < v := by have := hu.1; omega
        have hou := opn_s hu huv
        obtain ⟨du, b1, b2, b3⟩ := g3 u p hou hp
        have hpl := (t5 u p hou hp).1
        refine ⟨du, by rw [hlow p hpl]; exact b1, b2, fun k6 => ⟨(b3 k6).1, fun l hl hw d hd => ?_⟩⟩
        obtain ⟨w1, w2, w3, w4, -, -, w5, w6⟩ := ch_up hwf (by rw [hlow p hpl]; exact b1) hd (by omega)
        by_cases y : ch p l = c
        · exfalso
          rw [y] at w5 w6
          have hpp : p = pa c := w5.symm
          by_cases x : u = dP D v
          · exact hw v huv (by omega) x.symm (by rw [← hlt, w6])
          · have hle := opn_le hou
            have hdd := opn_dD hD (u := u) (dP D v) (dP D v) (Nat.le_refl _) (by omega) (by omega) (fun w x1 x2 => hou.2 w x1 (by omega))
            have s1 := (l5 u p hou hp).1
            have s2 := (l5 _ _ hop e1).1
            rw [hpp] at s1
            omega
        · exact (b3 k6).2 l hl (fun w x1 x2 => hw w x1 (by omega)) d (shM_some hd y)
theorem LG_all {D : Dc} (hD : DW D) (hL : DL D) {B : Mp} {n : Int} {doc : Int32} (hG : GM B n) (hn : n + 1 ≤ 1000000) (hdoc : doc.toInt = n + 1) : ∀ v, v + 1 ≤ dN D → LG D (lrun D doc B (v + 1)).1 (lrun D doc B (v + 1)).2 n (v + 1) := by
  intro v
  induction v with
  | zero => intro _; exact LG_first hD hG hdoc
  | succ v ihv =>
    intro h
    rw [lrun_s]
    exact LG_step hD hL hG.1 hG.2.1 (by omega) hdoc (lrun_LP hD hG.1 (v + 1) (by omega)) (ihv (by omega)) (by omega) (by omega)
/-- a shape that has learnt a document -/
theorem learn_GM {D : Dc} (hD : DW D) (hL : DL D) {B : Mp} {n : Int} {doc : Int32} (hG : GM B n) (hn : n + 1 ≤ 1000000) (hdoc : doc.toInt = n + 1) : GM (lrun D doc B (dN D)).1 (n + 1) := by
  obtain ⟨w, hw⟩ : ∃ w, dN D = w + 1 := ⟨dN D - 1, by have := hD.1; omega⟩
  have h := LG_all hD hL hG hn hdoc w (by omega)
  have hwf := (lrun_LP (doc := doc) hD hG.1 (dN D) (Nat.le_refl _)).1
  rw [← hw] at h
  obtain ⟨⟨d0, r1, r2, r3, r4⟩, g2, -⟩ := h
  have h32 := hD.2.1
  refine ⟨hwf, by have := hG.2.1; omega, hn, (fun z => nomatch (r1.symm.trans z)), fun d hd => ?_, fun c d hc => ⟨(g2 c d hc).1.mono (by omega) (by omega), (g2 c d hc).2⟩⟩
  rw [r1] at hd
  cases hd
  exact ⟨r2, r3, r4⟩
