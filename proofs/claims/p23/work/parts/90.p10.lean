/-! ===== pure: the reference shows a document ===== -/
def BA (B M : Mp) : Prop := ∃ c d, M c = some d ∧ d.1 = 7 ∧ ∀ d0, B c = some d0 → ¬ d0.1 = 7
def MI (D : Dc) (B : Mp) (v : Nat) (t : Nat → Int32) (n : Nat) (b : Int32) (p : Nat → Int32) (ρ : Nat → Nat) (M : Mp) (pl : Nat → Option Nat) : Prop := MT t n ρ M ∧ n ≤ ix B 10000 + v ∧ (∀ c d, M c = some d → (∀ d0, B c = some d0 → ρ c = ix B c) ∧ (B c = none → ix B 10000 ≤ ρ c)) ∧ ((b = 1 ∧ BA B M) ∨ (b = 0 ∧ ¬ BA B M)) ∧ ix B 10000 ≤ n ∧ (M 0 = none → n = 0) ∧ ∀ u, opn D u v → match pl u with | some c => p u = nI (ρ c) | none => p u = -1 ∨ ∃ r, r < n ∧ p u = nI r ∧ t (7 * r) = 7
/-- any comes with a node that becomes any, and stays -/
theorem BA_new {B M : Mp} (hs : stay7 B M) {c : Nat} {d nd : Dt} {k : Int32} (hc : M c = some d) (hk : isK k) (h1 : nd.1 = jk d.1 k) (h7 : jk d.1 k = 7) (hne : ¬ jk d.1 k = d.1) : BA B (shM M c nd) := by
  refine ⟨c, nd, shM_at, h1.trans h7, fun d0 hd0 z => hne ?_⟩
  have := hs c d0 d hd0 hc z
  rw [this]; exact jk_7 hk
theorem BA_old {B M : Mp} (hM : Wf M) {c : Nat} {nd : Dt} (h : (M c = none ∧ ¬ nd.1 = 7) ∨ (∃ d, M c = some d ∧ (nd.1 = d.1 ∨ (¬ nd.1 = 7 ∧ ¬ d.1 = 7)))) : BA B (shM M c nd) ↔ BA B M := by
  have hsh : shM M c nd = setM M c nd := by
    unfold shM
    rcases h with ⟨h1, h2⟩ | ⟨d, h1, h2 | h2⟩
    · rw [if_neg h2]
    · by_cases q : nd.1 = 7
      · rw [if_pos q, cut_any hM h1 (h2.symm.trans q)]
      · rw [if_neg q]
    · rw [if_neg h2.1]
  rw [hsh]
  constructor
  · rintro ⟨x, e, h1, h2, h3⟩
    by_cases q : x = c
    · rw [q, setM_at] at h1
      cases h1
      rcases h with ⟨g1, g2⟩ | ⟨d, g1, g2 | g2⟩
      · exact absurd h2 g2
      · exact ⟨c, d, g1, g2.symm.trans h2, by rw [← q]; exact h3⟩
      · exact absurd h2 g2.1
    · rw [setM_ne q] at h1
      exact ⟨x, e, h1, h2, h3⟩
  · rintro ⟨x, e, h1, h2, h3⟩
    by_cases q : x = c
    · rcases h with ⟨g1, g2⟩ | ⟨d, g1, g2 | g2⟩
      · rw [q, g1] at h1; cases h1
      · rw [q, g1] at h1
        cases h1
        exact ⟨c, nd, setM_at, g2.trans h2, by rw [← q]; exact h3⟩
      · rw [q, g1] at h1
        cases h1
        exact absurd h2 g2.2
    · exact ⟨x, e, by rw [setM_ne q]; exact h1, h2, h3⟩
/-- the numbers of a row when a value of kind k is shown -/
def mrow (t : Nat → Int32) (r : Nat) (k : Int32) : Nat → Int32 := upd (upd (upd t (7 * r + 3) (t (7 * r + 3) + 1)) (7 * r + 5) (t (7 * r + 5) + (if k = 6 then 1 else 0))) (7 * r + 4) (if k = 0 then 1 else t (7 * r + 4))
theorem mrow_ne {t : Nat → Int32} {r j : Nat} {k : Int32} (h : j < 7 * r ∨ 7 * r + 6 < j) : mrow t r k j = t j := by
  unfold mrow
  rw [upd_ne (by omega), upd_ne (by omega), upd_ne (by omega)]
theorem mrow_row {t : Nat → Int32} {ρ : Nat → Nat} {c : Nat} {d : Dt} {k : Int32} (h : trow t ρ c d) : trow (mrow t (ρ c) k) ρ c (shn d k) := by
  obtain ⟨r1, r2, r3, r4, r5, r6, r7⟩ := h
  unfold trow mrow
  rw [upd_ne (by omega), upd_ne (by omega), upd_ne (by omega), upd_ne (by omega), upd_ne (by omega), upd_ne (by omega), upd_ne (by omega), upd_ne (by omega), upd_ne (by omega), upd_ne (by omega), upd_ne (by omega), upd_at, upd_at, upd_ne (by omega), upd_at, upd_ne (by omega), upd_ne (by omega), upd_ne (by omega), r4, r5, r6]
  refine ⟨r1, r2, r3, rfl, rfl, ?_, r7⟩
  show _ = if k = 6 then d.2.2.2.1 + 1 else d.2.2.2.1
  by_cases q : k = 6
  · rw [if_pos q, if_pos q]
  · rw [if_neg q, if_neg q, Int32.add_zero]
/-- behind the node: its numbers, then its kind -/
theorem shows_tail {S : S_Model} {t : Nat → Int32} {n : Nat} {b : Int32} {p : Nat → Int32} {r v : Nat} {x2 : Int32} {k18 : S_Model → Int32 → Int32 → Option S_Model} (hr : r < 64) (hv : v < 64) (X : Option S_Model)
    (hX : ∀ j, F_X5_joined (t (7 * r)) (g_Model_kinds S v) = some j → ob1 (F_X5_widens (smv S (mrow t r (g_Model_kinds S v)) n b p) (nI r) j x2) (fun u24 => k18 u24 x2 (nI (v + 1))) = X) {j : Int32} (hj : F_X5_joined (t (7 * r)) (g_Model_kinds S v) = some j) :
    (og (inb ((7 * nI r) + 3) 448) (og (inb ((7 * nI r) + 3) 448) (og (inb ((7 * nI r) + 5) 448) (og (inb (nI v) 64) (if (g_Model_kinds S (nI v).toNatClampNeg) = 6 then (F_X5_shows_94 k18 (smv S (upd t ((7 * nI r) + 3).toNatClampNeg ((t ((7 * nI r) + 3).toNatClampNeg) + 1)) n b p) x2 (nI v) (nI r) (7 * nI r) ((7 * nI r) + 5) ((upd t ((7 * nI r) + 3).toNatClampNeg ((t ((7 * nI r) + 3).toNatClampNeg) + 1)) ((7 * nI r) + 5).toNatClampNeg) true) else (F_X5_shows_94 k18 (smv S (upd t ((7 * nI r) + 3).toNatClampNeg ((t ((7 * nI r) + 3).toNatClampNeg) + 1)) n b p) x2 (nI v) (nI r) (7 * nI r) ((7 * nI r) + 5) ((upd t ((7 * nI r) + 3).toNatClampNeg ((t ((7 * nI r) + 3).toNatClampNeg) + 1)) ((7 * nI r) + 5).toNatClampNeg) false)))))) = X := by
  have h94 : ∀ (a : Int32) (bb : Bool), (b2i bb = if g_Model_kinds S v = 6 then 1 else 0) → a = upd t (7 * r + 3) (t (7 * r + 3) + 1) (7 * r + 5) → F_X5_shows_94 k18 (smv S (upd t (7 * r + 3) (t (7 * r + 3) + 1)) n b p) x2 (nI v) (nI r) (nI (7 * r)) (nI (7 * r + 5)) a bb = X := by
    intro a bb hbb ha
    have ha2 : a = t (7 * r + 5) := by rw [ha, upd_ne (by omega)]
    have h126 : ∀ m, m = (if g_Model_kinds S v = 0 then 1 else t (7 * r + 4)) → F_X5_shows_126 k18 (smv S (upd (upd t (7 * r + 3) (t (7 * r + 3) + 1)) (7 * r + 5) (t (7 * r + 5) + (if g_Model_kinds S v = 6 then 1 else 0))) n b p) x2 (nI v) (nI r) (nI (7 * r)) (nI (7 * r + 4)) m = X := by
      intro m hm
      unfold F_X5_shows_126
      have e1 : upd (upd (upd t (7 * r + 3) (t (7 * r + 3) + 1)) (7 * r + 5) (t (7 * r + 5) + (if g_Model_kinds S v = 6 then 1 else 0))) (7 * r + 4) m = mrow t r (g_Model_kinds S v) := by
        rw [hm]; rfl
      have e2 : mrow t r (g_Model_kinds S v) (7 * r) = t (7 * r) := by
        unfold mrow
        rw [upd_ne (by omega), upd_ne (by omega), upd_ne (by omega)]
      rw [smv_tree, smv_kinds, og_t (inb_nI (by omega) (by omega)), og_t (inb_nI (by omega) (by omega)), og_t (inb_nI (by omega) (by omega)), nI_clamp (n := 7 * r + 4) (by omega), nI_clamp (n := 7 * r) (by omega), nI_clamp (n := v) (by omega), nI_1, e1, e2, ob1_s hj, smv_t]
      exact hX j hj
    unfold F_X5_shows_94
    rw [smv_tree, smv_kinds, og_t (inb_nI (by omega) (by omega)), og_t (inb_nI (by omega) (by omega)), nI_clamp (n := 7 * r + 5) (by omega), nI_clamp (n := v) (by omega), hbb, ha2, show (4 : Int32) = nI 4 from rfl, nI_add, smv_t]
    by_cases q : g_Model_kinds S v = 0
    · rw [if_pos q]
      exact h126 1 (by rw [if_pos q])
    · rw [if_neg q, og_t (inb_nI (by omega) (by omega)), nI_clamp (n := 7 * r + 4) (by omega)]
      exact h126 _ (by rw [if_neg q, upd_ne (by omega), upd_ne (by omega)])
  rw [ix7_3, ix7_5, ix7, og_t (inb_nI (n := 448) (i := 7 * r + 3) (by omega) (by omega)), og_t (inb_nI (n := 448) (i := 7 * r + 3) (by omega) (by omega)), og_t (inb_nI (n := 448) (i := 7 * r + 5) (by omega) (by omega)), og_t (inb_nI (n := 64) (i := v) (by omega) (by omega)), nI_clamp (n := v) (by omega), nI_clamp (n := 7 * r + 3) (by omega), nI_clamp (n := 7 * r + 5) (by omega)]
  by_cases q : g_Model_kinds S v = 6
  · rw [if_pos q]
    exact h94 _ true (by rw [if_pos q]; rfl) rfl
  · rw [if_neg q]
    exact h94 _ false (by rw [if_neg q]; rfl) rfl
theorem makes_ok {S : S_Model} {n : Nat} (hn : n < 64) (ht : g_Model_top S = nI n) (up letter kind doc : Int32) : F_X5_makes S up letter kind doc = some (nI n, s_Model_top (s_Model_tree S (setR (g_Model_tree S) n kind up letter 0 0 0 doc)) (nI (n + 1))) := by
  unfold F_X5_makes
  rw [ht, ix7_1, ix7_2, ix7_3, ix7_4, ix7_5, ix7_6, ix7, og_t (inb_nI (by omega) (by omega)), og_t (inb_nI (by omega) (by omega)), og_t (inb_nI (by omega) (by omega)), og_t (inb_nI (by omega) (by omega)), og_t (inb_nI (by omega) (by omega)), og_t (inb_nI (by omega) (by omega)), og_t (inb_nI (by omega) (by omega)), nI_clamp (n := 7 * n) (by omega), nI_clamp (n := 7 * n + 1) (by omega), nI_clamp (n := 7 * n + 2) (by omega), nI_clamp (n := 7 * n + 3) (by omega), nI_clamp (n := 7 * n + 4) (by omega), nI_clamp (n := 7 * n + 5) (by omega), nI_clamp (n := 7 * n + 6) (by omega), nI_1, show (1 : Int32) = nI 1 from rfl, nI_sub (by omega), Nat.add_sub_cancel]
  rfl
/-- the reference shows one value: nothing is shown -/
theorem model_none {S0 : S_Model} {D : Dc} (hD : DW D) {B M : Mp} {pl : Nat → Option Nat} {doc : Int32} {v n : Nat} {t p : Nat → Int32} {b : Int32} {ρ : Nat → Nat} (hMV : MV S0 D) (hI : MI D B v t n b p ρ M pl) (hv : v < dN D) (ht : tg D pl v = none) (f : Nat) :
    F_X5_shows_18 (f + 1) (smv S0 t n b p) doc (nI v) = F_X5_shows_18 f (smv S0 t n b (upd p v (-1))) doc (nI (v + 1)) ∧ MI D B (v + 1) t n b (upd p v (-1)) ρ (lstep D doc M pl v).1 (lstep D doc M pl v).2 := by
  obtain ⟨i1, i2, i3, i4, i5, i0, i6⟩ := hI
  have hn := hD.2.1
  have hn64 := i1.le
  obtain ⟨hv0, hpn⟩ := tg_none ht
  have hop := opn_p hD (by omega) hv
  have hpv := hop.1
  have hab := (hMV.2 v hv).2.2.2.1
  have hpi : pI D v = nI (dP D v) := by unfold pI; rw [if_neg hv0]
  have hst : lstep D doc M pl v = (M, fun u => if u = v then none else pl u) := by unfold lstep; rw [ht]
  have hpl := i6 _ hop
  rw [hpn] at hpl
  constructor
  · rw [F_X5_shows_18_s, smv_valued, hMV.1, if_neg (nI_ge hv (by omega))]
    have hnf : F_X5_nodeFor (smv S0 t n b p) (nI v) doc = some (-1, smv S0 t n b p) := by
      unfold F_X5_nodeFor
      rw [if_neg (nI_ne0 (by omega) (by omega)), og_t (inb_nI (by omega) (by omega)), nI_clamp (by omega), smv_above, hab, hpi, og_t (inb_nI (by omega) (by omega)), nI_clamp (by omega), smv_place]
      unfold F_X5_nodeFor_19
      rw [if_neg (nI_nle (by omega) (by omega))]
      rcases hpl with q | ⟨r, q1, q2, q3⟩
      · rw [if_pos q]
      · rw [q2, if_neg (nI_m1 (by omega)), ix7, og_t (inb_nI (by omega) (by omega)), nI_clamp (by omega), smv_tree, if_pos q3]
    rw [ob2_s hnf, og_t (inb_nI (by omega) (by omega)), if_pos rfl, nI_clamp (by omega), nI_1, smv_place, smv_p]
  · rw [hst]
    refine ⟨i1, by omega, i3, i4, i5, i0, fun u hu => ?_⟩
    have huv := hu.1
    show match (if u = v then none else pl u) with | some c => upd p v (-1) u = nI (ρ c) | none => upd p v (-1) u = -1 ∨ ∃ r, r < n ∧ upd p v (-1) u = nI r ∧ t (7 * r) = 7
    by_cases q : u = v
    · rw [if_pos q]
      show upd p v (-1) u = -1 ∨ _
      rw [q, upd_at]
      exact Or.inl rfl
    · rw [if_neg q, upd_ne q]
      exact i6 u (opn_s hu (by omega))
theorem shw_new (k doc : Int32) : wd (shn (k, 0, 0, 0, doc) k) (jk k k) doc = shw true d00 k doc := by
  have : wd (shn (k, 0, 0, 0, doc) k) (jk k k) doc = shn (k, 0, 0, 0, doc) k := by
    unfold wd
    rw [if_pos (show jk k k = (shn (k, 0, 0, 0, doc) k).1 from jk_self k)]
  rw [this]
  show (k, (0 : Int32) + 1, (if k = 0 then (1 : Int32) else 0), (if k = 6 then (0 : Int32) + 1 else 0), doc) = (k, 1, (if k = 0 then 1 else 0), (if k = 6 then 1 else 0), doc)
  rfl
/-- the reference shows one value: behind the node -/
theorem model_tail {S0 : S_Model} {D : Dc} (hD : DW D) {B M : Mp} {pl : Nat → Option Nat} {doc : Int32} {v c n n1 : Nat} {t t1 p : Nat → Int32} {b : Int32} {ρ ρ1 : Nat → Nat} {M1 : Mp} {d1 : Dt} (hMV : MV S0 D) (hL : LPx D B M pl v) (hI : MI D B v t n b p ρ M pl) (hv : v < dN D) (ht : tg D pl v = some c) (f : Nat)
    (hM1 : Wf M1) (hT1 : MT t1 n1 ρ1 M1) (hc1 : M1 c = some d1) (hn1 : n1 ≤ ix B 10000 + (v + 1)) (hnn : n ≤ n1) (hres : shM M1 c (wd (shn d1 (dK D v)) (jk d1.1 (dK D v)) doc) = shM M c (shd (M c) (dK D v) doc)) (hρ : ∀ x e, M x = some e → ρ1 x = ρ x) (hρc : (∀ d0, B c = some d0 → ρ1 c = ix B c) ∧ (B c = none → ix B 10000 ≤ ρ1 c)) (hnf : F_X5_nodeFor (smv S0 t n b p) (nI v) doc = some (nI (ρ1 c), smv S0 t1 n1 b p))
    (hba : ∀ ba, ba = (if ¬ jk d1.1 (dK D v) = (shn d1 (dK D v)).1 ∧ jk d1.1 (dK D v) = 7 then 1 else b) → (ba = 1 ∧ BA B (shM M c (shd (M c) (dK D v) doc))) ∨ (ba = 0 ∧ ¬ BA B (shM M c (shd (M c) (dK D v) doc)))) :
    ∃ t' b', F_X5_shows_18 (f + 1) (smv S0 t n b p) doc (nI v) = F_X5_shows_18 f (smv S0 t' n1 b' (upd p v (nI (ρ1 c)))) doc (nI (v + 1)) ∧ MI D B (v + 1) t' n1 b' (upd p v (nI (ρ1 c))) ρ1 (lstep D doc M pl v).1 (lstep D doc M pl v).2 := by
  obtain ⟨i1, i2, i3, i4, i5, i0, i6⟩ := hI
  have hn := hD.2.1
  have hl1 := hT1.lt hc1
  have hl64 := hT1.le
  obtain ⟨tg1, tg2, tg3, tg4, tg5, tg6⟩ := tg_ok hD hL hv ht
  obtain ⟨jj, hj6, hkj⟩ := hD.2.2.2.2.1 v hv
  obtain ⟨hkk, hk7⟩ := isK_ne7 hj6 hkj
  have hk1 := (hM1 c d1 hc1).2.1
  have hjk : isK (jk d1.1 (dK D v)) := jk_isK hk1 hkk
  have hkv : g_Model_kinds S0 v = dK D v := (hMV.2 v hv).1
  have hrow := hT1.row hc1
  have hmt : MT (mrow t1 (ρ1 c) (dK D v)) n1 ρ1 (setM M1 c (shn d1 (dK D v))) := hT1.upd hc1 (isK_m1 hk1) (fun j hj => mrow_ne hj) (mrow_row hrow)
  obtain ⟨g, ba, w1, w2, w3⟩ := widens_ok (S := smv S0 (mrow t1 (ρ1 c) (dK D v)) n1 b (upd p v (nI (ρ1 c)))) (k := jk d1.1 (dK D v)) (doc := doc) (d := shn d1 (dK D v)) (c := c) (ρ := ρ1) hM1 hc1 rfl rfl (by rw [smv_tree]; exact hmt) (smv_top _ _ _ _ _) hjk
  rw [hres] at w2
  rw [smv_stb] at w1
  rw [smv_becameAny] at w3
  refine ⟨g, ba, ?_, ?_⟩
  · rw [F_X5_shows_18_s, smv_valued, hMV.1, if_neg (nI_ge hv (by omega)), ob2_s hnf, og_t (inb_nI (by omega) (by omega)), if_neg (nI_m1 (by omega))]
    refine Eq.trans ?_ (shows_tail (S := S0) (t := t1) (n := n1) (b := b) (p := upd p v (nI (ρ1 c))) (r := ρ1 c) (v := v) (x2 := doc) (k18 := F_X5_shows_18 f) (by omega) (by omega) _ ?_ (j := jk d1.1 (dK D v)) ?_)
    · rw [smv_kinds, smv_tree, smv_place, smv_p, smv_t, nI_clamp (n := v) (by omega)]
    · intro j hj
      rw [hkv, hrow.1, jk_X5 hk1 hkk] at hj
      cases hj
      rw [hkv, ob1_s w1]
    · rw [hkv, hrow.1, jk_X5 hk1 hkk]
  · have hst : lstep D doc M pl v = (shM M c (shd (M c) (dK D v) doc), fun u => if u = v then (if (shd (M c) (dK D v) doc).1 = 7 then none else some c) else pl u) := by unfold lstep; rw [ht]
    rw [hst]
    refine ⟨w2, by omega, ?_, hba ba w3, by omega, fun hz => ?_, ?_⟩
    rotate_left
    · exfalso
      have hz : shM M c (shd (M c) (dK D v) doc) 0 = none := hz
      by_cases h0 : c = 0
      · rw [h0, shM_at] at hz; cases hz
      · obtain ⟨-, -, -, -, -, d', u6, -⟩ := tg3 h0
        obtain ⟨e0, he0⟩ := hL.1.root (dp (pa c)) rfl u6
        rw [shM_lt (by omega), he0] at hz; cases hz
    rotate_left
    · intro x e hx
      by_cases q : x = c
      · rw [q]; exact hρc
      · have hx2 := shM_some hx q
        rw [hρ x e hx2]
        exact i3 x e hx2
    · intro u hu
      have huv := hu.1
      show match (if u = v then (if (shd (M c) (dK D v) doc).1 = 7 then none else some c) else pl u) with | some c' => upd p v (nI (ρ1 c)) u = nI (ρ1 c') | none => upd p v (nI (ρ1 c)) u = -1 ∨ ∃ r, r < n1 ∧ upd p v (nI (ρ1 c)) u = nI r ∧ g (7 * r) = 7
      by_cases q : u = v
      · rw [if_pos q, q, upd_at]
        by_cases z : (shd (M c) (dK D v) doc).1 = 7
        · rw [if_pos z]
          exact Or.inr ⟨ρ1 c, hl1, rfl, (w2.row shM_at).1.trans z⟩
        · rw [if_neg z]
      · rw [if_neg q, upd_ne q]
        have hop := opn_s hu (by omega)
        obtain ⟨cu, hcu⟩ := tg6 u hop
        have hold := i6 u hop
        obtain ⟨-, du, g2, -⟩ := hL.2.2.2.2.1 u cu hop hcu
        rw [hcu] at hold ⊢
        show p u = nI (ρ1 cu)
        rw [hρ cu du g2]
        exact hold
theorem model_step {S0 : S_Model} {D : Dc} (hD : DW D) {B M : Mp} {pl : Nat → Option Nat} {doc : Int32} {v n : Nat} {t p : Nat → Int32} {b : Int32} {ρ : Nat → Nat} (hBl : ix B 10000 ≤ 30) (hMV : MV S0 D) (hL : LPx D B M pl v) (hI : MI D B v t n b p ρ M pl) (hv : v < dN D) (f : Nat) :
    ∃ t' n' b' p' ρ', F_X5_shows_18 (f + 1) (smv S0 t n b p) doc (nI v) = F_X5_shows_18 f (smv S0 t' n' b' p') doc (nI (v + 1)) ∧ MI D B (v + 1) t' n' b' p' ρ' (lstep D doc M pl v).1 (lstep D doc M pl v).2 := by
  cases ht : tg D pl v with
  | none =>
    obtain ⟨e1, e2⟩ := model_none (doc := doc) hD hMV hI hv ht f
    exact ⟨_, _, _, _, _, e1, e2⟩
  | some c =>
    have hI0 := hI
    obtain ⟨i1, i2, i3, i4, i5, i0, i6⟩ := hI0
    have hn := hD.2.1
    have hM := hL.1
    obtain ⟨tg1, tg2, tg3, tg4, tg5, tg6⟩ := tg_ok hD hL hv ht
    obtain ⟨jj, hj6, hkj⟩ := hD.2.2.2.2.1 v hv
    obtain ⟨hkk, hk7⟩ := isK_ne7 hj6 hkj
    have hmr := hMV.2 v hv
    have h64 := i1.le
    have hcount := hL.2.2.2.1
    -- the node or what makes it
    have key : ∀ up, up = upR ρ c → F_X5_nodeFor (smv S0 t n b p) (nI v) doc = F_X5_nodeFor_71 (nI v) doc (smv S0 t n b p) up (rr ρ M c) → ∃ t' n' b' p' ρ', F_X5_shows_18 (f + 1) (smv S0 t n b p) doc (nI v) = F_X5_shows_18 f (smv S0 t' n' b' p') doc (nI (v + 1)) ∧ MI D B (v + 1) t' n' b' p' ρ' (lstep D doc M pl v).1 (lstep D doc M pl v).2 := by
      intro up hup hnf
      cases hc : M c with
      | some d =>
        have hl := i1.lt hc
        have hkd := (hM c d hc).2.1
        rw [rr_some hc] at hnf
        unfold F_X5_nodeFor_71 at hnf
        rw [if_neg (nI_m1 (by omega))] at hnf
        obtain ⟨t', b', e1, e2⟩ := model_tail (doc := doc) (ρ1 := ρ) (t1 := t) (n1 := n) (d1 := d) hD hMV hL hI hv ht f hM i1 hc (by omega) (Nat.le_refl _) (by rw [hc]; rfl) (fun _ _ _ => rfl) (i3 c d hc) hnf (by
          intro ba hba
          have hsd : (shd (M c) (dK D v) doc).1 = jk d.1 (dK D v) := by rw [shd_1, hc]
          by_cases q : ¬ jk d.1 (dK D v) = (shn d (dK D v)).1 ∧ jk d.1 (dK D v) = 7
          · rw [if_pos q] at hba
            exact Or.inl ⟨hba, BA_new hL.2.2.1 hc hkk hsd q.2 q.1⟩
          · rw [if_neg q] at hba
            rw [hba]
            have : BA B (shM M c (shd (M c) (dK D v) doc)) ↔ BA B M := BA_old hM (Or.inr ⟨d, hc, by
              rw [hsd]
              by_cases q1 : jk d.1 (dK D v) = d.1
              · exact Or.inl q1
              · right
                have q2 : ¬ jk d.1 (dK D v) = 7 := fun z => q ⟨q1, z⟩
                refine ⟨q2, fun z => q2 ?_⟩
                rw [z]; exact jk_7 hkk⟩)
            rw [this]
            exact i4)
        exact ⟨t', n, b', _, ρ, e1, e2⟩
      | none =>
        have hn1 : n < 64 := by omega
        rw [rr_none hc] at hnf
        unfold F_X5_nodeFor_71 at hnf
        rw [if_pos rfl, og_t (inb_nI (by omega) (by omega)), og_t (inb_nI (by omega) (by omega)), nI_clamp (by omega), smv_letters, smv_kinds, hmr.1, hmr.2.1, ob2_s (makes_ok (S := smv S0 t n b p) hn1 (smv_top _ _ _ _ _) up (lI D v) (dK D v) doc), smv_tree, smv_tt] at hnf
        have hl32 : lI D v = l32 c := by
          unfold lI
          by_cases hv0 : v = 0
          · rw [if_pos hv0, tg4 hv0]; rfl
          · rw [if_neg hv0]
            by_cases h0 : c = 0
            · exfalso
              have hop := opn_p hD (by omega) hv
              obtain ⟨cu, hcu⟩ := tg6 _ hop
              have := (tg5 _ cu hop hcu).1
              omega
            · obtain ⟨u1, u2, u3, u4, u5, d', u6, u7⟩ := tg3 h0
              rw [l32_nI h0]
              have := (pa_ch (hM.vd u6) u5 u4).2
              rw [← u3] at this
              rw [this]
        have hz : c = 0 → n = 0 := by
          intro h0
          exact i0 (by rw [← h0]; exact hc)
        have hT1 : MT (setR t n (dK D v) up (lI D v) 0 0 0 doc) (n + 1) (rup ρ c n) (setM M c (dK D v, 0, 0, 0, doc)) := by
          refine i1.add hM hn1 tg1 hc (fun h0 => by obtain ⟨-, -, -, -, -, d', u6, -⟩ := tg3 h0; exact ⟨d', u6⟩) hz (fun j hj => setR_ne (by omega)) ?_
          have ha := @setR_at t n (dK D v) up (lI D v) 0 0 0 doc
          have hupc : upR (rup ρ c n) c = up := by
            rw [hup]
            unfold upR
            by_cases h0 : c = 0
            · rw [if_pos h0, if_pos h0]
            · obtain ⟨-, -, -, -, -, d', u6, -⟩ := tg3 h0
              rw [if_neg h0, if_neg h0, rup_ne (fun z => by rw [z, hc] at u6; cases u6)]
          unfold trow
          rw [hupc, rup_at, ← hl32]
          exact ha
        have hcc : setM M c (dK D v, 0, 0, 0, doc) c = some (dK D v, (0 : Int32), (0 : Int32), (0 : Int32), doc) := setM_at
        have hn7 : ¬ (shw true d00 (dK D v) doc).1 = 7 := by rw [shw_1]; exact hk7
        have hBc := gone_new hD hL hv ht hc
        have hρ1 : rup ρ c n c = n := rup_at
        obtain ⟨t', b', e1, e2⟩ := model_tail (doc := doc) (ρ1 := rup ρ c n) (t1 := setR t n (dK D v) up (lI D v) 0 0 0 doc) (n1 := n + 1) (d1 := (dK D v, 0, 0, 0, doc)) hD hMV hL hI hv ht f
          (hM.add tg1 hc hkk (Or.inl rfl) (fun h0 => (tg3 h0).2.2.2.2.2)) hT1 hcc (by omega) (by omega) (by
            show shM (setM M c (dK D v, 0, 0, 0, doc)) c (wd (shn (dK D v, 0, 0, 0, doc) (dK D v)) (jk (dK D v) (dK D v)) doc) = _
            rw [shw_new, hc, shM_new hn7]
            rfl) (fun x e hx => rup_ne (fun z => by rw [z, hc] at hx; cases hx)) ⟨fun d0 hd0 => (by rw [hBc] at hd0; cases hd0), fun _ => (by rw [hρ1]; omega)⟩ (by rw [hρ1]; exact hnf) (by
            intro ba hba
            have q : ¬ (¬ jk (dK D v) (dK D v) = (shn (dK D v, 0, 0, 0, doc) (dK D v)).1 ∧ jk (dK D v) (dK D v) = 7) := fun z => z.1 (jk_self _)
            have hba2 : ba = b := by
              rw [hba]
              exact if_neg q
            rw [hba2]
            have : BA B (shM M c (shd (M c) (dK D v) doc)) ↔ BA B M := BA_old hM (Or.inl ⟨hc, by rw [shd_1, hc]; exact hk7⟩)
            rw [this]
            exact i4)
        exact ⟨t', n + 1, b', _, _, e1, e2⟩
    by_cases hv0 : v = 0
    · have hc0 := tg4 hv0
      refine key (-1) (by rw [hc0]; rfl) ?_
      unfold F_X5_nodeFor F_X5_nodeFor_19 F_X5_nodeFor_45
      rw [hv0, if_pos (by decide), if_pos (by decide), if_pos (by decide), smv_top]
      by_cases hnz : n = 0
      · rw [hnz, if_pos (by decide), og_t (inb_nI (by omega) (by omega))]
        have hca : F_X5_childAt (smv S0 t 0 b p) (-1) (g_Model_letters (smv S0 t 0 b p) (nI 0).toNatClampNeg) = some (-1) := by
          unfold F_X5_childAt
          rw [F_X5_childAt_2_s, smv_top, if_pos (by decide)]
        rw [ob1_s hca, hc0]
        have : M 0 = none := by
          cases h : M 0 with
          | none => rfl
          | some d => have := i1.lt h; omega
        rw [rr_none this]
      · rw [if_neg (nI_nle (by omega) (by omega)), hc0]
        cases h : M 0 with
        | some d => rw [rr_some h, i1.2.2.2.2.2.1 d h]; rfl
        | none => exact absurd (i0 h) hnz
    · have hop := opn_p hD (by omega) hv
      obtain ⟨cu, hcu⟩ := tg6 _ hop
      have hlt := (tg5 _ cu hop hcu).1
      obtain ⟨u1, u2, u3, u4, u5, d', u6, u7⟩ := tg3 (by omega)
      have hpl := i6 _ hop
      rw [u2] at hpl
      have hpi : pI D v = nI (dP D v) := by unfold pI; rw [if_neg hv0]
      have hli : lI D v = nI (dL D v) := by unfold lI; rw [if_neg hv0]
      have hop1 := hop.1
      have hpl2 := i1.lt u6
      refine key (nI (ρ (pa c))) (by rw [upR_up (by omega)]) ?_
      unfold F_X5_nodeFor
      rw [if_neg (nI_ne0 (by omega) (by omega)), og_t (inb_nI (by omega) (by omega)), nI_clamp (by omega), smv_above, hmr.2.2.2.1, hpi, og_t (inb_nI (by omega) (by omega)), nI_clamp (by omega), smv_place, hpl]
      unfold F_X5_nodeFor_19
      rw [if_neg (nI_nle (by omega) (by omega)), if_neg (nI_m1 (by omega)), ix7, og_t (inb_nI (by omega) (by omega)), nI_clamp (by omega), smv_tree, (i1.row u6).1, if_neg u7]
      unfold F_X5_nodeFor_45
      rw [if_neg (nI_ne0 (by omega) (by omega)), og_t (inb_nI (by omega) (by omega)), nI_clamp (by omega), smv_letters, hmr.2.1, hli, ob1_s (childAt_ok (S := smv S0 t n b p) hM (by rw [smv_tree]; exact i1) (smv_top _ _ _ _ _) u6 u4), ← u3]
