/-! ===== p23, pure: a value is written ===== -/
/-- the class's rows of a document that is being read -/
def DM (D : Dc) (V : S_Tree) : Prop := g_Tree_size V = nI (dN D) ∧ ∀ v, v < dN D → tc V v 0 = dK D v ∧ tc V v 1 = lI D v ∧ tc V v 2 = nI (dD D v) ∧ tc V v 5 = pI D v ∧ (dK D v = 6 → tc V v 6 = nI (dU D v))
theorem DM.new {D : Dc} {V V' : S_Tree} {k pl : Int32} {l b p dp : Nat} (h : DM D V) (hn : 0 < dN D) (hv : vnew V V' (dN D) k (nI l) (nI dp) pl (nI p)) : DM (dnew D k p l b dp) V' := by
  obtain ⟨g1, g2⟩ := h
  obtain ⟨v1, v2, v3, v4, v5, v6, v7, v8, v9⟩ := hv
  refine ⟨v1, fun v hv => ?_⟩
  rcases Nat.lt_or_ge v (dN D) with z | z
  · obtain ⟨a1, a2, a3, a4, a5⟩ := g2 v z
    have hne : v ≠ dN D := by omega
    have el : lI (dnew D k p l b dp) v = lI D v := by unfold lI; rw [dL_old z]
    have ep : pI (dnew D k p l b dp) v = pI D v := by unfold pI; rw [dP_old z]
    rw [v2 v 0 hne (by omega), v2 v 1 hne (by omega), v2 v 2 hne (by omega), v2 v 5 hne (by omega), v2 v 6 hne (by omega), dK_old z, dD_old z, dU_old z, el, ep]
    exact ⟨a1, a2, a3, a4, a5⟩
  · obtain rfl : v = dN D := by rw [dN_new] at hv; omega
    have el : lI (dnew D k p l b dp) (dN D) = nI l := by unfold lI; rw [if_neg (by omega), dL_at]
    have ep : pI (dnew D k p l b dp) (dN D) = nI p := by unfold pI; rw [if_neg (by omega), dP_at]
    rw [dK_at, dD_at, dU_at, el, ep]
    exact ⟨v3, v4, v5, v8, fun _ => v9⟩
theorem DM.pt {D : Dc} {V : S_Tree} {k : Int32} {l b p dp : Nat} (h : DM (dnew D k p l b dp) V) (hk : ¬ k = 6) : DM (dnew D 3 p l b dp) (tput V (dN D) 0 3) := by
  obtain ⟨g1, g2⟩ := h
  refine ⟨g1, fun v hv => ?_⟩
  have hv' : v < dN (dnew D k p l b dp) := hv
  obtain ⟨a1, a2, a3, a4, a5⟩ := g2 v hv'
  rw [tc_tput (by omega) (by omega), tc_tput (by omega) (by omega), tc_tput (by omega) (by omega), tc_tput (by omega) (by omega), tc_tput (by omega) (by omega), if_neg (show ¬ (v = dN D ∧ 1 = 0) by omega), if_neg (show ¬ (v = dN D ∧ 2 = 0) by omega), if_neg (show ¬ (v = dN D ∧ 5 = 0) by omega), if_neg (show ¬ (v = dN D ∧ 6 = 0) by omega)]
  rcases Nat.lt_or_ge v (dN D) with z | z
  · rw [if_neg (by omega), dK_old z]
    rw [dK_old z] at a1 a5
    exact ⟨a1, a2, a3, a4, a5⟩
  · obtain rfl : v = dN D := by rw [dN_new] at hv; omega
    rw [if_pos ⟨rfl, rfl⟩, dK_at]
    exact ⟨rfl, a2, a3, a4, fun z => absurd z (by decide)⟩
/-- between two values in the holder that is open -/
def BT (D : Dc) (d : Nat) (os : Nat → Nat) (fr : Bool) (V : S_Tree) (st op _le _ru : Int32) : Prop := DM D V ∧ op = nI (os (d - 1)) ∧ ((fr = false ∧ (st = sbv V op (os (d - 1)) ∨ pnd st = true)) ∨ (fr = true ∧ st = 3))
/-- where a value of this letter is to come -/
def VP (D : Dc) (d : Nat) (os : Nat → Nat) (l : Nat) (V : S_Tree) (st op le _ru : Int32) : Prop := DM D V ∧ op = nI (os (d - 1)) ∧ (st = 2 ∨ st = 3) ∧ lnx V op (os (d - 1)) le = nI l
/-- in a number or a word -/
def NW_ (D : Dc) (d : Nat) (os : Nat → Nat) (s0 : Int32) (V : S_Tree) (st op _le ru : Int32) : Prop := DM D V ∧ op = nI (os (d - 1)) ∧ st = s0 ∧ (s0 = 11 → ru = 0 ∨ ru = nI 1)
section VAL
variable {D : Dc} {d : Nat} {os : Nat → Nat} {l : Nat}
theorem dnx_at {V : S_Tree} (hM : DM D V) (hS : SK D d os) (hd : 0 < d) (hN : dN D ≤ 60) : dnx V (nI (os (d - 1))) (os (d - 1)) = nI d := by
  obtain ⟨h1, h2, h3⟩ := hS.2.1 (d - 1) (by omega)
  have hr := (hM.2 _ h1).2.2.1
  unfold dnx
  rw [if_neg (nI_m1 (by omega)), hr, h3, nI_1]
  congr 1; omega
/-- a simple value's first sign -/
theorem val_s (hS : SK D d os) (hd : 0 < d) (hN : dN D ≤ 30) {c : Nat} (hc : c < 128) (h93 : c ≠ 93) (hk : ka c = 0 ∨ ka c = 1 ∨ ka c = 2 ∨ ka c = 4) {V : S_Tree} {st op le ru : Int32} (h : VP D d os l V st op le ru) (fw pl : Int32) : ∃ V', DM (dnew D (ka c) (os (d - 1)) l 0 d) V' ∧ sbv V' op (os (d - 1)) = sbv V op (os (d - 1)) ∧ F_X1_take (rdr V fw pl st op le ru) (nI c) = some (true, rdr V' fw pl (siv V op (os (d - 1)) (ka c) c) op le (if ka c = 2 then 1 else 0)) := by
  obtain ⟨h1, h2, h3, h4⟩ := h
  have ho := (hS.2.1 (d - 1) (by omega)).1
  have hop : op = -1 ∨ (op = nI (os (d - 1)) ∧ os (d - 1) < dN D) := Or.inr ⟨h2, ho⟩
  obtain ⟨V', e1, e2⟩ := take_scalar (V := V) (fw := fw) (pl := pl) (st := st) (op := op) (le := le) (ru := ru) (n := dN D) (o := os (d - 1)) (c := c) h1.1 (by omega) hop hc hk
  have hdn : dnx V op (os (d - 1)) = nI d := by rw [h2]; exact dnx_at h1 hS hd (by omega)
  have e1' := e1
  rw [h4, hdn, h2] at e1'
  refine ⟨V', h1.new (by omega) e1', sbv_new e1 hop, ?_⟩
  rw [tk_plain hc (by rcases h3 with z | z <;> rw [z] <;> rfl)]
  rcases h3 with z | z
  · rw [z, t16_2]
    rw [z] at e2; exact e2
  · rw [z, t16_3v (fun w => h93 ((c_eq (c := c) (k := 93) rfl hc (by omega)).mp w))]
    rw [z] at e2; exact e2
theorem ka_dig : ∀ c, c < 58 → 49 ≤ c → ka c = 2 := by decide +kernel
theorem siv_dig {V : S_Tree} {op : Int32} {o c : Nat} (h : 49 ≤ c) : siv V op o 2 c = 8 := by
  unfold siv
  rw [if_pos rfl, if_neg (by omega), if_neg (by omega)]
/-- one sign of a number: a digit that begins it -/
theorem num_1 {S : S_LS} {n : Nat} {P : S_Tree → Int32 → Int32 → Int32 → Int32 → Prop} (hR : RS S n P) (hn : n ≤ 56) {j v : Int32} (hj : j = 3 ∨ j = 4)
    (hP : ∀ c, 49 ≤ c → c ≤ 57 → ∀ V st op le ru, P V st op le ru → ∀ fw pl, ∃ V' st' op' le' ru', NW_ (dnew D 2 (os (d - 1)) l 0 d) d os 8 V' st' op' le' ru' ∧ F_X1_take (rdr V fw pl st op le ru) (nI c) = some (true, rdr V' fw pl st' op' le' ru')) (hN : dN D ≤ 30) :
    ∃ S' n' k, F_L_simple_54 j v S = some S' ∧ n' ≤ n + 3 ∧ (∃ i, i ≤ 4 ∧ k = nI i) ∧ RS S' n' (BT (dnew D k (os (d - 1)) l 0 d) d os false) ∧ SM S S' := by
  unfold F_L_simple_54
  obtain ⟨r, r1, r2⟩ := low_cl v (m := 9) (by omega) (by omega)
  have r2' : F_L_low v 9 = some (nI r) := r2
  rw [ob1_s r2', show (49 : Int32) + nI r = nI (49 + r) from nI_add 49 r]
  obtain ⟨x, S1, a1, a2, a3⟩ := hR.step (c := 49 + r) (Q := NW_ (dnew D 2 (os (d - 1)) l 0 d) d os 8) (by omega) (by omega) (by omega) (hP (49 + r) (by omega) (by omega))
  rw [ob2_s a1]
  rcases hj with rfl | rfl
  · rw [if_neg (by decide)]
    refine ⟨S1, n + 1, 2, rfl, by omega, ⟨2, by omega, rfl⟩, ⟨a2.1, a2.2.weak fun V st op le ru h => ?_⟩, a3⟩
    obtain ⟨h1, h2, h3, -⟩ := h
    exact ⟨h1, h2, Or.inl ⟨rfl, Or.inr (by rw [h3]; rfl)⟩⟩
  · rw [if_pos rfl]
    obtain ⟨y, S2, b1, b2, b3⟩ := a2.step (c := 46) (Q := NW_ (dnew D 3 (os (d - 1)) l 0 d) d os 9) (by omega) (by omega) (by omega) (fun V st op le ru h fw pl => by
      obtain ⟨h1, h2, h3, -⟩ := h
      subst h3
      exact ⟨_, _, _, _, _, ⟨h1.pt (by decide), h2, rfl, fun z => absurd z (by decide)⟩, tk_8 h1.1 (by omega)⟩)
    have b1' : okr (F_X4_append S1 46) = some (y, S2) := b1
    obtain ⟨q, q1, q2⟩ := low_cl v (m := 10) (by omega) (by omega)
    have q2' : F_L_low v 10 = some (nI q) := q2
    rw [ob2_s b1', ob1_s q2', show (48 : Int32) + nI q = nI (48 + q) from nI_add 48 q]
    obtain ⟨w, S3, c1, c2, c3⟩ := b2.step (c := 48 + q) (Q := NW_ (dnew D 3 (os (d - 1)) l 0 d) d os 10) (by omega) (by omega) (by omega) (fun V st op le ru h fw pl => by
      obtain ⟨h1, h2, h3, -⟩ := h
      subst h3
      exact ⟨_, _, _, _, _, ⟨h1, h2, rfl, fun z => absurd z (by decide)⟩, tk_9 (by omega) (by omega)⟩)
    rw [ob2_s c1]
    refine ⟨S3, n + 1 + 1 + 1, 3, rfl, by omega, ⟨3, by omega, rfl⟩, ⟨c2.1, c2.2.weak fun V st op le ru h => ?_⟩, (a3.trans b3).trans c3⟩
    obtain ⟨h1, h2, h3, -⟩ := h
    exact ⟨h1, h2, Or.inl ⟨rfl, Or.inr (by rw [h3]; rfl)⟩⟩
/-- a simple value -/
theorem simple_cl {S : S_LS} {n : Nat} (hR : RS S n (VP D d os l)) (hn : n ≤ 50) (hS : SK D d os) (hd : 0 < d) (hN : dN D ≤ 29) {j : Nat} (hj : j < 6) (v : Int32) :
    ∃ S' n' k, F_L_simple S (nI j) v = some S' ∧ n' ≤ n + 4 ∧ (∃ i, i ≤ 4 ∧ k = nI i) ∧ RS S' n' (BT (dnew D k (os (d - 1)) l 0 d) d os false) ∧ SM S S' := by
  have scal : ∀ c : Nat, c < 128 → c ≠ 93 → 33 ≤ c → c ≤ 126 → (ka c = 0 ∨ ka c = 1) → ∃ r S', okr (F_X4_append S (nI c)) = some (r, S') ∧ RS S' (n + 1) (BT (dnew D (ka c) (os (d - 1)) l 0 d) d os false) ∧ SM S S' := fun c h1 h2 h3 h4 h5 => hR.step (by omega) h3 h4 (fun V st op le ru h fw pl => by
    obtain ⟨V', e1, e2, e3⟩ := val_s hS hd (by omega) h1 h2 (h5.imp id (fun z => Or.inl z)) h fw pl
    refine ⟨V', _, _, _, _, ⟨e1, h.2.1, Or.inl ⟨rfl, Or.inl ?_⟩⟩, e3⟩
    rw [e2]
    unfold siv
    rcases h5 with z | z <;> rw [z, if_neg (by decide), if_neg (by decide)])
  have num : ∀ jj : Int32, (jj = 3 ∨ jj = 4) → ∃ S' n' k, (ob1 (F_L_low v 2) fun r14 => (if r14 = 0 then (ob2 (okr (F_X4_append S 45)) fun r17 u18 => F_L_simple_54 jj v u18) else F_L_simple_54 jj v S)) = some S' ∧ n' ≤ n + 4 ∧ (∃ i, i ≤ 4 ∧ k = nI i) ∧ RS S' n' (BT (dnew D k (os (d - 1)) l 0 d) d os false) ∧ SM S S' := by
    intro jj hjj
    obtain ⟨q, q1, q2⟩ := low_cl v (m := 2) (by omega) (by omega)
    have q2' : F_L_low v 2 = some (nI q) := q2
    rw [ob1_s q2']
    by_cases hq : nI q = 0
    · rw [if_pos hq]
      obtain ⟨x, S1, a1, a2, a3⟩ := hR.step (c := 45) (Q := NW_ (dnew D 2 (os (d - 1)) l 0 d) d os 5) (by omega) (by omega) (by omega) (fun V st op le ru h fw pl => by
        obtain ⟨V', e1, e2, e3⟩ := val_s hS hd (by omega) (c := 45) (by omega) (by omega) (Or.inr (Or.inr (Or.inl rfl))) h fw pl
        exact ⟨V', _, _, _, _, ⟨e1, h.2.1, rfl, fun z => absurd z (by decide)⟩, e3⟩)
      have a1' : okr (F_X4_append S 45) = some (x, S1) := a1
      rw [ob2_s a1']
      obtain ⟨S2, n', k, b1, b2, b3, b4, b5⟩ := num_1 (D := D) (d := d) (os := os) (l := l) (v := v) a2 (by omega) hjj (fun c h1 h2 V st op le ru h fw pl => by
        obtain ⟨g1, g2, g3, -⟩ := h
        subst g3
        exact ⟨_, _, _, _, _, ⟨g1, g2, rfl, fun z => absurd z (by decide)⟩, tk_5 h1 h2⟩) (by omega)
      exact ⟨S2, n', k, b1, by omega, b3, b4, a3.trans b5⟩
    · rw [if_neg hq]
      obtain ⟨S2, n', k, b1, b2, b3, b4, b5⟩ := num_1 (D := D) (d := d) (os := os) (l := l) (v := v) hR (by omega) hjj (fun c h1 h2 V st op le ru h fw pl => by
        have hkc := ka_dig c (by omega) h1
        obtain ⟨V', e1, e2, e3⟩ := val_s hS hd (by omega) (c := c) (by omega) (by omega) (Or.inr (Or.inr (Or.inl hkc))) h fw pl
        rw [hkc, siv_dig h1] at e3
        rw [hkc] at e1
        exact ⟨V', _, _, _, _, ⟨e1, h.2.1, rfl, fun z => absurd z (by decide)⟩, e3⟩) (by omega)
      exact ⟨S2, n', k, b1, by omega, b3, b4, b5⟩
  unfold F_L_simple
  rcases (show j = 0 ∨ j = 1 ∨ j = 2 ∨ j = 3 ∨ j = 4 ∨ j = 5 by omega) with rfl | rfl | rfl | rfl | rfl | rfl
  · obtain ⟨r, S', e1, e2, e3⟩ := scal 110 (by omega) (by omega) (by omega) (by omega) (Or.inl rfl)
    have e1' : okr (F_X4_append S 110) = some (r, S') := e1
    rw [if_neg (by decide), if_pos (by decide), ob2_s e1']
    exact ⟨S', n + 1, _, rfl, by omega, ⟨0, by omega, rfl⟩, e2, e3⟩
  · obtain ⟨r, S', e1, e2, e3⟩ := scal 116 (by omega) (by omega) (by omega) (by omega) (Or.inr rfl)
    have e1' : okr (F_X4_append S 116) = some (r, S') := e1
    rw [if_neg (by decide), if_neg (by decide), if_pos (by decide), ob2_s e1']
    exact ⟨S', n + 1, _, rfl, by omega, ⟨1, by omega, rfl⟩, e2, e3⟩
  · obtain ⟨r, S', e1, e2, e3⟩ := scal 102 (by omega) (by omega) (by omega) (by omega) (Or.inr rfl)
    have e1' : okr (F_X4_append S 102) = some (r, S') := e1
    rw [if_neg (by decide), if_neg (by decide), if_neg (by decide), ob2_s e1']
    exact ⟨S', n + 1, _, rfl, by omega, ⟨1, by omega, rfl⟩, e2, e3⟩
  · rw [if_pos (by decide), if_neg (by decide)]
    exact num (nI 3) (Or.inl rfl)
  · rw [if_pos (by decide), if_neg (by decide)]
    exact num (nI 4) (Or.inr rfl)
  · rw [if_pos (by decide), if_pos (by decide)]
    obtain ⟨x, S1, a1, a2, a3⟩ := hR.step (c := 39) (Q := fun V st op le ru => NW_ (dnew D 4 (os (d - 1)) l 0 d) d os 11 V st op le ru ∧ ru = 0) (by omega) (by omega) (by omega) (fun V st op le ru h fw pl => by
      obtain ⟨V', e1, e2, e3⟩ := val_s hS hd (by omega) (c := 39) (by omega) (by omega) (Or.inr (Or.inr (Or.inr rfl))) h fw pl
      exact ⟨V', _, _, _, _, ⟨⟨e1, h.2.1, rfl, fun _ => Or.inl rfl⟩, rfl⟩, e3⟩)
    have a1' : okr (F_X4_append S 39) = some (x, S1) := a1
    obtain ⟨q, q1, q2⟩ := low_cl v (m := 26) (by omega) (by omega)
    have q2' : F_L_low v 26 = some (nI q) := q2
    rw [ob2_s a1', ob1_s q2', show (97 : Int32) + nI q = nI (97 + q) from nI_add 97 q]
    obtain ⟨w, S2, b1, b2, b3⟩ := a2.step (c := 97 + q) (Q := fun V st op le ru => NW_ (dnew D 4 (os (d - 1)) l 0 d) d os 11 V st op le ru ∧ ru = nI 1) (by omega) (by omega) (by omega) (fun V st op le ru h fw pl => by
      obtain ⟨⟨h1, h2, h3, -⟩, h5⟩ := h
      subst h3
      subst h5
      exact ⟨_, _, _, _, _, ⟨⟨h1, h2, rfl, fun _ => Or.inr rfl⟩, rfl⟩, tk_11 (by omega) (by omega)⟩)
    rw [ob2_s b1]
    obtain ⟨z, S3, c1, c2, c3⟩ := b2.step (c := 39) (Q := BT (dnew D 4 (os (d - 1)) l 0 d) d os false) (by omega) (by omega) (by omega) (fun V st op le ru h fw pl => by
      obtain ⟨⟨h1, h2, h3, -⟩, h5⟩ := h
      subst h3
      subst h5
      have ho := (hS.2.1 (d - 1) (by omega)).1
      exact ⟨_, _, _, _, _, ⟨h1, h2, Or.inl ⟨rfl, Or.inl rfl⟩⟩, tk_11e (n := dN D + 1) (o := os (d - 1)) h1.1 (by omega) (Or.inr ⟨h2, by omega⟩)⟩)
    have c1' : okr (F_X4_append S2 39) = some (z, S3) := c1
    rw [ob2_s c1']
    exact ⟨S3, n + 1 + 1 + 1, 4, rfl, by omega, ⟨4, by omega, rfl⟩, c2, (a3.trans b3).trans c3⟩
end VAL
