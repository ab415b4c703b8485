
def mk6 {α : Type} (x0 x1 x2 x3 x4 x5 : α) : Nat → α := fun i => match i with | 0 => x0 | 1 => x1 | 2 => x2 | 3 => x3 | 4 => x4 | _ => x5
/-- a row of references by their list -/
def rl (L : List Nat) : Nat → Option Nat := fun i => L[i]?
theorem rl_up (L : List Nat) {i : Nat} (v : Nat) (h : i < L.length) : va_up (rl L) i (some v) = rl (L.set i v) := by
  funext j
  unfold va_up rl
  by_cases e : j = i
  · subst e
    rw [if_pos rfl, List.getElem?_set_self h]
  · rw [if_neg e, List.getElem?_set_ne (fun q => e q.symm)]
def W_Sav (cS : ClassId) (h : Nat) (L : List Nat) : va_W := [(h, .inl (cS, 6, .inr (.inr (.inr (.inr (rl L))))))]
def W_Full (cI cS : ClassId) (a : Nat → Nat) (q : Nat → Nat → Nat) (S : S_LS) (Z : Nat → S_State) : va_W := List.flatten [W_LS cI a S, W_Sav cS (a 13) [q 0 0, q 1 0, q 2 0, q 3 0, q 4 0, q 5 0], W_State cI (q 0) (Z 0), W_State cI (q 1) (Z 1), W_State cI (q 2) (Z 2), W_State cI (q 3) (Z 3), W_State cI (q 4) (Z 4), W_State cI (q 5) (Z 5)]
theorem jJoinF {A0 : Nat → Prop} {D : va_G} {wa wb wc w1 ws' : va_W} {H H1 : Heap} (hP : va_P D vwCl (wa ++ wb) H) (hD : va_D A0 (wa ++ wb)) (isC isR perm : List Nat) (hC : isC.map (fun i => wa[i]?) = wc.map some) (hR : isR.map (fun i => wa[i]?) = (isR.filterMap (fun i => wa[i]?)).map some) (hn : va_nd isR = true) (hdis : ∀ i ∈ isR, i ∉ isC)
    (hk : ∀ q : Nat, q < H.size → ¬ va_A wc H.size q → H1[q]? = H[q]?) (hF : ∀ q, va_A wc H.size q → A0 q) (hP1 : va_P D vwCl w1 H1) (hD1 : va_D (va_A wc H.size) w1) (hp : va_nd perm = true) (hq : perm.map (fun i => (isR.filterMap (fun i => wa[i]?) ++ w1)[i]?) = ws'.map some) : va_P D vwCl (ws' ++ wb) H1 ∧ va_D A0 (ws' ++ wb) := by
  have la : ∀ {k : Nat} {q : Nat × va_E}, wa[k]? = some q → (wa ++ wb)[k]? = some q := fun h => by
    rw [List.getElem?_append_left (List.getElem?_eq_some_iff.mp h).1]; exact h
  have lb : ∀ {k : Nat} {q : Nat × va_E}, wb[k]? = some q → (wa ++ wb)[wa.length + k]? = some q := fun h => by
    rw [List.getElem?_append_right (Nat.le_add_right _ _), Nat.add_sub_cancel_left]; exact h
  have hPa : va_P D vwCl wa H := fun k q h => hP k q (la h)
  have hDa : va_D A0 wa := ⟨fun i j x y hx hy e => hD.1 i j x y (la hx) (la hy) e, fun k q h => hD.2 k q (la h)⟩
  have hDb : va_D A0 wb := ⟨fun i j x y hx hy e => by have := hD.1 _ _ x y (lb hx) (lb hy) e; omega, fun k q h => hD.2 _ q (lb h)⟩
  obtain ⟨r1, r2⟩ := jJoin hPa hDa isC isR perm hC hR hn hdis hk hF hP1 hD1 hp hq
  have inC : ∀ (k : Nat) (q : Nat × va_E), wc[k]? = some q → ∃ i : Nat, wa[i]? = some q := by
    intro k q hq
    have h1 : (isC.map (fun i => wa[i]?))[k]? = some (some q) := by rw [hC, List.getElem?_map, hq]; rfl
    rw [List.getElem?_map] at h1
    cases hi : isC[k]? with
    | none => rw [hi] at h1; cases h1
    | some i => rw [hi] at h1; exact ⟨i, Option.some.inj h1⟩
  have apart : ∀ (k : Nat) (q : Nat × va_E), wb[k]? = some q → q.1 < H.size ∧ ¬ va_A wc H.size q.1 := by
    intro k q hq
    have hl := (hP _ q (lb hq)).lt
    refine ⟨hl, fun h => ?_⟩
    rcases h with ⟨k2, e, h⟩ | h
    · obtain ⟨i, hi⟩ := inC k2 (q.1, e) h
      have h3 := hD.1 i (wa.length + k) (q.1, e) q (la hi) (lb hq) rfl
      have h4 := (List.getElem?_eq_some_iff.mp hi).1
      omega
    · omega
  have src : ∀ (i : Nat) (x : Nat × va_E), ws'[i]? = some x → (∃ j : Nat, wa[j]? = some x) ∨ va_A wc H.size x.1 := by
    intro i x hx
    have h1 : (perm.map (fun i => (isR.filterMap (fun i => wa[i]?) ++ w1)[i]?))[i]? = some (some x) := by rw [hq, List.getElem?_map, hx]; rfl
    rw [List.getElem?_map] at h1
    cases hi : perm[i]? with
    | none => rw [hi] at h1; cases h1
    | some j =>
      rw [hi] at h1
      have h2 := List.mem_of_getElem? (Option.some.inj h1)
      rcases List.mem_append.mp h2 with h3 | h3
      · obtain ⟨z, -, hz⟩ := List.mem_filterMap.mp h3
        exact Or.inl ⟨z, hz⟩
      · obtain ⟨z, hz⟩ := List.mem_iff_getElem?.mp h3
        exact Or.inr (hD1.2 z x hz)
  refine ⟨va_P.app r1 (fun k q h => ?_), va_D.app r2 hDb (fun i j x y hx hy hxy => ?_)⟩
  · obtain ⟨g1, g2⟩ := apart k q h
    exact (hP _ q (lb h)).kept (hk q.1 g1 g2)
  · rcases src i x hx with ⟨z, hz⟩ | hz
    · have h3 := hD.1 z (wa.length + j) x y (la hz) (lb hy) hxy
      have h4 := (List.getElem?_eq_some_iff.mp hz).1
      omega
    · exact (apart j y hy).2 (by rw [← hxy]; exact hz)
theorem perm_of_idx {α : Type} {bs bs' : List α} (perm : List Nat) (hp : perm.isPerm (List.range bs.length) = true) (h : perm.map (fun i => bs[i]?) = bs'.map some) : bs'.Perm bs := by
  have h1 : (perm.map (fun i => bs[i]?)).Perm ((List.range bs.length).map (fun i => bs[i]?)) := (List.isPerm_iff.mp hp).map _
  have h2 : (List.range bs.length).map (fun i => bs[i]?) = bs.map some := by
    apply List.ext_getElem?
    intro i
    rw [List.getElem?_map, List.getElem?_map]
    by_cases q : i < bs.length
    · rw [List.getElem?_range q, List.getElem?_eq_getElem q]
      show some (bs[i]?) = some (some _)
      rw [List.getElem?_eq_getElem q]
    · rw [List.getElem?_eq_none (by simpa using q), List.getElem?_eq_none (by omega)]
      rfl
  rw [h, h2] at h1
  have h3 := h1.filterMap id
  have e : ∀ (l : List α), (l.map some).filterMap id = l := by
    intro l
    induction l with
    | nil => rfl
    | cons x l ih => show x :: (l.map some).filterMap id = _; rw [ih]
  rw [e, e] at h3
  exact h3
theorem va_P_perm {D : va_G} {ws ws' : va_W} {H : Heap} (hP : va_P D vwCl ws H) (h : ws'.Perm ws) : va_P D vwCl ws' H := by
  intro k q hq
  obtain ⟨j, hj⟩ := List.mem_iff_getElem?.mp (h.subset (List.mem_of_getElem? hq))
  exact hP j q hj
theorem va_D_perm {A : Nat → Prop} {ws ws' : va_W} (hD : va_D A ws) (h : ws'.Perm ws) : va_D A ws' := by
  have key : ∀ (w : va_W), (∀ (i j : Nat) (p q : Nat × va_E), w[i]? = some p → w[j]? = some q → p.1 = q.1 → i = j) ↔ w.Pairwise (fun a b => a.1 ≠ b.1) := by
    intro w
    constructor
    · intro hh
      refine List.pairwise_iff_getElem.mpr (fun i j hi hj hij e => ?_)
      have := hh i j _ _ (List.getElem?_eq_getElem hi) (List.getElem?_eq_getElem hj) e
      omega
    · intro hh i j p q hi hj e
      obtain ⟨a1, a2⟩ := List.getElem?_eq_some_iff.mp hi
      obtain ⟨b1, b2⟩ := List.getElem?_eq_some_iff.mp hj
      rcases Nat.lt_trichotomy i j with z | z | z
      · have := List.pairwise_iff_getElem.mp hh i j a1 b1 z
        rw [a2, b2] at this
        exact absurd e this
      · exact z
      · have := List.pairwise_iff_getElem.mp hh j i b1 a1 z
        rw [a2, b2] at this
        exact absurd e.symm this
  refine ⟨(key ws').mpr (h.symm.pairwise ((key ws).mp hD.1) (fun {x y} hxy => fun e => hxy e.symm)), fun k q hq => ?_⟩
  obtain ⟨j, hj⟩ := List.mem_iff_getElem?.mp (h.subset (List.mem_of_getElem? hq))
  exact hD.2 j q hj
theorem jBlk {A : Nat → Prop} {D : va_G} {bs bs' : List va_W} {H : Heap} (hP : va_P D vwCl bs.flatten H) (hD : va_D A bs.flatten) (perm : List Nat) (hp : perm.isPerm (List.range bs.length) = true) (h : perm.map (fun i => bs[i]?) = bs'.map some) : va_P D vwCl bs'.flatten H ∧ va_D A bs'.flatten :=
  ⟨va_P_perm hP (perm_of_idx perm hp h).flatten, va_D_perm hD (perm_of_idx perm hp h).flatten⟩
def F_X4_dropOldest (S : S_LS) (Z : Nat → S_State) : Option (S_LS × (Nat → S_State)) := (some ((s_LS_savedStates S ((g_LS_savedStates S) - (1 : Int32))), (mk6 (Z 1) (Z 2) (Z 3) (Z 4) (Z 5) (Z 0))))
def F_X4_saveState (S : S_LS) (Z : Nat → S_State) : Option (S_LS × (Nat → S_State)) := (if (g_LS_savedStates S) < (6 : Int32) then (if (g_LS_savedStates S) = (0 : Int32) then (ob1 (F_X2_copyFrom (Z 0) (g_LS_now S)) fun u3 => (some ((s_LS_savedStates S ((g_LS_savedStates S) + (1 : Int32))), (mk6 u3 (Z 1) (Z 2) (Z 3) (Z 4) (Z 5))))) else (if (g_LS_savedStates S) = (1 : Int32) then (ob1 (F_X2_copyFrom (Z 1) (g_LS_now S)) fun u6 => (some ((s_LS_savedStates S ((g_LS_savedStates S) + (1 : Int32))), (mk6 (Z 0) u6 (Z 2) (Z 3) (Z 4) (Z 5))))) else (if (g_LS_savedStates S) = (2 : Int32) then (ob1 (F_X2_copyFrom (Z 2) (g_LS_now S)) fun u9 => (some ((s_LS_savedStates S ((g_LS_savedStates S) + (1 : Int32))), (mk6 (Z 0) (Z 1) u9 (Z 3) (Z 4) (Z 5))))) else (if (g_LS_savedStates S) = (3 : Int32) then (ob1 (F_X2_copyFrom (Z 3) (g_LS_now S)) fun u12 => (some ((s_LS_savedStates S ((g_LS_savedStates S) + (1 : Int32))), (mk6 (Z 0) (Z 1) (Z 2) u12 (Z 4) (Z 5))))) else (if (g_LS_savedStates S) = (4 : Int32) then (ob1 (F_X2_copyFrom (Z 4) (g_LS_now S)) fun u15 => (some ((s_LS_savedStates S ((g_LS_savedStates S) + (1 : Int32))), (mk6 (Z 0) (Z 1) (Z 2) (Z 3) u15 (Z 5))))) else (if (g_LS_savedStates S) = (5 : Int32) then (ob1 (F_X2_copyFrom (Z 5) (g_LS_now S)) fun u18 => (some ((s_LS_savedStates S ((g_LS_savedStates S) + (1 : Int32))), (mk6 (Z 0) (Z 1) (Z 2) (Z 3) (Z 4) u18)))) else (og (decide ((g_LS_savedStates S) < 0 ∨ 6 ≤ (g_LS_savedStates S))) (some (S, Z))))))))) else (ob2 (F_X4_dropOldest S Z) fun u21 z22 => (if (g_LS_savedStates u21) = (0 : Int32) then (ob1 (F_X2_copyFrom (z22 0) (g_LS_now u21)) fun u25 => (some ((s_LS_savedStates u21 ((g_LS_savedStates u21) + (1 : Int32))), (mk6 u25 (z22 1) (z22 2) (z22 3) (z22 4) (z22 5))))) else (if (g_LS_savedStates u21) = (1 : Int32) then (ob1 (F_X2_copyFrom (z22 1) (g_LS_now u21)) fun u28 => (some ((s_LS_savedStates u21 ((g_LS_savedStates u21) + (1 : Int32))), (mk6 (z22 0) u28 (z22 2) (z22 3) (z22 4) (z22 5))))) else (if (g_LS_savedStates u21) = (2 : Int32) then (ob1 (F_X2_copyFrom (z22 2) (g_LS_now u21)) fun u31 => (some ((s_LS_savedStates u21 ((g_LS_savedStates u21) + (1 : Int32))), (mk6 (z22 0) (z22 1) u31 (z22 3) (z22 4) (z22 5))))) else (if (g_LS_savedStates u21) = (3 : Int32) then (ob1 (F_X2_copyFrom (z22 3) (g_LS_now u21)) fun u34 => (some ((s_LS_savedStates u21 ((g_LS_savedStates u21) + (1 : Int32))), (mk6 (z22 0) (z22 1) (z22 2) u34 (z22 4) (z22 5))))) else (if (g_LS_savedStates u21) = (4 : Int32) then (ob1 (F_X2_copyFrom (z22 4) (g_LS_now u21)) fun u37 => (some ((s_LS_savedStates u21 ((g_LS_savedStates u21) + (1 : Int32))), (mk6 (z22 0) (z22 1) (z22 2) (z22 3) u37 (z22 5))))) else (if (g_LS_savedStates u21) = (5 : Int32) then (ob1 (F_X2_copyFrom (z22 5) (g_LS_now u21)) fun u40 => (some ((s_LS_savedStates u21 ((g_LS_savedStates u21) + (1 : Int32))), (mk6 (z22 0) (z22 1) (z22 2) (z22 3) (z22 4) u40)))) else (og (decide ((g_LS_savedStates u21) < 0 ∨ 6 ≤ (g_LS_savedStates u21))) (some (u21, z22)))))))))))
def F_X4_learn (S : S_LS) (Z : Nat → S_State) (v1 : Int32) : Option (Sum (String × (S_LS × (Nat → S_State))) (Int32 × S_LS × (Nat → S_State))) := (ob1 (F_X4_isShape v1) fun r1 => (if (b2i r1) = 0 then (some (.inl ("java/lang/IndexOutOfBoundsException", (S, Z)))) else (ob2 (F_X1_read (g_LS_reader S) (g_LS_codes S) (g_LS_length S)) fun r4 u5 => (if (b2i r4) = 0 then (some (.inl ("java/lang/IllegalArgumentException", ((s_LS_reader S u5), Z)))) else (if v1 = 0 then (ob1 (F_X4_workOutLearned (s_LS_reader S u5) false) fun u9 => (ob1 (F_X4_isRefused u9 false) fun r11 => (if (b2i r11) = 0 then (ob2 (F_X4_saveState u9 Z) fun u14 z15 => (ob1 (F_X4_takeWork u14 false) fun u17 => (some (.inr ((g_Tree_size (g_State_first (g_LS_now u17))), (s_LS_length u17 (0 : Int32)), z15))))) else (some (.inl ("java/lang/IllegalStateException", (u9, Z))))))) else (ob1 (F_X4_workOutLearned (s_LS_reader S u5) true) fun u19 => (ob1 (F_X4_isRefused u19 true) fun r21 => (if (b2i r21) = 0 then (ob2 (F_X4_saveState u19 Z) fun u24 z25 => (ob1 (F_X4_takeWork u24 true) fun u27 => (some (.inr ((g_Tree_size (g_State_second (g_LS_now u27))), (s_LS_length u27 (0 : Int32)), z25))))) else (some (.inl ("java/lang/IllegalStateException", (u19, Z))))))))))))
def F_X4_join (S : S_LS) (Z : Nat → S_State) (v1 : Int32) : Option (Sum (String × (S_LS × (Nat → S_State))) (Int32 × S_LS × (Nat → S_State))) := (ob1 (F_X4_isShape v1) fun r1 => (if (b2i r1) = 0 then (some (.inl ("java/lang/IndexOutOfBoundsException", (S, Z)))) else (if v1 = 0 then (if ((1 : Int32) - v1) = 0 then none else (ob1 (F_X4_workOutJoined S false) fun u6 => (if (g_Tree_size (g_LS_work u6)) ≤ (30 : Int32) then (ob2 (F_X4_saveState u6 Z) fun u9 z10 => (ob1 (F_X4_takeWork u9 false) fun u12 => (some (.inr ((g_Tree_size (g_State_first (g_LS_now u12))), u12, z10))))) else (some (.inl ("java/lang/IllegalStateException", (u6, Z))))))) else (if ((1 : Int32) - v1) = 0 then (ob1 (F_X4_workOutJoined S true) fun u15 => (if (g_Tree_size (g_LS_work u15)) ≤ (30 : Int32) then (ob2 (F_X4_saveState u15 Z) fun u18 z19 => (ob1 (F_X4_takeWork u18 true) fun u21 => (some (.inr ((g_Tree_size (g_State_second (g_LS_now u21))), u21, z19))))) else (some (.inl ("java/lang/IllegalStateException", (u15, Z)))))) else none))))
def F_X4_forget (S : S_LS) (Z : Nat → S_State) (v1 : Int32) : Option (Sum (String × (S_LS × (Nat → S_State))) (Int32 × S_LS × (Nat → S_State))) := (ob1 (F_X4_isShape v1) fun r1 => (if (b2i r1) = 0 then (some (.inl ("java/lang/IndexOutOfBoundsException", (S, Z)))) else (ob2 (F_X4_saveState S Z) fun u4 z5 => (if v1 = 0 then (ob1 (F_X3_clear (g_State_first (g_LS_now u4))) fun u8 => (some (.inr ((g_Tree_size (g_State_first (g_LS_now u4))), (s_LS_now u4 (s_State_first (g_LS_now u4) u8)), z5)))) else (ob1 (F_X3_clear (g_State_second (g_LS_now u4))) fun u10 => (some (.inr ((g_Tree_size (g_State_second (g_LS_now u4))), (s_LS_now u4 (s_State_second (g_LS_now u4) u10)), z5))))))))
def F_X4_swap (S : S_LS) (Z : Nat → S_State) : Option (Int32 × S_LS × (Nat → S_State)) := (ob2 (F_X4_saveState S Z) fun u1 z2 => (ob1 (F_X3_copyFrom (g_LS_work u1) (g_State_first (g_LS_now u1))) fun u4 => (ob1 (F_X3_copyFrom (g_State_first (g_LS_now u1)) (g_State_second (g_LS_now u1))) fun u6 => (ob1 (F_X3_copyFrom (g_State_second (g_LS_now u1)) u4) fun u8 => (some ((g_Tree_size u6), (s_LS_work (s_LS_now u1 (s_State_second (s_State_first (g_LS_now u1) u6) u8)) u4), z2))))))
def F_X4_set (S : S_LS) (Z : Nat → S_State) (v1 : Int32) : Option (Sum (String × (S_LS × (Nat → S_State))) (Int32 × S_LS × (Nat → S_State))) := (if v1 < 0 then (some (.inl ("java/lang/IllegalArgumentException", (S, Z)))) else (if v1 ≤ (1 : Int32) then (ob2 (F_X4_saveState S Z) fun u3 z4 => (some (.inr ((g_State_setting (g_LS_now u3)), (s_LS_now u3 (s_State_setting (g_LS_now u3) v1)), z4)))) else (some (.inl ("java/lang/IllegalArgumentException", (S, Z))))))
def F_X4_undo (S : S_LS) (Z : Nat → S_State) : Option (Sum (String × (S_LS)) (Int32 × S_LS)) := (if ((g_LS_savedStates S) - (1 : Int32)) = (0 : Int32) then (if (g_LS_savedStates S) ≤ 0 then (some (.inl ("java/lang/IllegalStateException", S))) else (ob1 (F_X2_copyFrom (g_LS_now S) (Z 0)) fun u3 => (some (.inr (((g_LS_savedStates S) - (1 : Int32)), (s_LS_savedStates (s_LS_now S u3) ((g_LS_savedStates S) - (1 : Int32)))))))) else (if ((g_LS_savedStates S) - (1 : Int32)) = (1 : Int32) then (if (g_LS_savedStates S) ≤ 0 then (some (.inl ("java/lang/IllegalStateException", S))) else (ob1 (F_X2_copyFrom (g_LS_now S) (Z 1)) fun u7 => (some (.inr (((g_LS_savedStates S) - (1 : Int32)), (s_LS_savedStates (s_LS_now S u7) ((g_LS_savedStates S) - (1 : Int32)))))))) else (if ((g_LS_savedStates S) - (1 : Int32)) = (2 : Int32) then (if (g_LS_savedStates S) ≤ 0 then (some (.inl ("java/lang/IllegalStateException", S))) else (ob1 (F_X2_copyFrom (g_LS_now S) (Z 2)) fun u11 => (some (.inr (((g_LS_savedStates S) - (1 : Int32)), (s_LS_savedStates (s_LS_now S u11) ((g_LS_savedStates S) - (1 : Int32)))))))) else (if ((g_LS_savedStates S) - (1 : Int32)) = (3 : Int32) then (if (g_LS_savedStates S) ≤ 0 then (some (.inl ("java/lang/IllegalStateException", S))) else (ob1 (F_X2_copyFrom (g_LS_now S) (Z 3)) fun u15 => (some (.inr (((g_LS_savedStates S) - (1 : Int32)), (s_LS_savedStates (s_LS_now S u15) ((g_LS_savedStates S) - (1 : Int32)))))))) else (if ((g_LS_savedStates S) - (1 : Int32)) = (4 : Int32) then (if (g_LS_savedStates S) ≤ 0 then (some (.inl ("java/lang/IllegalStateException", S))) else (ob1 (F_X2_copyFrom (g_LS_now S) (Z 4)) fun u19 => (some (.inr (((g_LS_savedStates S) - (1 : Int32)), (s_LS_savedStates (s_LS_now S u19) ((g_LS_savedStates S) - (1 : Int32)))))))) else (if ((g_LS_savedStates S) - (1 : Int32)) = (5 : Int32) then (if (g_LS_savedStates S) ≤ 0 then (some (.inl ("java/lang/IllegalStateException", S))) else (ob1 (F_X2_copyFrom (g_LS_now S) (Z 5)) fun u23 => (some (.inr (((g_LS_savedStates S) - (1 : Int32)), (s_LS_savedStates (s_LS_now S u23) ((g_LS_savedStates S) - (1 : Int32)))))))) else (og (decide (((g_LS_savedStates S) - (1 : Int32)) < 0 ∨ 6 ≤ ((g_LS_savedStates S) - (1 : Int32)))) (if (g_LS_savedStates S) ≤ 0 then (some (.inl ("java/lang/IllegalStateException", S))) else (some (.inl ("java/lang/IllegalStateException", S)))))))))))
