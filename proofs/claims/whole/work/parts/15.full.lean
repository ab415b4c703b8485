
def mk6 {α : Type} (x0 x1 x2 x3 x4 x5 : α) : Nat → α := fun i => match i with | 0 => x0 | 1 => x1 | 2 => x2 | 3 => x3 | 4 => x4 | _ => x5
/-- a row of references by their list -/
def rl (L : List Nat) : Nat → Option Nat := fun i => L[i]?
theorem rl_up (L : List Nat) {i : Nat} (v : Nat) (h : i < L.length) : va_up (rl L) i (some v) = rl (L.set i v) := by
  funext j
  unfold va_up rl
  by_cases e : j = i
  · subst e
    rw [if_pos rfl, List.getElem?_set_self h]
  · rw [if_neg e, List.getElem?_set_ne (fun q => e q.symm)]
def W_Sav (cS : ClassId) (h : Nat) (L : List Nat) : va_W := [(h, .inl (cS, 6, .inr (.inr (.inr (.inr (rl L))))))]
def W_Full (cI cS : ClassId) (a : Nat → Nat) (q : Nat → Nat → Nat) (S : S_LS) (Z : Nat → S_State) : va_W := List.flatten [W_LS cI a S, W_Sav cS (a 13) [q 0 0, q 1 0, q 2 0, q 3 0, q 4 0, q 5 0], W_State cI (q 0) (Z 0), W_State cI (q 1) (Z 1), W_State cI (q 2) (Z 2), W_State cI (q 3) (Z 3), W_State cI (q 4) (Z 4), W_State cI (q 5) (Z 5)]
theorem jJoinF {A0 : Nat → Prop} {D : va_G} {wa wb wc w1 ws' : va_W} {H H1 : Heap} (hP : va_P D vwCl (wa ++ wb) H) (hD : va_D A0 (wa ++ wb)) (isC isR perm : List Nat) (hC : isC.map (fun i => wa[i]?) = wc.map some) (hR : isR.map (fun i => wa[i]?) = (isR.filterMap (fun i => wa[i]?)).map some) (hn : va_nd isR = true) (hdis : ∀ i ∈ isR, i ∉ isC)
    (hk : ∀ q : Nat, q < H.size → ¬ va_A wc H.size q → H1[q]? = H[q]?) (hF : ∀ q, va_A wc H.size q → A0 q) (hP1 : va_P D vwCl w1 H1) (hD1 : va_D (va_A wc H.size) w1) (hp : va_nd perm = true) (hq : perm.map (fun i => (isR.filterMap (fun i => wa[i]?) ++ w1)[i]?) = ws'.map some) : va_P D vwCl (ws' ++ wb) H1 ∧ va_D A0 (ws' ++ wb) := by
  have la : ∀ {k : Nat} {q : Nat × va_E}, wa[k]? = some q → (wa ++ wb)[k]? = some q := fun h => by
    rw [List.getElem?_append_left (List.getElem?_eq_some_iff.mp h).1]; exact h
  have lb : ∀ {k : Nat} {q : Nat × va_E}, wb[k]? = some q → (wa ++ wb)[wa.length + k]? = some q := fun h => by
    rw [List.getElem?_append_right (Nat.le_add_right _ _), Nat.add_sub_cancel_left]; exact h
  have hPa : va_P D vwCl wa H := fun k q h => hP k q (la h)
  have hDa : va_D A0 wa := ⟨fun i j x y hx hy e => hD.1 i j x y (la hx) (la hy) e, fun k q h => hD.2 k q (la h)⟩
  have hDb : va_D A0 wb := ⟨fun i j x y hx hy e => by have := hD.1 _ _ x y (lb hx) (lb hy) e; omega, fun k q h => hD.2 _ q (lb h)⟩
  obtain ⟨r1, r2⟩ := jJoin hPa hDa isC isR perm hC hR hn hdis hk hF hP1 hD1 hp hq
  have inC : ∀ (k : Nat) (q : Nat × va_E), wc[k]? = some q → ∃ i : Nat, wa[i]? = some q := by
    intro k q hq
    have h1 : (isC.map (fun i => wa[i]?))[k]? = some (some q) := by rw [hC, List.getElem?_map, hq]; rfl
    rw [List.getElem?_map] at h1
    cases hi : isC[k]? with
    | none => rw [hi] at h1; cases h1
    | some i => rw [hi] at h1; exact ⟨i, Option.some.inj h1⟩
  have apart : ∀ (k : Nat) (q : Nat × va_E), wb[k]? = some q → q.1 < H.size ∧ ¬ va_A wc H.size q.1 := by
    intro k q hq
    have hl := (hP _ q (lb hq)).lt
    refine ⟨hl, fun h => ?_⟩
    rcases h with ⟨k2, e, h⟩ | h
    · obtain ⟨i, hi⟩ := inC k2 (q.1, e) h
      have h3 := hD.1 i (wa.length + k) (q.1, e) q (la hi) (lb hq) rfl
      have h4 := (List.getElem?_eq_some_iff.mp hi).1
      omega
    · omega
  have src : ∀ (i : Nat) (x : Nat × va_E), ws'[i]? = some x → (∃ j : Nat, wa[j]? = some x) ∨ va_A wc H.size x.1 := by
    intro i x hx
    have h1 : (perm.map (fun i => (isR.filterMap (fun i => wa[i]?) ++ w1)[i]?))[i]? = some (some x) := by rw [hq, List.getElem?_map, hx]; rfl
    rw [List.getElem?_map] at h1
    cases hi : perm[i]? with
    | none => rw [hi] at h1; cases h1
    | some j =>
      rw [hi] at h1
      have h2 := List.mem_of_getElem? (Option.some.inj h1)
      rcases List.mem_append.mp h2 with h3 | h3
      · obtain ⟨z, -, hz⟩ := List.mem_filterMap.mp h3
        exact Or.inl ⟨z, hz⟩
      · obtain ⟨z, hz⟩ := List.mem_iff_getElem?.mp h3
        exact Or.inr (hD1.2 z x hz)
  refine ⟨va_P.app r1 (fun k q h => ?_), va_D.app r2 hDb (fun i j x y hx hy hxy => ?_)⟩
  · obtain ⟨g1, g2⟩ := apart k q h
    exact (hP _ q (lb h)).kept (hk q.1 g1 g2)
  · rcases src i x hx with ⟨z, hz⟩ | hz
    · have h3 := hD.1 z (wa.length + j) x y (la hz) (lb hy) hxy
      have h4 := (List.getElem?_eq_some_iff.mp hz).1
      omega
    · exact (apart j y hy).2 (by rw [← hxy]; exact hz)
theorem perm_of_idx {α : Type} {bs bs' : List α} (perm : List Nat) (hp : perm.isPerm (List.range bs.length) = true) (h : perm.map (fun i => bs[i]?) = bs'.map some) : bs'.Perm bs := by
  have h1 : (perm.map (fun i => bs[i]?)).Perm ((List.range bs.length).map (fun i => bs[i]?)) := (List.isPerm_iff.mp hp).map _
  have h2 : (List.range bs.length).map (fun i => bs[i]?) = bs.map some := by
    apply List.ext_getElem?
    intro i
    rw [List.getElem?_map, List.getElem?_map]
    by_cases q : i < bs.length
    · rw [List.getElem?_range q, List.getElem?_eq_getElem q]
      show some (bs[i]?) = some (some _)
      rw [List.getElem?_eq_getElem q]
    · rw [List.getElem?_eq_none (by simpa using q), List.getElem?_eq_none (by omega)]
      rfl
  rw [h, h2] at h1
  have h3 := h1.filterMap id
  have e : ∀ (l : List α), (l.map some).filterMap id = l := by
    intro l
    induction l with
    | nil => rfl
    | cons x l ih => show x :: (l.map some).filterMap id = _; rw [ih]
  rw [e, e] at h3
  exact h3
theorem va_P_perm {D : va_G} {ws ws' : va_W} {H : Heap} (hP : va_P D vwCl ws H) (h : ws'.Perm ws) : va_P D vwCl ws' H := by
  intro k q hq
  obtain ⟨j, hj⟩ := List.mem_iff_getElem?.mp (h.subset (List.mem_of_getElem? hq))
  exact hP j q hj
theorem va_D_perm {A : Nat → Prop} {ws ws' : va_W} (hD : va_D A ws) (h : ws'.Perm ws) : va_D A ws' := by
  have key : ∀ (w : va_W), (∀ (i j : Nat) (p q : Nat × va_E), w[i]? = some p → w[j]? = some q → p.1 = q.1 → i = j) ↔ w.Pairwise (fun a b => a.1 ≠ b.1) := by
    intro w
    constructor
    · intro hh
      refine List.pairwise_iff_getElem.mpr (fun i j hi hj hij e => ?_)
      have := hh i j _ _ (List.getElem?_eq_getElem hi) (List.getElem?_eq_getElem hj) e
      omega
    · intro hh i j p q hi hj e
      obtain ⟨a1, a2⟩ := List.getElem?_eq_some_iff.mp hi
      obtain ⟨b1, b2⟩ := List.getElem?_eq_some_iff.mp hj
      rcases Nat.lt_trichotomy i j with z | z | z
      · have := List.pairwise_iff_getElem.mp hh i j a1 b1 z
        rw [a2, b2] at this
        exact absurd e this
      · exact z
      · have := List.pairwise_iff_getElem.mp hh j i b1 a1 z
        rw [a2, b2] at this
        exact absurd e.symm this
  refine ⟨(key ws').mpr (h.symm.pairwise ((key ws).mp hD.1) (fun {x y} hxy => fun e => hxy e.symm)), fun k q hq => ?_⟩
  obtain ⟨j, hj⟩ := List.mem_iff_getElem?.mp (h.subset (List.mem_of_getElem? hq))
  exact hD.2 j q hj
theorem jBlk {A : Nat → Prop} {D : va_G} {bs bs' : List va_W} {H : Heap} (hP : va_P D vwCl bs.flatten H) (hD : va_D A bs.flatten) (perm : List Nat) (hp : perm.isPerm (List.range bs.length) = true) (h : perm.map (fun i => bs[i]?) = bs'.map some) : va_P D vwCl bs'.flatten H ∧ va_D A bs'.flatten :=
  ⟨va_P_perm hP (perm_of_idx perm hp h).flatten, va_D_perm hD (perm_of_idx perm hp h).flatten⟩
def F_X4_dropOldest (S : S_LS) (Z : Nat → S_State) : Option (S_LS × (Nat → S_State)) := (some ((s_LS_savedStates S ((g_LS_savedStates S) - (1 : Int32))), (mk6 (Z 1) (Z 2) (Z 3) (Z 4) (Z 5) (Z 0))))
def F_X4_saveState (S : S_LS) (Z : Nat → S_State) : Option (S_LS × (Nat → S_State)) := (if (g_LS_savedStates S) < (6 : Int32) then (if (g_LS_savedStates S) = (0 : Int32) then (ob1 (F_X2_copyFrom (Z 0) (g_LS_now S)) fun u3 => (some ((s_LS_savedStates S ((g_LS_savedStates S) + (1 : Int32))), (mk6 u3 (Z 1) (Z 2) (Z 3) (Z 4) (Z 5))))) else (if (g_LS_savedStates S) = (1 : Int32) then (ob1 (F_X2_copyFrom (Z 1) (g_LS_now S)) fun u6 => (some ((s_LS_savedStates S ((g_LS_savedStates S) + (1 : Int32))), (mk6 (Z 0) u6 (Z 2) (Z 3) (Z 4) (Z 5))))) else (if (g_LS_savedStates S) = (2 : Int32) then (ob1 (F_X2_copyFrom (Z 2) (g_LS_now S)) fun u9 => (some ((s_LS_savedStates S ((g_LS_savedStates S) + (1 : Int32))), (mk6 (Z 0) (Z 1) u9 (Z 3) (Z 4) (Z 5))))) else (if (g_LS_savedStates S) = (3 : Int32) then (ob1 (F_X2_copyFrom (Z 3) (g_LS_now S)) fun u12 => (some ((s_LS_savedStates S ((g_LS_savedStates S) + (1 : Int32))), (mk6 (Z 0) (Z 1) (Z 2) u12 (Z 4) (Z 5))))) else (if (g_LS_savedStates S) = (4 : Int32) then (ob1 (F_X2_copyFrom (Z 4) (g_LS_now S)) fun u15 => (some ((s_LS_savedStates S ((g_LS_savedStates S) + (1 : Int32))), (mk6 (Z 0) (Z 1) (Z 2) (Z 3) u15 (Z 5))))) else (if (g_LS_savedStates S) = (5 : Int32) then (ob1 (F_X2_copyFrom (Z 5) (g_LS_now S)) fun u18 => (some ((s_LS_savedStates S ((g_LS_savedStates S) + (1 : Int32))), (mk6 (Z 0) (Z 1) (Z 2) (Z 3) (Z 4) u18)))) else (og (decide ((g_LS_savedStates S) < 0 ∨ 6 ≤ (g_LS_savedStates S))) (some (S, Z))))))))) else (ob2 (F_X4_dropOldest S Z) fun u21 z22 => (if (g_LS_savedStates u21) = (0 : Int32) then (ob1 (F_X2_copyFrom (z22 0) (g_LS_now u21)) fun u25 => (some ((s_LS_savedStates u21 ((g_LS_savedStates u21) + (1 : Int32))), (mk6 u25 (z22 1) (z22 2) (z22 3) (z22 4) (z22 5))))) else (if (g_LS_savedStates u21) = (1 : Int32) then (ob1 (F_X2_copyFrom (z22 1) (g_LS_now u21)) fun u28 => (some ((s_LS_savedStates u21 ((g_LS_savedStates u21) + (1 : Int32))), (mk6 (z22 0) u28 (z22 2) (z22 3) (z22 4) (z22 5))))) else (if (g_LS_savedStates u21) = (2 : Int32) then (ob1 (F_X2_copyFrom (z22 2) (g_LS_now u21)) fun u31 => (some ((s_LS_savedStates u21 ((g_LS_savedStates u21) + (1 : Int32))), (mk6 (z22 0) (z22 1) u31 (z22 3) (z22 4) (z22 5))))) else (if (g_LS_savedStates u21) = (3 : Int32) then (ob1 (F_X2_copyFrom (z22 3) (g_LS_now u21)) fun u34 => (some ((s_LS_savedStates u21 ((g_LS_savedStates u21) + (1 : Int32))), (mk6 (z22 0) (z22 1) (z22 2) u34 (z22 4) (z22 5))))) else (if (g_LS_savedStates u21) = (4 : Int32) then (ob1 (F_X2_copyFrom (z22 4) (g_LS_now u21)) fun u37 => (some ((s_LS_savedStates u21 ((g_LS_savedStates u21) + (1 : Int32))), (mk6 (z22 0) (z22 1) (z22 2) (z22 3) u37 (z22 5))))) else (if (g_LS_savedStates u21) = (5 : Int32) then (ob1 (F_X2_copyFrom (z22 5) (g_LS_now u21)) fun u40 => (some ((s_LS_savedStates u21 ((g_LS_savedStates u21) + (1 : Int32))), (mk6 (z22 0) (z22 1) (z22 2) (z22 3) (z22 4) u40)))) else (og (decide ((g_LS_savedStates u21) < 0 ∨ 6 ≤ (g_LS_savedStates u21))) (some (u21, z22)))))))))))
def F_X4_learn (S : S_LS) (Z : Nat → S_State) (v1 : Int32) : Option (Sum (String × (S_LS × (Nat → S_State))) (Int32 × S_LS × (Nat → S_State))) := (ob1 (F_X4_isShape v1) fun r1 => (if (b2i r1) = 0 then (some (.inl ("java/lang/IndexOutOfBoundsException", (S, Z)))) else (ob2 (F_X1_read (g_LS_reader S) (g_LS_codes S) (g_LS_length S)) fun r4 u5 => (if (b2i r4) = 0 then (some (.inl ("java/lang/IllegalArgumentException", ((s_LS_reader S u5), Z)))) else (if v1 = 0 then (ob1 (F_X4_workOutLearned (s_LS_reader S u5) false) fun u9 => (ob1 (F_X4_isRefused u9 false) fun r11 => (if (b2i r11) = 0 then (ob2 (F_X4_saveState u9 Z) fun u14 z15 => (ob1 (F_X4_takeWork u14 false) fun u17 => (some (.inr ((g_Tree_size (g_State_first (g_LS_now u17))), (s_LS_length u17 (0 : Int32)), z15))))) else (some (.inl ("java/lang/IllegalStateException", (u9, Z))))))) else (ob1 (F_X4_workOutLearned (s_LS_reader S u5) true) fun u19 => (ob1 (F_X4_isRefused u19 true) fun r21 => (if (b2i r21) = 0 then (ob2 (F_X4_saveState u19 Z) fun u24 z25 => (ob1 (F_X4_takeWork u24 true) fun u27 => (some (.inr ((g_Tree_size (g_State_second (g_LS_now u27))), (s_LS_length u27 (0 : Int32)), z25))))) else (some (.inl ("java/lang/IllegalStateException", (u19, Z))))))))))))
def F_X4_join (S : S_LS) (Z : Nat → S_State) (v1 : Int32) : Option (Sum (String × (S_LS × (Nat → S_State))) (Int32 × S_LS × (Nat → S_State))) := (ob1 (F_X4_isShape v1) fun r1 => (if (b2i r1) = 0 then (some (.inl ("java/lang/IndexOutOfBoundsException", (S, Z)))) else (if v1 = 0 then (if ((1 : Int32) - v1) = 0 then none else (ob1 (F_X4_workOutJoined S false) fun u6 => (if (g_Tree_size (g_LS_work u6)) ≤ (30 : Int32) then (ob2 (F_X4_saveState u6 Z) fun u9 z10 => (ob1 (F_X4_takeWork u9 false) fun u12 => (some (.inr ((g_Tree_size (g_State_first (g_LS_now u12))), u12, z10))))) else (some (.inl ("java/lang/IllegalStateException", (u6, Z))))))) else (if ((1 : Int32) - v1) = 0 then (ob1 (F_X4_workOutJoined S true) fun u15 => (if (g_Tree_size (g_LS_work u15)) ≤ (30 : Int32) then (ob2 (F_X4_saveState u15 Z) fun u18 z19 => (ob1 (F_X4_takeWork u18 true) fun u21 => (some (.inr ((g_Tree_size (g_State_second (g_LS_now u21))), u21, z19))))) else (some (.inl ("java/lang/IllegalStateException", (u15, Z)))))) else none))))
def F_X4_forget (S : S_LS) (Z : Nat → S_State) (v1 : Int32) : Option (Sum (String × (S_LS × (Nat → S_State))) (Int32 × S_LS × (Nat → S_State))) := (ob1 (F_X4_isShape v1) fun r1 => (if (b2i r1) = 0 then (some (.inl ("java/lang/IndexOutOfBoundsException", (S, Z)))) else (ob2 (F_X4_saveState S Z) fun u4 z5 => (if v1 = 0 then (ob1 (F_X3_clear (g_State_first (g_LS_now u4))) fun u8 => (some (.inr ((g_Tree_size (g_State_first (g_LS_now u4))), (s_LS_now u4 (s_State_first (g_LS_now u4) u8)), z5)))) else (ob1 (F_X3_clear (g_State_second (g_LS_now u4))) fun u10 => (some (.inr ((g_Tree_size (g_State_second (g_LS_now u4))), (s_LS_now u4 (s_State_second (g_LS_now u4) u10)), z5))))))))
def F_X4_swap (S : S_LS) (Z : Nat → S_State) : Option (Int32 × S_LS × (Nat → S_State)) := (ob2 (F_X4_saveState S Z) fun u1 z2 => (ob1 (F_X3_copyFrom (g_LS_work u1) (g_State_first (g_LS_now u1))) fun u4 => (ob1 (F_X3_copyFrom (g_State_first (g_LS_now u1)) (g_State_second (g_LS_now u1))) fun u6 => (ob1 (F_X3_copyFrom (g_State_second (g_LS_now u1)) u4) fun u8 => (some ((g_Tree_size u6), (s_LS_work (s_LS_now u1 (s_State_second (s_State_first (g_LS_now u1) u6) u8)) u4), z2))))))
def F_X4_set (S : S_LS) (Z : Nat → S_State) (v1 : Int32) : Option (Sum (String × (S_LS × (Nat → S_State))) (Int32 × S_LS × (Nat → S_State))) := (if v1 < 0 then (some (.inl ("java/lang/IllegalArgumentException", (S, Z)))) else (if v1 ≤ (1 : Int32) then (ob2 (F_X4_saveState S Z) fun u3 z4 => (some (.inr ((g_State_setting (g_LS_now u3)), (s_LS_now u3 (s_State_setting (g_LS_now u3) v1)), z4)))) else (some (.inl ("java/lang/IllegalArgumentException", (S, Z))))))
def F_X4_undo (S : S_LS) (Z : Nat → S_State) : Option (Sum (String × (S_LS)) (Int32 × S_LS)) := (if ((g_LS_savedStates S) - (1 : Int32)) = (0 : Int32) then (if (g_LS_savedStates S) ≤ 0 then (some (.inl ("java/lang/IllegalStateException", S))) else (ob1 (F_X2_copyFrom (g_LS_now S) (Z 0)) fun u3 => (some (.inr (((g_LS_savedStates S) - (1 : Int32)), (s_LS_savedStates (s_LS_now S u3) ((g_LS_savedStates S) - (1 : Int32)))))))) else (if ((g_LS_savedStates S) - (1 : Int32)) = (1 : Int32) then (if (g_LS_savedStates S) ≤ 0 then (some (.inl ("java/lang/IllegalStateException", S))) else (ob1 (F_X2_copyFrom (g_LS_now S) (Z 1)) fun u7 => (some (.inr (((g_LS_savedStates S) - (1 : Int32)), (s_LS_savedStates (s_LS_now S u7) ((g_LS_savedStates S) - (1 : Int32)))))))) else (if ((g_LS_savedStates S) - (1 : Int32)) = (2 : Int32) then (if (g_LS_savedStates S) ≤ 0 then (some (.inl ("java/lang/IllegalStateException", S))) else (ob1 (F_X2_copyFrom (g_LS_now S) (Z 2)) fun u11 => (some (.inr (((g_LS_savedStates S) - (1 : Int32)), (s_LS_savedStates (s_LS_now S u11) ((g_LS_savedStates S) - (1 : Int32)))))))) else (if ((g_LS_savedStates S) - (1 : Int32)) = (3 : Int32) then (if (g_LS_savedStates S) ≤ 0 then (some (.inl ("java/lang/IllegalStateException", S))) else (ob1 (F_X2_copyFrom (g_LS_now S) (Z 3)) fun u15 => (some (.inr (((g_LS_savedStates S) - (1 : Int32)), (s_LS_savedStates (s_LS_now S u15) ((g_LS_savedStates S) - (1 : Int32)))))))) else (if ((g_LS_savedStates S) - (1 : Int32)) = (4 : Int32) then (if (g_LS_savedStates S) ≤ 0 then (some (.inl ("java/lang/IllegalStateException", S))) else (ob1 (F_X2_copyFrom (g_LS_now S) (Z 4)) fun u19 => (some (.inr (((g_LS_savedStates S) - (1 : Int32)), (s_LS_savedStates (s_LS_now S u19) ((g_LS_savedStates S) - (1 : Int32)))))))) else (if ((g_LS_savedStates S) - (1 : Int32)) = (5 : Int32) then (if (g_LS_savedStates S) ≤ 0 then (some (.inl ("java/lang/IllegalStateException", S))) else (ob1 (F_X2_copyFrom (g_LS_now S) (Z 5)) fun u23 => (some (.inr (((g_LS_savedStates S) - (1 : Int32)), (s_LS_savedStates (s_LS_now S u23) ((g_LS_savedStates S) - (1 : Int32)))))))) else (og (decide (((g_LS_savedStates S) - (1 : Int32)) < 0 ∨ 6 ≤ ((g_LS_savedStates S) - (1 : Int32)))) (if (g_LS_savedStates S) ≤ 0 then (some (.inl ("java/lang/IllegalStateException", S))) else (some (.inl ("java/lang/IllegalStateException", S)))))))))))
set_option maxHeartbeats 4000000 in
set_option maxRecDepth 100000 in
theorem c_X4_savedAt_0 (l : Launch) (dC : Nat → ClassId) (dI : Nat → Nat → Nat) (cI cS : ClassId) (a : Nat → Nat) (q : Nat → Nat → Nat) (sz : Nat) (S : S_LS) (Z : Nat → S_State) (v1 : Int32) (hv1 : v1 = (0 : Int32)) : Met l yX4_savedAt wsX4_savedAt ({ frames := 0, cells := 0, slots := 0, locals := 0 } : Room) (va_Pc [.ref (a 0), .int v1] (jPre (dC, dI) [(cI, .int), (cS, .object "LearnedShapes$State")] sz (W_Full cI cS a q S Z))) (va_Qq (fun (r : Option Nat) (_ : Unit) => some (q 0 0) = r) (fun _ : Unit => jB (dC, dI) [(cI, .int), (cS, .object "LearnedShapes$State")] (va_A (W_Full cI cS a q S Z) sz) (W_Full cI cS a q S Z)) (va_A (W_Full cI cS a q S Z) sz)) 0 0 (va_A (W_Full cI cS a q S Z) sz) := by
  refine Met.ofW (cc := cX4_savedAt) (maxL := 2) (ret := (some (.object "LearnedShapes$State"))) (by decide) rfl ?_
  intro p e s m args below meth c s₁ B hml hv
  obtain ⟨rfl, hsz, hP, hK, hD0, hN⟩ := hv
  have hx := B.exec
  have hb := B.bytes
  have hr := B.returns
  have hts := atoms_spec (ws := wsX4_savedAt) B.pre
  have hown : s.vm.findClass RX4 = some m.cls := findClass_of_methodNamed B.named
  have hlocks := B.notSynchronized
  have hinX4 : ∀ w ∈ u_ws RX4 TX4 8, w ∈ wsX4_savedAt := by decide +kernel
  subst hsz
  have hD := hD0.self (sz := s.heap.size)
  generalize hAe : (va_A (W_Full cI cS a q S Z) s.heap.size) = A at hD ⊢
  have hS : va_S A s.heap s.heap [] := va_S.rf
  have hl := lv_entry ([.ref (a 0), .int v1]) (n := 2) (Nat.le_of_ble_eq_true rfl)
  rw [lg_entry_eq]
  generalize (lg_sl ([.ref (a 0), .int v1]) ++ List.replicate (2 - (lg_sl ([.ref (a 0), .int v1])).length) Slot.unset).toArray = ls at hl ⊢
  have hl : lv_has ls 2 [(0, .ref (a 0)), (1, .int v1)] := hl
  subst hv1
  refine lv_iload_n hx hb dX4_savedAt_0 rfl (lv_at hl 1 rfl) ?_
  refine lv_if_lt (tgt := 22) hx hb dX4_savedAt_1 (by decide) (fun c1 => absurd c1 (by decide)) (fun c1 => ?_)
  refine lv_iload_n hx hb dX4_savedAt_4 rfl (lv_at hl 1 rfl) ?_
  refine lv_aload_n hx hb dX4_savedAt_5 rfl (lv_at hl 0 rfl) ?_
  refine va_get (D := (dC, dI)) (ci := 4) (v := .ref (a 13)) (C := RX4) (T := TX4) (N := 8) hx hb hts hinX4 hown hK hP 0 rfl rfl 4 (by decide) (hts (Cond.fieldLink RX4 27 "LearnedShapes" "saved" "[LLearnedShapes$State;") (List.mem_of_getElem? (i := 1) rfl)) (fun _ h9 => h9) rfl dX4_savedAt_6 ?_
  refine va_alen (v := (6 : Int32)) hx hb hK hP 13 1 rfl rfl rfl dX4_savedAt_9 ?_
  refine lv_icmp_ge (tgt := 22) hx hb dX4_savedAt_10 (by decide) (fun c2 => absurd c2 (by decide)) (fun c2 => ?_)
  refine lv_aload_n hx hb dX4_savedAt_13 rfl (lv_at hl 0 rfl) ?_
  refine va_get (D := (dC, dI)) (ci := 4) (v := .ref (a 13)) (C := RX4) (T := TX4) (N := 8) hx hb hts hinX4 hown hK hP 0 rfl rfl 4 (by decide) (hts (Cond.fieldLink RX4 27 "LearnedShapes" "saved" "[LLearnedShapes$State;") (List.mem_of_getElem? (i := 1) rfl)) (fun _ h9 => h9) rfl dX4_savedAt_14 ?_
  refine lv_iload_n hx hb dX4_savedAt_17 rfl (lv_at hl 1 rfl) ?_
  refine va_aldq (f := rl [q 0 0, q 1 0, q 2 0, q 3 0, q 4 0, q 5 0]) hx hb hK hP 13 1 rfl rfl (inb_in (by decide)) dX4_savedAt_18 ?_
  refine W.eq (g2 := F0 m 19 ls [.ref (q 0 0)]) rfl ?_
  refine lv_goto (tgt := 23) hx hb dX4_savedAt_19 (by decide) ?_
  exact W.aret (v := .ref (q 0 0)) hx hb hr (Or.inl ⟨_, rfl⟩) (Or.inr ⟨_, rfl⟩) (fun t ht hW => ⟨⟨some (q 0 0), (), rfl, rfl, by rw [ht]; exact hP, va_K.moved hW.alike hK, hD⟩, hS.F ht⟩) hS.2.2 dX4_savedAt_23
set_option maxHeartbeats 4000000 in
set_option maxRecDepth 100000 in
theorem c_X4_savedAt_1 (l : Launch) (dC : Nat → ClassId) (dI : Nat → Nat → Nat) (cI cS : ClassId) (a : Nat → Nat) (q : Nat → Nat → Nat) (sz : Nat) (S : S_LS) (Z : Nat → S_State) (v1 : Int32) (hv1 : v1 = (1 : Int32)) : Met l yX4_savedAt wsX4_savedAt ({ frames := 0, cells := 0, slots := 0, locals := 0 } : Room) (va_Pc [.ref (a 0), .int v1] (jPre (dC, dI) [(cI, .int), (cS, .object "LearnedShapes$State")] sz (W_Full cI cS a q S Z))) (va_Qq (fun (r : Option Nat) (_ : Unit) => some (q 1 0) = r) (fun _ : Unit => jB (dC, dI) [(cI, .int), (cS, .object "LearnedShapes$State")] (va_A (W_Full cI cS a q S Z) sz) (W_Full cI cS a q S Z)) (va_A (W_Full cI cS a q S Z) sz)) 0 0 (va_A (W_Full cI cS a q S Z) sz) := by
  refine Met.ofW (cc := cX4_savedAt) (maxL := 2) (ret := (some (.object "LearnedShapes$State"))) (by decide) rfl ?_
  intro p e s m args below meth c s₁ B hml hv
  obtain ⟨rfl, hsz, hP, hK, hD0, hN⟩ := hv
  have hx := B.exec
  have hb := B.bytes
  have hr := B.returns
  have hts := atoms_spec (ws := wsX4_savedAt) B.pre
  have hown : s.vm.findClass RX4 = some m.cls := findClass_of_methodNamed B.named
  have hlocks := B.notSynchronized
  have hinX4 : ∀ w ∈ u_ws RX4 TX4 8, w ∈ wsX4_savedAt := by decide +kernel
  subst hsz
  have hD := hD0.self (sz := s.heap.size)
  generalize hAe : (va_A (W_Full cI cS a q S Z) s.heap.size) = A at hD ⊢
  have hS : va_S A s.heap s.heap [] := va_S.rf
  have hl := lv_entry ([.ref (a 0), .int v1]) (n := 2) (Nat.le_of_ble_eq_true rfl)
  rw [lg_entry_eq]
  generalize (lg_sl ([.ref (a 0), .int v1]) ++ List.replicate (2 - (lg_sl ([.ref (a 0), .int v1])).length) Slot.unset).toArray = ls at hl ⊢
  have hl : lv_has ls 2 [(0, .ref (a 0)), (1, .int v1)] := hl
  subst hv1
  refine lv_iload_n hx hb dX4_savedAt_0 rfl (lv_at hl 1 rfl) ?_
  refine lv_if_lt (tgt := 22) hx hb dX4_savedAt_1 (by decide) (fun c1 => absurd c1 (by decide)) (fun c1 => ?_)
  refine lv_iload_n hx hb dX4_savedAt_4 rfl (lv_at hl 1 rfl) ?_
  refine lv_aload_n hx hb dX4_savedAt_5 rfl (lv_at hl 0 rfl) ?_
  refine va_get (D := (dC, dI)) (ci := 4) (v := .ref (a 13)) (C := RX4) (T := TX4) (N := 8) hx hb hts hinX4 hown hK hP 0 rfl rfl 4 (by decide) (hts (Cond.fieldLink RX4 27 "LearnedShapes" "saved" "[LLearnedShapes$State;") (List.mem_of_getElem? (i := 1) rfl)) (fun _ h9 => h9) rfl dX4_savedAt_6 ?_
  refine va_alen (v := (6 : Int32)) hx hb hK hP 13 1 rfl rfl rfl dX4_savedAt_9 ?_
  refine lv_icmp_ge (tgt := 22) hx hb dX4_savedAt_10 (by decide) (fun c2 => absurd c2 (by decide)) (fun c2 => ?_)
  refine lv_aload_n hx hb dX4_savedAt_13 rfl (lv_at hl 0 rfl) ?_
  refine va_get (D := (dC, dI)) (ci := 4) (v := .ref (a 13)) (C := RX4) (T := TX4) (N := 8) hx hb hts hinX4 hown hK hP 0 rfl rfl 4 (by decide) (hts (Cond.fieldLink RX4 27 "LearnedShapes" "saved" "[LLearnedShapes$State;") (List.mem_of_getElem? (i := 1) rfl)) (fun _ h9 => h9) rfl dX4_savedAt_14 ?_
  refine lv_iload_n hx hb dX4_savedAt_17 rfl (lv_at hl 1 rfl) ?_
  refine va_aldq (f := rl [q 0 0, q 1 0, q 2 0, q 3 0, q 4 0, q 5 0]) hx hb hK hP 13 1 rfl rfl (inb_in (by decide)) dX4_savedAt_18 ?_
  refine W.eq (g2 := F0 m 19 ls [.ref (q 1 0)]) rfl ?_
  refine lv_goto (tgt := 23) hx hb dX4_savedAt_19 (by decide) ?_
  exact W.aret (v := .ref (q 1 0)) hx hb hr (Or.inl ⟨_, rfl⟩) (Or.inr ⟨_, rfl⟩) (fun t ht hW => ⟨⟨some (q 1 0), (), rfl, rfl, by rw [ht]; exact hP, va_K.moved hW.alike hK, hD⟩, hS.F ht⟩) hS.2.2 dX4_savedAt_23
set_option maxHeartbeats 4000000 in
set_option maxRecDepth 100000 in
theorem c_X4_savedAt_2 (l : Launch) (dC : Nat → ClassId) (dI : Nat → Nat → Nat) (cI cS : ClassId) (a : Nat → Nat) (q : Nat → Nat → Nat) (sz : Nat) (S : S_LS) (Z : Nat → S_State) (v1 : Int32) (hv1 : v1 = (2 : Int32)) : Met l yX4_savedAt wsX4_savedAt ({ frames := 0, cells := 0, slots := 0, locals := 0 } : Room) (va_Pc [.ref (a 0), .int v1] (jPre (dC, dI) [(cI, .int), (cS, .object "LearnedShapes$State")] sz (W_Full cI cS a q S Z))) (va_Qq (fun (r : Option Nat) (_ : Unit) => some (q 2 0) = r) (fun _ : Unit => jB (dC, dI) [(cI, .int), (cS, .object "LearnedShapes$State")] (va_A (W_Full cI cS a q S Z) sz) (W_Full cI cS a q S Z)) (va_A (W_Full cI cS a q S Z) sz)) 0 0 (va_A (W_Full cI cS a q S Z) sz) := by
  refine Met.ofW (cc := cX4_savedAt) (maxL := 2) (ret := (some (.object "LearnedShapes$State"))) (by decide) rfl ?_
  intro p e s m args below meth c s₁ B hml hv
  obtain ⟨rfl, hsz, hP, hK, hD0, hN⟩ := hv
  have hx := B.exec
  have hb := B.bytes
  have hr := B.returns
  have hts := atoms_spec (ws := wsX4_savedAt) B.pre
  have hown : s.vm.findClass RX4 = some m.cls := findClass_of_methodNamed B.named
  have hlocks := B.notSynchronized
  have hinX4 : ∀ w ∈ u_ws RX4 TX4 8, w ∈ wsX4_savedAt := by decide +kernel
  subst hsz
  have hD := hD0.self (sz := s.heap.size)
  generalize hAe : (va_A (W_Full cI cS a q S Z) s.heap.size) = A at hD ⊢
  have hS : va_S A s.heap s.heap [] := va_S.rf
  have hl := lv_entry ([.ref (a 0), .int v1]) (n := 2) (Nat.le_of_ble_eq_true rfl)
  rw [lg_entry_eq]
  generalize (lg_sl ([.ref (a 0), .int v1]) ++ List.replicate (2 - (lg_sl ([.ref (a 0), .int v1])).length) Slot.unset).toArray = ls at hl ⊢
  have hl : lv_has ls 2 [(0, .ref (a 0)), (1, .int v1)] := hl
  subst hv1
  refine lv_iload_n hx hb dX4_savedAt_0 rfl (lv_at hl 1 rfl) ?_
  refine lv_if_lt (tgt := 22) hx hb dX4_savedAt_1 (by decide) (fun c1 => absurd c1 (by decide)) (fun c1 => ?_)
  refine lv_iload_n hx hb dX4_savedAt_4 rfl (lv_at hl 1 rfl) ?_
  refine lv_aload_n hx hb dX4_savedAt_5 rfl (lv_at hl 0 rfl) ?_
  refine va_get (D := (dC, dI)) (ci := 4) (v := .ref (a 13)) (C := RX4) (T := TX4) (N := 8) hx hb hts hinX4 hown hK hP 0 rfl rfl 4 (by decide) (hts (Cond.fieldLink RX4 27 "LearnedShapes" "saved" "[LLearnedShapes$State;") (List.mem_of_getElem? (i := 1) rfl)) (fun _ h9 => h9) rfl dX4_savedAt_6 ?_
  refine va_alen (v := (6 : Int32)) hx hb hK hP 13 1 rfl rfl rfl dX4_savedAt_9 ?_
  refine lv_icmp_ge (tgt := 22) hx hb dX4_savedAt_10 (by decide) (fun c2 => absurd c2 (by decide)) (fun c2 => ?_)
  refine lv_aload_n hx hb dX4_savedAt_13 rfl (lv_at hl 0 rfl) ?_
  refine va_get (D := (dC, dI)) (ci := 4) (v := .ref (a 13)) (C := RX4) (T := TX4) (N := 8) hx hb hts hinX4 hown hK hP 0 rfl rfl 4 (by decide) (hts (Cond.fieldLink RX4 27 "LearnedShapes" "saved" "[LLearnedShapes$State;") (List.mem_of_getElem? (i := 1) rfl)) (fun _ h9 => h9) rfl dX4_savedAt_14 ?_
  refine lv_iload_n hx hb dX4_savedAt_17 rfl (lv_at hl 1 rfl) ?_
  refine va_aldq (f := rl [q 0 0, q 1 0, q 2 0, q 3 0, q 4 0, q 5 0]) hx hb hK hP 13 1 rfl rfl (inb_in (by decide)) dX4_savedAt_18 ?_
  refine W.eq (g2 := F0 m 19 ls [.ref (q 2 0)]) rfl ?_
  refine lv_goto (tgt := 23) hx hb dX4_savedAt_19 (by decide) ?_
  exact W.aret (v := .ref (q 2 0)) hx hb hr (Or.inl ⟨_, rfl⟩) (Or.inr ⟨_, rfl⟩) (fun t ht hW => ⟨⟨some (q 2 0), (), rfl, rfl, by rw [ht]; exact hP, va_K.moved hW.alike hK, hD⟩, hS.F ht⟩) hS.2.2 dX4_savedAt_23
set_option maxHeartbeats 4000000 in
set_option maxRecDepth 100000 in
theorem c_X4_savedAt_3 (l : Launch) (dC : Nat → ClassId) (dI : Nat → Nat → Nat) (cI cS : ClassId) (a : Nat → Nat) (q : Nat → Nat → Nat) (sz : Nat) (S : S_LS) (Z : Nat → S_State) (v1 : Int32) (hv1 : v1 = (3 : Int32)) : Met l yX4_savedAt wsX4_savedAt ({ frames := 0, cells := 0, slots := 0, locals := 0 } : Room) (va_Pc [.ref (a 0), .int v1] (jPre (dC, dI) [(cI, .int), (cS, .object "LearnedShapes$State")] sz (W_Full cI cS a q S Z))) (va_Qq (fun (r : Option Nat) (_ : Unit) => some (q 3 0) = r) (fun _ : Unit => jB (dC, dI) [(cI, .int), (cS, .object "LearnedShapes$State")] (va_A (W_Full cI cS a q S Z) sz) (W_Full cI cS a q S Z)) (va_A (W_Full cI cS a q S Z) sz)) 0 0 (va_A (W_Full cI cS a q S Z) sz) := by
  refine Met.ofW (cc := cX4_savedAt) (maxL := 2) (ret := (some (.object "LearnedShapes$State"))) (by decide) rfl ?_
  intro p e s m args below meth c s₁ B hml hv
  obtain ⟨rfl, hsz, hP, hK, hD0, hN⟩ := hv
  have hx := B.exec
  have hb := B.bytes
  have hr := B.returns
  have hts := atoms_spec (ws := wsX4_savedAt) B.pre
  have hown : s.vm.findClass RX4 = some m.cls := findClass_of_methodNamed B.named
  have hlocks := B.notSynchronized
  have hinX4 : ∀ w ∈ u_ws RX4 TX4 8, w ∈ wsX4_savedAt := by decide +kernel
  subst hsz
  have hD := hD0.self (sz := s.heap.size)
  generalize hAe : (va_A (W_Full cI cS a q S Z) s.heap.size) = A at hD ⊢
  have hS : va_S A s.heap s.heap [] := va_S.rf
  have hl := lv_entry ([.ref (a 0), .int v1]) (n := 2) (Nat.le_of_ble_eq_true rfl)
  rw [lg_entry_eq]
  generalize (lg_sl ([.ref (a 0), .int v1]) ++ List.replicate (2 - (lg_sl ([.ref (a 0), .int v1])).length) Slot.unset).toArray = ls at hl ⊢
  have hl : lv_has ls 2 [(0, .ref (a 0)), (1, .int v1)] := hl
  subst hv1
  refine lv_iload_n hx hb dX4_savedAt_0 rfl (lv_at hl 1 rfl) ?_
  refine lv_if_lt (tgt := 22) hx hb dX4_savedAt_1 (by decide) (fun c1 => absurd c1 (by decide)) (fun c1 => ?_)
  refine lv_iload_n hx hb dX4_savedAt_4 rfl (lv_at hl 1 rfl) ?_
  refine lv_aload_n hx hb dX4_savedAt_5 rfl (lv_at hl 0 rfl) ?_
  refine va_get (D := (dC, dI)) (ci := 4) (v := .ref (a 13)) (C := RX4) (T := TX4) (N := 8) hx hb hts hinX4 hown hK hP 0 rfl rfl 4 (by decide) (hts (Cond.fieldLink RX4 27 "LearnedShapes" "saved" "[LLearnedShapes$State;") (List.mem_of_getElem? (i := 1) rfl)) (fun _ h9 => h9) rfl dX4_savedAt_6 ?_
  refine va_alen (v := (6 : Int32)) hx hb hK hP 13 1 rfl rfl rfl dX4_savedAt_9 ?_
  refine lv_icmp_ge (tgt := 22) hx hb dX4_savedAt_10 (by decide) (fun c2 => absurd c2 (by decide)) (fun c2 => ?_)
  refine lv_aload_n hx hb dX4_savedAt_13 rfl (lv_at hl 0 rfl) ?_
  refine va_get (D := (dC, dI)) (ci := 4) (v := .ref (a 13)) (C := RX4) (T := TX4) (N := 8) hx hb hts hinX4 hown hK hP 0 rfl rfl 4 (by decide) (hts (Cond.fieldLink RX4 27 "LearnedShapes" "saved" "[LLearnedShapes$State;") (List.mem_of_getElem? (i := 1) rfl)) (fun _ h9 => h9) rfl dX4_savedAt_14 ?_
  refine lv_iload_n hx hb dX4_savedAt_17 rfl (lv_at hl 1 rfl) ?_
  refine va_aldq (f := rl [q 0 0, q 1 0, q 2 0, q 3 0, q 4 0, q 5 0]) hx hb hK hP 13 1 rfl rfl (inb_in (by decide)) dX4_savedAt_18 ?_
  refine W.eq (g2 := F0 m 19 ls [.ref (q 3 0)]) rfl ?_
  refine lv_goto (tgt := 23) hx hb dX4_savedAt_19 (by decide) ?_
  exact W.aret (v := .ref (q 3 0)) hx hb hr (Or.inl ⟨_, rfl⟩) (Or.inr ⟨_, rfl⟩) (fun t ht hW => ⟨⟨some (q 3 0), (), rfl, rfl, by rw [ht]; exact hP, va_K.moved hW.alike hK, hD⟩, hS.F ht⟩) hS.2.2 dX4_savedAt_23
set_option maxHeartbeats 4000000 in
set_option maxRecDepth 100000 in
theorem c_X4_savedAt_4 (l : Launch) (dC : Nat → ClassId) (dI : Nat → Nat → Nat) (cI cS : ClassId) (a : Nat → Nat) (q : Nat → Nat → Nat) (sz : Nat) (S : S_LS) (Z : Nat → S_State) (v1 : Int32) (hv1 : v1 = (4 : Int32)) : Met l yX4_savedAt wsX4_savedAt ({ frames := 0, cells := 0, slots := 0, locals := 0 } : Room) (va_Pc [.ref (a 0), .int v1] (jPre (dC, dI) [(cI, .int), (cS, .object "LearnedShapes$State")] sz (W_Full cI cS a q S Z))) (va_Qq (fun (r : Option Nat) (_ : Unit) => some (q 4 0) = r) (fun _ : Unit => jB (dC, dI) [(cI, .int), (cS, .object "LearnedShapes$State")] (va_A (W_Full cI cS a q S Z) sz) (W_Full cI cS a q S Z)) (va_A (W_Full cI cS a q S Z) sz)) 0 0 (va_A (W_Full cI cS a q S Z) sz) := by
  refine Met.ofW (cc := cX4_savedAt) (maxL := 2) (ret := (some (.object "LearnedShapes$State"))) (by decide) rfl ?_
  intro p e s m args below meth c s₁ B hml hv
  obtain ⟨rfl, hsz, hP, hK, hD0, hN⟩ := hv
  have hx := B.exec
  have hb := B.bytes
  have hr := B.returns
  have hts := atoms_spec (ws := wsX4_savedAt) B.pre
  have hown : s.vm.findClass RX4 = some m.cls := findClass_of_methodNamed B.named
  have hlocks := B.notSynchronized
  have hinX4 : ∀ w ∈ u_ws RX4 TX4 8, w ∈ wsX4_savedAt := by decide +kernel
  subst hsz
  have hD := hD0.self (sz := s.heap.size)
  generalize hAe : (va_A (W_Full cI cS a q S Z) s.heap.size) = A at hD ⊢
  have hS : va_S A s.heap s.heap [] := va_S.rf
  have hl := lv_entry ([.ref (a 0), .int v1]) (n := 2) (Nat.le_of_ble_eq_true rfl)
  rw [lg_entry_eq]
  generalize (lg_sl ([.ref (a 0), .int v1]) ++ List.replicate (2 - (lg_sl ([.ref (a 0), .int v1])).length) Slot.unset).toArray = ls at hl ⊢
  have hl : lv_has ls 2 [(0, .ref (a 0)), (1, .int v1)] := hl
  subst hv1
  refine lv_iload_n hx hb dX4_savedAt_0 rfl (lv_at hl 1 rfl) ?_
  refine lv_if_lt (tgt := 22) hx hb dX4_savedAt_1 (by decide) (fun c1 => absurd c1 (by decide)) (fun c1 => ?_)
  refine lv_iload_n hx hb dX4_savedAt_4 rfl (lv_at hl 1 rfl) ?_
  refine lv_aload_n hx hb dX4_savedAt_5 rfl (lv_at hl 0 rfl) ?_
  refine va_get (D := (dC, dI)) (ci := 4) (v := .ref (a 13)) (C := RX4) (T := TX4) (N := 8) hx hb hts hinX4 hown hK hP 0 rfl rfl 4 (by decide) (hts (Cond.fieldLink RX4 27 "LearnedShapes" "saved" "[LLearnedShapes$State;") (List.mem_of_getElem? (i := 1) rfl)) (fun _ h9 => h9) rfl dX4_savedAt_6 ?_
  refine va_alen (v := (6 : Int32)) hx hb hK hP 13 1 rfl rfl rfl dX4_savedAt_9 ?_
  refine lv_icmp_ge (tgt := 22) hx hb dX4_savedAt_10 (by decide) (fun c2 => absurd c2 (by decide)) (fun c2 => ?_)
  refine lv_aload_n hx hb dX4_savedAt_13 rfl (lv_at hl 0 rfl) ?_
  refine va_get (D := (dC, dI)) (ci := 4) (v := .ref (a 13)) (C := RX4) (T := TX4) (N := 8) hx hb hts hinX4 hown hK hP 0 rfl rfl 4 (by decide) (hts (Cond.fieldLink RX4 27 "LearnedShapes" "saved" "[LLearnedShapes$State;") (List.mem_of_getElem? (i := 1) rfl)) (fun _ h9 => h9) rfl dX4_savedAt_14 ?_
  refine lv_iload_n hx hb dX4_savedAt_17 rfl (lv_at hl 1 rfl) ?_
  refine va_aldq (f := rl [q 0 0, q 1 0, q 2 0, q 3 0, q 4 0, q 5 0]) hx hb hK hP 13 1 rfl rfl (inb_in (by decide)) dX4_savedAt_18 ?_
  refine W.eq (g2 := F0 m 19 ls [.ref (q 4 0)]) rfl ?_
  refine lv_goto (tgt := 23) hx hb dX4_savedAt_19 (by decide) ?_
  exact W.aret (v := .ref (q 4 0)) hx hb hr (Or.inl ⟨_, rfl⟩) (Or.inr ⟨_, rfl⟩) (fun t ht hW => ⟨⟨some (q 4 0), (), rfl, rfl, by rw [ht]; exact hP, va_K.moved hW.alike hK, hD⟩, hS.F ht⟩) hS.2.2 dX4_savedAt_23
set_option maxHeartbeats 4000000 in
set_option maxRecDepth 100000 in
theorem c_X4_savedAt_5 (l : Launch) (dC : Nat → ClassId) (dI : Nat → Nat → Nat) (cI cS : ClassId) (a : Nat → Nat) (q : Nat → Nat → Nat) (sz : Nat) (S : S_LS) (Z : Nat → S_State) (v1 : Int32) (hv1 : v1 = (5 : Int32)) : Met l yX4_savedAt wsX4_savedAt ({ frames := 0, cells := 0, slots := 0, locals := 0 } : Room) (va_Pc [.ref (a 0), .int v1] (jPre (dC, dI) [(cI, .int), (cS, .object "LearnedShapes$State")] sz (W_Full cI cS a q S Z))) (va_Qq (fun (r : Option Nat) (_ : Unit) => some (q 5 0) = r) (fun _ : Unit => jB (dC, dI) [(cI, .int), (cS, .object "LearnedShapes$State")] (va_A (W_Full cI cS a q S Z) sz) (W_Full cI cS a q S Z)) (va_A (W_Full cI cS a q S Z) sz)) 0 0 (va_A (W_Full cI cS a q S Z) sz) := by
  refine Met.ofW (cc := cX4_savedAt) (maxL := 2) (ret := (some (.object "LearnedShapes$State"))) (by decide) rfl ?_
  intro p e s m args below meth c s₁ B hml hv
  obtain ⟨rfl, hsz, hP, hK, hD0, hN⟩ := hv
  have hx := B.exec
  have hb := B.bytes
  have hr := B.returns
  have hts := atoms_spec (ws := wsX4_savedAt) B.pre
  have hown : s.vm.findClass RX4 = some m.cls := findClass_of_methodNamed B.named
  have hlocks := B.notSynchronized
  have hinX4 : ∀ w ∈ u_ws RX4 TX4 8, w ∈ wsX4_savedAt := by decide +kernel
  subst hsz
  have hD := hD0.self (sz := s.heap.size)
  generalize hAe : (va_A (W_Full cI cS a q S Z) s.heap.size) = A at hD ⊢
  have hS : va_S A s.heap s.heap [] := va_S.rf
  have hl := lv_entry ([.ref (a 0), .int v1]) (n := 2) (Nat.le_of_ble_eq_true rfl)
  rw [lg_entry_eq]
  generalize (lg_sl ([.ref (a 0), .int v1]) ++ List.replicate (2 - (lg_sl ([.ref (a 0), .int v1])).length) Slot.unset).toArray = ls at hl ⊢
  have hl : lv_has ls 2 [(0, .ref (a 0)), (1, .int v1)] := hl
  subst hv1
  refine lv_iload_n hx hb dX4_savedAt_0 rfl (lv_at hl 1 rfl) ?_
  refine lv_if_lt (tgt := 22) hx hb dX4_savedAt_1 (by decide) (fun c1 => absurd c1 (by decide)) (fun c1 => ?_)
  refine lv_iload_n hx hb dX4_savedAt_4 rfl (lv_at hl 1 rfl) ?_
  refine lv_aload_n hx hb dX4_savedAt_5 rfl (lv_at hl 0 rfl) ?_
  refine va_get (D := (dC, dI)) (ci := 4) (v := .ref (a 13)) (C := RX4) (T := TX4) (N := 8) hx hb hts hinX4 hown hK hP 0 rfl rfl 4 (by decide) (hts (Cond.fieldLink RX4 27 "LearnedShapes" "saved" "[LLearnedShapes$State;") (List.mem_of_getElem? (i := 1) rfl)) (fun _ h9 => h9) rfl dX4_savedAt_6 ?_
  refine va_alen (v := (6 : Int32)) hx hb hK hP 13 1 rfl rfl rfl dX4_savedAt_9 ?_
  refine lv_icmp_ge (tgt := 22) hx hb dX4_savedAt_10 (by decide) (fun c2 => absurd c2 (by decide)) (fun c2 => ?_)
  refine lv_aload_n hx hb dX4_savedAt_13 rfl (lv_at hl 0 rfl) ?_
  refine va_get (D := (dC, dI)) (ci := 4) (v := .ref (a 13)) (C := RX4) (T := TX4) (N := 8) hx hb hts hinX4 hown hK hP 0 rfl rfl 4 (by decide) (hts (Cond.fieldLink RX4 27 "LearnedShapes" "saved" "[LLearnedShapes$State;") (List.mem_of_getElem? (i := 1) rfl)) (fun _ h9 => h9) rfl dX4_savedAt_14 ?_
  refine lv_iload_n hx hb dX4_savedAt_17 rfl (lv_at hl 1 rfl) ?_
  refine va_aldq (f := rl [q 0 0, q 1 0, q 2 0, q 3 0, q 4 0, q 5 0]) hx hb hK hP 13 1 rfl rfl (inb_in (by decide)) dX4_savedAt_18 ?_
  refine W.eq (g2 := F0 m 19 ls [.ref (q 5 0)]) rfl ?_
  refine lv_goto (tgt := 23) hx hb dX4_savedAt_19 (by decide) ?_
  exact W.aret (v := .ref (q 5 0)) hx hb hr (Or.inl ⟨_, rfl⟩) (Or.inr ⟨_, rfl⟩) (fun t ht hW => ⟨⟨some (q 5 0), (), rfl, rfl, by rw [ht]; exact hP, va_K.moved hW.alike hK, hD⟩, hS.F ht⟩) hS.2.2 dX4_savedAt_23
set_option maxHeartbeats 4000000 in
set_option maxRecDepth 100000 in
theorem c_X4_savedAt_n (l : Launch) (dC : Nat → ClassId) (dI : Nat → Nat → Nat) (cI cS : ClassId) (a : Nat → Nat) (q : Nat → Nat → Nat) (sz : Nat) (S : S_LS) (Z : Nat → S_State) (v1 : Int32) (hv1 : v1 < 0 ∨ 6 ≤ v1) : Met l yX4_savedAt wsX4_savedAt ({ frames := 0, cells := 0, slots := 0, locals := 0 } : Room) (va_Pc [.ref (a 0), .int v1] (jPre (dC, dI) [(cI, .int), (cS, .object "LearnedShapes$State")] sz (W_Full cI cS a q S Z))) (va_Qq (fun (r : Option Nat) (_ : Unit) => none = r) (fun _ : Unit => jB (dC, dI) [(cI, .int), (cS, .object "LearnedShapes$State")] (va_A (W_Full cI cS a q S Z) sz) (W_Full cI cS a q S Z)) (va_A (W_Full cI cS a q S Z) sz)) 0 0 (va_A (W_Full cI cS a q S Z) sz) := by
  refine Met.ofW (cc := cX4_savedAt) (maxL := 2) (ret := (some (.object "LearnedShapes$State"))) (by decide) rfl ?_
  intro p e s m args below meth c s₁ B hml hv
  obtain ⟨rfl, hsz, hP, hK, hD0, hN⟩ := hv
  have hx := B.exec
  have hb := B.bytes
  have hr := B.returns
  have hts := atoms_spec (ws := wsX4_savedAt) B.pre
  have hown : s.vm.findClass RX4 = some m.cls := findClass_of_methodNamed B.named
  have hlocks := B.notSynchronized
  have hinX4 : ∀ w ∈ u_ws RX4 TX4 8, w ∈ wsX4_savedAt := by decide +kernel
  subst hsz
  have hD := hD0.self (sz := s.heap.size)
  generalize hAe : (va_A (W_Full cI cS a q S Z) s.heap.size) = A at hD ⊢
  have hS : va_S A s.heap s.heap [] := va_S.rf
  have hl := lv_entry ([.ref (a 0), .int v1]) (n := 2) (Nat.le_of_ble_eq_true rfl)
  rw [lg_entry_eq]
  generalize (lg_sl ([.ref (a 0), .int v1]) ++ List.replicate (2 - (lg_sl ([.ref (a 0), .int v1])).length) Slot.unset).toArray = ls at hl ⊢
  have hl : lv_has ls 2 [(0, .ref (a 0)), (1, .int v1)] := hl
  refine lv_iload_n hx hb dX4_savedAt_0 rfl (lv_at hl 1 rfl) ?_
  refine lv_if_lt (tgt := 22) hx hb dX4_savedAt_1 (by decide) (fun c1 => ?_) (fun c1 => ?_)
  · refine lv_null hx hb dX4_savedAt_22 ?_
    exact W.aret (v := .null) hx hb hr (Or.inl ⟨_, rfl⟩) (Or.inl rfl) (fun t ht hW => ⟨⟨none, (), rfl, rfl, by rw [ht]; exact hP, va_K.moved hW.alike hK, hD⟩, hS.F ht⟩) hS.2.2 dX4_savedAt_23
  · refine lv_iload_n hx hb dX4_savedAt_4 rfl (lv_at hl 1 rfl) ?_
    refine lv_aload_n hx hb dX4_savedAt_5 rfl (lv_at hl 0 rfl) ?_
    refine va_get (D := (dC, dI)) (ci := 4) (v := .ref (a 13)) (C := RX4) (T := TX4) (N := 8) hx hb hts hinX4 hown hK hP 0 rfl rfl 4 (by decide) (hts (Cond.fieldLink RX4 27 "LearnedShapes" "saved" "[LLearnedShapes$State;") (List.mem_of_getElem? (i := 1) rfl)) (fun _ h9 => h9) rfl dX4_savedAt_6 ?_
    refine va_alen (v := (6 : Int32)) hx hb hK hP 13 1 rfl rfl rfl dX4_savedAt_9 ?_
    refine lv_icmp_ge (tgt := 22) hx hb dX4_savedAt_10 (by decide) (fun c2 => ?_) (fun c2 => absurd hv1 (fun h => h.elim c1 c2))
    refine lv_null hx hb dX4_savedAt_22 ?_
    exact W.aret (v := .null) hx hb hr (Or.inl ⟨_, rfl⟩) (Or.inl rfl) (fun t ht hW => ⟨⟨none, (), rfl, rfl, by rw [ht]; exact hP, va_K.moved hW.alike hK, hD⟩, hS.F ht⟩) hS.2.2 dX4_savedAt_23
set_option maxHeartbeats 4000000 in
set_option maxRecDepth 100000 in
theorem c_X4_dropOldest (l : Launch) (dC : Nat → ClassId) (dI : Nat → Nat → Nat) (cI : ClassId) (cS : ClassId) (a : Nat → Nat) (q : Nat → Nat → Nat) (sz : Nat) (S : S_LS) (Z : (Nat → S_State))  (Y : S_LS) (YZ : (Nat → S_State)) (hF : F_X4_dropOldest S Z  = some (Y, YZ)) : Met l yX4_dropOldest wsX4_dropOldest ({ frames := 1, cells := 0, slots := 0, locals := 21 } : Room) (va_Pc [.ref (a 0)] (jPre (dC, dI) [(cI, .int), (cS, .object "LearnedShapes$State")] sz (W_Full cI cS a q S Z))) (va_Qv (fun u : S_LS × (Nat → S_State) => (Y, YZ) = u) (fun (u : S_LS × (Nat → S_State)) (t : State) => ∃ q9 : Nat → Nat → Nat, jB (dC, dI) [(cI, .int), (cS, .object "LearnedShapes$State")] (va_A (W_Full cI cS a q S Z) sz) (W_Full cI cS a q9 u.1 u.2) t) (va_A (W_Full cI cS a q S Z) sz)) 0 0 (va_A (W_Full cI cS a q S Z) sz) := by
  refine Met.ofW (cc := cX4_dropOldest) (maxL := 3) (ret := none) (by decide) rfl ?_
  intro p e s m args below meth c s₁ B hml hv
  obtain ⟨rfl, hsz, hP, hK, hD0, hN⟩ := hv
  have hx := B.exec
  have hb := B.bytes
  have hr := B.returns
  have hts := atoms_spec (ws := wsX4_dropOldest) B.pre
  have hown : s.vm.findClass RX4 = some m.cls := findClass_of_methodNamed B.named
  have hlocks := B.notSynchronized
  have hKi : va_K (dC, dI) vwCl [(cI, .int)] s := hK.sub [0] rfl
  have hinX4 : ∀ w ∈ u_ws RX4 TX4 8, w ∈ wsX4_dropOldest := by decide +kernel
  subst hsz
  have hD := hD0.self (sz := s.heap.size)
  generalize hAe : (va_A (W_Full cI cS a q S Z) s.heap.size) = A at hD ⊢
  have hA : ∀ q : Nat, s.heap.size ≤ q → A q := fun q h => by rw [← hAe]; exact Or.inr h
  have hS : va_S A s.heap s.heap [] := va_S.rf
  have hl := lv_entry ([.ref (a 0)]) (n := 3) (Nat.le_of_ble_eq_true rfl)
  rw [lg_entry_eq]
  generalize (lg_sl ([.ref (a 0)]) ++ List.replicate (3 - (lg_sl ([.ref (a 0)])).length) Slot.unset).toArray = ls at hl ⊢
  have hl : lv_has ls 3 [(0, .ref (a 0))] := hl
  have KE : ∀ (H : Heap) (locs : List Loc), va_P (dC, dI) vwCl (W_Full cI cS a q S Z) H → va_D A (W_Full cI cS a q S Z) → va_S A s.heap H locs → W p l e (headSpec wsX4_dropOldest ({ frames := 1, cells := 0, slots := 0, locals := 21 } : Room)).room s m ([.ref (a 0)] : List Value).toArray below meth c H locs 0 0 (MQ below (va_Qv (fun u : S_LS × (Nat → S_State) => (Y, YZ) = u) (fun (u : S_LS × (Nat → S_State)) (t : State) => ∃ q9 : Nat → Nat → Nat, jB (dC, dI) [(cI, .int), (cS, .object "LearnedShapes$State")] A (W_Full cI cS a q9 u.1 u.2) t) A) ([.ref (a 0)] : List Value).toArray s 0 0 A) (F0 m 0 ls []) := by
    intro H locs hP hD hS
    have hP : va_P (dC, dI) vwCl (List.flatten [W_LS cI a S, W_Sav cS (a 13) [((q 0) 0), ((q 1) 0), ((q 2) 0), ((q 3) 0), ((q 4) 0), ((q 5) 0)], W_State cI (q 0) (Z 0), W_State cI (q 1) (Z 1), W_State cI (q 2) (Z 2), W_State cI (q 3) (Z 3), W_State cI (q 4) (Z 4), W_State cI (q 5) (Z 5)]) H := hP
    have hD : va_D A (List.flatten [W_LS cI a S, W_Sav cS (a 13) [((q 0) 0), ((q 1) 0), ((q 2) 0), ((q 3) 0), ((q 4) 0), ((q 5) 0)], W_State cI (q 0) (Z 0), W_State cI (q 1) (Z 1), W_State cI (q 2) (Z 2), W_State cI (q 3) (Z 3), W_State cI (q 4) (Z 4), W_State cI (q 5) (Z 5)]) := hD
    unfold F_X4_dropOldest at hF
    refine lv_aload_n hx hb dX4_dropOldest_0 rfl (lv_at hl 0 rfl) ?_
    refine lv_iconst (v := (0 : Int32)) hx hb dX4_dropOldest_1 (by decide) ?_
    have hP : va_P (dC, dI) vwCl (W_Full cI cS a q S Z) H := hP
    have hD : va_D A (W_Full cI cS a q S Z) := hD
    have hPc := hP
    have hDc := hD
    have hFc := jFreeW (ws := (W_Full cI cS a q S Z)) hD hS hA
    refine va_callq (va_runV (As := [.int (0 : Int32)]) (rest := []) ⟨hx, hb, hml, hown, hts⟩ (c_X4_savedAt_0 l dC dI cI cS a q H.size _ _ _ rfl) (cwV 1 hts gX4_dropOldest_X4_savedAt rfl rfl rfl (by decide +kernel) ⟨Nat.le_of_ble_eq_true rfl, Nat.le_of_ble_eq_true rfl⟩) (jPreV hK hPc hDc hN (ci := 4) rfl rfl) rfl rfl hl.1 rfl (lv_room (Nat.le_of_ble_eq_true rfl)) dX4_dropOldest_2 ⟨Nat.le_of_ble_eq_true rfl, Nat.le_of_ble_eq_true rfl⟩) hS (fun q _ h => hFc q h) hFc (fun r9 u9 t H locs ht hvm hw hB hz1 hk1 hS => ?_)
    subst hw
    obtain ⟨hP1, -, hD1⟩ := hB
    rw [ht] at hP1
    have hP : va_P (dC, dI) vwCl ((W_Full cI cS a q S Z)) H := hP1
    have hD : va_D A ((W_Full cI cS a q S Z)) := hD1.weaken (fun _ _ _ h => hFc _ h)
    have hP : va_P (dC, dI) vwCl (List.flatten [W_LS cI a S, W_Sav cS (a 13) [((q 0) 0), ((q 1) 0), ((q 2) 0), ((q 3) 0), ((q 4) 0), ((q 5) 0)], W_State cI (q 0) (Z 0), W_State cI (q 1) (Z 1), W_State cI (q 2) (Z 2), W_State cI (q 3) (Z 3), W_State cI (q 4) (Z 4), W_State cI (q 5) (Z 5)]) H := hP
    have hD : va_D A (List.flatten [W_LS cI a S, W_Sav cS (a 13) [((q 0) 0), ((q 1) 0), ((q 2) 0), ((q 3) 0), ((q 4) 0), ((q 5) 0)], W_State cI (q 0) (Z 0), W_State cI (q 1) (Z 1), W_State cI (q 2) (Z 2), W_State cI (q 3) (Z 3), W_State cI (q 4) (Z 4), W_State cI (q 5) (Z 5)]) := hD
    refine W.eq (g2 := F0 m 5 ls [.ref ((q 0) 0)]) rfl ?_
    refine lv_astore_n (lv' := [(1, .ref ((q 0) 0)), (0, .ref (a 0))]) hx hb dX4_dropOldest_5 rfl hl (by decide) rfl (fun ls hl => ?_)
    refine lv_iconst (v := (1 : Int32)) hx hb dX4_dropOldest_6 (by decide) ?_
    refine lv_istore_n (lv' := [(2, .int (1 : Int32)), (1, .ref ((q 0) 0)), (0, .ref (a 0))]) hx hb dX4_dropOldest_7 rfl hl (by decide) rfl (fun ls hl => ?_)
    refine lv_iload_n hx hb dX4_dropOldest_8 rfl (lv_at hl 0 rfl) ?_
    refine lv_aload_n hx hb dX4_dropOldest_9 rfl (lv_at hl 2 rfl) ?_
    refine va_get (D := (dC, dI)) (ci := 4) (v := .ref (a 13)) (C := RX4) (T := TX4) (N := 8) hx hb hts hinX4 hown hK hP 0 rfl rfl 4 (by decide) (hts (Cond.fieldLink RX4 27 "LearnedShapes" "saved" "[LLearnedShapes$State;") (List.mem_of_getElem? (i := 1) rfl)) (fun _ h9 => h9) rfl dX4_dropOldest_10 ?_
    refine va_alen (v := (6 : Int32)) hx hb hK hP 13 1 rfl rfl rfl dX4_dropOldest_13 ?_
    refine lv_icmp_ge (tgt := 37) hx hb dX4_dropOldest_14 (by decide) (fun c => absurd c (by decide)) (fun _ => ?_)
    refine lv_aload_n hx hb dX4_dropOldest_17 rfl (lv_at hl 2 rfl) ?_
    refine va_get (D := (dC, dI)) (ci := 4) (v := .ref (a 13)) (C := RX4) (T := TX4) (N := 8) hx hb hts hinX4 hown hK hP 0 rfl rfl 4 (by decide) (hts (Cond.fieldLink RX4 27 "LearnedShapes" "saved" "[LLearnedShapes$State;") (List.mem_of_getElem? (i := 1) rfl)) (fun _ h9 => h9) rfl dX4_dropOldest_18 ?_
    refine lv_iload_n hx hb dX4_dropOldest_21 rfl (lv_at hl 0 rfl) ?_
    refine lv_iconst (v := (1 : Int32)) hx hb dX4_dropOldest_22 (by decide) ?_
    refine lv_isub hx hb dX4_dropOldest_23 ?_
    refine W.eq (g2 := F0 m 24 ls [.int (0 : Int32), .ref (a 13)]) (by rfl) ?_
    refine lv_aload_n hx hb dX4_dropOldest_24 rfl (lv_at hl 2 rfl) ?_
    refine va_get (D := (dC, dI)) (ci := 4) (v := .ref (a 13)) (C := RX4) (T := TX4) (N := 8) hx hb hts hinX4 hown hK hP 0 rfl rfl 4 (by decide) (hts (Cond.fieldLink RX4 27 "LearnedShapes" "saved" "[LLearnedShapes$State;") (List.mem_of_getElem? (i := 1) rfl)) (fun _ h9 => h9) rfl dX4_dropOldest_25 ?_
    refine lv_iload_n hx hb dX4_dropOldest_28 rfl (lv_at hl 0 rfl) ?_
    refine va_aldq (f := rl [((q 0) 0), ((q 1) 0), ((q 2) 0), ((q 3) 0), ((q 4) 0), ((q 5) 0)]) hx hb hK hP 13 1 rfl rfl (inb_in (by decide)) dX4_dropOldest_29 ?_
    refine W.eq (g2 := F0 m 30 ls [.ref ((q 1) 0), .int (0 : Int32), .ref (a 13)]) rfl ?_
    refine va_astq (f := rl [((q 0) 0), ((q 1) 0), ((q 2) 0), ((q 3) 0), ((q 4) 0), ((q 5) 0)]) (r := (RX2, TX2, 3)) (v := ((q 1) 0)) hx hb hK hP hD hS 13 1 19 2 rfl rfl rfl rfl (inb_in (by decide)) dX4_dropOldest_30 (fun H locs hP hD hS => ?_)
    rw [rl_up _ _ (Nat.le_of_ble_eq_true rfl)] at hP hD
    have hP : va_P (dC, dI) vwCl (List.flatten [W_LS cI a S, W_Sav cS (a 13) [((q 1) 0), ((q 1) 0), ((q 2) 0), ((q 3) 0), ((q 4) 0), ((q 5) 0)], W_State cI (q 0) (Z 0), W_State cI (q 1) (Z 1), W_State cI (q 2) (Z 2), W_State cI (q 3) (Z 3), W_State cI (q 4) (Z 4), W_State cI (q 5) (Z 5)]) H := hP
    have hD : va_D A (List.flatten [W_LS cI a S, W_Sav cS (a 13) [((q 1) 0), ((q 1) 0), ((q 2) 0), ((q 3) 0), ((q 4) 0), ((q 5) 0)], W_State cI (q 0) (Z 0), W_State cI (q 1) (Z 1), W_State cI (q 2) (Z 2), W_State cI (q 3) (Z 3), W_State cI (q 4) (Z 4), W_State cI (q 5) (Z 5)]) := hD
    refine lv_iinc (v := (2 : Int32)) (lv' := [(2, .int (2 : Int32)), (1, .ref ((q 0) 0)), (0, .ref (a 0))]) hx hb dX4_dropOldest_31 hl (k := 0) rfl rfl (by decide) rfl (fun ls hl => ?_)
    refine lv_goto (tgt := 8) hx hb dX4_dropOldest_34 (by decide) ?_
    refine lv_iload_n hx hb dX4_dropOldest_8 rfl (lv_at hl 0 rfl) ?_
    refine lv_aload_n hx hb dX4_dropOldest_9 rfl (lv_at hl 2 rfl) ?_
    refine va_get (D := (dC, dI)) (ci := 4) (v := .ref (a 13)) (C := RX4) (T := TX4) (N := 8) hx hb hts hinX4 hown hK hP 0 rfl rfl 4 (by decide) (hts (Cond.fieldLink RX4 27 "LearnedShapes" "saved" "[LLearnedShapes$State;") (List.mem_of_getElem? (i := 1) rfl)) (fun _ h9 => h9) rfl dX4_dropOldest_10 ?_
    refine va_alen (v := (6 : Int32)) hx hb hK hP 13 1 rfl rfl rfl dX4_dropOldest_13 ?_
    refine lv_icmp_ge (tgt := 37) hx hb dX4_dropOldest_14 (by decide) (fun c => absurd c (by decide)) (fun _ => ?_)
    refine lv_aload_n hx hb dX4_dropOldest_17 rfl (lv_at hl 2 rfl) ?_
    refine va_get (D := (dC, dI)) (ci := 4) (v := .ref (a 13)) (C := RX4) (T := TX4) (N := 8) hx hb hts hinX4 hown hK hP 0 rfl rfl 4 (by decide) (hts (Cond.fieldLink RX4 27 "LearnedShapes" "saved" "[LLearnedShapes$State;") (List.mem_of_getElem? (i := 1) rfl)) (fun _ h9 => h9) rfl dX4_dropOldest_18 ?_
    refine lv_iload_n hx hb dX4_dropOldest_21 rfl (lv_at hl 0 rfl) ?_
    refine lv_iconst (v := (1 : Int32)) hx hb dX4_dropOldest_22 (by decide) ?_
    refine lv_isub hx hb dX4_dropOldest_23 ?_
    refine W.eq (g2 := F0 m 24 ls [.int (1 : Int32), .ref (a 13)]) (by rfl) ?_
    refine lv_aload_n hx hb dX4_dropOldest_24 rfl (lv_at hl 2 rfl) ?_
    refine va_get (D := (dC, dI)) (ci := 4) (v := .ref (a 13)) (C := RX4) (T := TX4) (N := 8) hx hb hts hinX4 hown hK hP 0 rfl rfl 4 (by decide) (hts (Cond.fieldLink RX4 27 "LearnedShapes" "saved" "[LLearnedShapes$State;") (List.mem_of_getElem? (i := 1) rfl)) (fun _ h9 => h9) rfl dX4_dropOldest_25 ?_
    refine lv_iload_n hx hb dX4_dropOldest_28 rfl (lv_at hl 0 rfl) ?_
    refine va_aldq (f := rl [((q 1) 0), ((q 1) 0), ((q 2) 0), ((q 3) 0), ((q 4) 0), ((q 5) 0)]) hx hb hK hP 13 1 rfl rfl (inb_in (by decide)) dX4_dropOldest_29 ?_
    refine W.eq (g2 := F0 m 30 ls [.ref ((q 2) 0), .int (1 : Int32), .ref (a 13)]) rfl ?_
    refine va_astq (f := rl [((q 1) 0), ((q 1) 0), ((q 2) 0), ((q 3) 0), ((q 4) 0), ((q 5) 0)]) (r := (RX2, TX2, 3)) (v := ((q 2) 0)) hx hb hK hP hD hS 13 1 24 2 rfl rfl rfl rfl (inb_in (by decide)) dX4_dropOldest_30 (fun H locs hP hD hS => ?_)
    rw [rl_up _ _ (Nat.le_of_ble_eq_true rfl)] at hP hD
    have hP : va_P (dC, dI) vwCl (List.flatten [W_LS cI a S, W_Sav cS (a 13) [((q 1) 0), ((q 2) 0), ((q 2) 0), ((q 3) 0), ((q 4) 0), ((q 5) 0)], W_State cI (q 0) (Z 0), W_State cI (q 1) (Z 1), W_State cI (q 2) (Z 2), W_State cI (q 3) (Z 3), W_State cI (q 4) (Z 4), W_State cI (q 5) (Z 5)]) H := hP
    have hD : va_D A (List.flatten [W_LS cI a S, W_Sav cS (a 13) [((q 1) 0), ((q 2) 0), ((q 2) 0), ((q 3) 0), ((q 4) 0), ((q 5) 0)], W_State cI (q 0) (Z 0), W_State cI (q 1) (Z 1), W_State cI (q 2) (Z 2), W_State cI (q 3) (Z 3), W_State cI (q 4) (Z 4), W_State cI (q 5) (Z 5)]) := hD
    refine lv_iinc (v := (3 : Int32)) (lv' := [(2, .int (3 : Int32)), (1, .ref ((q 0) 0)), (0, .ref (a 0))]) hx hb dX4_dropOldest_31 hl (k := 0) rfl rfl (by decide) rfl (fun ls hl => ?_)
    refine lv_goto (tgt := 8) hx hb dX4_dropOldest_34 (by decide) ?_
    refine lv_iload_n hx hb dX4_dropOldest_8 rfl (lv_at hl 0 rfl) ?_
    refine lv_aload_n hx hb dX4_dropOldest_9 rfl (lv_at hl 2 rfl) ?_
    refine va_get (D := (dC, dI)) (ci := 4) (v := .ref (a 13)) (C := RX4) (T := TX4) (N := 8) hx hb hts hinX4 hown hK hP 0 rfl rfl 4 (by decide) (hts (Cond.fieldLink RX4 27 "LearnedShapes" "saved" "[LLearnedShapes$State;") (List.mem_of_getElem? (i := 1) rfl)) (fun _ h9 => h9) rfl dX4_dropOldest_10 ?_
    refine va_alen (v := (6 : Int32)) hx hb hK hP 13 1 rfl rfl rfl dX4_dropOldest_13 ?_
    refine lv_icmp_ge (tgt := 37) hx hb dX4_dropOldest_14 (by decide) (fun c => absurd c (by decide)) (fun _ => ?_)
    refine lv_aload_n hx hb dX4_dropOldest_17 rfl (lv_at hl 2 rfl) ?_
    refine va_get (D := (dC, dI)) (ci := 4) (v := .ref (a 13)) (C := RX4) (T := TX4) (N := 8) hx hb hts hinX4 hown hK hP 0 rfl rfl 4 (by decide) (hts (Cond.fieldLink RX4 27 "LearnedShapes" "saved" "[LLearnedShapes$State;") (List.mem_of_getElem? (i := 1) rfl)) (fun _ h9 => h9) rfl dX4_dropOldest_18 ?_
    refine lv_iload_n hx hb dX4_dropOldest_21 rfl (lv_at hl 0 rfl) ?_
    refine lv_iconst (v := (1 : Int32)) hx hb dX4_dropOldest_22 (by decide) ?_
    refine lv_isub hx hb dX4_dropOldest_23 ?_
    refine W.eq (g2 := F0 m 24 ls [.int (2 : Int32), .ref (a 13)]) (by rfl) ?_
    refine lv_aload_n hx hb dX4_dropOldest_24 rfl (lv_at hl 2 rfl) ?_
    refine va_get (D := (dC, dI)) (ci := 4) (v := .ref (a 13)) (C := RX4) (T := TX4) (N := 8) hx hb hts hinX4 hown hK hP 0 rfl rfl 4 (by decide) (hts (Cond.fieldLink RX4 27 "LearnedShapes" "saved" "[LLearnedShapes$State;") (List.mem_of_getElem? (i := 1) rfl)) (fun _ h9 => h9) rfl dX4_dropOldest_25 ?_
    refine lv_iload_n hx hb dX4_dropOldest_28 rfl (lv_at hl 0 rfl) ?_
    refine va_aldq (f := rl [((q 1) 0), ((q 2) 0), ((q 2) 0), ((q 3) 0), ((q 4) 0), ((q 5) 0)]) hx hb hK hP 13 1 rfl rfl (inb_in (by decide)) dX4_dropOldest_29 ?_
    refine W.eq (g2 := F0 m 30 ls [.ref ((q 3) 0), .int (2 : Int32), .ref (a 13)]) rfl ?_
    refine va_astq (f := rl [((q 1) 0), ((q 2) 0), ((q 2) 0), ((q 3) 0), ((q 4) 0), ((q 5) 0)]) (r := (RX2, TX2, 3)) (v := ((q 3) 0)) hx hb hK hP hD hS 13 1 29 2 rfl rfl rfl rfl (inb_in (by decide)) dX4_dropOldest_30 (fun H locs hP hD hS => ?_)
    rw [rl_up _ _ (Nat.le_of_ble_eq_true rfl)] at hP hD
    have hP : va_P (dC, dI) vwCl (List.flatten [W_LS cI a S, W_Sav cS (a 13) [((q 1) 0), ((q 2) 0), ((q 3) 0), ((q 3) 0), ((q 4) 0), ((q 5) 0)], W_State cI (q 0) (Z 0), W_State cI (q 1) (Z 1), W_State cI (q 2) (Z 2), W_State cI (q 3) (Z 3), W_State cI (q 4) (Z 4), W_State cI (q 5) (Z 5)]) H := hP
    have hD : va_D A (List.flatten [W_LS cI a S, W_Sav cS (a 13) [((q 1) 0), ((q 2) 0), ((q 3) 0), ((q 3) 0), ((q 4) 0), ((q 5) 0)], W_State cI (q 0) (Z 0), W_State cI (q 1) (Z 1), W_State cI (q 2) (Z 2), W_State cI (q 3) (Z 3), W_State cI (q 4) (Z 4), W_State cI (q 5) (Z 5)]) := hD
    refine lv_iinc (v := (4 : Int32)) (lv' := [(2, .int (4 : Int32)), (1, .ref ((q 0) 0)), (0, .ref (a 0))]) hx hb dX4_dropOldest_31 hl (k := 0) rfl rfl (by decide) rfl (fun ls hl => ?_)
    refine lv_goto (tgt := 8) hx hb dX4_dropOldest_34 (by decide) ?_
    refine lv_iload_n hx hb dX4_dropOldest_8 rfl (lv_at hl 0 rfl) ?_
    refine lv_aload_n hx hb dX4_dropOldest_9 rfl (lv_at hl 2 rfl) ?_
    refine va_get (D := (dC, dI)) (ci := 4) (v := .ref (a 13)) (C := RX4) (T := TX4) (N := 8) hx hb hts hinX4 hown hK hP 0 rfl rfl 4 (by decide) (hts (Cond.fieldLink RX4 27 "LearnedShapes" "saved" "[LLearnedShapes$State;") (List.mem_of_getElem? (i := 1) rfl)) (fun _ h9 => h9) rfl dX4_dropOldest_10 ?_
    refine va_alen (v := (6 : Int32)) hx hb hK hP 13 1 rfl rfl rfl dX4_dropOldest_13 ?_
    refine lv_icmp_ge (tgt := 37) hx hb dX4_dropOldest_14 (by decide) (fun c => absurd c (by decide)) (fun _ => ?_)
    refine lv_aload_n hx hb dX4_dropOldest_17 rfl (lv_at hl 2 rfl) ?_
    refine va_get (D := (dC, dI)) (ci := 4) (v := .ref (a 13)) (C := RX4) (T := TX4) (N := 8) hx hb hts hinX4 hown hK hP 0 rfl rfl 4 (by decide) (hts (Cond.fieldLink RX4 27 "LearnedShapes" "saved" "[LLearnedShapes$State;") (List.mem_of_getElem? (i := 1) rfl)) (fun _ h9 => h9) rfl dX4_dropOldest_18 ?_
    refine lv_iload_n hx hb dX4_dropOldest_21 rfl (lv_at hl 0 rfl) ?_
    refine lv_iconst (v := (1 : Int32)) hx hb dX4_dropOldest_22 (by decide) ?_
    refine lv_isub hx hb dX4_dropOldest_23 ?_
    refine W.eq (g2 := F0 m 24 ls [.int (3 : Int32), .ref (a 13)]) (by rfl) ?_
    refine lv_aload_n hx hb dX4_dropOldest_24 rfl (lv_at hl 2 rfl) ?_
    refine va_get (D := (dC, dI)) (ci := 4) (v := .ref (a 13)) (C := RX4) (T := TX4) (N := 8) hx hb hts hinX4 hown hK hP 0 rfl rfl 4 (by decide) (hts (Cond.fieldLink RX4 27 "LearnedShapes" "saved" "[LLearnedShapes$State;") (List.mem_of_getElem? (i := 1) rfl)) (fun _ h9 => h9) rfl dX4_dropOldest_25 ?_
    refine lv_iload_n hx hb dX4_dropOldest_28 rfl (lv_at hl 0 rfl) ?_
    refine va_aldq (f := rl [((q 1) 0), ((q 2) 0), ((q 3) 0), ((q 3) 0), ((q 4) 0), ((q 5) 0)]) hx hb hK hP 13 1 rfl rfl (inb_in (by decide)) dX4_dropOldest_29 ?_
    refine W.eq (g2 := F0 m 30 ls [.ref ((q 4) 0), .int (3 : Int32), .ref (a 13)]) rfl ?_
    refine va_astq (f := rl [((q 1) 0), ((q 2) 0), ((q 3) 0), ((q 3) 0), ((q 4) 0), ((q 5) 0)]) (r := (RX2, TX2, 3)) (v := ((q 4) 0)) hx hb hK hP hD hS 13 1 34 2 rfl rfl rfl rfl (inb_in (by decide)) dX4_dropOldest_30 (fun H locs hP hD hS => ?_)
    rw [rl_up _ _ (Nat.le_of_ble_eq_true rfl)] at hP hD
    have hP : va_P (dC, dI) vwCl (List.flatten [W_LS cI a S, W_Sav cS (a 13) [((q 1) 0), ((q 2) 0), ((q 3) 0), ((q 4) 0), ((q 4) 0), ((q 5) 0)], W_State cI (q 0) (Z 0), W_State cI (q 1) (Z 1), W_State cI (q 2) (Z 2), W_State cI (q 3) (Z 3), W_State cI (q 4) (Z 4), W_State cI (q 5) (Z 5)]) H := hP
    have hD : va_D A (List.flatten [W_LS cI a S, W_Sav cS (a 13) [((q 1) 0), ((q 2) 0), ((q 3) 0), ((q 4) 0), ((q 4) 0), ((q 5) 0)], W_State cI (q 0) (Z 0), W_State cI (q 1) (Z 1), W_State cI (q 2) (Z 2), W_State cI (q 3) (Z 3), W_State cI (q 4) (Z 4), W_State cI (q 5) (Z 5)]) := hD
    refine lv_iinc (v := (5 : Int32)) (lv' := [(2, .int (5 : Int32)), (1, .ref ((q 0) 0)), (0, .ref (a 0))]) hx hb dX4_dropOldest_31 hl (k := 0) rfl rfl (by decide) rfl (fun ls hl => ?_)
    refine lv_goto (tgt := 8) hx hb dX4_dropOldest_34 (by decide) ?_
    refine lv_iload_n hx hb dX4_dropOldest_8 rfl (lv_at hl 0 rfl) ?_
    refine lv_aload_n hx hb dX4_dropOldest_9 rfl (lv_at hl 2 rfl) ?_
    refine va_get (D := (dC, dI)) (ci := 4) (v := .ref (a 13)) (C := RX4) (T := TX4) (N := 8) hx hb hts hinX4 hown hK hP 0 rfl rfl 4 (by decide) (hts (Cond.fieldLink RX4 27 "LearnedShapes" "saved" "[LLearnedShapes$State;") (List.mem_of_getElem? (i := 1) rfl)) (fun _ h9 => h9) rfl dX4_dropOldest_10 ?_
    refine va_alen (v := (6 : Int32)) hx hb hK hP 13 1 rfl rfl rfl dX4_dropOldest_13 ?_
    refine lv_icmp_ge (tgt := 37) hx hb dX4_dropOldest_14 (by decide) (fun c => absurd c (by decide)) (fun _ => ?_)
    refine lv_aload_n hx hb dX4_dropOldest_17 rfl (lv_at hl 2 rfl) ?_
    refine va_get (D := (dC, dI)) (ci := 4) (v := .ref (a 13)) (C := RX4) (T := TX4) (N := 8) hx hb hts hinX4 hown hK hP 0 rfl rfl 4 (by decide) (hts (Cond.fieldLink RX4 27 "LearnedShapes" "saved" "[LLearnedShapes$State;") (List.mem_of_getElem? (i := 1) rfl)) (fun _ h9 => h9) rfl dX4_dropOldest_18 ?_
    refine lv_iload_n hx hb dX4_dropOldest_21 rfl (lv_at hl 0 rfl) ?_
    refine lv_iconst (v := (1 : Int32)) hx hb dX4_dropOldest_22 (by decide) ?_
    refine lv_isub hx hb dX4_dropOldest_23 ?_
    refine W.eq (g2 := F0 m 24 ls [.int (4 : Int32), .ref (a 13)]) (by rfl) ?_
    refine lv_aload_n hx hb dX4_dropOldest_24 rfl (lv_at hl 2 rfl) ?_
    refine va_get (D := (dC, dI)) (ci := 4) (v := .ref (a 13)) (C := RX4) (T := TX4) (N := 8) hx hb hts hinX4 hown hK hP 0 rfl rfl 4 (by decide) (hts (Cond.fieldLink RX4 27 "LearnedShapes" "saved" "[LLearnedShapes$State;") (List.mem_of_getElem? (i := 1) rfl)) (fun _ h9 => h9) rfl dX4_dropOldest_25 ?_
    refine lv_iload_n hx hb dX4_dropOldest_28 rfl (lv_at hl 0 rfl) ?_
    refine va_aldq (f := rl [((q 1) 0), ((q 2) 0), ((q 3) 0), ((q 4) 0), ((q 4) 0), ((q 5) 0)]) hx hb hK hP 13 1 rfl rfl (inb_in (by decide)) dX4_dropOldest_29 ?_
    refine W.eq (g2 := F0 m 30 ls [.ref ((q 5) 0), .int (4 : Int32), .ref (a 13)]) rfl ?_
    refine va_astq (f := rl [((q 1) 0), ((q 2) 0), ((q 3) 0), ((q 4) 0), ((q 4) 0), ((q 5) 0)]) (r := (RX2, TX2, 3)) (v := ((q 5) 0)) hx hb hK hP hD hS 13 1 39 2 rfl rfl rfl rfl (inb_in (by decide)) dX4_dropOldest_30 (fun H locs hP hD hS => ?_)
    rw [rl_up _ _ (Nat.le_of_ble_eq_true rfl)] at hP hD
    have hP : va_P (dC, dI) vwCl (List.flatten [W_LS cI a S, W_Sav cS (a 13) [((q 1) 0), ((q 2) 0), ((q 3) 0), ((q 4) 0), ((q 5) 0), ((q 5) 0)], W_State cI (q 0) (Z 0), W_State cI (q 1) (Z 1), W_State cI (q 2) (Z 2), W_State cI (q 3) (Z 3), W_State cI (q 4) (Z 4), W_State cI (q 5) (Z 5)]) H := hP
    have hD : va_D A (List.flatten [W_LS cI a S, W_Sav cS (a 13) [((q 1) 0), ((q 2) 0), ((q 3) 0), ((q 4) 0), ((q 5) 0), ((q 5) 0)], W_State cI (q 0) (Z 0), W_State cI (q 1) (Z 1), W_State cI (q 2) (Z 2), W_State cI (q 3) (Z 3), W_State cI (q 4) (Z 4), W_State cI (q 5) (Z 5)]) := hD
    refine lv_iinc (v := (6 : Int32)) (lv' := [(2, .int (6 : Int32)), (1, .ref ((q 0) 0)), (0, .ref (a 0))]) hx hb dX4_dropOldest_31 hl (k := 0) rfl rfl (by decide) rfl (fun ls hl => ?_)
    refine lv_goto (tgt := 8) hx hb dX4_dropOldest_34 (by decide) ?_
    refine lv_iload_n hx hb dX4_dropOldest_8 rfl (lv_at hl 0 rfl) ?_
    refine lv_aload_n hx hb dX4_dropOldest_9 rfl (lv_at hl 2 rfl) ?_
    refine va_get (D := (dC, dI)) (ci := 4) (v := .ref (a 13)) (C := RX4) (T := TX4) (N := 8) hx hb hts hinX4 hown hK hP 0 rfl rfl 4 (by decide) (hts (Cond.fieldLink RX4 27 "LearnedShapes" "saved" "[LLearnedShapes$State;") (List.mem_of_getElem? (i := 1) rfl)) (fun _ h9 => h9) rfl dX4_dropOldest_10 ?_
    refine va_alen (v := (6 : Int32)) hx hb hK hP 13 1 rfl rfl rfl dX4_dropOldest_13 ?_
    refine lv_icmp_ge (tgt := 37) hx hb dX4_dropOldest_14 (by decide) (fun _ => ?_) (fun c => absurd c (by decide))
    refine lv_aload_n hx hb dX4_dropOldest_37 rfl (lv_at hl 2 rfl) ?_
    refine va_get (D := (dC, dI)) (ci := 4) (v := .ref (a 13)) (C := RX4) (T := TX4) (N := 8) hx hb hts hinX4 hown hK hP 0 rfl rfl 4 (by decide) (hts (Cond.fieldLink RX4 27 "LearnedShapes" "saved" "[LLearnedShapes$State;") (List.mem_of_getElem? (i := 1) rfl)) (fun _ h9 => h9) rfl dX4_dropOldest_38 ?_
    refine va_alen (v := (6 : Int32)) hx hb hK hP 13 1 rfl rfl rfl dX4_dropOldest_41 ?_
    refine lv_if_le (tgt := 68) hx hb dX4_dropOldest_42 (by decide) (fun c => absurd c (by decide)) (fun _ => ?_)
    refine lv_aload_n hx hb dX4_dropOldest_45 rfl (lv_at hl 2 rfl) ?_
    refine va_get (D := (dC, dI)) (ci := 4) (v := .ref (a 13)) (C := RX4) (T := TX4) (N := 8) hx hb hts hinX4 hown hK hP 0 rfl rfl 4 (by decide) (hts (Cond.fieldLink RX4 27 "LearnedShapes" "saved" "[LLearnedShapes$State;") (List.mem_of_getElem? (i := 1) rfl)) (fun _ h9 => h9) rfl dX4_dropOldest_46 ?_
    refine lv_aload_n hx hb dX4_dropOldest_49 rfl (lv_at hl 2 rfl) ?_
    refine va_get (D := (dC, dI)) (ci := 4) (v := .ref (a 13)) (C := RX4) (T := TX4) (N := 8) hx hb hts hinX4 hown hK hP 0 rfl rfl 4 (by decide) (hts (Cond.fieldLink RX4 27 "LearnedShapes" "saved" "[LLearnedShapes$State;") (List.mem_of_getElem? (i := 1) rfl)) (fun _ h9 => h9) rfl dX4_dropOldest_50 ?_
    refine va_alen (v := (6 : Int32)) hx hb hK hP 13 1 rfl rfl rfl dX4_dropOldest_53 ?_
    refine lv_iconst (v := (1 : Int32)) hx hb dX4_dropOldest_54 (by decide) ?_
    refine lv_isub hx hb dX4_dropOldest_55 ?_
    refine W.eq (g2 := F0 m 56 ls [.int (5 : Int32), .ref (a 13)]) (by rfl) ?_
    refine lv_aload_n hx hb dX4_dropOldest_56 rfl (lv_at hl 1 rfl) ?_
    refine va_astq (f := rl [((q 1) 0), ((q 2) 0), ((q 3) 0), ((q 4) 0), ((q 5) 0), ((q 5) 0)]) (r := (RX2, TX2, 3)) (v := ((q 0) 0)) hx hb hK hP hD hS 13 1 14 2 rfl rfl rfl rfl (inb_in (by decide)) dX4_dropOldest_57 (fun H locs hP hD hS => ?_)
    rw [rl_up _ _ (Nat.le_of_ble_eq_true rfl)] at hP hD
    have hP : va_P (dC, dI) vwCl (List.flatten [W_LS cI a S, W_Sav cS (a 13) [((q 1) 0), ((q 2) 0), ((q 3) 0), ((q 4) 0), ((q 5) 0), ((q 0) 0)], W_State cI (q 0) (Z 0), W_State cI (q 1) (Z 1), W_State cI (q 2) (Z 2), W_State cI (q 3) (Z 3), W_State cI (q 4) (Z 4), W_State cI (q 5) (Z 5)]) H := hP
    have hD : va_D A (List.flatten [W_LS cI a S, W_Sav cS (a 13) [((q 1) 0), ((q 2) 0), ((q 3) 0), ((q 4) 0), ((q 5) 0), ((q 0) 0)], W_State cI (q 0) (Z 0), W_State cI (q 1) (Z 1), W_State cI (q 2) (Z 2), W_State cI (q 3) (Z 3), W_State cI (q 4) (Z 4), W_State cI (q 5) (Z 5)]) := hD
    refine lv_aload_n hx hb dX4_dropOldest_58 rfl (lv_at hl 2 rfl) ?_
    refine lv_dup hx hb dX4_dropOldest_59 rfl ?_
    refine va_get (D := (dC, dI)) (ci := 4) (v := .int (g_LS_savedStates S)) (C := RX4) (T := TX4) (N := 8) hx hb hts hinX4 hown hK hP 0 rfl rfl 5 (by decide) (hts (Cond.fieldLink RX4 125 "LearnedShapes" "savedStates" "I") (List.mem_of_getElem? (i := 2) rfl)) (fun _ h9 => h9) rfl dX4_dropOldest_60 ?_
    refine lv_iconst (v := (1 : Int32)) hx hb dX4_dropOldest_63 (by decide) ?_
    refine lv_isub hx hb dX4_dropOldest_64 ?_
    refine va_put (D := (dC, dI)) (ci := 4) (v := .int ((g_LS_savedStates S) - (1 : Int32))) (ty := .int) (C := RX4) (T := TX4) (N := 8) hx hb hts hinX4 tyX4 tyX4_ok nmX4 hown hK hP hD hS 0 rfl rfl 5 (by decide) (hts (Cond.fieldLink RX4 125 "LearnedShapes" "savedStates" "I") (List.mem_of_getElem? (i := 2) rfl)) (fun _ h9 => h9) rfl (by decide +kernel) (rfl) rfl (Nat.le_of_ble_eq_true rfl) dX4_dropOldest_65 (fun H locs hP hD hS => ?_)
    have hP : va_P (dC, dI) vwCl (List.flatten [W_LS cI a (s_LS_savedStates S ((g_LS_savedStates S) - (1 : Int32))), W_Sav cS (a 13) [((q 1) 0), ((q 2) 0), ((q 3) 0), ((q 4) 0), ((q 5) 0), ((q 0) 0)], W_State cI (q 0) (Z 0), W_State cI (q 1) (Z 1), W_State cI (q 2) (Z 2), W_State cI (q 3) (Z 3), W_State cI (q 4) (Z 4), W_State cI (q 5) (Z 5)]) H := hP
    have hD : va_D A (List.flatten [W_LS cI a (s_LS_savedStates S ((g_LS_savedStates S) - (1 : Int32))), W_Sav cS (a 13) [((q 1) 0), ((q 2) 0), ((q 3) 0), ((q 4) 0), ((q 5) 0), ((q 0) 0)], W_State cI (q 0) (Z 0), W_State cI (q 1) (Z 1), W_State cI (q 2) (Z 2), W_State cI (q 3) (Z 3), W_State cI (q 4) (Z 4), W_State cI (q 5) (Z 5)]) := hD
    obtain ⟨hP, hD⟩ := jBlk (bs := [W_LS cI a (s_LS_savedStates S ((g_LS_savedStates S) - (1 : Int32))), W_Sav cS (a 13) [((q 1) 0), ((q 2) 0), ((q 3) 0), ((q 4) 0), ((q 5) 0), ((q 0) 0)], W_State cI (q 0) (Z 0), W_State cI (q 1) (Z 1), W_State cI (q 2) (Z 2), W_State cI (q 3) (Z 3), W_State cI (q 4) (Z 4), W_State cI (q 5) (Z 5)]) (bs' := [W_LS cI a (s_LS_savedStates S ((g_LS_savedStates S) - (1 : Int32))), W_Sav cS (a 13) [((q 1) 0), ((q 2) 0), ((q 3) 0), ((q 4) 0), ((q 5) 0), ((q 0) 0)], W_State cI (q 1) (Z 1), W_State cI (q 2) (Z 2), W_State cI (q 3) (Z 3), W_State cI (q 4) (Z 4), W_State cI (q 5) (Z 5), W_State cI (q 0) (Z 0)]) hP hD [0, 1, 3, 4, 5, 6, 7, 2] rfl rfl
    have hP : va_P (dC, dI) vwCl (W_Full cI cS a (mk6 (q 1) (q 2) (q 3) (q 4) (q 5) (q 0)) (s_LS_savedStates S ((g_LS_savedStates S) - (1 : Int32))) (mk6 (Z 1) (Z 2) (Z 3) (Z 4) (Z 5) (Z 0))) H := hP
    have hD : va_D A (W_Full cI cS a (mk6 (q 1) (q 2) (q 3) (q 4) (q 5) (q 0)) (s_LS_savedStates S ((g_LS_savedStates S) - (1 : Int32))) (mk6 (Z 1) (Z 2) (Z 3) (Z 4) (Z 5) (Z 0))) := hD
    have e50 := Option.some.inj hF
    obtain ⟨e60, e51⟩ := Prod.mk.inj e50
    subst e60
    subst e51
    exact W.vret hx hb hr (fun t ht hW => ⟨⟨((s_LS_savedStates S ((g_LS_savedStates S) - (1 : Int32))), (mk6 (Z 1) (Z 2) (Z 3) (Z 4) (Z 5) (Z 0))), rfl, rfl, (mk6 (q 1) (q 2) (q 3) (q 4) (q 5) (q 0)), by rw [ht]; exact hP, va_K.moved hW.alike hK, hD⟩, hS.F ht⟩) hS.2.2 dX4_dropOldest_68
  exact KE _ _ hP hD hS
set_option maxHeartbeats 4000000 in
set_option maxRecDepth 100000 in
theorem c_X4_saveState (l : Launch) (dC : Nat → ClassId) (dI : Nat → Nat → Nat) (cI : ClassId) (cS : ClassId) (a : Nat → Nat) (q : Nat → Nat → Nat) (sz : Nat) (S : S_LS) (Z : (Nat → S_State))  (Y : S_LS) (YZ : (Nat → S_State)) (hF : F_X4_saveState S Z  = some (Y, YZ)) : Met l yX4_saveState wsX4_saveState ({ frames := 4, cells := 0, slots := 0, locals := 129 } : Room) (va_Pc [.ref (a 0)] (jPre (dC, dI) [(cI, .int), (cS, .object "LearnedShapes$State")] sz (W_Full cI cS a q S Z))) (va_Qv (fun u : S_LS × (Nat → S_State) => (Y, YZ) = u) (fun (u : S_LS × (Nat → S_State)) (t : State) => ∃ q9 : Nat → Nat → Nat, jB (dC, dI) [(cI, .int), (cS, .object "LearnedShapes$State")] (va_A (W_Full cI cS a q S Z) sz) (W_Full cI cS a q9 u.1 u.2) t) (va_A (W_Full cI cS a q S Z) sz)) 0 0 (va_A (W_Full cI cS a q S Z) sz) := by
  refine Met.ofW (cc := cX4_saveState) (maxL := 2) (ret := none) (by decide) rfl ?_
  intro p e s m args below meth c s₁ B hml hv
  obtain ⟨rfl, hsz, hP, hK, hD0, hN⟩ := hv
  have hx := B.exec
  have hb := B.bytes
  have hr := B.returns
  have hts := atoms_spec (ws := wsX4_saveState) B.pre
  have hown : s.vm.findClass RX4 = some m.cls := findClass_of_methodNamed B.named
  have hlocks := B.notSynchronized
  have hKi : va_K (dC, dI) vwCl [(cI, .int)] s := hK.sub [0] rfl
  have hinX4 : ∀ w ∈ u_ws RX4 TX4 8, w ∈ wsX4_saveState := by decide +kernel
  subst hsz
  have hD := hD0.self (sz := s.heap.size)
  generalize hAe : (va_A (W_Full cI cS a q S Z) s.heap.size) = A at hD ⊢
  have hA : ∀ q : Nat, s.heap.size ≤ q → A q := fun q h => by rw [← hAe]; exact Or.inr h
  have hS : va_S A s.heap s.heap [] := va_S.rf
  have hl := lv_entry ([.ref (a 0)]) (n := 2) (Nat.le_of_ble_eq_true rfl)
  rw [lg_entry_eq]
  generalize (lg_sl ([.ref (a 0)]) ++ List.replicate (2 - (lg_sl ([.ref (a 0)])).length) Slot.unset).toArray = ls at hl ⊢
  have hl : lv_has ls 2 [(0, .ref (a 0))] := hl
  have KE : ∀ (H : Heap) (locs : List Loc), va_P (dC, dI) vwCl (W_Full cI cS a q S Z) H → va_D A (W_Full cI cS a q S Z) → va_S A s.heap H locs → W p l e (headSpec wsX4_saveState ({ frames := 4, cells := 0, slots := 0, locals := 129 } : Room)).room s m ([.ref (a 0)] : List Value).toArray below meth c H locs 0 0 (MQ below (va_Qv (fun u : S_LS × (Nat → S_State) => (Y, YZ) = u) (fun (u : S_LS × (Nat → S_State)) (t : State) => ∃ q9 : Nat → Nat → Nat, jB (dC, dI) [(cI, .int), (cS, .object "LearnedShapes$State")] A (W_Full cI cS a q9 u.1 u.2) t) A) ([.ref (a 0)] : List Value).toArray s 0 0 A) (F0 m 0 ls []) := by
    intro H locs hP hD hS
    have hP : va_P (dC, dI) vwCl (List.flatten [W_LS cI a S, W_Sav cS (a 13) [((q 0) 0), ((q 1) 0), ((q 2) 0), ((q 3) 0), ((q 4) 0), ((q 5) 0)], W_State cI (q 0) (Z 0), W_State cI (q 1) (Z 1), W_State cI (q 2) (Z 2), W_State cI (q 3) (Z 3), W_State cI (q 4) (Z 4), W_State cI (q 5) (Z 5)]) H := hP
    have hD : va_D A (List.flatten [W_LS cI a S, W_Sav cS (a 13) [((q 0) 0), ((q 1) 0), ((q 2) 0), ((q 3) 0), ((q 4) 0), ((q 5) 0)], W_State cI (q 0) (Z 0), W_State cI (q 1) (Z 1), W_State cI (q 2) (Z 2), W_State cI (q 3) (Z 3), W_State cI (q 4) (Z 4), W_State cI (q 5) (Z 5)]) := hD
    unfold F_X4_saveState at hF
    refine lv_aload_n hx hb dX4_saveState_0 rfl (lv_at hl 0 rfl) ?_
    refine va_get (D := (dC, dI)) (ci := 4) (v := .int (g_LS_savedStates S)) (C := RX4) (T := TX4) (N := 8) hx hb hts hinX4 hown hK hP 0 rfl rfl 5 (by decide) (hts (Cond.fieldLink RX4 125 "LearnedShapes" "savedStates" "I") (List.mem_of_getElem? (i := 1) rfl)) (fun _ h9 => h9) rfl dX4_saveState_1 ?_
    refine lv_aload_n hx hb dX4_saveState_4 rfl (lv_at hl 0 rfl) ?_
    refine va_get (D := (dC, dI)) (ci := 4) (v := .ref (a 13)) (C := RX4) (T := TX4) (N := 8) hx hb hts hinX4 hown hK hP 0 rfl rfl 4 (by decide) (hts (Cond.fieldLink RX4 27 "LearnedShapes" "saved" "[LLearnedShapes$State;") (List.mem_of_getElem? (i := 2) rfl)) (fun _ h9 => h9) rfl dX4_saveState_5 ?_
    refine va_alen (v := (6 : Int32)) hx hb hK hP 13 1 rfl rfl rfl dX4_saveState_8 ?_
    refine lv_icmp_lt (tgt := 16) hx hb dX4_saveState_9 (by decide) (fun c1 => ?_) (fun c1 => ?_)
    · have hF := F_pos c1 hF
      refine lv_aload_n hx hb dX4_saveState_16 rfl (lv_at hl 0 rfl) ?_
      refine lv_aload_n hx hb dX4_saveState_17 rfl (lv_at hl 0 rfl) ?_
      refine va_get (D := (dC, dI)) (ci := 4) (v := .int (g_LS_savedStates S)) (C := RX4) (T := TX4) (N := 8) hx hb hts hinX4 hown hK hP 0 rfl rfl 5 (by decide) (hts (Cond.fieldLink RX4 125 "LearnedShapes" "savedStates" "I") (List.mem_of_getElem? (i := 1) rfl)) (fun _ h9 => h9) rfl dX4_saveState_18 ?_
      by_cases c2 : (g_LS_savedStates S) = (0 : Int32)
      · have hF := F_pos c2 hF
        have hP : va_P (dC, dI) vwCl (W_Full cI cS a q S Z) H := hP
        have hD : va_D A (W_Full cI cS a q S Z) := hD
        have hPc := hP
        have hDc := hD
        have hFc := jFreeW (ws := (W_Full cI cS a q S Z)) hD hS hA
        refine va_callq (va_runV (As := [.int (g_LS_savedStates S)]) (rest := []) ⟨hx, hb, hml, hown, hts⟩ (c_X4_savedAt_0 l dC dI cI cS a q H.size _ _ _ c2) (cwV 1 hts gX4_saveState_X4_savedAt rfl rfl rfl (by decide +kernel) ⟨Nat.le_of_ble_eq_true rfl, Nat.le_of_ble_eq_true rfl⟩) (jPreV hK hPc hDc hN (ci := 4) rfl rfl) rfl rfl hl.1 rfl (lv_room (Nat.le_of_ble_eq_true rfl)) dX4_saveState_21 ⟨Nat.le_of_ble_eq_true rfl, Nat.le_of_ble_eq_true rfl⟩) hS (fun q _ h => hFc q h) hFc (fun r9 u9 t H locs ht hvm hw hB hz1 hk1 hS => ?_)
        subst hw
        obtain ⟨hP1, -, hD1⟩ := hB
        rw [ht] at hP1
        have hP : va_P (dC, dI) vwCl ((W_Full cI cS a q S Z)) H := hP1
        have hD : va_D A ((W_Full cI cS a q S Z)) := hD1.weaken (fun _ _ _ h => hFc _ h)
        have hP : va_P (dC, dI) vwCl (List.flatten [W_LS cI a S, W_Sav cS (a 13) [((q 0) 0), ((q 1) 0), ((q 2) 0), ((q 3) 0), ((q 4) 0), ((q 5) 0)], W_State cI (q 0) (Z 0), W_State cI (q 1) (Z 1), W_State cI (q 2) (Z 2), W_State cI (q 3) (Z 3), W_State cI (q 4) (Z 4), W_State cI (q 5) (Z 5)]) H := hP
        have hD : va_D A (List.flatten [W_LS cI a S, W_Sav cS (a 13) [((q 0) 0), ((q 1) 0), ((q 2) 0), ((q 3) 0), ((q 4) 0), ((q 5) 0)], W_State cI (q 0) (Z 0), W_State cI (q 1) (Z 1), W_State cI (q 2) (Z 2), W_State cI (q 3) (Z 3), W_State cI (q 4) (Z 4), W_State cI (q 5) (Z 5)]) := hD
        refine W.eq (g2 := F0 m 24 ls [.ref ((q 0) 0)]) rfl ?_
        refine lv_astore_n (lv' := [(1, .ref ((q 0) 0)), (0, .ref (a 0))]) hx hb dX4_saveState_24 rfl hl (by decide) rfl (fun ls hl => ?_)
        refine lv_aload_n hx hb dX4_saveState_25 rfl (lv_at hl 0 rfl) ?_
        refine lv_ifnull hx hb dX4_saveState_26 ?_
        refine lv_aload_n hx hb dX4_saveState_29 rfl (lv_at hl 0 rfl) ?_
        refine lv_aload_n hx hb dX4_saveState_30 rfl (lv_at hl 1 rfl) ?_
        refine va_get (D := (dC, dI)) (ci := 4) (v := .ref (a 5)) (C := RX4) (T := TX4) (N := 8) hx hb hts hinX4 hown hK hP 0 rfl rfl 3 (by decide) (hts (Cond.fieldLink RX4 23 "LearnedShapes" "now" "LLearnedShapes$State;") (List.mem_of_getElem? (i := 3) rfl)) (fun _ h9 => h9) rfl dX4_saveState_31 ?_
        obtain ⟨u3, h4, hF⟩ := ob1_some hF
        obtain ⟨hP, hD⟩ := jBlk (bs := [W_LS cI a S, W_Sav cS (a 13) [((q 0) 0), ((q 1) 0), ((q 2) 0), ((q 3) 0), ((q 4) 0), ((q 5) 0)], W_State cI (q 0) (Z 0), W_State cI (q 1) (Z 1), W_State cI (q 2) (Z 2), W_State cI (q 3) (Z 3), W_State cI (q 4) (Z 4), W_State cI (q 5) (Z 5)]) (bs' := [W_LS cI a S, W_State cI (q 0) (Z 0), W_Sav cS (a 13) [((q 0) 0), ((q 1) 0), ((q 2) 0), ((q 3) 0), ((q 4) 0), ((q 5) 0)], W_State cI (q 1) (Z 1), W_State cI (q 2) (Z 2), W_State cI (q 3) (Z 3), W_State cI (q 4) (Z 4), W_State cI (q 5) (Z 5)]) hP hD [0, 2, 1, 3, 4, 5, 6, 7] rfl rfl
        have hPc := hP.sub (ws' := (W_State cI (q 0) (Z 0)) ++ (W_State cI (sh a 5) (g_LS_now S))) [13, 14, 15, 16, 17, 5, 6, 7, 8, 9] rfl
        have hDc := hD.sub (ws' := (W_State cI (q 0) (Z 0)) ++ (W_State cI (sh a 5) (g_LS_now S))) [13, 14, 15, 16, 17, 5, 6, 7, 8, 9] (by decide) rfl
        have hFc := va_free (wc := (W_State cI (q 0) (Z 0)) ++ (W_State cI (sh a 5) (g_LS_now S))) hD hS hA [13, 14, 15, 16, 17, 5, 6, 7, 8, 9] rfl
        refine va_callv (va_runV (As := [.ref (a 5)]) (rest := []) ⟨hx, hb, hml, hown, hts⟩ (c_X2_copyFrom l dC dI cI (q 0) (sh a 5) H.size _ _ _ h4) (cwV 1 hts gX4_saveState_X2_copyFrom rfl rfl rfl (by decide +kernel) ⟨Nat.le_of_ble_eq_true rfl, Nat.le_of_ble_eq_true rfl⟩) (jPreV hKi hPc hDc hN (ci := 2) rfl rfl) rfl rfl hl.1 rfl (lv_room (Nat.le_of_ble_eq_true rfl)) dX4_saveState_34 ⟨Nat.le_of_ble_eq_true rfl, Nat.le_of_ble_eq_true rfl⟩) hS (fun q _ h => hFc q h) hFc (fun u' t H locs ht hvm hw hB hz1 hk1 hS => ?_)
        subst hw
        obtain ⟨hP1, -, hD1⟩ := hB
        rw [ht] at hP1
        obtain ⟨hP, hD⟩ := jJoinF (wa := (W_LS cI a S) ++ (W_State cI (q 0) (Z 0))) (wb := List.flatten [W_Sav cS (a 13) [((q 0) 0), ((q 1) 0), ((q 2) 0), ((q 3) 0), ((q 4) 0), ((q 5) 0)], W_State cI (q 1) (Z 1), W_State cI (q 2) (Z 2), W_State cI (q 3) (Z 3), W_State cI (q 4) (Z 4), W_State cI (q 5) (Z 5)]) (wc := (W_State cI (q 0) (Z 0)) ++ (W_State cI (sh a 5) (g_LS_now S))) (w1 := (W_State cI (q 0) u3) ++ (W_State cI (sh a 5) (g_LS_now S))) (ws' := (W_LS cI a S) ++ (W_State cI (q 0) u3)) hP hD [13, 14, 15, 16, 17, 5, 6, 7, 8, 9] [0, 1, 2, 3, 4, 10, 11, 12] [0, 1, 2, 3, 4, 13, 14, 15, 16, 17, 5, 6, 7, 8, 9, 10, 11, 12] rfl rfl (by decide) (by decide) hk1 hFc hP1 hD1 (by decide) rfl
        obtain ⟨hP, hD⟩ := jBlk (bs := [W_LS cI a S, W_State cI (q 0) u3, W_Sav cS (a 13) [((q 0) 0), ((q 1) 0), ((q 2) 0), ((q 3) 0), ((q 4) 0), ((q 5) 0)], W_State cI (q 1) (Z 1), W_State cI (q 2) (Z 2), W_State cI (q 3) (Z 3), W_State cI (q 4) (Z 4), W_State cI (q 5) (Z 5)]) (bs' := [W_LS cI a S, W_Sav cS (a 13) [((q 0) 0), ((q 1) 0), ((q 2) 0), ((q 3) 0), ((q 4) 0), ((q 5) 0)], W_State cI (q 0) u3, W_State cI (q 1) (Z 1), W_State cI (q 2) (Z 2), W_State cI (q 3) (Z 3), W_State cI (q 4) (Z 4), W_State cI (q 5) (Z 5)]) hP hD [0, 2, 1, 3, 4, 5, 6, 7] rfl rfl
        have hP : va_P (dC, dI) vwCl (List.flatten [W_LS cI a S, W_Sav cS (a 13) [((q 0) 0), ((q 1) 0), ((q 2) 0), ((q 3) 0), ((q 4) 0), ((q 5) 0)], W_State cI (q 0) u3, W_State cI (q 1) (Z 1), W_State cI (q 2) (Z 2), W_State cI (q 3) (Z 3), W_State cI (q 4) (Z 4), W_State cI (q 5) (Z 5)]) H := hP
        have hD : va_D A (List.flatten [W_LS cI a S, W_Sav cS (a 13) [((q 0) 0), ((q 1) 0), ((q 2) 0), ((q 3) 0), ((q 4) 0), ((q 5) 0)], W_State cI (q 0) u3, W_State cI (q 1) (Z 1), W_State cI (q 2) (Z 2), W_State cI (q 3) (Z 3), W_State cI (q 4) (Z 4), W_State cI (q 5) (Z 5)]) := hD
        refine lv_aload_n hx hb dX4_saveState_37 rfl (lv_at hl 1 rfl) ?_
        refine lv_dup hx hb dX4_saveState_38 rfl ?_
        refine va_get (D := (dC, dI)) (ci := 4) (v := .int (g_LS_savedStates S)) (C := RX4) (T := TX4) (N := 8) hx hb hts hinX4 hown hK hP 0 rfl rfl 5 (by decide) (hts (Cond.fieldLink RX4 125 "LearnedShapes" "savedStates" "I") (List.mem_of_getElem? (i := 1) rfl)) (fun _ h9 => h9) rfl dX4_saveState_39 ?_
        refine lv_iconst (v := (1 : Int32)) hx hb dX4_saveState_42 (by decide) ?_
        refine lv_iadd hx hb dX4_saveState_43 ?_
        refine va_put (D := (dC, dI)) (ci := 4) (v := .int ((g_LS_savedStates S) + (1 : Int32))) (ty := .int) (C := RX4) (T := TX4) (N := 8) hx hb hts hinX4 tyX4 tyX4_ok nmX4 hown hK hP hD hS 0 rfl rfl 5 (by decide) (hts (Cond.fieldLink RX4 125 "LearnedShapes" "savedStates" "I") (List.mem_of_getElem? (i := 1) rfl)) (fun _ h9 => h9) rfl (by decide +kernel) (rfl) rfl (Nat.le_of_ble_eq_true rfl) dX4_saveState_44 (fun H locs hP hD hS => ?_)
        have hP : va_P (dC, dI) vwCl (List.flatten [W_LS cI a (s_LS_savedStates S ((g_LS_savedStates S) + (1 : Int32))), W_Sav cS (a 13) [((q 0) 0), ((q 1) 0), ((q 2) 0), ((q 3) 0), ((q 4) 0), ((q 5) 0)], W_State cI (q 0) u3, W_State cI (q 1) (Z 1), W_State cI (q 2) (Z 2), W_State cI (q 3) (Z 3), W_State cI (q 4) (Z 4), W_State cI (q 5) (Z 5)]) H := hP
        have hD : va_D A (List.flatten [W_LS cI a (s_LS_savedStates S ((g_LS_savedStates S) + (1 : Int32))), W_Sav cS (a 13) [((q 0) 0), ((q 1) 0), ((q 2) 0), ((q 3) 0), ((q 4) 0), ((q 5) 0)], W_State cI (q 0) u3, W_State cI (q 1) (Z 1), W_State cI (q 2) (Z 2), W_State cI (q 3) (Z 3), W_State cI (q 4) (Z 4), W_State cI (q 5) (Z 5)]) := hD
        have hP : va_P (dC, dI) vwCl (W_Full cI cS a q (s_LS_savedStates S ((g_LS_savedStates S) + (1 : Int32))) (mk6 u3 (Z 1) (Z 2) (Z 3) (Z 4) (Z 5))) H := hP
        have hD : va_D A (W_Full cI cS a q (s_LS_savedStates S ((g_LS_savedStates S) + (1 : Int32))) (mk6 u3 (Z 1) (Z 2) (Z 3) (Z 4) (Z 5))) := hD
        have e50 := Option.some.inj hF
        obtain ⟨e60, e51⟩ := Prod.mk.inj e50
        subst e60
        subst e51
        exact W.vret hx hb hr (fun t ht hW => ⟨⟨((s_LS_savedStates S ((g_LS_savedStates S) + (1 : Int32))), (mk6 u3 (Z 1) (Z 2) (Z 3) (Z 4) (Z 5))), rfl, rfl, q, by rw [ht]; exact hP, va_K.moved hW.alike hK, hD⟩, hS.F ht⟩) hS.2.2 dX4_saveState_47
      · have hF := F_neg c2 hF
        by_cases c5 : (g_LS_savedStates S) = (1 : Int32)
        · have hF := F_pos c5 hF
          have hP : va_P (dC, dI) vwCl (W_Full cI cS a q S Z) H := hP
          have hD : va_D A (W_Full cI cS a q S Z) := hD
          have hPc := hP
          have hDc := hD
          have hFc := jFreeW (ws := (W_Full cI cS a q S Z)) hD hS hA
          refine va_callq (va_runV (As := [.int (g_LS_savedStates S)]) (rest := []) ⟨hx, hb, hml, hown, hts⟩ (c_X4_savedAt_1 l dC dI cI cS a q H.size _ _ _ c5) (cwV 1 hts gX4_saveState_X4_savedAt rfl rfl rfl (by decide +kernel) ⟨Nat.le_of_ble_eq_true rfl, Nat.le_of_ble_eq_true rfl⟩) (jPreV hK hPc hDc hN (ci := 4) rfl rfl) rfl rfl hl.1 rfl (lv_room (Nat.le_of_ble_eq_true rfl)) dX4_saveState_21 ⟨Nat.le_of_ble_eq_true rfl, Nat.le_of_ble_eq_true rfl⟩) hS (fun q _ h => hFc q h) hFc (fun r9 u9 t H locs ht hvm hw hB hz1 hk1 hS => ?_)
          subst hw
          obtain ⟨hP1, -, hD1⟩ := hB
          rw [ht] at hP1
          have hP : va_P (dC, dI) vwCl ((W_Full cI cS a q S Z)) H := hP1
          have hD : va_D A ((W_Full cI cS a q S Z)) := hD1.weaken (fun _ _ _ h => hFc _ h)
          have hP : va_P (dC, dI) vwCl (List.flatten [W_LS cI a S, W_Sav cS (a 13) [((q 0) 0), ((q 1) 0), ((q 2) 0), ((q 3) 0), ((q 4) 0), ((q 5) 0)], W_State cI (q 0) (Z 0), W_State cI (q 1) (Z 1), W_State cI (q 2) (Z 2), W_State cI (q 3) (Z 3), W_State cI (q 4) (Z 4), W_State cI (q 5) (Z 5)]) H := hP
          have hD : va_D A (List.flatten [W_LS cI a S, W_Sav cS (a 13) [((q 0) 0), ((q 1) 0), ((q 2) 0), ((q 3) 0), ((q 4) 0), ((q 5) 0)], W_State cI (q 0) (Z 0), W_State cI (q 1) (Z 1), W_State cI (q 2) (Z 2), W_State cI (q 3) (Z 3), W_State cI (q 4) (Z 4), W_State cI (q 5) (Z 5)]) := hD
          refine W.eq (g2 := F0 m 24 ls [.ref ((q 1) 0)]) rfl ?_
          refine lv_astore_n (lv' := [(1, .ref ((q 1) 0)), (0, .ref (a 0))]) hx hb dX4_saveState_24 rfl hl (by decide) rfl (fun ls hl => ?_)
          refine lv_aload_n hx hb dX4_saveState_25 rfl (lv_at hl 0 rfl) ?_
          refine lv_ifnull hx hb dX4_saveState_26 ?_
          refine lv_aload_n hx hb dX4_saveState_29 rfl (lv_at hl 0 rfl) ?_
          refine lv_aload_n hx hb dX4_saveState_30 rfl (lv_at hl 1 rfl) ?_
          refine va_get (D := (dC, dI)) (ci := 4) (v := .ref (a 5)) (C := RX4) (T := TX4) (N := 8) hx hb hts hinX4 hown hK hP 0 rfl rfl 3 (by decide) (hts (Cond.fieldLink RX4 23 "LearnedShapes" "now" "LLearnedShapes$State;") (List.mem_of_getElem? (i := 3) rfl)) (fun _ h9 => h9) rfl dX4_saveState_31 ?_
          obtain ⟨u6, h7, hF⟩ := ob1_some hF
          obtain ⟨hP, hD⟩ := jBlk (bs := [W_LS cI a S, W_Sav cS (a 13) [((q 0) 0), ((q 1) 0), ((q 2) 0), ((q 3) 0), ((q 4) 0), ((q 5) 0)], W_State cI (q 0) (Z 0), W_State cI (q 1) (Z 1), W_State cI (q 2) (Z 2), W_State cI (q 3) (Z 3), W_State cI (q 4) (Z 4), W_State cI (q 5) (Z 5)]) (bs' := [W_LS cI a S, W_State cI (q 1) (Z 1), W_Sav cS (a 13) [((q 0) 0), ((q 1) 0), ((q 2) 0), ((q 3) 0), ((q 4) 0), ((q 5) 0)], W_State cI (q 0) (Z 0), W_State cI (q 2) (Z 2), W_State cI (q 3) (Z 3), W_State cI (q 4) (Z 4), W_State cI (q 5) (Z 5)]) hP hD [0, 3, 1, 2, 4, 5, 6, 7] rfl rfl
          have hPc := hP.sub (ws' := (W_State cI (q 1) (Z 1)) ++ (W_State cI (sh a 5) (g_LS_now S))) [13, 14, 15, 16, 17, 5, 6, 7, 8, 9] rfl
          have hDc := hD.sub (ws' := (W_State cI (q 1) (Z 1)) ++ (W_State cI (sh a 5) (g_LS_now S))) [13, 14, 15, 16, 17, 5, 6, 7, 8, 9] (by decide) rfl
          have hFc := va_free (wc := (W_State cI (q 1) (Z 1)) ++ (W_State cI (sh a 5) (g_LS_now S))) hD hS hA [13, 14, 15, 16, 17, 5, 6, 7, 8, 9] rfl
          refine va_callv (va_runV (As := [.ref (a 5)]) (rest := []) ⟨hx, hb, hml, hown, hts⟩ (c_X2_copyFrom l dC dI cI (q 1) (sh a 5) H.size _ _ _ h7) (cwV 1 hts gX4_saveState_X2_copyFrom rfl rfl rfl (by decide +kernel) ⟨Nat.le_of_ble_eq_true rfl, Nat.le_of_ble_eq_true rfl⟩) (jPreV hKi hPc hDc hN (ci := 2) rfl rfl) rfl rfl hl.1 rfl (lv_room (Nat.le_of_ble_eq_true rfl)) dX4_saveState_34 ⟨Nat.le_of_ble_eq_true rfl, Nat.le_of_ble_eq_true rfl⟩) hS (fun q _ h => hFc q h) hFc (fun u' t H locs ht hvm hw hB hz1 hk1 hS => ?_)
          subst hw
          obtain ⟨hP1, -, hD1⟩ := hB
          rw [ht] at hP1
          obtain ⟨hP, hD⟩ := jJoinF (wa := (W_LS cI a S) ++ (W_State cI (q 1) (Z 1))) (wb := List.flatten [W_Sav cS (a 13) [((q 0) 0), ((q 1) 0), ((q 2) 0), ((q 3) 0), ((q 4) 0), ((q 5) 0)], W_State cI (q 0) (Z 0), W_State cI (q 2) (Z 2), W_State cI (q 3) (Z 3), W_State cI (q 4) (Z 4), W_State cI (q 5) (Z 5)]) (wc := (W_State cI (q 1) (Z 1)) ++ (W_State cI (sh a 5) (g_LS_now S))) (w1 := (W_State cI (q 1) u6) ++ (W_State cI (sh a 5) (g_LS_now S))) (ws' := (W_LS cI a S) ++ (W_State cI (q 1) u6)) hP hD [13, 14, 15, 16, 17, 5, 6, 7, 8, 9] [0, 1, 2, 3, 4, 10, 11, 12] [0, 1, 2, 3, 4, 13, 14, 15, 16, 17, 5, 6, 7, 8, 9, 10, 11, 12] rfl rfl (by decide) (by decide) hk1 hFc hP1 hD1 (by decide) rfl
          obtain ⟨hP, hD⟩ := jBlk (bs := [W_LS cI a S, W_State cI (q 1) u6, W_Sav cS (a 13) [((q 0) 0), ((q 1) 0), ((q 2) 0), ((q 3) 0), ((q 4) 0), ((q 5) 0)], W_State cI (q 0) (Z 0), W_State cI (q 2) (Z 2), W_State cI (q 3) (Z 3), W_State cI (q 4) (Z 4), W_State cI (q 5) (Z 5)]) (bs' := [W_LS cI a S, W_Sav cS (a 13) [((q 0) 0), ((q 1) 0), ((q 2) 0), ((q 3) 0), ((q 4) 0), ((q 5) 0)], W_State cI (q 0) (Z 0), W_State cI (q 1) u6, W_State cI (q 2) (Z 2), W_State cI (q 3) (Z 3), W_State cI (q 4) (Z 4), W_State cI (q 5) (Z 5)]) hP hD [0, 2, 3, 1, 4, 5, 6, 7] rfl rfl
          have hP : va_P (dC, dI) vwCl (List.flatten [W_LS cI a S, W_Sav cS (a 13) [((q 0) 0), ((q 1) 0), ((q 2) 0), ((q 3) 0), ((q 4) 0), ((q 5) 0)], W_State cI (q 0) (Z 0), W_State cI (q 1) u6, W_State cI (q 2) (Z 2), W_State cI (q 3) (Z 3), W_State cI (q 4) (Z 4), W_State cI (q 5) (Z 5)]) H := hP
          have hD : va_D A (List.flatten [W_LS cI a S, W_Sav cS (a 13) [((q 0) 0), ((q 1) 0), ((q 2) 0), ((q 3) 0), ((q 4) 0), ((q 5) 0)], W_State cI (q 0) (Z 0), W_State cI (q 1) u6, W_State cI (q 2) (Z 2), W_State cI (q 3) (Z 3), W_State cI (q 4) (Z 4), W_State cI (q 5) (Z 5)]) := hD
          refine lv_aload_n hx hb dX4_saveState_37 rfl (lv_at hl 1 rfl) ?_
          refine lv_dup hx hb dX4_saveState_38 rfl ?_
          refine va_get (D := (dC, dI)) (ci := 4) (v := .int (g_LS_savedStates S)) (C := RX4) (T := TX4) (N := 8) hx hb hts hinX4 hown hK hP 0 rfl rfl 5 (by decide) (hts (Cond.fieldLink RX4 125 "LearnedShapes" "savedStates" "I") (List.mem_of_getElem? (i := 1) rfl)) (fun _ h9 => h9) rfl dX4_saveState_39 ?_
          refine lv_iconst (v := (1 : Int32)) hx hb dX4_saveState_42 (by decide) ?_
          refine lv_iadd hx hb dX4_saveState_43 ?_
          refine va_put (D := (dC, dI)) (ci := 4) (v := .int ((g_LS_savedStates S) + (1 : Int32))) (ty := .int) (C := RX4) (T := TX4) (N := 8) hx hb hts hinX4 tyX4 tyX4_ok nmX4 hown hK hP hD hS 0 rfl rfl 5 (by decide) (hts (Cond.fieldLink RX4 125 "LearnedShapes" "savedStates" "I") (List.mem_of_getElem? (i := 1) rfl)) (fun _ h9 => h9) rfl (by decide +kernel) (rfl) rfl (Nat.le_of_ble_eq_true rfl) dX4_saveState_44 (fun H locs hP hD hS => ?_)
          have hP : va_P (dC, dI) vwCl (List.flatten [W_LS cI a (s_LS_savedStates S ((g_LS_savedStates S) + (1 : Int32))), W_Sav cS (a 13) [((q 0) 0), ((q 1) 0), ((q 2) 0), ((q 3) 0), ((q 4) 0), ((q 5) 0)], W_State cI (q 0) (Z 0), W_State cI (q 1) u6, W_State cI (q 2) (Z 2), W_State cI (q 3) (Z 3), W_State cI (q 4) (Z 4), W_State cI (q 5) (Z 5)]) H := hP
          have hD : va_D A (List.flatten [W_LS cI a (s_LS_savedStates S ((g_LS_savedStates S) + (1 : Int32))), W_Sav cS (a 13) [((q 0) 0), ((q 1) 0), ((q 2) 0), ((q 3) 0), ((q 4) 0), ((q 5) 0)], W_State cI (q 0) (Z 0), W_State cI (q 1) u6, W_State cI (q 2) (Z 2), W_State cI (q 3) (Z 3), W_State cI (q 4) (Z 4), W_State cI (q 5) (Z 5)]) := hD
          have hP : va_P (dC, dI) vwCl (W_Full cI cS a q (s_LS_savedStates S ((g_LS_savedStates S) + (1 : Int32))) (mk6 (Z 0) u6 (Z 2) (Z 3) (Z 4) (Z 5))) H := hP
          have hD : va_D A (W_Full cI cS a q (s_LS_savedStates S ((g_LS_savedStates S) + (1 : Int32))) (mk6 (Z 0) u6 (Z 2) (Z 3) (Z 4) (Z 5))) := hD
          have e50 := Option.some.inj hF
          obtain ⟨e60, e51⟩ := Prod.mk.inj e50
          subst e60
          subst e51
          exact W.vret hx hb hr (fun t ht hW => ⟨⟨((s_LS_savedStates S ((g_LS_savedStates S) + (1 : Int32))), (mk6 (Z 0) u6 (Z 2) (Z 3) (Z 4) (Z 5))), rfl, rfl, q, by rw [ht]; exact hP, va_K.moved hW.alike hK, hD⟩, hS.F ht⟩) hS.2.2 dX4_saveState_47
        · have hF := F_neg c5 hF
          by_cases c8 : (g_LS_savedStates S) = (2 : Int32)
          · have hF := F_pos c8 hF
            have hP : va_P (dC, dI) vwCl (W_Full cI cS a q S Z) H := hP
            have hD : va_D A (W_Full cI cS a q S Z) := hD
            have hPc := hP
            have hDc := hD
            have hFc := jFreeW (ws := (W_Full cI cS a q S Z)) hD hS hA
            refine va_callq (va_runV (As := [.int (g_LS_savedStates S)]) (rest := []) ⟨hx, hb, hml, hown, hts⟩ (c_X4_savedAt_2 l dC dI cI cS a q H.size _ _ _ c8) (cwV 1 hts gX4_saveState_X4_savedAt rfl rfl rfl (by decide +kernel) ⟨Nat.le_of_ble_eq_true rfl, Nat.le_of_ble_eq_true rfl⟩) (jPreV hK hPc hDc hN (ci := 4) rfl rfl) rfl rfl hl.1 rfl (lv_room (Nat.le_of_ble_eq_true rfl)) dX4_saveState_21 ⟨Nat.le_of_ble_eq_true rfl, Nat.le_of_ble_eq_true rfl⟩) hS (fun q _ h => hFc q h) hFc (fun r9 u9 t H locs ht hvm hw hB hz1 hk1 hS => ?_)
            subst hw
            obtain ⟨hP1, -, hD1⟩ := hB
            rw [ht] at hP1
            have hP : va_P (dC, dI) vwCl ((W_Full cI cS a q S Z)) H := hP1
            have hD : va_D A ((W_Full cI cS a q S Z)) := hD1.weaken (fun _ _ _ h => hFc _ h)
            have hP : va_P (dC, dI) vwCl (List.flatten [W_LS cI a S, W_Sav cS (a 13) [((q 0) 0), ((q 1) 0), ((q 2) 0), ((q 3) 0), ((q 4) 0), ((q 5) 0)], W_State cI (q 0) (Z 0), W_State cI (q 1) (Z 1), W_State cI (q 2) (Z 2), W_State cI (q 3) (Z 3), W_State cI (q 4) (Z 4), W_State cI (q 5) (Z 5)]) H := hP
            have hD : va_D A (List.flatten [W_LS cI a S, W_Sav cS (a 13) [((q 0) 0), ((q 1) 0), ((q 2) 0), ((q 3) 0), ((q 4) 0), ((q 5) 0)], W_State cI (q 0) (Z 0), W_State cI (q 1) (Z 1), W_State cI (q 2) (Z 2), W_State cI (q 3) (Z 3), W_State cI (q 4) (Z 4), W_State cI (q 5) (Z 5)]) := hD
            refine W.eq (g2 := F0 m 24 ls [.ref ((q 2) 0)]) rfl ?_
            refine lv_astore_n (lv' := [(1, .ref ((q 2) 0)), (0, .ref (a 0))]) hx hb dX4_saveState_24 rfl hl (by decide) rfl (fun ls hl => ?_)
            refine lv_aload_n hx hb dX4_saveState_25 rfl (lv_at hl 0 rfl) ?_
            refine lv_ifnull hx hb dX4_saveState_26 ?_
            refine lv_aload_n hx hb dX4_saveState_29 rfl (lv_at hl 0 rfl) ?_
            refine lv_aload_n hx hb dX4_saveState_30 rfl (lv_at hl 1 rfl) ?_
            refine va_get (D := (dC, dI)) (ci := 4) (v := .ref (a 5)) (C := RX4) (T := TX4) (N := 8) hx hb hts hinX4 hown hK hP 0 rfl rfl 3 (by decide) (hts (Cond.fieldLink RX4 23 "LearnedShapes" "now" "LLearnedShapes$State;") (List.mem_of_getElem? (i := 3) rfl)) (fun _ h9 => h9) rfl dX4_saveState_31 ?_
            obtain ⟨u9, h10, hF⟩ := ob1_some hF
            obtain ⟨hP, hD⟩ := jBlk (bs := [W_LS cI a S, W_Sav cS (a 13) [((q 0) 0), ((q 1) 0), ((q 2) 0), ((q 3) 0), ((q 4) 0), ((q 5) 0)], W_State cI (q 0) (Z 0), W_State cI (q 1) (Z 1), W_State cI (q 2) (Z 2), W_State cI (q 3) (Z 3), W_State cI (q 4) (Z 4), W_State cI (q 5) (Z 5)]) (bs' := [W_LS cI a S, W_State cI (q 2) (Z 2), W_Sav cS (a 13) [((q 0) 0), ((q 1) 0), ((q 2) 0), ((q 3) 0), ((q 4) 0), ((q 5) 0)], W_State cI (q 0) (Z 0), W_State cI (q 1) (Z 1), W_State cI (q 3) (Z 3), W_State cI (q 4) (Z 4), W_State cI (q 5) (Z 5)]) hP hD [0, 4, 1, 2, 3, 5, 6, 7] rfl rfl
            have hPc := hP.sub (ws' := (W_State cI (q 2) (Z 2)) ++ (W_State cI (sh a 5) (g_LS_now S))) [13, 14, 15, 16, 17, 5, 6, 7, 8, 9] rfl
            have hDc := hD.sub (ws' := (W_State cI (q 2) (Z 2)) ++ (W_State cI (sh a 5) (g_LS_now S))) [13, 14, 15, 16, 17, 5, 6, 7, 8, 9] (by decide) rfl
            have hFc := va_free (wc := (W_State cI (q 2) (Z 2)) ++ (W_State cI (sh a 5) (g_LS_now S))) hD hS hA [13, 14, 15, 16, 17, 5, 6, 7, 8, 9] rfl
            refine va_callv (va_runV (As := [.ref (a 5)]) (rest := []) ⟨hx, hb, hml, hown, hts⟩ (c_X2_copyFrom l dC dI cI (q 2) (sh a 5) H.size _ _ _ h10) (cwV 1 hts gX4_saveState_X2_copyFrom rfl rfl rfl (by decide +kernel) ⟨Nat.le_of_ble_eq_true rfl, Nat.le_of_ble_eq_true rfl⟩) (jPreV hKi hPc hDc hN (ci := 2) rfl rfl) rfl rfl hl.1 rfl (lv_room (Nat.le_of_ble_eq_true rfl)) dX4_saveState_34 ⟨Nat.le_of_ble_eq_true rfl, Nat.le_of_ble_eq_true rfl⟩) hS (fun q _ h => hFc q h) hFc (fun u' t H locs ht hvm hw hB hz1 hk1 hS => ?_)
            subst hw
            obtain ⟨hP1, -, hD1⟩ := hB
            rw [ht] at hP1
            obtain ⟨hP, hD⟩ := jJoinF (wa := (W_LS cI a S) ++ (W_State cI (q 2) (Z 2))) (wb := List.flatten [W_Sav cS (a 13) [((q 0) 0), ((q 1) 0), ((q 2) 0), ((q 3) 0), ((q 4) 0), ((q 5) 0)], W_State cI (q 0) (Z 0), W_State cI (q 1) (Z 1), W_State cI (q 3) (Z 3), W_State cI (q 4) (Z 4), W_State cI (q 5) (Z 5)]) (wc := (W_State cI (q 2) (Z 2)) ++ (W_State cI (sh a 5) (g_LS_now S))) (w1 := (W_State cI (q 2) u9) ++ (W_State cI (sh a 5) (g_LS_now S))) (ws' := (W_LS cI a S) ++ (W_State cI (q 2) u9)) hP hD [13, 14, 15, 16, 17, 5, 6, 7, 8, 9] [0, 1, 2, 3, 4, 10, 11, 12] [0, 1, 2, 3, 4, 13, 14, 15, 16, 17, 5, 6, 7, 8, 9, 10, 11, 12] rfl rfl (by decide) (by decide) hk1 hFc hP1 hD1 (by decide) rfl
            obtain ⟨hP, hD⟩ := jBlk (bs := [W_LS cI a S, W_State cI (q 2) u9, W_Sav cS (a 13) [((q 0) 0), ((q 1) 0), ((q 2) 0), ((q 3) 0), ((q 4) 0), ((q 5) 0)], W_State cI (q 0) (Z 0), W_State cI (q 1) (Z 1), W_State cI (q 3) (Z 3), W_State cI (q 4) (Z 4), W_State cI (q 5) (Z 5)]) (bs' := [W_LS cI a S, W_Sav cS (a 13) [((q 0) 0), ((q 1) 0), ((q 2) 0), ((q 3) 0), ((q 4) 0), ((q 5) 0)], W_State cI (q 0) (Z 0), W_State cI (q 1) (Z 1), W_State cI (q 2) u9, W_State cI (q 3) (Z 3), W_State cI (q 4) (Z 4), W_State cI (q 5) (Z 5)]) hP hD [0, 2, 3, 4, 1, 5, 6, 7] rfl rfl
            have hP : va_P (dC, dI) vwCl (List.flatten [W_LS cI a S, W_Sav cS (a 13) [((q 0) 0), ((q 1) 0), ((q 2) 0), ((q 3) 0), ((q 4) 0), ((q 5) 0)], W_State cI (q 0) (Z 0), W_State cI (q 1) (Z 1), W_State cI (q 2) u9, W_State cI (q 3) (Z 3), W_State cI (q 4) (Z 4), W_State cI (q 5) (Z 5)]) H := hP
            have hD : va_D A (List.flatten [W_LS cI a S, W_Sav cS (a 13) [((q 0) 0), ((q 1) 0), ((q 2) 0), ((q 3) 0), ((q 4) 0), ((q 5) 0)], W_State cI (q 0) (Z 0), W_State cI (q 1) (Z 1), W_State cI (q 2) u9, W_State cI (q 3) (Z 3), W_State cI (q 4) (Z 4), W_State cI (q 5) (Z 5)]) := hD
            refine lv_aload_n hx hb dX4_saveState_37 rfl (lv_at hl 1 rfl) ?_
            refine lv_dup hx hb dX4_saveState_38 rfl ?_
            refine va_get (D := (dC, dI)) (ci := 4) (v := .int (g_LS_savedStates S)) (C := RX4) (T := TX4) (N := 8) hx hb hts hinX4 hown hK hP 0 rfl rfl 5 (by decide) (hts (Cond.fieldLink RX4 125 "LearnedShapes" "savedStates" "I") (List.mem_of_getElem? (i := 1) rfl)) (fun _ h9 => h9) rfl dX4_saveState_39 ?_
            refine lv_iconst (v := (1 : Int32)) hx hb dX4_saveState_42 (by decide) ?_
            refine lv_iadd hx hb dX4_saveState_43 ?_
            refine va_put (D := (dC, dI)) (ci := 4) (v := .int ((g_LS_savedStates S) + (1 : Int32))) (ty := .int) (C := RX4) (T := TX4) (N := 8) hx hb hts hinX4 tyX4 tyX4_ok nmX4 hown hK hP hD hS 0 rfl rfl 5 (by decide) (hts (Cond.fieldLink RX4 125 "LearnedShapes" "savedStates" "I") (List.mem_of_getElem? (i := 1) rfl)) (fun _ h9 => h9) rfl (by decide +kernel) (rfl) rfl (Nat.le_of_ble_eq_true rfl) dX4_saveState_44 (fun H locs hP hD hS => ?_)
            have hP : va_P (dC, dI) vwCl (List.flatten [W_LS cI a (s_LS_savedStates S ((g_LS_savedStates S) + (1 : Int32))), W_Sav cS (a 13) [((q 0) 0), ((q 1) 0), ((q 2) 0), ((q 3) 0), ((q 4) 0), ((q 5) 0)], W_State cI (q 0) (Z 0), W_State cI (q 1) (Z 1), W_State cI (q 2) u9, W_State cI (q 3) (Z 3), W_State cI (q 4) (Z 4), W_State cI (q 5) (Z 5)]) H := hP
            have hD : va_D A (List.flatten [W_LS cI a (s_LS_savedStates S ((g_LS_savedStates S) + (1 : Int32))), W_Sav cS (a 13) [((q 0) 0), ((q 1) 0), ((q 2) 0), ((q 3) 0), ((q 4) 0), ((q 5) 0)], W_State cI (q 0) (Z 0), W_State cI (q 1) (Z 1), W_State cI (q 2) u9, W_State cI (q 3) (Z 3), W_State cI (q 4) (Z 4), W_State cI (q 5) (Z 5)]) := hD
            have hP : va_P (dC, dI) vwCl (W_Full cI cS a q (s_LS_savedStates S ((g_LS_savedStates S) + (1 : Int32))) (mk6 (Z 0) (Z 1) u9 (Z 3) (Z 4) (Z 5))) H := hP
            have hD : va_D A (W_Full cI cS a q (s_LS_savedStates S ((g_LS_savedStates S) + (1 : Int32))) (mk6 (Z 0) (Z 1) u9 (Z 3) (Z 4) (Z 5))) := hD
            have e50 := Option.some.inj hF
            obtain ⟨e60, e51⟩ := Prod.mk.inj e50
            subst e60
            subst e51
            exact W.vret hx hb hr (fun t ht hW => ⟨⟨((s_LS_savedStates S ((g_LS_savedStates S) + (1 : Int32))), (mk6 (Z 0) (Z 1) u9 (Z 3) (Z 4) (Z 5))), rfl, rfl, q, by rw [ht]; exact hP, va_K.moved hW.alike hK, hD⟩, hS.F ht⟩) hS.2.2 dX4_saveState_47
          · have hF := F_neg c8 hF
            by_cases c11 : (g_LS_savedStates S) = (3 : Int32)
            · have hF := F_pos c11 hF
              have hP : va_P (dC, dI) vwCl (W_Full cI cS a q S Z) H := hP
              have hD : va_D A (W_Full cI cS a q S Z) := hD
              have hPc := hP
              have hDc := hD
              have hFc := jFreeW (ws := (W_Full cI cS a q S Z)) hD hS hA
              refine va_callq (va_runV (As := [.int (g_LS_savedStates S)]) (rest := []) ⟨hx, hb, hml, hown, hts⟩ (c_X4_savedAt_3 l dC dI cI cS a q H.size _ _ _ c11) (cwV 1 hts gX4_saveState_X4_savedAt rfl rfl rfl (by decide +kernel) ⟨Nat.le_of_ble_eq_true rfl, Nat.le_of_ble_eq_true rfl⟩) (jPreV hK hPc hDc hN (ci := 4) rfl rfl) rfl rfl hl.1 rfl (lv_room (Nat.le_of_ble_eq_true rfl)) dX4_saveState_21 ⟨Nat.le_of_ble_eq_true rfl, Nat.le_of_ble_eq_true rfl⟩) hS (fun q _ h => hFc q h) hFc (fun r9 u9 t H locs ht hvm hw hB hz1 hk1 hS => ?_)
              subst hw
              obtain ⟨hP1, -, hD1⟩ := hB
              rw [ht] at hP1
              have hP : va_P (dC, dI) vwCl ((W_Full cI cS a q S Z)) H := hP1
              have hD : va_D A ((W_Full cI cS a q S Z)) := hD1.weaken (fun _ _ _ h => hFc _ h)
              have hP : va_P (dC, dI) vwCl (List.flatten [W_LS cI a S, W_Sav cS (a 13) [((q 0) 0), ((q 1) 0), ((q 2) 0), ((q 3) 0), ((q 4) 0), ((q 5) 0)], W_State cI (q 0) (Z 0), W_State cI (q 1) (Z 1), W_State cI (q 2) (Z 2), W_State cI (q 3) (Z 3), W_State cI (q 4) (Z 4), W_State cI (q 5) (Z 5)]) H := hP
              have hD : va_D A (List.flatten [W_LS cI a S, W_Sav cS (a 13) [((q 0) 0), ((q 1) 0), ((q 2) 0), ((q 3) 0), ((q 4) 0), ((q 5) 0)], W_State cI (q 0) (Z 0), W_State cI (q 1) (Z 1), W_State cI (q 2) (Z 2), W_State cI (q 3) (Z 3), W_State cI (q 4) (Z 4), W_State cI (q 5) (Z 5)]) := hD
              refine W.eq (g2 := F0 m 24 ls [.ref ((q 3) 0)]) rfl ?_
              refine lv_astore_n (lv' := [(1, .ref ((q 3) 0)), (0, .ref (a 0))]) hx hb dX4_saveState_24 rfl hl (by decide) rfl (fun ls hl => ?_)
              refine lv_aload_n hx hb dX4_saveState_25 rfl (lv_at hl 0 rfl) ?_
              refine lv_ifnull hx hb dX4_saveState_26 ?_
              refine lv_aload_n hx hb dX4_saveState_29 rfl (lv_at hl 0 rfl) ?_
              refine lv_aload_n hx hb dX4_saveState_30 rfl (lv_at hl 1 rfl) ?_
              refine va_get (D := (dC, dI)) (ci := 4) (v := .ref (a 5)) (C := RX4) (T := TX4) (N := 8) hx hb hts hinX4 hown hK hP 0 rfl rfl 3 (by decide) (hts (Cond.fieldLink RX4 23 "LearnedShapes" "now" "LLearnedShapes$State;") (List.mem_of_getElem? (i := 3) rfl)) (fun _ h9 => h9) rfl dX4_saveState_31 ?_
              obtain ⟨u12, h13, hF⟩ := ob1_some hF
              obtain ⟨hP, hD⟩ := jBlk (bs := [W_LS cI a S, W_Sav cS (a 13) [((q 0) 0), ((q 1) 0), ((q 2) 0), ((q 3) 0), ((q 4) 0), ((q 5) 0)], W_State cI (q 0) (Z 0), W_State cI (q 1) (Z 1), W_State cI (q 2) (Z 2), W_State cI (q 3) (Z 3), W_State cI (q 4) (Z 4), W_State cI (q 5) (Z 5)]) (bs' := [W_LS cI a S, W_State cI (q 3) (Z 3), W_Sav cS (a 13) [((q 0) 0), ((q 1) 0), ((q 2) 0), ((q 3) 0), ((q 4) 0), ((q 5) 0)], W_State cI (q 0) (Z 0), W_State cI (q 1) (Z 1), W_State cI (q 2) (Z 2), W_State cI (q 4) (Z 4), W_State cI (q 5) (Z 5)]) hP hD [0, 5, 1, 2, 3, 4, 6, 7] rfl rfl
              have hPc := hP.sub (ws' := (W_State cI (q 3) (Z 3)) ++ (W_State cI (sh a 5) (g_LS_now S))) [13, 14, 15, 16, 17, 5, 6, 7, 8, 9] rfl
              have hDc := hD.sub (ws' := (W_State cI (q 3) (Z 3)) ++ (W_State cI (sh a 5) (g_LS_now S))) [13, 14, 15, 16, 17, 5, 6, 7, 8, 9] (by decide) rfl
              have hFc := va_free (wc := (W_State cI (q 3) (Z 3)) ++ (W_State cI (sh a 5) (g_LS_now S))) hD hS hA [13, 14, 15, 16, 17, 5, 6, 7, 8, 9] rfl
              refine va_callv (va_runV (As := [.ref (a 5)]) (rest := []) ⟨hx, hb, hml, hown, hts⟩ (c_X2_copyFrom l dC dI cI (q 3) (sh a 5) H.size _ _ _ h13) (cwV 1 hts gX4_saveState_X2_copyFrom rfl rfl rfl (by decide +kernel) ⟨Nat.le_of_ble_eq_true rfl, Nat.le_of_ble_eq_true rfl⟩) (jPreV hKi hPc hDc hN (ci := 2) rfl rfl) rfl rfl hl.1 rfl (lv_room (Nat.le_of_ble_eq_true rfl)) dX4_saveState_34 ⟨Nat.le_of_ble_eq_true rfl, Nat.le_of_ble_eq_true rfl⟩) hS (fun q _ h => hFc q h) hFc (fun u' t H locs ht hvm hw hB hz1 hk1 hS => ?_)
              subst hw
              obtain ⟨hP1, -, hD1⟩ := hB
              rw [ht] at hP1
              obtain ⟨hP, hD⟩ := jJoinF (wa := (W_LS cI a S) ++ (W_State cI (q 3) (Z 3))) (wb := List.flatten [W_Sav cS (a 13) [((q 0) 0), ((q 1) 0), ((q 2) 0), ((q 3) 0), ((q 4) 0), ((q 5) 0)], W_State cI (q 0) (Z 0), W_State cI (q 1) (Z 1), W_State cI (q 2) (Z 2), W_State cI (q 4) (Z 4), W_State cI (q 5) (Z 5)]) (wc := (W_State cI (q 3) (Z 3)) ++ (W_State cI (sh a 5) (g_LS_now S))) (w1 := (W_State cI (q 3) u12) ++ (W_State cI (sh a 5) (g_LS_now S))) (ws' := (W_LS cI a S) ++ (W_State cI (q 3) u12)) hP hD [13, 14, 15, 16, 17, 5, 6, 7, 8, 9] [0, 1, 2, 3, 4, 10, 11, 12] [0, 1, 2, 3, 4, 13, 14, 15, 16, 17, 5, 6, 7, 8, 9, 10, 11, 12] rfl rfl (by decide) (by decide) hk1 hFc hP1 hD1 (by decide) rfl
              obtain ⟨hP, hD⟩ := jBlk (bs := [W_LS cI a S, W_State cI (q 3) u12, W_Sav cS (a 13) [((q 0) 0), ((q 1) 0), ((q 2) 0), ((q 3) 0), ((q 4) 0), ((q 5) 0)], W_State cI (q 0) (Z 0), W_State cI (q 1) (Z 1), W_State cI (q 2) (Z 2), W_State cI (q 4) (Z 4), W_State cI (q 5) (Z 5)]) (bs' := [W_LS cI a S, W_Sav cS (a 13) [((q 0) 0), ((q 1) 0), ((q 2) 0), ((q 3) 0), ((q 4) 0), ((q 5) 0)], W_State cI (q 0) (Z 0), W_State cI (q 1) (Z 1), W_State cI (q 2) (Z 2), W_State cI (q 3) u12, W_State cI (q 4) (Z 4), W_State cI (q 5) (Z 5)]) hP hD [0, 2, 3, 4, 5, 1, 6, 7] rfl rfl
              have hP : va_P (dC, dI) vwCl (List.flatten [W_LS cI a S, W_Sav cS (a 13) [((q 0) 0), ((q 1) 0), ((q 2) 0), ((q 3) 0), ((q 4) 0), ((q 5) 0)], W_State cI (q 0) (Z 0), W_State cI (q 1) (Z 1), W_State cI (q 2) (Z 2), W_State cI (q 3) u12, W_State cI (q 4) (Z 4), W_State cI (q 5) (Z 5)]) H := hP
              have hD : va_D A (List.flatten [W_LS cI a S, W_Sav cS (a 13) [((q 0) 0), ((q 1) 0), ((q 2) 0), ((q 3) 0), ((q 4) 0), ((q 5) 0)], W_State cI (q 0) (Z 0), W_State cI (q 1) (Z 1), W_State cI (q 2) (Z 2), W_State cI (q 3) u12, W_State cI (q 4) (Z 4), W_State cI (q 5) (Z 5)]) := hD
              refine lv_aload_n hx hb dX4_saveState_37 rfl (lv_at hl 1 rfl) ?_
              refine lv_dup hx hb dX4_saveState_38 rfl ?_
              refine va_get (D := (dC, dI)) (ci := 4) (v := .int (g_LS_savedStates S)) (C := RX4) (T := TX4) (N := 8) hx hb hts hinX4 hown hK hP 0 rfl rfl 5 (by decide) (hts (Cond.fieldLink RX4 125 "LearnedShapes" "savedStates" "I") (List.mem_of_getElem? (i := 1) rfl)) (fun _ h9 => h9) rfl dX4_saveState_39 ?_
              refine lv_iconst (v := (1 : Int32)) hx hb dX4_saveState_42 (by decide) ?_
              refine lv_iadd hx hb dX4_saveState_43 ?_
              refine va_put (D := (dC, dI)) (ci := 4) (v := .int ((g_LS_savedStates S) + (1 : Int32))) (ty := .int) (C := RX4) (T := TX4) (N := 8) hx hb hts hinX4 tyX4 tyX4_ok nmX4 hown hK hP hD hS 0 rfl rfl 5 (by decide) (hts (Cond.fieldLink RX4 125 "LearnedShapes" "savedStates" "I") (List.mem_of_getElem? (i := 1) rfl)) (fun _ h9 => h9) rfl (by decide +kernel) (rfl) rfl (Nat.le_of_ble_eq_true rfl) dX4_saveState_44 (fun H locs hP hD hS => ?_)
              have hP : va_P (dC, dI) vwCl (List.flatten [W_LS cI a (s_LS_savedStates S ((g_LS_savedStates S) + (1 : Int32))), W_Sav cS (a 13) [((q 0) 0), ((q 1) 0), ((q 2) 0), ((q 3) 0), ((q 4) 0), ((q 5) 0)], W_State cI (q 0) (Z 0), W_State cI (q 1) (Z 1), W_State cI (q 2) (Z 2), W_State cI (q 3) u12, W_State cI (q 4) (Z 4), W_State cI (q 5) (Z 5)]) H := hP
              have hD : va_D A (List.flatten [W_LS cI a (s_LS_savedStates S ((g_LS_savedStates S) + (1 : Int32))), W_Sav cS (a 13) [((q 0) 0), ((q 1) 0), ((q 2) 0), ((q 3) 0), ((q 4) 0), ((q 5) 0)], W_State cI (q 0) (Z 0), W_State cI (q 1) (Z 1), W_State cI (q 2) (Z 2), W_State cI (q 3) u12, W_State cI (q 4) (Z 4), W_State cI (q 5) (Z 5)]) := hD
              have hP : va_P (dC, dI) vwCl (W_Full cI cS a q (s_LS_savedStates S ((g_LS_savedStates S) + (1 : Int32))) (mk6 (Z 0) (Z 1) (Z 2) u12 (Z 4) (Z 5))) H := hP
              have hD : va_D A (W_Full cI cS a q (s_LS_savedStates S ((g_LS_savedStates S) + (1 : Int32))) (mk6 (Z 0) (Z 1) (Z 2) u12 (Z 4) (Z 5))) := hD
              have e50 := Option.some.inj hF
              obtain ⟨e60, e51⟩ := Prod.mk.inj e50
              subst e60
              subst e51
              exact W.vret hx hb hr (fun t ht hW => ⟨⟨((s_LS_savedStates S ((g_LS_savedStates S) + (1 : Int32))), (mk6 (Z 0) (Z 1) (Z 2) u12 (Z 4) (Z 5))), rfl, rfl, q, by rw [ht]; exact hP, va_K.moved hW.alike hK, hD⟩, hS.F ht⟩) hS.2.2 dX4_saveState_47
            · have hF := F_neg c11 hF
              by_cases c14 : (g_LS_savedStates S) = (4 : Int32)
              · have hF := F_pos c14 hF
                have hP : va_P (dC, dI) vwCl (W_Full cI cS a q S Z) H := hP
                have hD : va_D A (W_Full cI cS a q S Z) := hD
                have hPc := hP
                have hDc := hD
                have hFc := jFreeW (ws := (W_Full cI cS a q S Z)) hD hS hA
                refine va_callq (va_runV (As := [.int (g_LS_savedStates S)]) (rest := []) ⟨hx, hb, hml, hown, hts⟩ (c_X4_savedAt_4 l dC dI cI cS a q H.size _ _ _ c14) (cwV 1 hts gX4_saveState_X4_savedAt rfl rfl rfl (by decide +kernel) ⟨Nat.le_of_ble_eq_true rfl, Nat.le_of_ble_eq_true rfl⟩) (jPreV hK hPc hDc hN (ci := 4) rfl rfl) rfl rfl hl.1 rfl (lv_room (Nat.le_of_ble_eq_true rfl)) dX4_saveState_21 ⟨Nat.le_of_ble_eq_true rfl, Nat.le_of_ble_eq_true rfl⟩) hS (fun q _ h => hFc q h) hFc (fun r9 u9 t H locs ht hvm hw hB hz1 hk1 hS => ?_)
                subst hw
                obtain ⟨hP1, -, hD1⟩ := hB
                rw [ht] at hP1
                have hP : va_P (dC, dI) vwCl ((W_Full cI cS a q S Z)) H := hP1
                have hD : va_D A ((W_Full cI cS a q S Z)) := hD1.weaken (fun _ _ _ h => hFc _ h)
                have hP : va_P (dC, dI) vwCl (List.flatten [W_LS cI a S, W_Sav cS (a 13) [((q 0) 0), ((q 1) 0), ((q 2) 0), ((q 3) 0), ((q 4) 0), ((q 5) 0)], W_State cI (q 0) (Z 0), W_State cI (q 1) (Z 1), W_State cI (q 2) (Z 2), W_State cI (q 3) (Z 3), W_State cI (q 4) (Z 4), W_State cI (q 5) (Z 5)]) H := hP
                have hD : va_D A (List.flatten [W_LS cI a S, W_Sav cS (a 13) [((q 0) 0), ((q 1) 0), ((q 2) 0), ((q 3) 0), ((q 4) 0), ((q 5) 0)], W_State cI (q 0) (Z 0), W_State cI (q 1) (Z 1), W_State cI (q 2) (Z 2), W_State cI (q 3) (Z 3), W_State cI (q 4) (Z 4), W_State cI (q 5) (Z 5)]) := hD
                refine W.eq (g2 := F0 m 24 ls [.ref ((q 4) 0)]) rfl ?_
                refine lv_astore_n (lv' := [(1, .ref ((q 4) 0)), (0, .ref (a 0))]) hx hb dX4_saveState_24 rfl hl (by decide) rfl (fun ls hl => ?_)
                refine lv_aload_n hx hb dX4_saveState_25 rfl (lv_at hl 0 rfl) ?_
                refine lv_ifnull hx hb dX4_saveState_26 ?_
                refine lv_aload_n hx hb dX4_saveState_29 rfl (lv_at hl 0 rfl) ?_
                refine lv_aload_n hx hb dX4_saveState_30 rfl (lv_at hl 1 rfl) ?_
                refine va_get (D := (dC, dI)) (ci := 4) (v := .ref (a 5)) (C := RX4) (T := TX4) (N := 8) hx hb hts hinX4 hown hK hP 0 rfl rfl 3 (by decide) (hts (Cond.fieldLink RX4 23 "LearnedShapes" "now" "LLearnedShapes$State;") (List.mem_of_getElem? (i := 3) rfl)) (fun _ h9 => h9) rfl dX4_saveState_31 ?_
                obtain ⟨u15, h16, hF⟩ := ob1_some hF
                obtain ⟨hP, hD⟩ := jBlk (bs := [W_LS cI a S, W_Sav cS (a 13) [((q 0) 0), ((q 1) 0), ((q 2) 0), ((q 3) 0), ((q 4) 0), ((q 5) 0)], W_State cI (q 0) (Z 0), W_State cI (q 1) (Z 1), W_State cI (q 2) (Z 2), W_State cI (q 3) (Z 3), W_State cI (q 4) (Z 4), W_State cI (q 5) (Z 5)]) (bs' := [W_LS cI a S, W_State cI (q 4) (Z 4), W_Sav cS (a 13) [((q 0) 0), ((q 1) 0), ((q 2) 0), ((q 3) 0), ((q 4) 0), ((q 5) 0)], W_State cI (q 0) (Z 0), W_State cI (q 1) (Z 1), W_State cI (q 2) (Z 2), W_State cI (q 3) (Z 3), W_State cI (q 5) (Z 5)]) hP hD [0, 6, 1, 2, 3, 4, 5, 7] rfl rfl
                have hPc := hP.sub (ws' := (W_State cI (q 4) (Z 4)) ++ (W_State cI (sh a 5) (g_LS_now S))) [13, 14, 15, 16, 17, 5, 6, 7, 8, 9] rfl
                have hDc := hD.sub (ws' := (W_State cI (q 4) (Z 4)) ++ (W_State cI (sh a 5) (g_LS_now S))) [13, 14, 15, 16, 17, 5, 6, 7, 8, 9] (by decide) rfl
                have hFc := va_free (wc := (W_State cI (q 4) (Z 4)) ++ (W_State cI (sh a 5) (g_LS_now S))) hD hS hA [13, 14, 15, 16, 17, 5, 6, 7, 8, 9] rfl
                refine va_callv (va_runV (As := [.ref (a 5)]) (rest := []) ⟨hx, hb, hml, hown, hts⟩ (c_X2_copyFrom l dC dI cI (q 4) (sh a 5) H.size _ _ _ h16) (cwV 1 hts gX4_saveState_X2_copyFrom rfl rfl rfl (by decide +kernel) ⟨Nat.le_of_ble_eq_true rfl, Nat.le_of_ble_eq_true rfl⟩) (jPreV hKi hPc hDc hN (ci := 2) rfl rfl) rfl rfl hl.1 rfl (lv_room (Nat.le_of_ble_eq_true rfl)) dX4_saveState_34 ⟨Nat.le_of_ble_eq_true rfl, Nat.le_of_ble_eq_true rfl⟩) hS (fun q _ h => hFc q h) hFc (fun u' t H locs ht hvm hw hB hz1 hk1 hS => ?_)
                subst hw
                obtain ⟨hP1, -, hD1⟩ := hB
                rw [ht] at hP1
                obtain ⟨hP, hD⟩ := jJoinF (wa := (W_LS cI a S) ++ (W_State cI (q 4) (Z 4))) (wb := List.flatten [W_Sav cS (a 13) [((q 0) 0), ((q 1) 0), ((q 2) 0), ((q 3) 0), ((q 4) 0), ((q 5) 0)], W_State cI (q 0) (Z 0), W_State cI (q 1) (Z 1), W_State cI (q 2) (Z 2), W_State cI (q 3) (Z 3), W_State cI (q 5) (Z 5)]) (wc := (W_State cI (q 4) (Z 4)) ++ (W_State cI (sh a 5) (g_LS_now S))) (w1 := (W_State cI (q 4) u15) ++ (W_State cI (sh a 5) (g_LS_now S))) (ws' := (W_LS cI a S) ++ (W_State cI (q 4) u15)) hP hD [13, 14, 15, 16, 17, 5, 6, 7, 8, 9] [0, 1, 2, 3, 4, 10, 11, 12] [0, 1, 2, 3, 4, 13, 14, 15, 16, 17, 5, 6, 7, 8, 9, 10, 11, 12] rfl rfl (by decide) (by decide) hk1 hFc hP1 hD1 (by decide) rfl
                obtain ⟨hP, hD⟩ := jBlk (bs := [W_LS cI a S, W_State cI (q 4) u15, W_Sav cS (a 13) [((q 0) 0), ((q 1) 0), ((q 2) 0), ((q 3) 0), ((q 4) 0), ((q 5) 0)], W_State cI (q 0) (Z 0), W_State cI (q 1) (Z 1), W_State cI (q 2) (Z 2), W_State cI (q 3) (Z 3), W_State cI (q 5) (Z 5)]) (bs' := [W_LS cI a S, W_Sav cS (a 13) [((q 0) 0), ((q 1) 0), ((q 2) 0), ((q 3) 0), ((q 4) 0), ((q 5) 0)], W_State cI (q 0) (Z 0), W_State cI (q 1) (Z 1), W_State cI (q 2) (Z 2), W_State cI (q 3) (Z 3), W_State cI (q 4) u15, W_State cI (q 5) (Z 5)]) hP hD [0, 2, 3, 4, 5, 6, 1, 7] rfl rfl
                have hP : va_P (dC, dI) vwCl (List.flatten [W_LS cI a S, W_Sav cS (a 13) [((q 0) 0), ((q 1) 0), ((q 2) 0), ((q 3) 0), ((q 4) 0), ((q 5) 0)], W_State cI (q 0) (Z 0), W_State cI (q 1) (Z 1), W_State cI (q 2) (Z 2), W_State cI (q 3) (Z 3), W_State cI (q 4) u15, W_State cI (q 5) (Z 5)]) H := hP
                have hD : va_D A (List.flatten [W_LS cI a S, W_Sav cS (a 13) [((q 0) 0), ((q 1) 0), ((q 2) 0), ((q 3) 0), ((q 4) 0), ((q 5) 0)], W_State cI (q 0) (Z 0), W_State cI (q 1) (Z 1), W_State cI (q 2) (Z 2), W_State cI (q 3) (Z 3), W_State cI (q 4) u15, W_State cI (q 5) (Z 5)]) := hD
                refine lv_aload_n hx hb dX4_saveState_37 rfl (lv_at hl 1 rfl) ?_
                refine lv_dup hx hb dX4_saveState_38 rfl ?_
                refine va_get (D := (dC, dI)) (ci := 4) (v := .int (g_LS_savedStates S)) (C := RX4) (T := TX4) (N := 8) hx hb hts hinX4 hown hK hP 0 rfl rfl 5 (by decide) (hts (Cond.fieldLink RX4 125 "LearnedShapes" "savedStates" "I") (List.mem_of_getElem? (i := 1) rfl)) (fun _ h9 => h9) rfl dX4_saveState_39 ?_
                refine lv_iconst (v := (1 : Int32)) hx hb dX4_saveState_42 (by decide) ?_
                refine lv_iadd hx hb dX4_saveState_43 ?_
                refine va_put (D := (dC, dI)) (ci := 4) (v := .int ((g_LS_savedStates S) + (1 : Int32))) (ty := .int) (C := RX4) (T := TX4) (N := 8) hx hb hts hinX4 tyX4 tyX4_ok nmX4 hown hK hP hD hS 0 rfl rfl 5 (by decide) (hts (Cond.fieldLink RX4 125 "LearnedShapes" "savedStates" "I") (List.mem_of_getElem? (i := 1) rfl)) (fun _ h9 => h9) rfl (by decide +kernel) (rfl) rfl (Nat.le_of_ble_eq_true rfl) dX4_saveState_44 (fun H locs hP hD hS => ?_)
                have hP : va_P (dC, dI) vwCl (List.flatten [W_LS cI a (s_LS_savedStates S ((g_LS_savedStates S) + (1 : Int32))), W_Sav cS (a 13) [((q 0) 0), ((q 1) 0), ((q 2) 0), ((q 3) 0), ((q 4) 0), ((q 5) 0)], W_State cI (q 0) (Z 0), W_State cI (q 1) (Z 1), W_State cI (q 2) (Z 2), W_State cI (q 3) (Z 3), W_State cI (q 4) u15, W_State cI (q 5) (Z 5)]) H := hP
                have hD : va_D A (List.flatten [W_LS cI a (s_LS_savedStates S ((g_LS_savedStates S) + (1 : Int32))), W_Sav cS (a 13) [((q 0) 0), ((q 1) 0), ((q 2) 0), ((q 3) 0), ((q 4) 0), ((q 5) 0)], W_State cI (q 0) (Z 0), W_State cI (q 1) (Z 1), W_State cI (q 2) (Z 2), W_State cI (q 3) (Z 3), W_State cI (q 4) u15, W_State cI (q 5) (Z 5)]) := hD
                have hP : va_P (dC, dI) vwCl (W_Full cI cS a q (s_LS_savedStates S ((g_LS_savedStates S) + (1 : Int32))) (mk6 (Z 0) (Z 1) (Z 2) (Z 3) u15 (Z 5))) H := hP
                have hD : va_D A (W_Full cI cS a q (s_LS_savedStates S ((g_LS_savedStates S) + (1 : Int32))) (mk6 (Z 0) (Z 1) (Z 2) (Z 3) u15 (Z 5))) := hD
                have e50 := Option.some.inj hF
                obtain ⟨e60, e51⟩ := Prod.mk.inj e50
                subst e60
                subst e51
                exact W.vret hx hb hr (fun t ht hW => ⟨⟨((s_LS_savedStates S ((g_LS_savedStates S) + (1 : Int32))), (mk6 (Z 0) (Z 1) (Z 2) (Z 3) u15 (Z 5))), rfl, rfl, q, by rw [ht]; exact hP, va_K.moved hW.alike hK, hD⟩, hS.F ht⟩) hS.2.2 dX4_saveState_47
              · have hF := F_neg c14 hF
                by_cases c17 : (g_LS_savedStates S) = (5 : Int32)
                · have hF := F_pos c17 hF
                  have hP : va_P (dC, dI) vwCl (W_Full cI cS a q S Z) H := hP
                  have hD : va_D A (W_Full cI cS a q S Z) := hD
                  have hPc := hP
                  have hDc := hD
                  have hFc := jFreeW (ws := (W_Full cI cS a q S Z)) hD hS hA
                  refine va_callq (va_runV (As := [.int (g_LS_savedStates S)]) (rest := []) ⟨hx, hb, hml, hown, hts⟩ (c_X4_savedAt_5 l dC dI cI cS a q H.size _ _ _ c17) (cwV 1 hts gX4_saveState_X4_savedAt rfl rfl rfl (by decide +kernel) ⟨Nat.le_of_ble_eq_true rfl, Nat.le_of_ble_eq_true rfl⟩) (jPreV hK hPc hDc hN (ci := 4) rfl rfl) rfl rfl hl.1 rfl (lv_room (Nat.le_of_ble_eq_true rfl)) dX4_saveState_21 ⟨Nat.le_of_ble_eq_true rfl, Nat.le_of_ble_eq_true rfl⟩) hS (fun q _ h => hFc q h) hFc (fun r9 u9 t H locs ht hvm hw hB hz1 hk1 hS => ?_)
                  subst hw
                  obtain ⟨hP1, -, hD1⟩ := hB
                  rw [ht] at hP1
                  have hP : va_P (dC, dI) vwCl ((W_Full cI cS a q S Z)) H := hP1
                  have hD : va_D A ((W_Full cI cS a q S Z)) := hD1.weaken (fun _ _ _ h => hFc _ h)
                  have hP : va_P (dC, dI) vwCl (List.flatten [W_LS cI a S, W_Sav cS (a 13) [((q 0) 0), ((q 1) 0), ((q 2) 0), ((q 3) 0), ((q 4) 0), ((q 5) 0)], W_State cI (q 0) (Z 0), W_State cI (q 1) (Z 1), W_State cI (q 2) (Z 2), W_State cI (q 3) (Z 3), W_State cI (q 4) (Z 4), W_State cI (q 5) (Z 5)]) H := hP
                  have hD : va_D A (List.flatten [W_LS cI a S, W_Sav cS (a 13) [((q 0) 0), ((q 1) 0), ((q 2) 0), ((q 3) 0), ((q 4) 0), ((q 5) 0)], W_State cI (q 0) (Z 0), W_State cI (q 1) (Z 1), W_State cI (q 2) (Z 2), W_State cI (q 3) (Z 3), W_State cI (q 4) (Z 4), W_State cI (q 5) (Z 5)]) := hD
                  refine W.eq (g2 := F0 m 24 ls [.ref ((q 5) 0)]) rfl ?_
                  refine lv_astore_n (lv' := [(1, .ref ((q 5) 0)), (0, .ref (a 0))]) hx hb dX4_saveState_24 rfl hl (by decide) rfl (fun ls hl => ?_)
                  refine lv_aload_n hx hb dX4_saveState_25 rfl (lv_at hl 0 rfl) ?_
                  refine lv_ifnull hx hb dX4_saveState_26 ?_
                  refine lv_aload_n hx hb dX4_saveState_29 rfl (lv_at hl 0 rfl) ?_
                  refine lv_aload_n hx hb dX4_saveState_30 rfl (lv_at hl 1 rfl) ?_
                  refine va_get (D := (dC, dI)) (ci := 4) (v := .ref (a 5)) (C := RX4) (T := TX4) (N := 8) hx hb hts hinX4 hown hK hP 0 rfl rfl 3 (by decide) (hts (Cond.fieldLink RX4 23 "LearnedShapes" "now" "LLearnedShapes$State;") (List.mem_of_getElem? (i := 3) rfl)) (fun _ h9 => h9) rfl dX4_saveState_31 ?_
                  obtain ⟨u18, h19, hF⟩ := ob1_some hF
                  obtain ⟨hP, hD⟩ := jBlk (bs := [W_LS cI a S, W_Sav cS (a 13) [((q 0) 0), ((q 1) 0), ((q 2) 0), ((q 3) 0), ((q 4) 0), ((q 5) 0)], W_State cI (q 0) (Z 0), W_State cI (q 1) (Z 1), W_State cI (q 2) (Z 2), W_State cI (q 3) (Z 3), W_State cI (q 4) (Z 4), W_State cI (q 5) (Z 5)]) (bs' := [W_LS cI a S, W_State cI (q 5) (Z 5), W_Sav cS (a 13) [((q 0) 0), ((q 1) 0), ((q 2) 0), ((q 3) 0), ((q 4) 0), ((q 5) 0)], W_State cI (q 0) (Z 0), W_State cI (q 1) (Z 1), W_State cI (q 2) (Z 2), W_State cI (q 3) (Z 3), W_State cI (q 4) (Z 4)]) hP hD [0, 7, 1, 2, 3, 4, 5, 6] rfl rfl
                  have hPc := hP.sub (ws' := (W_State cI (q 5) (Z 5)) ++ (W_State cI (sh a 5) (g_LS_now S))) [13, 14, 15, 16, 17, 5, 6, 7, 8, 9] rfl
                  have hDc := hD.sub (ws' := (W_State cI (q 5) (Z 5)) ++ (W_State cI (sh a 5) (g_LS_now S))) [13, 14, 15, 16, 17, 5, 6, 7, 8, 9] (by decide) rfl
                  have hFc := va_free (wc := (W_State cI (q 5) (Z 5)) ++ (W_State cI (sh a 5) (g_LS_now S))) hD hS hA [13, 14, 15, 16, 17, 5, 6, 7, 8, 9] rfl
                  refine va_callv (va_runV (As := [.ref (a 5)]) (rest := []) ⟨hx, hb, hml, hown, hts⟩ (c_X2_copyFrom l dC dI cI (q 5) (sh a 5) H.size _ _ _ h19) (cwV 1 hts gX4_saveState_X2_copyFrom rfl rfl rfl (by decide +kernel) ⟨Nat.le_of_ble_eq_true rfl, Nat.le_of_ble_eq_true rfl⟩) (jPreV hKi hPc hDc hN (ci := 2) rfl rfl) rfl rfl hl.1 rfl (lv_room (Nat.le_of_ble_eq_true rfl)) dX4_saveState_34 ⟨Nat.le_of_ble_eq_true rfl, Nat.le_of_ble_eq_true rfl⟩) hS (fun q _ h => hFc q h) hFc (fun u' t H locs ht hvm hw hB hz1 hk1 hS => ?_)
                  subst hw
                  obtain ⟨hP1, -, hD1⟩ := hB
                  rw [ht] at hP1
                  obtain ⟨hP, hD⟩ := jJoinF (wa := (W_LS cI a S) ++ (W_State cI (q 5) (Z 5))) (wb := List.flatten [W_Sav cS (a 13) [((q 0) 0), ((q 1) 0), ((q 2) 0), ((q 3) 0), ((q 4) 0), ((q 5) 0)], W_State cI (q 0) (Z 0), W_State cI (q 1) (Z 1), W_State cI (q 2) (Z 2), W_State cI (q 3) (Z 3), W_State cI (q 4) (Z 4)]) (wc := (W_State cI (q 5) (Z 5)) ++ (W_State cI (sh a 5) (g_LS_now S))) (w1 := (W_State cI (q 5) u18) ++ (W_State cI (sh a 5) (g_LS_now S))) (ws' := (W_LS cI a S) ++ (W_State cI (q 5) u18)) hP hD [13, 14, 15, 16, 17, 5, 6, 7, 8, 9] [0, 1, 2, 3, 4, 10, 11, 12] [0, 1, 2, 3, 4, 13, 14, 15, 16, 17, 5, 6, 7, 8, 9, 10, 11, 12] rfl rfl (by decide) (by decide) hk1 hFc hP1 hD1 (by decide) rfl
                  obtain ⟨hP, hD⟩ := jBlk (bs := [W_LS cI a S, W_State cI (q 5) u18, W_Sav cS (a 13) [((q 0) 0), ((q 1) 0), ((q 2) 0), ((q 3) 0), ((q 4) 0), ((q 5) 0)], W_State cI (q 0) (Z 0), W_State cI (q 1) (Z 1), W_State cI (q 2) (Z 2), W_State cI (q 3) (Z 3), W_State cI (q 4) (Z 4)]) (bs' := [W_LS cI a S, W_Sav cS (a 13) [((q 0) 0), ((q 1) 0), ((q 2) 0), ((q 3) 0), ((q 4) 0), ((q 5) 0)], W_State cI (q 0) (Z 0), W_State cI (q 1) (Z 1), W_State cI (q 2) (Z 2), W_State cI (q 3) (Z 3), W_State cI (q 4) (Z 4), W_State cI (q 5) u18]) hP hD [0, 2, 3, 4, 5, 6, 7, 1] rfl rfl
                  have hP : va_P (dC, dI) vwCl (List.flatten [W_LS cI a S, W_Sav cS (a 13) [((q 0) 0), ((q 1) 0), ((q 2) 0), ((q 3) 0), ((q 4) 0), ((q 5) 0)], W_State cI (q 0) (Z 0), W_State cI (q 1) (Z 1), W_State cI (q 2) (Z 2), W_State cI (q 3) (Z 3), W_State cI (q 4) (Z 4), W_State cI (q 5) u18]) H := hP
                  have hD : va_D A (List.flatten [W_LS cI a S, W_Sav cS (a 13) [((q 0) 0), ((q 1) 0), ((q 2) 0), ((q 3) 0), ((q 4) 0), ((q 5) 0)], W_State cI (q 0) (Z 0), W_State cI (q 1) (Z 1), W_State cI (q 2) (Z 2), W_State cI (q 3) (Z 3), W_State cI (q 4) (Z 4), W_State cI (q 5) u18]) := hD
                  refine lv_aload_n hx hb dX4_saveState_37 rfl (lv_at hl 1 rfl) ?_
                  refine lv_dup hx hb dX4_saveState_38 rfl ?_
                  refine va_get (D := (dC, dI)) (ci := 4) (v := .int (g_LS_savedStates S)) (C := RX4) (T := TX4) (N := 8) hx hb hts hinX4 hown hK hP 0 rfl rfl 5 (by decide) (hts (Cond.fieldLink RX4 125 "LearnedShapes" "savedStates" "I") (List.mem_of_getElem? (i := 1) rfl)) (fun _ h9 => h9) rfl dX4_saveState_39 ?_
                  refine lv_iconst (v := (1 : Int32)) hx hb dX4_saveState_42 (by decide) ?_
                  refine lv_iadd hx hb dX4_saveState_43 ?_
                  refine va_put (D := (dC, dI)) (ci := 4) (v := .int ((g_LS_savedStates S) + (1 : Int32))) (ty := .int) (C := RX4) (T := TX4) (N := 8) hx hb hts hinX4 tyX4 tyX4_ok nmX4 hown hK hP hD hS 0 rfl rfl 5 (by decide) (hts (Cond.fieldLink RX4 125 "LearnedShapes" "savedStates" "I") (List.mem_of_getElem? (i := 1) rfl)) (fun _ h9 => h9) rfl (by decide +kernel) (rfl) rfl (Nat.le_of_ble_eq_true rfl) dX4_saveState_44 (fun H locs hP hD hS => ?_)
                  have hP : va_P (dC, dI) vwCl (List.flatten [W_LS cI a (s_LS_savedStates S ((g_LS_savedStates S) + (1 : Int32))), W_Sav cS (a 13) [((q 0) 0), ((q 1) 0), ((q 2) 0), ((q 3) 0), ((q 4) 0), ((q 5) 0)], W_State cI (q 0) (Z 0), W_State cI (q 1) (Z 1), W_State cI (q 2) (Z 2), W_State cI (q 3) (Z 3), W_State cI (q 4) (Z 4), W_State cI (q 5) u18]) H := hP
                  have hD : va_D A (List.flatten [W_LS cI a (s_LS_savedStates S ((g_LS_savedStates S) + (1 : Int32))), W_Sav cS (a 13) [((q 0) 0), ((q 1) 0), ((q 2) 0), ((q 3) 0), ((q 4) 0), ((q 5) 0)], W_State cI (q 0) (Z 0), W_State cI (q 1) (Z 1), W_State cI (q 2) (Z 2), W_State cI (q 3) (Z 3), W_State cI (q 4) (Z 4), W_State cI (q 5) u18]) := hD
                  have hP : va_P (dC, dI) vwCl (W_Full cI cS a q (s_LS_savedStates S ((g_LS_savedStates S) + (1 : Int32))) (mk6 (Z 0) (Z 1) (Z 2) (Z 3) (Z 4) u18)) H := hP
                  have hD : va_D A (W_Full cI cS a q (s_LS_savedStates S ((g_LS_savedStates S) + (1 : Int32))) (mk6 (Z 0) (Z 1) (Z 2) (Z 3) (Z 4) u18)) := hD
                  have e50 := Option.some.inj hF
                  obtain ⟨e60, e51⟩ := Prod.mk.inj e50
                  subst e60
                  subst e51
                  exact W.vret hx hb hr (fun t ht hW => ⟨⟨((s_LS_savedStates S ((g_LS_savedStates S) + (1 : Int32))), (mk6 (Z 0) (Z 1) (Z 2) (Z 3) (Z 4) u18)), rfl, rfl, q, by rw [ht]; exact hP, va_K.moved hW.alike hK, hD⟩, hS.F ht⟩) hS.2.2 dX4_saveState_47
                · have hF := F_neg c17 hF
                  obtain ⟨g20, hF⟩ := og_some hF
                  have hP : va_P (dC, dI) vwCl (W_Full cI cS a q S Z) H := hP
                  have hD : va_D A (W_Full cI cS a q S Z) := hD
                  have hPc := hP
                  have hDc := hD
                  have hFc := jFreeW (ws := (W_Full cI cS a q S Z)) hD hS hA
                  refine va_callq (va_runV (As := [.int (g_LS_savedStates S)]) (rest := []) ⟨hx, hb, hml, hown, hts⟩ (c_X4_savedAt_n l dC dI cI cS a q H.size _ _ _ (of_decide_eq_true g20)) (cwV 1 hts gX4_saveState_X4_savedAt rfl rfl rfl (by decide +kernel) ⟨Nat.le_of_ble_eq_true rfl, Nat.le_of_ble_eq_true rfl⟩) (jPreV hK hPc hDc hN (ci := 4) rfl rfl) rfl rfl hl.1 rfl (lv_room (Nat.le_of_ble_eq_true rfl)) dX4_saveState_21 ⟨Nat.le_of_ble_eq_true rfl, Nat.le_of_ble_eq_true rfl⟩) hS (fun q _ h => hFc q h) hFc (fun r9 u9 t H locs ht hvm hw hB hz1 hk1 hS => ?_)
                  subst hw
                  obtain ⟨hP1, -, hD1⟩ := hB
                  rw [ht] at hP1
                  have hP : va_P (dC, dI) vwCl ((W_Full cI cS a q S Z)) H := hP1
                  have hD : va_D A ((W_Full cI cS a q S Z)) := hD1.weaken (fun _ _ _ h => hFc _ h)
                  have hP : va_P (dC, dI) vwCl (List.flatten [W_LS cI a S, W_Sav cS (a 13) [((q 0) 0), ((q 1) 0), ((q 2) 0), ((q 3) 0), ((q 4) 0), ((q 5) 0)], W_State cI (q 0) (Z 0), W_State cI (q 1) (Z 1), W_State cI (q 2) (Z 2), W_State cI (q 3) (Z 3), W_State cI (q 4) (Z 4), W_State cI (q 5) (Z 5)]) H := hP
                  have hD : va_D A (List.flatten [W_LS cI a S, W_Sav cS (a 13) [((q 0) 0), ((q 1) 0), ((q 2) 0), ((q 3) 0), ((q 4) 0), ((q 5) 0)], W_State cI (q 0) (Z 0), W_State cI (q 1) (Z 1), W_State cI (q 2) (Z 2), W_State cI (q 3) (Z 3), W_State cI (q 4) (Z 4), W_State cI (q 5) (Z 5)]) := hD
                  refine W.eq (g2 := F0 m 24 ls [.null]) rfl ?_
                  refine lv_astore_nN (lv' := [(1, .null), (0, .ref (a 0))]) hx hb dX4_saveState_24 rfl hl (by decide) rfl (fun ls hl => ?_)
                  refine lv_aload_nN hx hb dX4_saveState_25 rfl (lv_at hl 0 rfl) ?_
                  refine lv_ifnullN (tgt := 47) hx hb dX4_saveState_26 (by decide) ?_
                  have hP : va_P (dC, dI) vwCl (W_Full cI cS a q S Z) H := hP
                  have hD : va_D A (W_Full cI cS a q S Z) := hD
                  have e50 := Option.some.inj hF
                  obtain ⟨e60, e51⟩ := Prod.mk.inj e50
                  subst e60
                  subst e51
                  exact W.vret hx hb hr (fun t ht hW => ⟨⟨(S, Z), rfl, rfl, q, by rw [ht]; exact hP, va_K.moved hW.alike hK, hD⟩, hS.F ht⟩) hS.2.2 dX4_saveState_47
    · have hF := F_neg c1 hF
      refine lv_aload_n hx hb dX4_saveState_12 rfl (lv_at hl 0 rfl) ?_
      obtain ⟨u21, z22, h23, hF⟩ := ob2_some hF
      have hP : va_P (dC, dI) vwCl (W_Full cI cS a q S Z) H := hP
      have hD : va_D A (W_Full cI cS a q S Z) := hD
      have hPc := hP
      have hDc := hD
      have hFc := jFreeW (ws := (W_Full cI cS a q S Z)) hD hS hA
      refine va_callv (va_runV (As := []) (rest := []) ⟨hx, hb, hml, hown, hts⟩ (c_X4_dropOldest l dC dI cI cS a q H.size _ _ _ _ h23) (cwV 0 hts gX4_saveState_X4_dropOldest rfl rfl rfl (by decide +kernel) ⟨Nat.le_of_ble_eq_true rfl, Nat.le_of_ble_eq_true rfl⟩) (jPreV hK hPc hDc hN (ci := 4) rfl rfl) rfl rfl hl.1 rfl (lv_room (Nat.le_of_ble_eq_true rfl)) dX4_saveState_13 ⟨Nat.le_of_ble_eq_true rfl, Nat.le_of_ble_eq_true rfl⟩) hS (fun q _ h => hFc q h) hFc (fun u9 t H locs ht hvm hw hB hz1 hk1 hS => ?_)
      subst hw
      obtain ⟨q, hP1, -, hD1⟩ := hB
      rw [ht] at hP1
      have hP : va_P (dC, dI) vwCl (W_Full cI cS a q u21 z22) H := hP1
      have hD : va_D A (W_Full cI cS a q u21 z22) := hD1.weaken (fun _ _ _ h => hFc _ h)
      have hP : va_P (dC, dI) vwCl (List.flatten [W_LS cI a u21, W_Sav cS (a 13) [((q 0) 0), ((q 1) 0), ((q 2) 0), ((q 3) 0), ((q 4) 0), ((q 5) 0)], W_State cI (q 0) (z22 0), W_State cI (q 1) (z22 1), W_State cI (q 2) (z22 2), W_State cI (q 3) (z22 3), W_State cI (q 4) (z22 4), W_State cI (q 5) (z22 5)]) H := hP
      have hD : va_D A (List.flatten [W_LS cI a u21, W_Sav cS (a 13) [((q 0) 0), ((q 1) 0), ((q 2) 0), ((q 3) 0), ((q 4) 0), ((q 5) 0)], W_State cI (q 0) (z22 0), W_State cI (q 1) (z22 1), W_State cI (q 2) (z22 2), W_State cI (q 3) (z22 3), W_State cI (q 4) (z22 4), W_State cI (q 5) (z22 5)]) := hD
      refine lv_aload_n hx hb dX4_saveState_16 rfl (lv_at hl 0 rfl) ?_
      refine lv_aload_n hx hb dX4_saveState_17 rfl (lv_at hl 0 rfl) ?_
      refine va_get (D := (dC, dI)) (ci := 4) (v := .int (g_LS_savedStates u21)) (C := RX4) (T := TX4) (N := 8) hx hb hts hinX4 hown hK hP 0 rfl rfl 5 (by decide) (hts (Cond.fieldLink RX4 125 "LearnedShapes" "savedStates" "I") (List.mem_of_getElem? (i := 1) rfl)) (fun _ h9 => h9) rfl dX4_saveState_18 ?_
      by_cases c24 : (g_LS_savedStates u21) = (0 : Int32)
      · have hF := F_pos c24 hF
        have hP : va_P (dC, dI) vwCl (W_Full cI cS a q u21 z22) H := hP
        have hD : va_D A (W_Full cI cS a q u21 z22) := hD
        have hPc := hP
        have hDc := hD
        have hFc := jFreeW (ws := (W_Full cI cS a q u21 z22)) hD hS hA
        refine va_callq (va_runV (As := [.int (g_LS_savedStates u21)]) (rest := []) ⟨hx, hb, hml, hown, hts⟩ (c_X4_savedAt_0 l dC dI cI cS a q H.size _ _ _ c24) (cwV 1 hts gX4_saveState_X4_savedAt rfl rfl rfl (by decide +kernel) ⟨Nat.le_of_ble_eq_true rfl, Nat.le_of_ble_eq_true rfl⟩) (jPreV hK hPc hDc hN (ci := 4) rfl rfl) rfl rfl hl.1 rfl (lv_room (Nat.le_of_ble_eq_true rfl)) dX4_saveState_21 ⟨Nat.le_of_ble_eq_true rfl, Nat.le_of_ble_eq_true rfl⟩) hS (fun q _ h => hFc q h) hFc (fun r9 u9 t H locs ht hvm hw hB hz1 hk1 hS => ?_)
        subst hw
        obtain ⟨hP1, -, hD1⟩ := hB
        rw [ht] at hP1
        have hP : va_P (dC, dI) vwCl ((W_Full cI cS a q u21 z22)) H := hP1
        have hD : va_D A ((W_Full cI cS a q u21 z22)) := hD1.weaken (fun _ _ _ h => hFc _ h)
        have hP : va_P (dC, dI) vwCl (List.flatten [W_LS cI a u21, W_Sav cS (a 13) [((q 0) 0), ((q 1) 0), ((q 2) 0), ((q 3) 0), ((q 4) 0), ((q 5) 0)], W_State cI (q 0) (z22 0), W_State cI (q 1) (z22 1), W_State cI (q 2) (z22 2), W_State cI (q 3) (z22 3), W_State cI (q 4) (z22 4), W_State cI (q 5) (z22 5)]) H := hP
        have hD : va_D A (List.flatten [W_LS cI a u21, W_Sav cS (a 13) [((q 0) 0), ((q 1) 0), ((q 2) 0), ((q 3) 0), ((q 4) 0), ((q 5) 0)], W_State cI (q 0) (z22 0), W_State cI (q 1) (z22 1), W_State cI (q 2) (z22 2), W_State cI (q 3) (z22 3), W_State cI (q 4) (z22 4), W_State cI (q 5) (z22 5)]) := hD
        refine W.eq (g2 := F0 m 24 ls [.ref ((q 0) 0)]) rfl ?_
        refine lv_astore_n (lv' := [(1, .ref ((q 0) 0)), (0, .ref (a 0))]) hx hb dX4_saveState_24 rfl hl (by decide) rfl (fun ls hl => ?_)
        refine lv_aload_n hx hb dX4_saveState_25 rfl (lv_at hl 0 rfl) ?_
        refine lv_ifnull hx hb dX4_saveState_26 ?_
        refine lv_aload_n hx hb dX4_saveState_29 rfl (lv_at hl 0 rfl) ?_
        refine lv_aload_n hx hb dX4_saveState_30 rfl (lv_at hl 1 rfl) ?_
        refine va_get (D := (dC, dI)) (ci := 4) (v := .ref (a 5)) (C := RX4) (T := TX4) (N := 8) hx hb hts hinX4 hown hK hP 0 rfl rfl 3 (by decide) (hts (Cond.fieldLink RX4 23 "LearnedShapes" "now" "LLearnedShapes$State;") (List.mem_of_getElem? (i := 3) rfl)) (fun _ h9 => h9) rfl dX4_saveState_31 ?_
        obtain ⟨u25, h26, hF⟩ := ob1_some hF
        obtain ⟨hP, hD⟩ := jBlk (bs := [W_LS cI a u21, W_Sav cS (a 13) [((q 0) 0), ((q 1) 0), ((q 2) 0), ((q 3) 0), ((q 4) 0), ((q 5) 0)], W_State cI (q 0) (z22 0), W_State cI (q 1) (z22 1), W_State cI (q 2) (z22 2), W_State cI (q 3) (z22 3), W_State cI (q 4) (z22 4), W_State cI (q 5) (z22 5)]) (bs' := [W_LS cI a u21, W_State cI (q 0) (z22 0), W_Sav cS (a 13) [((q 0) 0), ((q 1) 0), ((q 2) 0), ((q 3) 0), ((q 4) 0), ((q 5) 0)], W_State cI (q 1) (z22 1), W_State cI (q 2) (z22 2), W_State cI (q 3) (z22 3), W_State cI (q 4) (z22 4), W_State cI (q 5) (z22 5)]) hP hD [0, 2, 1, 3, 4, 5, 6, 7] rfl rfl
        have hPc := hP.sub (ws' := (W_State cI (q 0) (z22 0)) ++ (W_State cI (sh a 5) (g_LS_now u21))) [13, 14, 15, 16, 17, 5, 6, 7, 8, 9] rfl
        have hDc := hD.sub (ws' := (W_State cI (q 0) (z22 0)) ++ (W_State cI (sh a 5) (g_LS_now u21))) [13, 14, 15, 16, 17, 5, 6, 7, 8, 9] (by decide) rfl
        have hFc := va_free (wc := (W_State cI (q 0) (z22 0)) ++ (W_State cI (sh a 5) (g_LS_now u21))) hD hS hA [13, 14, 15, 16, 17, 5, 6, 7, 8, 9] rfl
        refine va_callv (va_runV (As := [.ref (a 5)]) (rest := []) ⟨hx, hb, hml, hown, hts⟩ (c_X2_copyFrom l dC dI cI (q 0) (sh a 5) H.size _ _ _ h26) (cwV 1 hts gX4_saveState_X2_copyFrom rfl rfl rfl (by decide +kernel) ⟨Nat.le_of_ble_eq_true rfl, Nat.le_of_ble_eq_true rfl⟩) (jPreV hKi hPc hDc hN (ci := 2) rfl rfl) rfl rfl hl.1 rfl (lv_room (Nat.le_of_ble_eq_true rfl)) dX4_saveState_34 ⟨Nat.le_of_ble_eq_true rfl, Nat.le_of_ble_eq_true rfl⟩) hS (fun q _ h => hFc q h) hFc (fun u' t H locs ht hvm hw hB hz1 hk1 hS => ?_)
        subst hw
        obtain ⟨hP1, -, hD1⟩ := hB
        rw [ht] at hP1
        obtain ⟨hP, hD⟩ := jJoinF (wa := (W_LS cI a u21) ++ (W_State cI (q 0) (z22 0))) (wb := List.flatten [W_Sav cS (a 13) [((q 0) 0), ((q 1) 0), ((q 2) 0), ((q 3) 0), ((q 4) 0), ((q 5) 0)], W_State cI (q 1) (z22 1), W_State cI (q 2) (z22 2), W_State cI (q 3) (z22 3), W_State cI (q 4) (z22 4), W_State cI (q 5) (z22 5)]) (wc := (W_State cI (q 0) (z22 0)) ++ (W_State cI (sh a 5) (g_LS_now u21))) (w1 := (W_State cI (q 0) u25) ++ (W_State cI (sh a 5) (g_LS_now u21))) (ws' := (W_LS cI a u21) ++ (W_State cI (q 0) u25)) hP hD [13, 14, 15, 16, 17, 5, 6, 7, 8, 9] [0, 1, 2, 3, 4, 10, 11, 12] [0, 1, 2, 3, 4, 13, 14, 15, 16, 17, 5, 6, 7, 8, 9, 10, 11, 12] rfl rfl (by decide) (by decide) hk1 hFc hP1 hD1 (by decide) rfl
        obtain ⟨hP, hD⟩ := jBlk (bs := [W_LS cI a u21, W_State cI (q 0) u25, W_Sav cS (a 13) [((q 0) 0), ((q 1) 0), ((q 2) 0), ((q 3) 0), ((q 4) 0), ((q 5) 0)], W_State cI (q 1) (z22 1), W_State cI (q 2) (z22 2), W_State cI (q 3) (z22 3), W_State cI (q 4) (z22 4), W_State cI (q 5) (z22 5)]) (bs' := [W_LS cI a u21, W_Sav cS (a 13) [((q 0) 0), ((q 1) 0), ((q 2) 0), ((q 3) 0), ((q 4) 0), ((q 5) 0)], W_State cI (q 0) u25, W_State cI (q 1) (z22 1), W_State cI (q 2) (z22 2), W_State cI (q 3) (z22 3), W_State cI (q 4) (z22 4), W_State cI (q 5) (z22 5)]) hP hD [0, 2, 1, 3, 4, 5, 6, 7] rfl rfl
        have hP : va_P (dC, dI) vwCl (List.flatten [W_LS cI a u21, W_Sav cS (a 13) [((q 0) 0), ((q 1) 0), ((q 2) 0), ((q 3) 0), ((q 4) 0), ((q 5) 0)], W_State cI (q 0) u25, W_State cI (q 1) (z22 1), W_State cI (q 2) (z22 2), W_State cI (q 3) (z22 3), W_State cI (q 4) (z22 4), W_State cI (q 5) (z22 5)]) H := hP
        have hD : va_D A (List.flatten [W_LS cI a u21, W_Sav cS (a 13) [((q 0) 0), ((q 1) 0), ((q 2) 0), ((q 3) 0), ((q 4) 0), ((q 5) 0)], W_State cI (q 0) u25, W_State cI (q 1) (z22 1), W_State cI (q 2) (z22 2), W_State cI (q 3) (z22 3), W_State cI (q 4) (z22 4), W_State cI (q 5) (z22 5)]) := hD
        refine lv_aload_n hx hb dX4_saveState_37 rfl (lv_at hl 1 rfl) ?_
        refine lv_dup hx hb dX4_saveState_38 rfl ?_
        refine va_get (D := (dC, dI)) (ci := 4) (v := .int (g_LS_savedStates u21)) (C := RX4) (T := TX4) (N := 8) hx hb hts hinX4 hown hK hP 0 rfl rfl 5 (by decide) (hts (Cond.fieldLink RX4 125 "LearnedShapes" "savedStates" "I") (List.mem_of_getElem? (i := 1) rfl)) (fun _ h9 => h9) rfl dX4_saveState_39 ?_
        refine lv_iconst (v := (1 : Int32)) hx hb dX4_saveState_42 (by decide) ?_
        refine lv_iadd hx hb dX4_saveState_43 ?_
        refine va_put (D := (dC, dI)) (ci := 4) (v := .int ((g_LS_savedStates u21) + (1 : Int32))) (ty := .int) (C := RX4) (T := TX4) (N := 8) hx hb hts hinX4 tyX4 tyX4_ok nmX4 hown hK hP hD hS 0 rfl rfl 5 (by decide) (hts (Cond.fieldLink RX4 125 "LearnedShapes" "savedStates" "I") (List.mem_of_getElem? (i := 1) rfl)) (fun _ h9 => h9) rfl (by decide +kernel) (rfl) rfl (Nat.le_of_ble_eq_true rfl) dX4_saveState_44 (fun H locs hP hD hS => ?_)
        have hP : va_P (dC, dI) vwCl (List.flatten [W_LS cI a (s_LS_savedStates u21 ((g_LS_savedStates u21) + (1 : Int32))), W_Sav cS (a 13) [((q 0) 0), ((q 1) 0), ((q 2) 0), ((q 3) 0), ((q 4) 0), ((q 5) 0)], W_State cI (q 0) u25, W_State cI (q 1) (z22 1), W_State cI (q 2) (z22 2), W_State cI (q 3) (z22 3), W_State cI (q 4) (z22 4), W_State cI (q 5) (z22 5)]) H := hP
        have hD : va_D A (List.flatten [W_LS cI a (s_LS_savedStates u21 ((g_LS_savedStates u21) + (1 : Int32))), W_Sav cS (a 13) [((q 0) 0), ((q 1) 0), ((q 2) 0), ((q 3) 0), ((q 4) 0), ((q 5) 0)], W_State cI (q 0) u25, W_State cI (q 1) (z22 1), W_State cI (q 2) (z22 2), W_State cI (q 3) (z22 3), W_State cI (q 4) (z22 4), W_State cI (q 5) (z22 5)]) := hD
        have hP : va_P (dC, dI) vwCl (W_Full cI cS a q (s_LS_savedStates u21 ((g_LS_savedStates u21) + (1 : Int32))) (mk6 u25 (z22 1) (z22 2) (z22 3) (z22 4) (z22 5))) H := hP
        have hD : va_D A (W_Full cI cS a q (s_LS_savedStates u21 ((g_LS_savedStates u21) + (1 : Int32))) (mk6 u25 (z22 1) (z22 2) (z22 3) (z22 4) (z22 5))) := hD
        have e50 := Option.some.inj hF
        obtain ⟨e60, e51⟩ := Prod.mk.inj e50
        subst e60
        subst e51
        exact W.vret hx hb hr (fun t ht hW => ⟨⟨((s_LS_savedStates u21 ((g_LS_savedStates u21) + (1 : Int32))), (mk6 u25 (z22 1) (z22 2) (z22 3) (z22 4) (z22 5))), rfl, rfl, q, by rw [ht]; exact hP, va_K.moved hW.alike hK, hD⟩, hS.F ht⟩) hS.2.2 dX4_saveState_47
      · have hF := F_neg c24 hF
        by_cases c27 : (g_LS_savedStates u21) = (1 : Int32)
        · have hF := F_pos c27 hF
          have hP : va_P (dC, dI) vwCl (W_Full cI cS a q u21 z22) H := hP
          have hD : va_D A (W_Full cI cS a q u21 z22) := hD
          have hPc := hP
          have hDc := hD
          have hFc := jFreeW (ws := (W_Full cI cS a q u21 z22)) hD hS hA
          refine va_callq (va_runV (As := [.int (g_LS_savedStates u21)]) (rest := []) ⟨hx, hb, hml, hown, hts⟩ (c_X4_savedAt_1 l dC dI cI cS a q H.size _ _ _ c27) (cwV 1 hts gX4_saveState_X4_savedAt rfl rfl rfl (by decide +kernel) ⟨Nat.le_of_ble_eq_true rfl, Nat.le_of_ble_eq_true rfl⟩) (jPreV hK hPc hDc hN (ci := 4) rfl rfl) rfl rfl hl.1 rfl (lv_room (Nat.le_of_ble_eq_true rfl)) dX4_saveState_21 ⟨Nat.le_of_ble_eq_true rfl, Nat.le_of_ble_eq_true rfl⟩) hS (fun q _ h => hFc q h) hFc (fun r9 u9 t H locs ht hvm hw hB hz1 hk1 hS => ?_)
          subst hw
          obtain ⟨hP1, -, hD1⟩ := hB
          rw [ht] at hP1
          have hP : va_P (dC, dI) vwCl ((W_Full cI cS a q u21 z22)) H := hP1
          have hD : va_D A ((W_Full cI cS a q u21 z22)) := hD1.weaken (fun _ _ _ h => hFc _ h)
          have hP : va_P (dC, dI) vwCl (List.flatten [W_LS cI a u21, W_Sav cS (a 13) [((q 0) 0), ((q 1) 0), ((q 2) 0), ((q 3) 0), ((q 4) 0), ((q 5) 0)], W_State cI (q 0) (z22 0), W_State cI (q 1) (z22 1), W_State cI (q 2) (z22 2), W_State cI (q 3) (z22 3), W_State cI (q 4) (z22 4), W_State cI (q 5) (z22 5)]) H := hP
          have hD : va_D A (List.flatten [W_LS cI a u21, W_Sav cS (a 13) [((q 0) 0), ((q 1) 0), ((q 2) 0), ((q 3) 0), ((q 4) 0), ((q 5) 0)], W_State cI (q 0) (z22 0), W_State cI (q 1) (z22 1), W_State cI (q 2) (z22 2), W_State cI (q 3) (z22 3), W_State cI (q 4) (z22 4), W_State cI (q 5) (z22 5)]) := hD
          refine W.eq (g2 := F0 m 24 ls [.ref ((q 1) 0)]) rfl ?_
          refine lv_astore_n (lv' := [(1, .ref ((q 1) 0)), (0, .ref (a 0))]) hx hb dX4_saveState_24 rfl hl (by decide) rfl (fun ls hl => ?_)
          refine lv_aload_n hx hb dX4_saveState_25 rfl (lv_at hl 0 rfl) ?_
          refine lv_ifnull hx hb dX4_saveState_26 ?_
          refine lv_aload_n hx hb dX4_saveState_29 rfl (lv_at hl 0 rfl) ?_
          refine lv_aload_n hx hb dX4_saveState_30 rfl (lv_at hl 1 rfl) ?_
          refine va_get (D := (dC, dI)) (ci := 4) (v := .ref (a 5)) (C := RX4) (T := TX4) (N := 8) hx hb hts hinX4 hown hK hP 0 rfl rfl 3 (by decide) (hts (Cond.fieldLink RX4 23 "LearnedShapes" "now" "LLearnedShapes$State;") (List.mem_of_getElem? (i := 3) rfl)) (fun _ h9 => h9) rfl dX4_saveState_31 ?_
          obtain ⟨u28, h29, hF⟩ := ob1_some hF
          obtain ⟨hP, hD⟩ := jBlk (bs := [W_LS cI a u21, W_Sav cS (a 13) [((q 0) 0), ((q 1) 0), ((q 2) 0), ((q 3) 0), ((q 4) 0), ((q 5) 0)], W_State cI (q 0) (z22 0), W_State cI (q 1) (z22 1), W_State cI (q 2) (z22 2), W_State cI (q 3) (z22 3), W_State cI (q 4) (z22 4), W_State cI (q 5) (z22 5)]) (bs' := [W_LS cI a u21, W_State cI (q 1) (z22 1), W_Sav cS (a 13) [((q 0) 0), ((q 1) 0), ((q 2) 0), ((q 3) 0), ((q 4) 0), ((q 5) 0)], W_State cI (q 0) (z22 0), W_State cI (q 2) (z22 2), W_State cI (q 3) (z22 3), W_State cI (q 4) (z22 4), W_State cI (q 5) (z22 5)]) hP hD [0, 3, 1, 2, 4, 5, 6, 7] rfl rfl
          have hPc := hP.sub (ws' := (W_State cI (q 1) (z22 1)) ++ (W_State cI (sh a 5) (g_LS_now u21))) [13, 14, 15, 16, 17, 5, 6, 7, 8, 9] rfl
          have hDc := hD.sub (ws' := (W_State cI (q 1) (z22 1)) ++ (W_State cI (sh a 5) (g_LS_now u21))) [13, 14, 15, 16, 17, 5, 6, 7, 8, 9] (by decide) rfl
          have hFc := va_free (wc := (W_State cI (q 1) (z22 1)) ++ (W_State cI (sh a 5) (g_LS_now u21))) hD hS hA [13, 14, 15, 16, 17, 5, 6, 7, 8, 9] rfl
          refine va_callv (va_runV (As := [.ref (a 5)]) (rest := []) ⟨hx, hb, hml, hown, hts⟩ (c_X2_copyFrom l dC dI cI (q 1) (sh a 5) H.size _ _ _ h29) (cwV 1 hts gX4_saveState_X2_copyFrom rfl rfl rfl (by decide +kernel) ⟨Nat.le_of_ble_eq_true rfl, Nat.le_of_ble_eq_true rfl⟩) (jPreV hKi hPc hDc hN (ci := 2) rfl rfl) rfl rfl hl.1 rfl (lv_room (Nat.le_of_ble_eq_true rfl)) dX4_saveState_34 ⟨Nat.le_of_ble_eq_true rfl, Nat.le_of_ble_eq_true rfl⟩) hS (fun q _ h => hFc q h) hFc (fun u' t H locs ht hvm hw hB hz1 hk1 hS => ?_)
          subst hw
          obtain ⟨hP1, -, hD1⟩ := hB
          rw [ht] at hP1
          obtain ⟨hP, hD⟩ := jJoinF (wa := (W_LS cI a u21) ++ (W_State cI (q 1) (z22 1))) (wb := List.flatten [W_Sav cS (a 13) [((q 0) 0), ((q 1) 0), ((q 2) 0), ((q 3) 0), ((q 4) 0), ((q 5) 0)], W_State cI (q 0) (z22 0), W_State cI (q 2) (z22 2), W_State cI (q 3) (z22 3), W_State cI (q 4) (z22 4), W_State cI (q 5) (z22 5)]) (wc := (W_State cI (q 1) (z22 1)) ++ (W_State cI (sh a 5) (g_LS_now u21))) (w1 := (W_State cI (q 1) u28) ++ (W_State cI (sh a 5) (g_LS_now u21))) (ws' := (W_LS cI a u21) ++ (W_State cI (q 1) u28)) hP hD [13, 14, 15, 16, 17, 5, 6, 7, 8, 9] [0, 1, 2, 3, 4, 10, 11, 12] [0, 1, 2, 3, 4, 13, 14, 15, 16, 17, 5, 6, 7, 8, 9, 10, 11, 12] rfl rfl (by decide) (by decide) hk1 hFc hP1 hD1 (by decide) rfl
          obtain ⟨hP, hD⟩ := jBlk (bs := [W_LS cI a u21, W_State cI (q 1) u28, W_Sav cS (a 13) [((q 0) 0), ((q 1) 0), ((q 2) 0), ((q 3) 0), ((q 4) 0), ((q 5) 0)], W_State cI (q 0) (z22 0), W_State cI (q 2) (z22 2), W_State cI (q 3) (z22 3), W_State cI (q 4) (z22 4), W_State cI (q 5) (z22 5)]) (bs' := [W_LS cI a u21, W_Sav cS (a 13) [((q 0) 0), ((q 1) 0), ((q 2) 0), ((q 3) 0), ((q 4) 0), ((q 5) 0)], W_State cI (q 0) (z22 0), W_State cI (q 1) u28, W_State cI (q 2) (z22 2), W_State cI (q 3) (z22 3), W_State cI (q 4) (z22 4), W_State cI (q 5) (z22 5)]) hP hD [0, 2, 3, 1, 4, 5, 6, 7] rfl rfl
          have hP : va_P (dC, dI) vwCl (List.flatten [W_LS cI a u21, W_Sav cS (a 13) [((q 0) 0), ((q 1) 0), ((q 2) 0), ((q 3) 0), ((q 4) 0), ((q 5) 0)], W_State cI (q 0) (z22 0), W_State cI (q 1) u28, W_State cI (q 2) (z22 2), W_State cI (q 3) (z22 3), W_State cI (q 4) (z22 4), W_State cI (q 5) (z22 5)]) H := hP
          have hD : va_D A (List.flatten [W_LS cI a u21, W_Sav cS (a 13) [((q 0) 0), ((q 1) 0), ((q 2) 0), ((q 3) 0), ((q 4) 0), ((q 5) 0)], W_State cI (q 0) (z22 0), W_State cI (q 1) u28, W_State cI (q 2) (z22 2), W_State cI (q 3) (z22 3), W_State cI (q 4) (z22 4), W_State cI (q 5) (z22 5)]) := hD
          refine lv_aload_n hx hb dX4_saveState_37 rfl (lv_at hl 1 rfl) ?_
          refine lv_dup hx hb dX4_saveState_38 rfl ?_
          refine va_get (D := (dC, dI)) (ci := 4) (v := .int (g_LS_savedStates u21)) (C := RX4) (T := TX4) (N := 8) hx hb hts hinX4 hown hK hP 0 rfl rfl 5 (by decide) (hts (Cond.fieldLink RX4 125 "LearnedShapes" "savedStates" "I") (List.mem_of_getElem? (i := 1) rfl)) (fun _ h9 => h9) rfl dX4_saveState_39 ?_
          refine lv_iconst (v := (1 : Int32)) hx hb dX4_saveState_42 (by decide) ?_
          refine lv_iadd hx hb dX4_saveState_43 ?_
          refine va_put (D := (dC, dI)) (ci := 4) (v := .int ((g_LS_savedStates u21) + (1 : Int32))) (ty := .int) (C := RX4) (T := TX4) (N := 8) hx hb hts hinX4 tyX4 tyX4_ok nmX4 hown hK hP hD hS 0 rfl rfl 5 (by decide) (hts (Cond.fieldLink RX4 125 "LearnedShapes" "savedStates" "I") (List.mem_of_getElem? (i := 1) rfl)) (fun _ h9 => h9) rfl (by decide +kernel) (rfl) rfl (Nat.le_of_ble_eq_true rfl) dX4_saveState_44 (fun H locs hP hD hS => ?_)
          have hP : va_P (dC, dI) vwCl (List.flatten [W_LS cI a (s_LS_savedStates u21 ((g_LS_savedStates u21) + (1 : Int32))), W_Sav cS (a 13) [((q 0) 0), ((q 1) 0), ((q 2) 0), ((q 3) 0), ((q 4) 0), ((q 5) 0)], W_State cI (q 0) (z22 0), W_State cI (q 1) u28, W_State cI (q 2) (z22 2), W_State cI (q 3) (z22 3), W_State cI (q 4) (z22 4), W_State cI (q 5) (z22 5)]) H := hP
          have hD : va_D A (List.flatten [W_LS cI a (s_LS_savedStates u21 ((g_LS_savedStates u21) + (1 : Int32))), W_Sav cS (a 13) [((q 0) 0), ((q 1) 0), ((q 2) 0), ((q 3) 0), ((q 4) 0), ((q 5) 0)], W_State cI (q 0) (z22 0), W_State cI (q 1) u28, W_State cI (q 2) (z22 2), W_State cI (q 3) (z22 3), W_State cI (q 4) (z22 4), W_State cI (q 5) (z22 5)]) := hD
          have hP : va_P (dC, dI) vwCl (W_Full cI cS a q (s_LS_savedStates u21 ((g_LS_savedStates u21) + (1 : Int32))) (mk6 (z22 0) u28 (z22 2) (z22 3) (z22 4) (z22 5))) H := hP
          have hD : va_D A (W_Full cI cS a q (s_LS_savedStates u21 ((g_LS_savedStates u21) + (1 : Int32))) (mk6 (z22 0) u28 (z22 2) (z22 3) (z22 4) (z22 5))) := hD
          have e50 := Option.some.inj hF
          obtain ⟨e60, e51⟩ := Prod.mk.inj e50
          subst e60
          subst e51
          exact W.vret hx hb hr (fun t ht hW => ⟨⟨((s_LS_savedStates u21 ((g_LS_savedStates u21) + (1 : Int32))), (mk6 (z22 0) u28 (z22 2) (z22 3) (z22 4) (z22 5))), rfl, rfl, q, by rw [ht]; exact hP, va_K.moved hW.alike hK, hD⟩, hS.F ht⟩) hS.2.2 dX4_saveState_47
        · have hF := F_neg c27 hF
          by_cases c30 : (g_LS_savedStates u21) = (2 : Int32)
          · have hF := F_pos c30 hF
            have hP : va_P (dC, dI) vwCl (W_Full cI cS a q u21 z22) H := hP
            have hD : va_D A (W_Full cI cS a q u21 z22) := hD
            have hPc := hP
            have hDc := hD
            have hFc := jFreeW (ws := (W_Full cI cS a q u21 z22)) hD hS hA
            refine va_callq (va_runV (As := [.int (g_LS_savedStates u21)]) (rest := []) ⟨hx, hb, hml, hown, hts⟩ (c_X4_savedAt_2 l dC dI cI cS a q H.size _ _ _ c30) (cwV 1 hts gX4_saveState_X4_savedAt rfl rfl rfl (by decide +kernel) ⟨Nat.le_of_ble_eq_true rfl, Nat.le_of_ble_eq_true rfl⟩) (jPreV hK hPc hDc hN (ci := 4) rfl rfl) rfl rfl hl.1 rfl (lv_room (Nat.le_of_ble_eq_true rfl)) dX4_saveState_21 ⟨Nat.le_of_ble_eq_true rfl, Nat.le_of_ble_eq_true rfl⟩) hS (fun q _ h => hFc q h) hFc (fun r9 u9 t H locs ht hvm hw hB hz1 hk1 hS => ?_)
            subst hw
            obtain ⟨hP1, -, hD1⟩ := hB
            rw [ht] at hP1
            have hP : va_P (dC, dI) vwCl ((W_Full cI cS a q u21 z22)) H := hP1
            have hD : va_D A ((W_Full cI cS a q u21 z22)) := hD1.weaken (fun _ _ _ h => hFc _ h)
            have hP : va_P (dC, dI) vwCl (List.flatten [W_LS cI a u21, W_Sav cS (a 13) [((q 0) 0), ((q 1) 0), ((q 2) 0), ((q 3) 0), ((q 4) 0), ((q 5) 0)], W_State cI (q 0) (z22 0), W_State cI (q 1) (z22 1), W_State cI (q 2) (z22 2), W_State cI (q 3) (z22 3), W_State cI (q 4) (z22 4), W_State cI (q 5) (z22 5)]) H := hP
            have hD : va_D A (List.flatten [W_LS cI a u21, W_Sav cS (a 13) [((q 0) 0), ((q 1) 0), ((q 2) 0), ((q 3) 0), ((q 4) 0), ((q 5) 0)], W_State cI (q 0) (z22 0), W_State cI (q 1) (z22 1), W_State cI (q 2) (z22 2), W_State cI (q 3) (z22 3), W_State cI (q 4) (z22 4), W_State cI (q 5) (z22 5)]) := hD
            refine W.eq (g2 := F0 m 24 ls [.ref ((q 2) 0)]) rfl ?_
            refine lv_astore_n (lv' := [(1, .ref ((q 2) 0)), (0, .ref (a 0))]) hx hb dX4_saveState_24 rfl hl (by decide) rfl (fun ls hl => ?_)
            refine lv_aload_n hx hb dX4_saveState_25 rfl (lv_at hl 0 rfl) ?_
            refine lv_ifnull hx hb dX4_saveState_26 ?_
            refine lv_aload_n hx hb dX4_saveState_29 rfl (lv_at hl 0 rfl) ?_
            refine lv_aload_n hx hb dX4_saveState_30 rfl (lv_at hl 1 rfl) ?_
            refine va_get (D := (dC, dI)) (ci := 4) (v := .ref (a 5)) (C := RX4) (T := TX4) (N := 8) hx hb hts hinX4 hown hK hP 0 rfl rfl 3 (by decide) (hts (Cond.fieldLink RX4 23 "LearnedShapes" "now" "LLearnedShapes$State;") (List.mem_of_getElem? (i := 3) rfl)) (fun _ h9 => h9) rfl dX4_saveState_31 ?_
            obtain ⟨u31, h32, hF⟩ := ob1_some hF
            obtain ⟨hP, hD⟩ := jBlk (bs := [W_LS cI a u21, W_Sav cS (a 13) [((q 0) 0), ((q 1) 0), ((q 2) 0), ((q 3) 0), ((q 4) 0), ((q 5) 0)], W_State cI (q 0) (z22 0), W_State cI (q 1) (z22 1), W_State cI (q 2) (z22 2), W_State cI (q 3) (z22 3), W_State cI (q 4) (z22 4), W_State cI (q 5) (z22 5)]) (bs' := [W_LS cI a u21, W_State cI (q 2) (z22 2), W_Sav cS (a 13) [((q 0) 0), ((q 1) 0), ((q 2) 0), ((q 3) 0), ((q 4) 0), ((q 5) 0)], W_State cI (q 0) (z22 0), W_State cI (q 1) (z22 1), W_State cI (q 3) (z22 3), W_State cI (q 4) (z22 4), W_State cI (q 5) (z22 5)]) hP hD [0, 4, 1, 2, 3, 5, 6, 7] rfl rfl
            have hPc := hP.sub (ws' := (W_State cI (q 2) (z22 2)) ++ (W_State cI (sh a 5) (g_LS_now u21))) [13, 14, 15, 16, 17, 5, 6, 7, 8, 9] rfl
            have hDc := hD.sub (ws' := (W_State cI (q 2) (z22 2)) ++ (W_State cI (sh a 5) (g_LS_now u21))) [13, 14, 15, 16, 17, 5, 6, 7, 8, 9] (by decide) rfl
            have hFc := va_free (wc := (W_State cI (q 2) (z22 2)) ++ (W_State cI (sh a 5) (g_LS_now u21))) hD hS hA [13, 14, 15, 16, 17, 5, 6, 7, 8, 9] rfl
            refine va_callv (va_runV (As := [.ref (a 5)]) (rest := []) ⟨hx, hb, hml, hown, hts⟩ (c_X2_copyFrom l dC dI cI (q 2) (sh a 5) H.size _ _ _ h32) (cwV 1 hts gX4_saveState_X2_copyFrom rfl rfl rfl (by decide +kernel) ⟨Nat.le_of_ble_eq_true rfl, Nat.le_of_ble_eq_true rfl⟩) (jPreV hKi hPc hDc hN (ci := 2) rfl rfl) rfl rfl hl.1 rfl (lv_room (Nat.le_of_ble_eq_true rfl)) dX4_saveState_34 ⟨Nat.le_of_ble_eq_true rfl, Nat.le_of_ble_eq_true rfl⟩) hS (fun q _ h => hFc q h) hFc (fun u' t H locs ht hvm hw hB hz1 hk1 hS => ?_)
            subst hw
            obtain ⟨hP1, -, hD1⟩ := hB
            rw [ht] at hP1
            obtain ⟨hP, hD⟩ := jJoinF (wa := (W_LS cI a u21) ++ (W_State cI (q 2) (z22 2))) (wb := List.flatten [W_Sav cS (a 13) [((q 0) 0), ((q 1) 0), ((q 2) 0), ((q 3) 0), ((q 4) 0), ((q 5) 0)], W_State cI (q 0) (z22 0), W_State cI (q 1) (z22 1), W_State cI (q 3) (z22 3), W_State cI (q 4) (z22 4), W_State cI (q 5) (z22 5)]) (wc := (W_State cI (q 2) (z22 2)) ++ (W_State cI (sh a 5) (g_LS_now u21))) (w1 := (W_State cI (q 2) u31) ++ (W_State cI (sh a 5) (g_LS_now u21))) (ws' := (W_LS cI a u21) ++ (W_State cI (q 2) u31)) hP hD [13, 14, 15, 16, 17, 5, 6, 7, 8, 9] [0, 1, 2, 3, 4, 10, 11, 12] [0, 1, 2, 3, 4, 13, 14, 15, 16, 17, 5, 6, 7, 8, 9, 10, 11, 12] rfl rfl (by decide) (by decide) hk1 hFc hP1 hD1 (by decide) rfl
            obtain ⟨hP, hD⟩ := jBlk (bs := [W_LS cI a u21, W_State cI (q 2) u31, W_Sav cS (a 13) [((q 0) 0), ((q 1) 0), ((q 2) 0), ((q 3) 0), ((q 4) 0), ((q 5) 0)], W_State cI (q 0) (z22 0), W_State cI (q 1) (z22 1), W_State cI (q 3) (z22 3), W_State cI (q 4) (z22 4), W_State cI (q 5) (z22 5)]) (bs' := [W_LS cI a u21, W_Sav cS (a 13) [((q 0) 0), ((q 1) 0), ((q 2) 0), ((q 3) 0), ((q 4) 0), ((q 5) 0)], W_State cI (q 0) (z22 0), W_State cI (q 1) (z22 1), W_State cI (q 2) u31, W_State cI (q 3) (z22 3), W_State cI (q 4) (z22 4), W_State cI (q 5) (z22 5)]) hP hD [0, 2, 3, 4, 1, 5, 6, 7] rfl rfl
            have hP : va_P (dC, dI) vwCl (List.flatten [W_LS cI a u21, W_Sav cS (a 13) [((q 0) 0), ((q 1) 0), ((q 2) 0), ((q 3) 0), ((q 4) 0), ((q 5) 0)], W_State cI (q 0) (z22 0), W_State cI (q 1) (z22 1), W_State cI (q 2) u31, W_State cI (q 3) (z22 3), W_State cI (q 4) (z22 4), W_State cI (q 5) (z22 5)]) H := hP
            have hD : va_D A (List.flatten [W_LS cI a u21, W_Sav cS (a 13) [((q 0) 0), ((q 1) 0), ((q 2) 0), ((q 3) 0), ((q 4) 0), ((q 5) 0)], W_State cI (q 0) (z22 0), W_State cI (q 1) (z22 1), W_State cI (q 2) u31, W_State cI (q 3) (z22 3), W_State cI (q 4) (z22 4), W_State cI (q 5) (z22 5)]) := hD
            refine lv_aload_n hx hb dX4_saveState_37 rfl (lv_at hl 1 rfl) ?_
            refine lv_dup hx hb dX4_saveState_38 rfl ?_
            refine va_get (D := (dC, dI)) (ci := 4) (v := .int (g_LS_savedStates u21)) (C := RX4) (T := TX4) (N := 8) hx hb hts hinX4 hown hK hP 0 rfl rfl 5 (by decide) (hts (Cond.fieldLink RX4 125 "LearnedShapes" "savedStates" "I") (List.mem_of_getElem? (i := 1) rfl)) (fun _ h9 => h9) rfl dX4_saveState_39 ?_
            refine lv_iconst (v := (1 : Int32)) hx hb dX4_saveState_42 (by decide) ?_
            refine lv_iadd hx hb dX4_saveState_43 ?_
            refine va_put (D := (dC, dI)) (ci := 4) (v := .int ((g_LS_savedStates u21) + (1 : Int32))) (ty := .int) (C := RX4) (T := TX4) (N := 8) hx hb hts hinX4 tyX4 tyX4_ok nmX4 hown hK hP hD hS 0 rfl rfl 5 (by decide) (hts (Cond.fieldLink RX4 125 "LearnedShapes" "savedStates" "I") (List.mem_of_getElem? (i := 1) rfl)) (fun _ h9 => h9) rfl (by decide +kernel) (rfl) rfl (Nat.le_of_ble_eq_true rfl) dX4_saveState_44 (fun H locs hP hD hS => ?_)
            have hP : va_P (dC, dI) vwCl (List.flatten [W_LS cI a (s_LS_savedStates u21 ((g_LS_savedStates u21) + (1 : Int32))), W_Sav cS (a 13) [((q 0) 0), ((q 1) 0), ((q 2) 0), ((q 3) 0), ((q 4) 0), ((q 5) 0)], W_State cI (q 0) (z22 0), W_State cI (q 1) (z22 1), W_State cI (q 2) u31, W_State cI (q 3) (z22 3), W_State cI (q 4) (z22 4), W_State cI (q 5) (z22 5)]) H := hP
            have hD : va_D A (List.flatten [W_LS cI a (s_LS_savedStates u21 ((g_LS_savedStates u21) + (1 : Int32))), W_Sav cS (a 13) [((q 0) 0), ((q 1) 0), ((q 2) 0), ((q 3) 0), ((q 4) 0), ((q 5) 0)], W_State cI (q 0) (z22 0), W_State cI (q 1) (z22 1), W_State cI (q 2) u31, W_State cI (q 3) (z22 3), W_State cI (q 4) (z22 4), W_State cI (q 5) (z22 5)]) := hD
            have hP : va_P (dC, dI) vwCl (W_Full cI cS a q (s_LS_savedStates u21 ((g_LS_savedStates u21) + (1 : Int32))) (mk6 (z22 0) (z22 1) u31 (z22 3) (z22 4) (z22 5))) H := hP
            have hD : va_D A (W_Full cI cS a q (s_LS_savedStates u21 ((g_LS_savedStates u21) + (1 : Int32))) (mk6 (z22 0) (z22 1) u31 (z22 3) (z22 4) (z22 5))) := hD
            have e50 := Option.some.inj hF
            obtain ⟨e60, e51⟩ := Prod.mk.inj e50
            subst e60
            subst e51
            exact W.vret hx hb hr (fun t ht hW => ⟨⟨((s_LS_savedStates u21 ((g_LS_savedStates u21) + (1 : Int32))), (mk6 (z22 0) (z22 1) u31 (z22 3) (z22 4) (z22 5))), rfl, rfl, q, by rw [ht]; exact hP, va_K.moved hW.alike hK, hD⟩, hS.F ht⟩) hS.2.2 dX4_saveState_47
          · have hF := F_neg c30 hF
            by_cases c33 : (g_LS_savedStates u21) = (3 : Int32)
            · have hF := F_pos c33 hF
              have hP : va_P (dC, dI) vwCl (W_Full cI cS a q u21 z22) H := hP
              have hD : va_D A (W_Full cI cS a q u21 z22) := hD
              have hPc := hP
              have hDc := hD
              have hFc := jFreeW (ws := (W_Full cI cS a q u21 z22)) hD hS hA
              refine va_callq (va_runV (As := [.int (g_LS_savedStates u21)]) (rest := []) ⟨hx, hb, hml, hown, hts⟩ (c_X4_savedAt_3 l dC dI cI cS a q H.size _ _ _ c33) (cwV 1 hts gX4_saveState_X4_savedAt rfl rfl rfl (by decide +kernel) ⟨Nat.le_of_ble_eq_true rfl, Nat.le_of_ble_eq_true rfl⟩) (jPreV hK hPc hDc hN (ci := 4) rfl rfl) rfl rfl hl.1 rfl (lv_room (Nat.le_of_ble_eq_true rfl)) dX4_saveState_21 ⟨Nat.le_of_ble_eq_true rfl, Nat.le_of_ble_eq_true rfl⟩) hS (fun q _ h => hFc q h) hFc (fun r9 u9 t H locs ht hvm hw hB hz1 hk1 hS => ?_)
              subst hw
              obtain ⟨hP1, -, hD1⟩ := hB
              rw [ht] at hP1
              have hP : va_P (dC, dI) vwCl ((W_Full cI cS a q u21 z22)) H := hP1
              have hD : va_D A ((W_Full cI cS a q u21 z22)) := hD1.weaken (fun _ _ _ h => hFc _ h)
              have hP : va_P (dC, dI) vwCl (List.flatten [W_LS cI a u21, W_Sav cS (a 13) [((q 0) 0), ((q 1) 0), ((q 2) 0), ((q 3) 0), ((q 4) 0), ((q 5) 0)], W_State cI (q 0) (z22 0), W_State cI (q 1) (z22 1), W_State cI (q 2) (z22 2), W_State cI (q 3) (z22 3), W_State cI (q 4) (z22 4), W_State cI (q 5) (z22 5)]) H := hP
              have hD : va_D A (List.flatten [W_LS cI a u21, W_Sav cS (a 13) [((q 0) 0), ((q 1) 0), ((q 2) 0), ((q 3) 0), ((q 4) 0), ((q 5) 0)], W_State cI (q 0) (z22 0), W_State cI (q 1) (z22 1), W_State cI (q 2) (z22 2), W_State cI (q 3) (z22 3), W_State cI (q 4) (z22 4), W_State cI (q 5) (z22 5)]) := hD
              refine W.eq (g2 := F0 m 24 ls [.ref ((q 3) 0)]) rfl ?_
              refine lv_astore_n (lv' := [(1, .ref ((q 3) 0)), (0, .ref (a 0))]) hx hb dX4_saveState_24 rfl hl (by decide) rfl (fun ls hl => ?_)
              refine lv_aload_n hx hb dX4_saveState_25 rfl (lv_at hl 0 rfl) ?_
              refine lv_ifnull hx hb dX4_saveState_26 ?_
              refine lv_aload_n hx hb dX4_saveState_29 rfl (lv_at hl 0 rfl) ?_
              refine lv_aload_n hx hb dX4_saveState_30 rfl (lv_at hl 1 rfl) ?_
              refine va_get (D := (dC, dI)) (ci := 4) (v := .ref (a 5)) (C := RX4) (T := TX4) (N := 8) hx hb hts hinX4 hown hK hP 0 rfl rfl 3 (by decide) (hts (Cond.fieldLink RX4 23 "LearnedShapes" "now" "LLearnedShapes$State;") (List.mem_of_getElem? (i := 3) rfl)) (fun _ h9 => h9) rfl dX4_saveState_31 ?_
              obtain ⟨u34, h35, hF⟩ := ob1_some hF
              obtain ⟨hP, hD⟩ := jBlk (bs := [W_LS cI a u21, W_Sav cS (a 13) [((q 0) 0), ((q 1) 0), ((q 2) 0), ((q 3) 0), ((q 4) 0), ((q 5) 0)], W_State cI (q 0) (z22 0), W_State cI (q 1) (z22 1), W_State cI (q 2) (z22 2), W_State cI (q 3) (z22 3), W_State cI (q 4) (z22 4), W_State cI (q 5) (z22 5)]) (bs' := [W_LS cI a u21, W_State cI (q 3) (z22 3), W_Sav cS (a 13) [((q 0) 0), ((q 1) 0), ((q 2) 0), ((q 3) 0), ((q 4) 0), ((q 5) 0)], W_State cI (q 0) (z22 0), W_State cI (q 1) (z22 1), W_State cI (q 2) (z22 2), W_State cI (q 4) (z22 4), W_State cI (q 5) (z22 5)]) hP hD [0, 5, 1, 2, 3, 4, 6, 7] rfl rfl
              have hPc := hP.sub (ws' := (W_State cI (q 3) (z22 3)) ++ (W_State cI (sh a 5) (g_LS_now u21))) [13, 14, 15, 16, 17, 5, 6, 7, 8, 9] rfl
              have hDc := hD.sub (ws' := (W_State cI (q 3) (z22 3)) ++ (W_State cI (sh a 5) (g_LS_now u21))) [13, 14, 15, 16, 17, 5, 6, 7, 8, 9] (by decide) rfl
              have hFc := va_free (wc := (W_State cI (q 3) (z22 3)) ++ (W_State cI (sh a 5) (g_LS_now u21))) hD hS hA [13, 14, 15, 16, 17, 5, 6, 7, 8, 9] rfl
              refine va_callv (va_runV (As := [.ref (a 5)]) (rest := []) ⟨hx, hb, hml, hown, hts⟩ (c_X2_copyFrom l dC dI cI (q 3) (sh a 5) H.size _ _ _ h35) (cwV 1 hts gX4_saveState_X2_copyFrom rfl rfl rfl (by decide +kernel) ⟨Nat.le_of_ble_eq_true rfl, Nat.le_of_ble_eq_true rfl⟩) (jPreV hKi hPc hDc hN (ci := 2) rfl rfl) rfl rfl hl.1 rfl (lv_room (Nat.le_of_ble_eq_true rfl)) dX4_saveState_34 ⟨Nat.le_of_ble_eq_true rfl, Nat.le_of_ble_eq_true rfl⟩) hS (fun q _ h => hFc q h) hFc (fun u' t H locs ht hvm hw hB hz1 hk1 hS => ?_)
              subst hw
              obtain ⟨hP1, -, hD1⟩ := hB
              rw [ht] at hP1
              obtain ⟨hP, hD⟩ := jJoinF (wa := (W_LS cI a u21) ++ (W_State cI (q 3) (z22 3))) (wb := List.flatten [W_Sav cS (a 13) [((q 0) 0), ((q 1) 0), ((q 2) 0), ((q 3) 0), ((q 4) 0), ((q 5) 0)], W_State cI (q 0) (z22 0), W_State cI (q 1) (z22 1), W_State cI (q 2) (z22 2), W_State cI (q 4) (z22 4), W_State cI (q 5) (z22 5)]) (wc := (W_State cI (q 3) (z22 3)) ++ (W_State cI (sh a 5) (g_LS_now u21))) (w1 := (W_State cI (q 3) u34) ++ (W_State cI (sh a 5) (g_LS_now u21))) (ws' := (W_LS cI a u21) ++ (W_State cI (q 3) u34)) hP hD [13, 14, 15, 16, 17, 5, 6, 7, 8, 9] [0, 1, 2, 3, 4, 10, 11, 12] [0, 1, 2, 3, 4, 13, 14, 15, 16, 17, 5, 6, 7, 8, 9, 10, 11, 12] rfl rfl (by decide) (by decide) hk1 hFc hP1 hD1 (by decide) rfl
              obtain ⟨hP, hD⟩ := jBlk (bs := [W_LS cI a u21, W_State cI (q 3) u34, W_Sav cS (a 13) [((q 0) 0), ((q 1) 0), ((q 2) 0), ((q 3) 0), ((q 4) 0), ((q 5) 0)], W_State cI (q 0) (z22 0), W_State cI (q 1) (z22 1), W_State cI (q 2) (z22 2), W_State cI (q 4) (z22 4), W_State cI (q 5) (z22 5)]) (bs' := [W_LS cI a u21, W_Sav cS (a 13) [((q 0) 0), ((q 1) 0), ((q 2) 0), ((q 3) 0), ((q 4) 0), ((q 5) 0)], W_State cI (q 0) (z22 0), W_State cI (q 1) (z22 1), W_State cI (q 2) (z22 2), W_State cI (q 3) u34, W_State cI (q 4) (z22 4), W_State cI (q 5) (z22 5)]) hP hD [0, 2, 3, 4, 5, 1, 6, 7] rfl rfl
              have hP : va_P (dC, dI) vwCl (List.flatten [W_LS cI a u21, W_Sav cS (a 13) [((q 0) 0), ((q 1) 0), ((q 2) 0), ((q 3) 0), ((q 4) 0), ((q 5) 0)], W_State cI (q 0) (z22 0), W_State cI (q 1) (z22 1), W_State cI (q 2) (z22 2), W_State cI (q 3) u34, W_State cI (q 4) (z22 4), W_State cI (q 5) (z22 5)]) H := hP
              have hD : va_D A (List.flatten [W_LS cI a u21, W_Sav cS (a 13) [((q 0) 0), ((q 1) 0), ((q 2) 0), ((q 3) 0), ((q 4) 0), ((q 5) 0)], W_State cI (q 0) (z22 0), W_State cI (q 1) (z22 1), W_State cI (q 2) (z22 2), W_State cI (q 3) u34, W_State cI (q 4) (z22 4), W_State cI (q 5) (z22 5)]) := hD
              refine lv_aload_n hx hb dX4_saveState_37 rfl (lv_at hl 1 rfl) ?_
              refine lv_dup hx hb dX4_saveState_38 rfl ?_
              refine va_get (D := (dC, dI)) (ci := 4) (v := .int (g_LS_savedStates u21)) (C := RX4) (T := TX4) (N := 8) hx hb hts hinX4 hown hK hP 0 rfl rfl 5 (by decide) (hts (Cond.fieldLink RX4 125 "LearnedShapes" "savedStates" "I") (List.mem_of_getElem? (i := 1) rfl)) (fun _ h9 => h9) rfl dX4_saveState_39 ?_
              refine lv_iconst (v := (1 : Int32)) hx hb dX4_saveState_42 (by decide) ?_
              refine lv_iadd hx hb dX4_saveState_43 ?_
              refine va_put (D := (dC, dI)) (ci := 4) (v := .int ((g_LS_savedStates u21) + (1 : Int32))) (ty := .int) (C := RX4) (T := TX4) (N := 8) hx hb hts hinX4 tyX4 tyX4_ok nmX4 hown hK hP hD hS 0 rfl rfl 5 (by decide) (hts (Cond.fieldLink RX4 125 "LearnedShapes" "savedStates" "I") (List.mem_of_getElem? (i := 1) rfl)) (fun _ h9 => h9) rfl (by decide +kernel) (rfl) rfl (Nat.le_of_ble_eq_true rfl) dX4_saveState_44 (fun H locs hP hD hS => ?_)
              have hP : va_P (dC, dI) vwCl (List.flatten [W_LS cI a (s_LS_savedStates u21 ((g_LS_savedStates u21) + (1 : Int32))), W_Sav cS (a 13) [((q 0) 0), ((q 1) 0), ((q 2) 0), ((q 3) 0), ((q 4) 0), ((q 5) 0)], W_State cI (q 0) (z22 0), W_State cI (q 1) (z22 1), W_State cI (q 2) (z22 2), W_State cI (q 3) u34, W_State cI (q 4) (z22 4), W_State cI (q 5) (z22 5)]) H := hP
              have hD : va_D A (List.flatten [W_LS cI a (s_LS_savedStates u21 ((g_LS_savedStates u21) + (1 : Int32))), W_Sav cS (a 13) [((q 0) 0), ((q 1) 0), ((q 2) 0), ((q 3) 0), ((q 4) 0), ((q 5) 0)], W_State cI (q 0) (z22 0), W_State cI (q 1) (z22 1), W_State cI (q 2) (z22 2), W_State cI (q 3) u34, W_State cI (q 4) (z22 4), W_State cI (q 5) (z22 5)]) := hD
              have hP : va_P (dC, dI) vwCl (W_Full cI cS a q (s_LS_savedStates u21 ((g_LS_savedStates u21) + (1 : Int32))) (mk6 (z22 0) (z22 1) (z22 2) u34 (z22 4) (z22 5))) H := hP
              have hD : va_D A (W_Full cI cS a q (s_LS_savedStates u21 ((g_LS_savedStates u21) + (1 : Int32))) (mk6 (z22 0) (z22 1) (z22 2) u34 (z22 4) (z22 5))) := hD
              have e50 := Option.some.inj hF
              obtain ⟨e60, e51⟩ := Prod.mk.inj e50
              subst e60
              subst e51
              exact W.vret hx hb hr (fun t ht hW => ⟨⟨((s_LS_savedStates u21 ((g_LS_savedStates u21) + (1 : Int32))), (mk6 (z22 0) (z22 1) (z22 2) u34 (z22 4) (z22 5))), rfl, rfl, q, by rw [ht]; exact hP, va_K.moved hW.alike hK, hD⟩, hS.F ht⟩) hS.2.2 dX4_saveState_47
            · have hF := F_neg c33 hF
              by_cases c36 : (g_LS_savedStates u21) = (4 : Int32)
              · have hF := F_pos c36 hF
                have hP : va_P (dC, dI) vwCl (W_Full cI cS a q u21 z22) H := hP
                have hD : va_D A (W_Full cI cS a q u21 z22) := hD
                have hPc := hP
                have hDc := hD
                have hFc := jFreeW (ws := (W_Full cI cS a q u21 z22)) hD hS hA
                refine va_callq (va_runV (As := [.int (g_LS_savedStates u21)]) (rest := []) ⟨hx, hb, hml, hown, hts⟩ (c_X4_savedAt_4 l dC dI cI cS a q H.size _ _ _ c36) (cwV 1 hts gX4_saveState_X4_savedAt rfl rfl rfl (by decide +kernel) ⟨Nat.le_of_ble_eq_true rfl, Nat.le_of_ble_eq_true rfl⟩) (jPreV hK hPc hDc hN (ci := 4) rfl rfl) rfl rfl hl.1 rfl (lv_room (Nat.le_of_ble_eq_true rfl)) dX4_saveState_21 ⟨Nat.le_of_ble_eq_true rfl, Nat.le_of_ble_eq_true rfl⟩) hS (fun q _ h => hFc q h) hFc (fun r9 u9 t H locs ht hvm hw hB hz1 hk1 hS => ?_)
                subst hw
                obtain ⟨hP1, -, hD1⟩ := hB
                rw [ht] at hP1
                have hP : va_P (dC, dI) vwCl ((W_Full cI cS a q u21 z22)) H := hP1
                have hD : va_D A ((W_Full cI cS a q u21 z22)) := hD1.weaken (fun _ _ _ h => hFc _ h)
                have hP : va_P (dC, dI) vwCl (List.flatten [W_LS cI a u21, W_Sav cS (a 13) [((q 0) 0), ((q 1) 0), ((q 2) 0), ((q 3) 0), ((q 4) 0), ((q 5) 0)], W_State cI (q 0) (z22 0), W_State cI (q 1) (z22 1), W_State cI (q 2) (z22 2), W_State cI (q 3) (z22 3), W_State cI (q 4) (z22 4), W_State cI (q 5) (z22 5)]) H := hP
                have hD : va_D A (List.flatten [W_LS cI a u21, W_Sav cS (a 13) [((q 0) 0), ((q 1) 0), ((q 2) 0), ((q 3) 0), ((q 4) 0), ((q 5) 0)], W_State cI (q 0) (z22 0), W_State cI (q 1) (z22 1), W_State cI (q 2) (z22 2), W_State cI (q 3) (z22 3), W_State cI (q 4) (z22 4), W_State cI (q 5) (z22 5)]) := hD
                refine W.eq (g2 := F0 m 24 ls [.ref ((q 4) 0)]) rfl ?_
                refine lv_astore_n (lv' := [(1, .ref ((q 4) 0)), (0, .ref (a 0))]) hx hb dX4_saveState_24 rfl hl (by decide) rfl (fun ls hl => ?_)
                refine lv_aload_n hx hb dX4_saveState_25 rfl (lv_at hl 0 rfl) ?_
                refine lv_ifnull hx hb dX4_saveState_26 ?_
                refine lv_aload_n hx hb dX4_saveState_29 rfl (lv_at hl 0 rfl) ?_
                refine lv_aload_n hx hb dX4_saveState_30 rfl (lv_at hl 1 rfl) ?_
                refine va_get (D := (dC, dI)) (ci := 4) (v := .ref (a 5)) (C := RX4) (T := TX4) (N := 8) hx hb hts hinX4 hown hK hP 0 rfl rfl 3 (by decide) (hts (Cond.fieldLink RX4 23 "LearnedShapes" "now" "LLearnedShapes$State;") (List.mem_of_getElem? (i := 3) rfl)) (fun _ h9 => h9) rfl dX4_saveState_31 ?_
                obtain ⟨u37, h38, hF⟩ := ob1_some hF
                obtain ⟨hP, hD⟩ := jBlk (bs := [W_LS cI a u21, W_Sav cS (a 13) [((q 0) 0), ((q 1) 0), ((q 2) 0), ((q 3) 0), ((q 4) 0), ((q 5) 0)], W_State cI (q 0) (z22 0), W_State cI (q 1) (z22 1), W_State cI (q 2) (z22 2), W_State cI (q 3) (z22 3), W_State cI (q 4) (z22 4), W_State cI (q 5) (z22 5)]) (bs' := [W_LS cI a u21, W_State cI (q 4) (z22 4), W_Sav cS (a 13) [((q 0) 0), ((q 1) 0), ((q 2) 0), ((q 3) 0), ((q 4) 0), ((q 5) 0)], W_State cI (q 0) (z22 0), W_State cI (q 1) (z22 1), W_State cI (q 2) (z22 2), W_State cI (q 3) (z22 3), W_State cI (q 5) (z22 5)]) hP hD [0, 6, 1, 2, 3, 4, 5, 7] rfl rfl
                have hPc := hP.sub (ws' := (W_State cI (q 4) (z22 4)) ++ (W_State cI (sh a 5) (g_LS_now u21))) [13, 14, 15, 16, 17, 5, 6, 7, 8, 9] rfl
                have hDc := hD.sub (ws' := (W_State cI (q 4) (z22 4)) ++ (W_State cI (sh a 5) (g_LS_now u21))) [13, 14, 15, 16, 17, 5, 6, 7, 8, 9] (by decide) rfl
                have hFc := va_free (wc := (W_State cI (q 4) (z22 4)) ++ (W_State cI (sh a 5) (g_LS_now u21))) hD hS hA [13, 14, 15, 16, 17, 5, 6, 7, 8, 9] rfl
                refine va_callv (va_runV (As := [.ref (a 5)]) (rest := []) ⟨hx, hb, hml, hown, hts⟩ (c_X2_copyFrom l dC dI cI (q 4) (sh a 5) H.size _ _ _ h38) (cwV 1 hts gX4_saveState_X2_copyFrom rfl rfl rfl (by decide +kernel) ⟨Nat.le_of_ble_eq_true rfl, Nat.le_of_ble_eq_true rfl⟩) (jPreV hKi hPc hDc hN (ci := 2) rfl rfl) rfl rfl hl.1 rfl (lv_room (Nat.le_of_ble_eq_true rfl)) dX4_saveState_34 ⟨Nat.le_of_ble_eq_true rfl, Nat.le_of_ble_eq_true rfl⟩) hS (fun q _ h => hFc q h) hFc (fun u' t H locs ht hvm hw hB hz1 hk1 hS => ?_)
                subst hw
                obtain ⟨hP1, -, hD1⟩ := hB
                rw [ht] at hP1
                obtain ⟨hP, hD⟩ := jJoinF (wa := (W_LS cI a u21) ++ (W_State cI (q 4) (z22 4))) (wb := List.flatten [W_Sav cS (a 13) [((q 0) 0), ((q 1) 0), ((q 2) 0), ((q 3) 0), ((q 4) 0), ((q 5) 0)], W_State cI (q 0) (z22 0), W_State cI (q 1) (z22 1), W_State cI (q 2) (z22 2), W_State cI (q 3) (z22 3), W_State cI (q 5) (z22 5)]) (wc := (W_State cI (q 4) (z22 4)) ++ (W_State cI (sh a 5) (g_LS_now u21))) (w1 := (W_State cI (q 4) u37) ++ (W_State cI (sh a 5) (g_LS_now u21))) (ws' := (W_LS cI a u21) ++ (W_State cI (q 4) u37)) hP hD [13, 14, 15, 16, 17, 5, 6, 7, 8, 9] [0, 1, 2, 3, 4, 10, 11, 12] [0, 1, 2, 3, 4, 13, 14, 15, 16, 17, 5, 6, 7, 8, 9, 10, 11, 12] rfl rfl (by decide) (by decide) hk1 hFc hP1 hD1 (by decide) rfl
                obtain ⟨hP, hD⟩ := jBlk (bs := [W_LS cI a u21, W_State cI (q 4) u37, W_Sav cS (a 13) [((q 0) 0), ((q 1) 0), ((q 2) 0), ((q 3) 0), ((q 4) 0), ((q 5) 0)], W_State cI (q 0) (z22 0), W_State cI (q 1) (z22 1), W_State cI (q 2) (z22 2), W_State cI (q 3) (z22 3), W_State cI (q 5) (z22 5)]) (bs' := [W_LS cI a u21, W_Sav cS (a 13) [((q 0) 0), ((q 1) 0), ((q 2) 0), ((q 3) 0), ((q 4) 0), ((q 5) 0)], W_State cI (q 0) (z22 0), W_State cI (q 1) (z22 1), W_State cI (q 2) (z22 2), W_State cI (q 3) (z22 3), W_State cI (q 4) u37, W_State cI (q 5) (z22 5)]) hP hD [0, 2, 3, 4, 5, 6, 1, 7] rfl rfl
                have hP : va_P (dC, dI) vwCl (List.flatten [W_LS cI a u21, W_Sav cS (a 13) [((q 0) 0), ((q 1) 0), ((q 2) 0), ((q 3) 0), ((q 4) 0), ((q 5) 0)], W_State cI (q 0) (z22 0), W_State cI (q 1) (z22 1), W_State cI (q 2) (z22 2), W_State cI (q 3) (z22 3), W_State cI (q 4) u37, W_State cI (q 5) (z22 5)]) H := hP
                have hD : va_D A (List.flatten [W_LS cI a u21, W_Sav cS (a 13) [((q 0) 0), ((q 1) 0), ((q 2) 0), ((q 3) 0), ((q 4) 0), ((q 5) 0)], W_State cI (q 0) (z22 0), W_State cI (q 1) (z22 1), W_State cI (q 2) (z22 2), W_State cI (q 3) (z22 3), W_State cI (q 4) u37, W_State cI (q 5) (z22 5)]) := hD
                refine lv_aload_n hx hb dX4_saveState_37 rfl (lv_at hl 1 rfl) ?_
                refine lv_dup hx hb dX4_saveState_38 rfl ?_
                refine va_get (D := (dC, dI)) (ci := 4) (v := .int (g_LS_savedStates u21)) (C := RX4) (T := TX4) (N := 8) hx hb hts hinX4 hown hK hP 0 rfl rfl 5 (by decide) (hts (Cond.fieldLink RX4 125 "LearnedShapes" "savedStates" "I") (List.mem_of_getElem? (i := 1) rfl)) (fun _ h9 => h9) rfl dX4_saveState_39 ?_
                refine lv_iconst (v := (1 : Int32)) hx hb dX4_saveState_42 (by decide) ?_
                refine lv_iadd hx hb dX4_saveState_43 ?_
                refine va_put (D := (dC, dI)) (ci := 4) (v := .int ((g_LS_savedStates u21) + (1 : Int32))) (ty := .int) (C := RX4) (T := TX4) (N := 8) hx hb hts hinX4 tyX4 tyX4_ok nmX4 hown hK hP hD hS 0 rfl rfl 5 (by decide) (hts (Cond.fieldLink RX4 125 "LearnedShapes" "savedStates" "I") (List.mem_of_getElem? (i := 1) rfl)) (fun _ h9 => h9) rfl (by decide +kernel) (rfl) rfl (Nat.le_of_ble_eq_true rfl) dX4_saveState_44 (fun H locs hP hD hS => ?_)
                have hP : va_P (dC, dI) vwCl (List.flatten [W_LS cI a (s_LS_savedStates u21 ((g_LS_savedStates u21) + (1 : Int32))), W_Sav cS (a 13) [((q 0) 0), ((q 1) 0), ((q 2) 0), ((q 3) 0), ((q 4) 0), ((q 5) 0)], W_State cI (q 0) (z22 0), W_State cI (q 1) (z22 1), W_State cI (q 2) (z22 2), W_State cI (q 3) (z22 3), W_State cI (q 4) u37, W_State cI (q 5) (z22 5)]) H := hP
                have hD : va_D A (List.flatten [W_LS cI a (s_LS_savedStates u21 ((g_LS_savedStates u21) + (1 : Int32))), W_Sav cS (a 13) [((q 0) 0), ((q 1) 0), ((q 2) 0), ((q 3) 0), ((q 4) 0), ((q 5) 0)], W_State cI (q 0) (z22 0), W_State cI (q 1) (z22 1), W_State cI (q 2) (z22 2), W_State cI (q 3) (z22 3), W_State cI (q 4) u37, W_State cI (q 5) (z22 5)]) := hD
                have hP : va_P (dC, dI) vwCl (W_Full cI cS a q (s_LS_savedStates u21 ((g_LS_savedStates u21) + (1 : Int32))) (mk6 (z22 0) (z22 1) (z22 2) (z22 3) u37 (z22 5))) H := hP
                have hD : va_D A (W_Full cI cS a q (s_LS_savedStates u21 ((g_LS_savedStates u21) + (1 : Int32))) (mk6 (z22 0) (z22 1) (z22 2) (z22 3) u37 (z22 5))) := hD
                have e50 := Option.some.inj hF
                obtain ⟨e60, e51⟩ := Prod.mk.inj e50
                subst e60
                subst e51
                exact W.vret hx hb hr (fun t ht hW => ⟨⟨((s_LS_savedStates u21 ((g_LS_savedStates u21) + (1 : Int32))), (mk6 (z22 0) (z22 1) (z22 2) (z22 3) u37 (z22 5))), rfl, rfl, q, by rw [ht]; exact hP, va_K.moved hW.alike hK, hD⟩, hS.F ht⟩) hS.2.2 dX4_saveState_47
              · have hF := F_neg c36 hF
                by_cases c39 : (g_LS_savedStates u21) = (5 : Int32)
                · have hF := F_pos c39 hF
                  have hP : va_P (dC, dI) vwCl (W_Full cI cS a q u21 z22) H := hP
                  have hD : va_D A (W_Full cI cS a q u21 z22) := hD
                  have hPc := hP
                  have hDc := hD
                  have hFc := jFreeW (ws := (W_Full cI cS a q u21 z22)) hD hS hA
                  refine va_callq (va_runV (As := [.int (g_LS_savedStates u21)]) (rest := []) ⟨hx, hb, hml, hown, hts⟩ (c_X4_savedAt_5 l dC dI cI cS a q H.size _ _ _ c39) (cwV 1 hts gX4_saveState_X4_savedAt rfl rfl rfl (by decide +kernel) ⟨Nat.le_of_ble_eq_true rfl, Nat.le_of_ble_eq_true rfl⟩) (jPreV hK hPc hDc hN (ci := 4) rfl rfl) rfl rfl hl.1 rfl (lv_room (Nat.le_of_ble_eq_true rfl)) dX4_saveState_21 ⟨Nat.le_of_ble_eq_true rfl, Nat.le_of_ble_eq_true rfl⟩) hS (fun q _ h => hFc q h) hFc (fun r9 u9 t H locs ht hvm hw hB hz1 hk1 hS => ?_)
                  subst hw
                  obtain ⟨hP1, -, hD1⟩ := hB
                  rw [ht] at hP1
                  have hP : va_P (dC, dI) vwCl ((W_Full cI cS a q u21 z22)) H := hP1
                  have hD : va_D A ((W_Full cI cS a q u21 z22)) := hD1.weaken (fun _ _ _ h => hFc _ h)
                  have hP : va_P (dC, dI) vwCl (List.flatten [W_LS cI a u21, W_Sav cS (a 13) [((q 0) 0), ((q 1) 0), ((q 2) 0), ((q 3) 0), ((q 4) 0), ((q 5) 0)], W_State cI (q 0) (z22 0), W_State cI (q 1) (z22 1), W_State cI (q 2) (z22 2), W_State cI (q 3) (z22 3), W_State cI (q 4) (z22 4), W_State cI (q 5) (z22 5)]) H := hP
                  have hD : va_D A (List.flatten [W_LS cI a u21, W_Sav cS (a 13) [((q 0) 0), ((q 1) 0), ((q 2) 0), ((q 3) 0), ((q 4) 0), ((q 5) 0)], W_State cI (q 0) (z22 0), W_State cI (q 1) (z22 1), W_State cI (q 2) (z22 2), W_State cI (q 3) (z22 3), W_State cI (q 4) (z22 4), W_State cI (q 5) (z22 5)]) := hD
                  refine W.eq (g2 := F0 m 24 ls [.ref ((q 5) 0)]) rfl ?_
                  refine lv_astore_n (lv' := [(1, .ref ((q 5) 0)), (0, .ref (a 0))]) hx hb dX4_saveState_24 rfl hl (by decide) rfl (fun ls hl => ?_)
                  refine lv_aload_n hx hb dX4_saveState_25 rfl (lv_at hl 0 rfl) ?_
                  refine lv_ifnull hx hb dX4_saveState_26 ?_
                  refine lv_aload_n hx hb dX4_saveState_29 rfl (lv_at hl 0 rfl) ?_
                  refine lv_aload_n hx hb dX4_saveState_30 rfl (lv_at hl 1 rfl) ?_
                  refine va_get (D := (dC, dI)) (ci := 4) (v := .ref (a 5)) (C := RX4) (T := TX4) (N := 8) hx hb hts hinX4 hown hK hP 0 rfl rfl 3 (by decide) (hts (Cond.fieldLink RX4 23 "LearnedShapes" "now" "LLearnedShapes$State;") (List.mem_of_getElem? (i := 3) rfl)) (fun _ h9 => h9) rfl dX4_saveState_31 ?_
                  obtain ⟨u40, h41, hF⟩ := ob1_some hF
                  obtain ⟨hP, hD⟩ := jBlk (bs := [W_LS cI a u21, W_Sav cS (a 13) [((q 0) 0), ((q 1) 0), ((q 2) 0), ((q 3) 0), ((q 4) 0), ((q 5) 0)], W_State cI (q 0) (z22 0), W_State cI (q 1) (z22 1), W_State cI (q 2) (z22 2), W_State cI (q 3) (z22 3), W_State cI (q 4) (z22 4), W_State cI (q 5) (z22 5)]) (bs' := [W_LS cI a u21, W_State cI (q 5) (z22 5), W_Sav cS (a 13) [((q 0) 0), ((q 1) 0), ((q 2) 0), ((q 3) 0), ((q 4) 0), ((q 5) 0)], W_State cI (q 0) (z22 0), W_State cI (q 1) (z22 1), W_State cI (q 2) (z22 2), W_State cI (q 3) (z22 3), W_State cI (q 4) (z22 4)]) hP hD [0, 7, 1, 2, 3, 4, 5, 6] rfl rfl
                  have hPc := hP.sub (ws' := (W_State cI (q 5) (z22 5)) ++ (W_State cI (sh a 5) (g_LS_now u21))) [13, 14, 15, 16, 17, 5, 6, 7, 8, 9] rfl
                  have hDc := hD.sub (ws' := (W_State cI (q 5) (z22 5)) ++ (W_State cI (sh a 5) (g_LS_now u21))) [13, 14, 15, 16, 17, 5, 6, 7, 8, 9] (by decide) rfl
                  have hFc := va_free (wc := (W_State cI (q 5) (z22 5)) ++ (W_State cI (sh a 5) (g_LS_now u21))) hD hS hA [13, 14, 15, 16, 17, 5, 6, 7, 8, 9] rfl
                  refine va_callv (va_runV (As := [.ref (a 5)]) (rest := []) ⟨hx, hb, hml, hown, hts⟩ (c_X2_copyFrom l dC dI cI (q 5) (sh a 5) H.size _ _ _ h41) (cwV 1 hts gX4_saveState_X2_copyFrom rfl rfl rfl (by decide +kernel) ⟨Nat.le_of_ble_eq_true rfl, Nat.le_of_ble_eq_true rfl⟩) (jPreV hKi hPc hDc hN (ci := 2) rfl rfl) rfl rfl hl.1 rfl (lv_room (Nat.le_of_ble_eq_true rfl)) dX4_saveState_34 ⟨Nat.le_of_ble_eq_true rfl, Nat.le_of_ble_eq_true rfl⟩) hS (fun q _ h => hFc q h) hFc (fun u' t H locs ht hvm hw hB hz1 hk1 hS => ?_)
                  subst hw
                  obtain ⟨hP1, -, hD1⟩ := hB
                  rw [ht] at hP1
                  obtain ⟨hP, hD⟩ := jJoinF (wa := (W_LS cI a u21) ++ (W_State cI (q 5) (z22 5))) (wb := List.flatten [W_Sav cS (a 13) [((q 0) 0), ((q 1) 0), ((q 2) 0), ((q 3) 0), ((q 4) 0), ((q 5) 0)], W_State cI (q 0) (z22 0), W_State cI (q 1) (z22 1), W_State cI (q 2) (z22 2), W_State cI (q 3) (z22 3), W_State cI (q 4) (z22 4)]) (wc := (W_State cI (q 5) (z22 5)) ++ (W_State cI (sh a 5) (g_LS_now u21))) (w1 := (W_State cI (q 5) u40) ++ (W_State cI (sh a 5) (g_LS_now u21))) (ws' := (W_LS cI a u21) ++ (W_State cI (q 5) u40)) hP hD [13, 14, 15, 16, 17, 5, 6, 7, 8, 9] [0, 1, 2, 3, 4, 10, 11, 12] [0, 1, 2, 3, 4, 13, 14, 15, 16, 17, 5, 6, 7, 8, 9, 10, 11, 12] rfl rfl (by decide) (by decide) hk1 hFc hP1 hD1 (by decide) rfl
                  obtain ⟨hP, hD⟩ := jBlk (bs := [W_LS cI a u21, W_State cI (q 5) u40, W_Sav cS (a 13) [((q 0) 0), ((q 1) 0), ((q 2) 0), ((q 3) 0), ((q 4) 0), ((q 5) 0)], W_State cI (q 0) (z22 0), W_State cI (q 1) (z22 1), W_State cI (q 2) (z22 2), W_State cI (q 3) (z22 3), W_State cI (q 4) (z22 4)]) (bs' := [W_LS cI a u21, W_Sav cS (a 13) [((q 0) 0), ((q 1) 0), ((q 2) 0), ((q 3) 0), ((q 4) 0), ((q 5) 0)], W_State cI (q 0) (z22 0), W_State cI (q 1) (z22 1), W_State cI (q 2) (z22 2), W_State cI (q 3) (z22 3), W_State cI (q 4) (z22 4), W_State cI (q 5) u40]) hP hD [0, 2, 3, 4, 5, 6, 7, 1] rfl rfl
                  have hP : va_P (dC, dI) vwCl (List.flatten [W_LS cI a u21, W_Sav cS (a 13) [((q 0) 0), ((q 1) 0), ((q 2) 0), ((q 3) 0), ((q 4) 0), ((q 5) 0)], W_State cI (q 0) (z22 0), W_State cI (q 1) (z22 1), W_State cI (q 2) (z22 2), W_State cI (q 3) (z22 3), W_State cI (q 4) (z22 4), W_State cI (q 5) u40]) H := hP
                  have hD : va_D A (List.flatten [W_LS cI a u21, W_Sav cS (a 13) [((q 0) 0), ((q 1) 0), ((q 2) 0), ((q 3) 0), ((q 4) 0), ((q 5) 0)], W_State cI (q 0) (z22 0), W_State cI (q 1) (z22 1), W_State cI (q 2) (z22 2), W_State cI (q 3) (z22 3), W_State cI (q 4) (z22 4), W_State cI (q 5) u40]) := hD
                  refine lv_aload_n hx hb dX4_saveState_37 rfl (lv_at hl 1 rfl) ?_
                  refine lv_dup hx hb dX4_saveState_38 rfl ?_
                  refine va_get (D := (dC, dI)) (ci := 4) (v := .int (g_LS_savedStates u21)) (C := RX4) (T := TX4) (N := 8) hx hb hts hinX4 hown hK hP 0 rfl rfl 5 (by decide) (hts (Cond.fieldLink RX4 125 "LearnedShapes" "savedStates" "I") (List.mem_of_getElem? (i := 1) rfl)) (fun _ h9 => h9) rfl dX4_saveState_39 ?_
                  refine lv_iconst (v := (1 : Int32)) hx hb dX4_saveState_42 (by decide) ?_
                  refine lv_iadd hx hb dX4_saveState_43 ?_
                  refine va_put (D := (dC, dI)) (ci := 4) (v := .int ((g_LS_savedStates u21) + (1 : Int32))) (ty := .int) (C := RX4) (T := TX4) (N := 8) hx hb hts hinX4 tyX4 tyX4_ok nmX4 hown hK hP hD hS 0 rfl rfl 5 (by decide) (hts (Cond.fieldLink RX4 125 "LearnedShapes" "savedStates" "I") (List.mem_of_getElem? (i := 1) rfl)) (fun _ h9 => h9) rfl (by decide +kernel) (rfl) rfl (Nat.le_of_ble_eq_true rfl) dX4_saveState_44 (fun H locs hP hD hS => ?_)
                  have hP : va_P (dC, dI) vwCl (List.flatten [W_LS cI a (s_LS_savedStates u21 ((g_LS_savedStates u21) + (1 : Int32))), W_Sav cS (a 13) [((q 0) 0), ((q 1) 0), ((q 2) 0), ((q 3) 0), ((q 4) 0), ((q 5) 0)], W_State cI (q 0) (z22 0), W_State cI (q 1) (z22 1), W_State cI (q 2) (z22 2), W_State cI (q 3) (z22 3), W_State cI (q 4) (z22 4), W_State cI (q 5) u40]) H := hP
                  have hD : va_D A (List.flatten [W_LS cI a (s_LS_savedStates u21 ((g_LS_savedStates u21) + (1 : Int32))), W_Sav cS (a 13) [((q 0) 0), ((q 1) 0), ((q 2) 0), ((q 3) 0), ((q 4) 0), ((q 5) 0)], W_State cI (q 0) (z22 0), W_State cI (q 1) (z22 1), W_State cI (q 2) (z22 2), W_State cI (q 3) (z22 3), W_State cI (q 4) (z22 4), W_State cI (q 5) u40]) := hD
                  have hP : va_P (dC, dI) vwCl (W_Full cI cS a q (s_LS_savedStates u21 ((g_LS_savedStates u21) + (1 : Int32))) (mk6 (z22 0) (z22 1) (z22 2) (z22 3) (z22 4) u40)) H := hP
                  have hD : va_D A (W_Full cI cS a q (s_LS_savedStates u21 ((g_LS_savedStates u21) + (1 : Int32))) (mk6 (z22 0) (z22 1) (z22 2) (z22 3) (z22 4) u40)) := hD
                  have e50 := Option.some.inj hF
                  obtain ⟨e60, e51⟩ := Prod.mk.inj e50
                  subst e60
                  subst e51
                  exact W.vret hx hb hr (fun t ht hW => ⟨⟨((s_LS_savedStates u21 ((g_LS_savedStates u21) + (1 : Int32))), (mk6 (z22 0) (z22 1) (z22 2) (z22 3) (z22 4) u40)), rfl, rfl, q, by rw [ht]; exact hP, va_K.moved hW.alike hK, hD⟩, hS.F ht⟩) hS.2.2 dX4_saveState_47
                · have hF := F_neg c39 hF
                  obtain ⟨g42, hF⟩ := og_some hF
                  have hP : va_P (dC, dI) vwCl (W_Full cI cS a q u21 z22) H := hP
                  have hD : va_D A (W_Full cI cS a q u21 z22) := hD
                  have hPc := hP
                  have hDc := hD
                  have hFc := jFreeW (ws := (W_Full cI cS a q u21 z22)) hD hS hA
                  refine va_callq (va_runV (As := [.int (g_LS_savedStates u21)]) (rest := []) ⟨hx, hb, hml, hown, hts⟩ (c_X4_savedAt_n l dC dI cI cS a q H.size _ _ _ (of_decide_eq_true g42)) (cwV 1 hts gX4_saveState_X4_savedAt rfl rfl rfl (by decide +kernel) ⟨Nat.le_of_ble_eq_true rfl, Nat.le_of_ble_eq_true rfl⟩) (jPreV hK hPc hDc hN (ci := 4) rfl rfl) rfl rfl hl.1 rfl (lv_room (Nat.le_of_ble_eq_true rfl)) dX4_saveState_21 ⟨Nat.le_of_ble_eq_true rfl, Nat.le_of_ble_eq_true rfl⟩) hS (fun q _ h => hFc q h) hFc (fun r9 u9 t H locs ht hvm hw hB hz1 hk1 hS => ?_)
                  subst hw
                  obtain ⟨hP1, -, hD1⟩ := hB
                  rw [ht] at hP1
                  have hP : va_P (dC, dI) vwCl ((W_Full cI cS a q u21 z22)) H := hP1
                  have hD : va_D A ((W_Full cI cS a q u21 z22)) := hD1.weaken (fun _ _ _ h => hFc _ h)
                  have hP : va_P (dC, dI) vwCl (List.flatten [W_LS cI a u21, W_Sav cS (a 13) [((q 0) 0), ((q 1) 0), ((q 2) 0), ((q 3) 0), ((q 4) 0), ((q 5) 0)], W_State cI (q 0) (z22 0), W_State cI (q 1) (z22 1), W_State cI (q 2) (z22 2), W_State cI (q 3) (z22 3), W_State cI (q 4) (z22 4), W_State cI (q 5) (z22 5)]) H := hP
                  have hD : va_D A (List.flatten [W_LS cI a u21, W_Sav cS (a 13) [((q 0) 0), ((q 1) 0), ((q 2) 0), ((q 3) 0), ((q 4) 0), ((q 5) 0)], W_State cI (q 0) (z22 0), W_State cI (q 1) (z22 1), W_State cI (q 2) (z22 2), W_State cI (q 3) (z22 3), W_State cI (q 4) (z22 4), W_State cI (q 5) (z22 5)]) := hD
                  refine W.eq (g2 := F0 m 24 ls [.null]) rfl ?_
                  refine lv_astore_nN (lv' := [(1, .null), (0, .ref (a 0))]) hx hb dX4_saveState_24 rfl hl (by decide) rfl (fun ls hl => ?_)
                  refine lv_aload_nN hx hb dX4_saveState_25 rfl (lv_at hl 0 rfl) ?_
                  refine lv_ifnullN (tgt := 47) hx hb dX4_saveState_26 (by decide) ?_
                  have hP : va_P (dC, dI) vwCl (W_Full cI cS a q u21 z22) H := hP
                  have hD : va_D A (W_Full cI cS a q u21 z22) := hD
                  have e50 := Option.some.inj hF
                  obtain ⟨e60, e51⟩ := Prod.mk.inj e50
                  subst e60
                  subst e51
                  exact W.vret hx hb hr (fun t ht hW => ⟨⟨(u21, z22), rfl, rfl, q, by rw [ht]; exact hP, va_K.moved hW.alike hK, hD⟩, hS.F ht⟩) hS.2.2 dX4_saveState_47
  exact KE _ _ hP hD hS
