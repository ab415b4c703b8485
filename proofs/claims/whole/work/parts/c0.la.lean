/-! ===== the law: base ===== -/
/-- a method with a table of its own that returns always -/
theorem met_ofWH {l : Launch} {y : MethodName} {ws ws' : List Cond} {rm : Room} {Pc : Array Value → State → Prop} {Qc : Array Value → State → Outcome → State → Prop} {mc ms : Nat} {free : Addr → Prop} {cc : ByteArray} {maxL : Nat} {ret : Option FieldType} {hh : List (Nat × Nat × Nat × Nat)}
    (hy : plainName y.cls = true) (hw : ws = Cond.codeWith y cc maxL ret hh :: ws')
    (body : ∀ p e s m args below meth c s₁, BodyLoose p l y (headSpec ws rm) cc maxL ret e s m args below meth c s₁ → c.maxLocals = maxL → Pc args s →
      W p l e (headSpec ws rm).room s m args below meth c s.heap [] 0 0 (MQ below Qc args s mc ms free) (entryFrame m args maxL)) : Met l y ws rm Pc Qc mc ms free := by
  refine MetFree.of_bodyS (code := cc) (maxLocals := maxL) (ret := ret) hy ?_ ?_
  · intro args s m h hn
    obtain ⟨m9, meth, c, hn9, h1, h2, h3, h4, -, h5, h6, -⟩ := Cond.codeWith_spec (atoms_spec (ws := ws) h _ (by rw [hw]; exact List.mem_cons_self))
    cases hn.symm.trans hn9
    exact ⟨meth, c, h1, h2, h3, h4, h5, h6⟩
  · intro p e s m args below meth c s₁ B hml hP _
    have hh0 : s₁.heap = s.heap := by rw [B.state]; rfl
    obtain ⟨t, a1, o, b1, b2, b3⟩ := body p e s m args below meth c s₁ B hml hP s₁ hh0 (Stand.of_body B)
    exact ⟨t, o, a1, b1, b2, ⟨b3.1, b3.2⟩⟩
theorem jLeftP {D : va_G} {wa wb : va_W} {H : Heap} (hP : va_P D vwCl (wa ++ wb) H) : va_P D vwCl wa H := fun k q h => hP k q (by
  rw [List.getElem?_append_left (List.getElem?_eq_some_iff.mp h).1]; exact h)
theorem jPreX.blind {D : va_G} {tys : List (ClassId × FieldType)} {sz : Nat} {ws : va_W} {av : List Value} : FrameBlind (va_Pc av (jPreX D tys sz ws)) := fun a U g mk q => by
  obtain ⟨q0, ⟨q1, qP, qK, qD, qN⟩, z1, z2⟩ := q
  exact ⟨q0, ⟨q1, qP, va_K.moved (u := U) (U := U.calling g mk a) (Vm.Alike.refl U.vm) qK, qD, EN.same (u := U) (U := U.calling g mk a) rfl qN⟩, vx_Zq.moved (u := U) (U := U.calling g mk a) (Vm.Alike.refl U.vm) z1, vx_Zq.moved (u := U) (U := U.calling g mk a) (Vm.Alike.refl U.vm) z2⟩
theorem jZq {C n d : String} {A0 : Nat → Prop} {s : State} {H0 H : Heap} {locs : List Loc} {ws : va_W} (h : vx_Zq C n d A0 s H0) (hS : va_S A0 H0 H locs) (hF : ∀ q, va_A ws H.size q → A0 q) {U : State} (hU : U.heap = H) (hW : s.WarmedH U.vm) : vx_Zq C n d (va_A ws U.heap.size) U U.heap := by
  rw [hU]
  exact ((h.kept (H1 := H) hS.2.1).narrow hF).moved hW.alike
theorem jPreSX {D : va_G} {tys : List (ClassId × FieldType)} {s : State} {H0 H : Heap} {locs : List Loc} {ws : va_W} {A A0 : Nat → Prop} {As : List Value} (hK : va_K D vwCl tys s) (hP : va_P D vwCl ws H) (hD : va_D A ws) (hN : EN s) (hU : vx_Zq Bundle.tN "UNASSIGNED_STACK" Bundle.steD A0 s H0) (hSN : vx_Zq Bundle.tN "SUPPRESSED_SENTINEL" Bundle.listD A0 s H0) (hS : va_S A0 H0 H locs) (hF : ∀ q, va_A ws H.size q → A0 q) : PreS s H (va_Pc As (jPreX D tys H.size ws)) As :=
  ⟨jPreX.blind, fun U hUH hW => ⟨rfl, ⟨by rw [hUH], by rw [hUH]; exact hP, va_K.moved hW.alike hK, hD.weaken (fun _ _ _ _ => trivial), EN.warm hW hN⟩, jZq hU hS hF hUH hW, jZq hSN hS hF hUH hW⟩⟩
theorem jPreVX {D : va_G} {tys : List (ClassId × FieldType)} {s : State} {H0 H : Heap} {locs : List Loc} {ws : va_W} {A A0 : Nat → Prop} {As : List Value} {b ci : Nat} {q : vw_C} {fs : List Value} (hK : va_K D vwCl tys s) (hP : va_P D vwCl ws H) (hD : va_D A ws) (hN : EN s) (hU : vx_Zq Bundle.tN "UNASSIGNED_STACK" Bundle.steD A0 s H0) (hSN : vx_Zq Bundle.tN "SUPPRESSED_SENTINEL" Bundle.listD A0 s H0) (hS : va_S A0 H0 H locs) (hF : ∀ q, va_A ws H.size q → A0 q) (hc : vwCl[ci]? = some q) (he : ws[0]? = some (b, .inr (ci, fs))) : PreV s H q.1 b (va_Pc (.ref b :: As) (jPreX D tys H.size ws)) As :=
  ⟨jPreX.blind, va_recv hK hP (ci := ci) (q0 := 0) hc he, fun U hUH hW => ⟨rfl, ⟨by rw [hUH], by rw [hUH]; exact hP, va_K.moved hW.alike hK, hD.weaken (fun _ _ _ _ => trivial), EN.warm hW hN⟩, jZq hU hS hF hUH hW, jZq hSN hS hF hUH hW⟩⟩
/-- the rows that the law reads answers from -/
def OL (cL : ClassId) (o : Nat) (f : Nat → Int64) : va_W := [(o, .inl (cL, 1, .inr (.inl f)))]
def OD (cD : ClassId) (o : Nat) (f : Nat → UInt64) : va_W := [(o, .inl (cD, 1, .inr (.inr (.inr (.inl f)))))]
def W_Rest (cI cS : ClassId) (h : Nat) (q : Nat → Nat → Nat) (Z : Nat → S_State) : va_W := List.flatten [W_Sav cS h [q 0 0, q 1 0, q 2 0, q 3 0, q 4 0, q 5 0], W_State cI (q 0) (Z 0), W_State cI (q 1) (Z 1), W_State cI (q 2) (Z 2), W_State cI (q 3) (Z 3), W_State cI (q 4) (Z 4), W_State cI (q 5) (Z 5)]
theorem W_Full_eq (cI cS : ClassId) (a : Nat → Nat) (q : Nat → Nat → Nat) (S : S_LS) (Z : Nat → S_State) : W_Full cI cS a q S Z = W_LS cI a S ++ W_Rest cI cS (a 13) q Z := rfl
/-- a part of a world is called; the rest stands beside what comes back -/
theorem jCallB {A0 : Nat → Prop} {D : va_G} {bs cs rs : List va_W} {H : Heap} (hP : va_P D vwCl bs.flatten H) (hD : va_D A0 bs.flatten) (perm : List Nat) (hp : perm.isPerm (List.range bs.length) = true) (h : perm.map (fun i => bs[i]?) = (rs ++ cs).map some) : va_P D vwCl cs.flatten H ∧ va_D A0 cs.flatten ∧ ∀ (H1 : Heap) (cs1 : List va_W), (∀ q : Nat, q < H.size → ¬ va_A cs.flatten H.size q → H1[q]? = H[q]?) → (∀ q, va_A cs.flatten H.size q → A0 q) → va_P D vwCl cs1.flatten H1 → va_D (va_A cs.flatten H.size) cs1.flatten → va_P D vwCl (rs ++ cs1).flatten H1 ∧ va_D A0 (rs ++ cs1).flatten := by
  obtain ⟨h1, h2⟩ := jBlk hP hD perm hp h
  rw [List.flatten_append] at h1 h2
  refine ⟨jLastP h1, jLastD h2, fun H1 cs1 hk hF hP1 hD1 => ?_⟩
  rw [List.flatten_append]
  exact jTail h1 h2 hk hF hP1 hD1
theorem flat1 (x : va_W) : List.flatten [x] = x := by simp
theorem flat2 (x y : va_W) : List.flatten [x, y] = x ++ y := by simp
theorem flat3 (x y z : va_W) : List.flatten [x, y, z] = x ++ (y ++ z) := by simp
/-- the law's world -/
def LWP (D : va_G) (cI cS cL cD : ClassId) (a am : Nat → Nat) (o o2 : Nat) (A0 : Nat → Prop) (f : Nat → Int64) (f2 : Nat → UInt64) (q : Nat → Nat → Nat) (S : S_LS) (Z : Nat → S_State) (M : S_Model) (H : Heap) : Prop := va_P D vwCl (List.flatten [OL cL o f, W_LS cI a S, W_Rest cI cS (a 13) q Z, W_Model cI am M, OD cD o2 f2]) H ∧ va_D A0 (List.flatten [OL cL o f, W_LS cI a S, W_Rest cI cS (a 13) q Z, W_Model cI am M, OD cD o2 f2])
section LW
variable {D : va_G} {cI cS cL cD : ClassId} {a am : Nat → Nat} {o o2 : Nat} {A0 : Nat → Prop} {f : Nat → Int64} {f2 : Nat → UInt64} {q : Nat → Nat → Nat} {S : S_LS} {Z : Nat → S_State} {M : S_Model} {H : Heap}
theorem LWP.full (h : LWP D cI cS cL cD a am o o2 A0 f f2 q S Z M H) : va_P D vwCl (OL cL o f ++ W_Full cI cS a q S Z) H ∧ va_D A0 (OL cL o f ++ W_Full cI cS a q S Z) ∧ ∀ (H1 : Heap) (f' : Nat → Int64) (q' : Nat → Nat → Nat) (S' : S_LS) (Z' : Nat → S_State), (∀ x : Nat, x < H.size → ¬ va_A (OL cL o f ++ W_Full cI cS a q S Z) H.size x → H1[x]? = H[x]?) → (∀ x, va_A (OL cL o f ++ W_Full cI cS a q S Z) H.size x → A0 x) → va_P D vwCl (OL cL o f' ++ W_Full cI cS a q' S' Z') H1 → va_D (va_A (OL cL o f ++ W_Full cI cS a q S Z) H.size) (OL cL o f' ++ W_Full cI cS a q' S' Z') → LWP D cI cS cL cD a am o o2 A0 f' f2 q' S' Z' M H1 := by
  obtain ⟨h1, h2⟩ := h
  obtain ⟨g1, g2, g3⟩ := jCallB (cs := [OL cL o f, W_LS cI a S, W_Rest cI cS (a 13) q Z]) (rs := [W_Model cI am M, OD cD o2 f2]) h1 h2 [3, 4, 0, 1, 2] rfl rfl
  rw [flat3, ← W_Full_eq] at g1 g2 g3
  refine ⟨g1, g2, fun H1 f' q' S' Z' hk hF hP1 hD1 => ?_⟩
  obtain ⟨k1, k2⟩ := g3 H1 [OL cL o f', W_LS cI a S', W_Rest cI cS (a 13) q' Z'] hk hF (by rw [flat3, ← W_Full_eq]; exact hP1) (by rw [flat3, ← W_Full_eq]; exact hD1)
  exact jBlk k1 k2 [2, 3, 4, 0, 1] rfl rfl
theorem LWP.plain (h : LWP D cI cS cL cD a am o o2 A0 f f2 q S Z M H) : va_P D vwCl (OL cL o f ++ W_LS cI a S) H ∧ va_D A0 (OL cL o f ++ W_LS cI a S) ∧ ∀ (H1 : Heap) (f' : Nat → Int64) (S' : S_LS), (∀ x : Nat, x < H.size → ¬ va_A (OL cL o f ++ W_LS cI a S) H.size x → H1[x]? = H[x]?) → (∀ x, va_A (OL cL o f ++ W_LS cI a S) H.size x → A0 x) → va_P D vwCl (OL cL o f' ++ W_LS cI a S') H1 → va_D (va_A (OL cL o f ++ W_LS cI a S) H.size) (OL cL o f' ++ W_LS cI a S') → LWP D cI cS cL cD a am o o2 A0 f' f2 q S' Z M H1 := by
  obtain ⟨h1, h2⟩ := h
  obtain ⟨g1, g2, g3⟩ := jCallB (cs := [OL cL o f, W_LS cI a S]) (rs := [W_Rest cI cS (a 13) q Z, W_Model cI am M, OD cD o2 f2]) h1 h2 [2, 3, 4, 0, 1] rfl rfl
  rw [flat2] at g1 g2 g3
  refine ⟨g1, g2, fun H1 f' S' hk hF hP1 hD1 => ?_⟩
  obtain ⟨k1, k2⟩ := g3 H1 [OL cL o f', W_LS cI a S'] hk hF (by rw [flat2]; exact hP1) (by rw [flat2]; exact hD1)
  exact jBlk k1 k2 [3, 4, 0, 1, 2] rfl rfl
theorem LWP.plainD (h : LWP D cI cS cL cD a am o o2 A0 f f2 q S Z M H) : va_P D vwCl (OD cD o2 f2 ++ W_LS cI a S) H ∧ va_D A0 (OD cD o2 f2 ++ W_LS cI a S) ∧ ∀ (H1 : Heap) (f' : Nat → UInt64) (S' : S_LS), (∀ x : Nat, x < H.size → ¬ va_A (OD cD o2 f2 ++ W_LS cI a S) H.size x → H1[x]? = H[x]?) → (∀ x, va_A (OD cD o2 f2 ++ W_LS cI a S) H.size x → A0 x) → va_P D vwCl (OD cD o2 f' ++ W_LS cI a S') H1 → va_D (va_A (OD cD o2 f2 ++ W_LS cI a S) H.size) (OD cD o2 f' ++ W_LS cI a S') → LWP D cI cS cL cD a am o o2 A0 f f' q S' Z M H1 := by
  obtain ⟨h1, h2⟩ := h
  obtain ⟨g1, g2, g3⟩ := jCallB (cs := [OD cD o2 f2, W_LS cI a S]) (rs := [OL cL o f, W_Rest cI cS (a 13) q Z, W_Model cI am M]) h1 h2 [0, 2, 3, 4, 1] rfl rfl
  rw [flat2] at g1 g2 g3
  refine ⟨g1, g2, fun H1 f' S' hk hF hP1 hD1 => ?_⟩
  obtain ⟨k1, k2⟩ := g3 H1 [OD cD o2 f', W_LS cI a S'] hk hF (by rw [flat2]; exact hP1) (by rw [flat2]; exact hD1)
  exact jBlk k1 k2 [0, 4, 1, 2, 3] rfl rfl
theorem LWP.all (h : LWP D cI cS cL cD a am o o2 A0 f f2 q S Z M H) : va_P D vwCl (W_Full cI cS a q S Z) H ∧ va_D A0 (W_Full cI cS a q S Z) ∧ ∀ (H1 : Heap) (q' : Nat → Nat → Nat) (S' : S_LS) (Z' : Nat → S_State), (∀ x : Nat, x < H.size → ¬ va_A (W_Full cI cS a q S Z) H.size x → H1[x]? = H[x]?) → (∀ x, va_A (W_Full cI cS a q S Z) H.size x → A0 x) → va_P D vwCl (W_Full cI cS a q' S' Z') H1 → va_D (va_A (W_Full cI cS a q S Z) H.size) (W_Full cI cS a q' S' Z') → LWP D cI cS cL cD a am o o2 A0 f f2 q' S' Z' M H1 := by
  obtain ⟨h1, h2⟩ := h
  obtain ⟨g1, g2, g3⟩ := jCallB (cs := [W_LS cI a S, W_Rest cI cS (a 13) q Z]) (rs := [OL cL o f, W_Model cI am M, OD cD o2 f2]) h1 h2 [0, 3, 4, 1, 2] rfl rfl
  rw [flat2, ← W_Full_eq] at g1 g2 g3
  refine ⟨g1, g2, fun H1 q' S' Z' hk hF hP1 hD1 => ?_⟩
  obtain ⟨k1, k2⟩ := g3 H1 [W_LS cI a S', W_Rest cI cS (a 13) q' Z'] hk hF (by rw [flat2, ← W_Full_eq]; exact hP1) (by rw [flat2, ← W_Full_eq]; exact hD1)
  exact jBlk k1 k2 [0, 3, 4, 1, 2] rfl rfl
theorem LWP.ls (h : LWP D cI cS cL cD a am o o2 A0 f f2 q S Z M H) : va_P D vwCl (W_LS cI a S) H ∧ va_D A0 (W_LS cI a S) ∧ ∀ (H1 : Heap) (S' : S_LS), (∀ x : Nat, x < H.size → ¬ va_A (W_LS cI a S) H.size x → H1[x]? = H[x]?) → (∀ x, va_A (W_LS cI a S) H.size x → A0 x) → va_P D vwCl (W_LS cI a S') H1 → va_D (va_A (W_LS cI a S) H.size) (W_LS cI a S') → LWP D cI cS cL cD a am o o2 A0 f f2 q S' Z M H1 := by
  obtain ⟨h1, h2⟩ := h
  obtain ⟨g1, g2, g3⟩ := jCallB (cs := [W_LS cI a S]) (rs := [OL cL o f, W_Rest cI cS (a 13) q Z, W_Model cI am M, OD cD o2 f2]) h1 h2 [0, 2, 3, 4, 1] rfl rfl
  rw [flat1] at g1 g2 g3
  refine ⟨g1, g2, fun H1 S' hk hF hP1 hD1 => ?_⟩
  obtain ⟨k1, k2⟩ := g3 H1 [W_LS cI a S'] hk hF (by rw [flat1]; exact hP1) (by rw [flat1]; exact hD1)
  exact jBlk k1 k2 [0, 4, 1, 2, 3] rfl rfl
theorem LWP.mod (h : LWP D cI cS cL cD a am o o2 A0 f f2 q S Z M H) : va_P D vwCl (W_Model cI am M) H ∧ va_D A0 (W_Model cI am M) ∧ ∀ (H1 : Heap) (M' : S_Model), (∀ x : Nat, x < H.size → ¬ va_A (W_Model cI am M) H.size x → H1[x]? = H[x]?) → (∀ x, va_A (W_Model cI am M) H.size x → A0 x) → va_P D vwCl (W_Model cI am M') H1 → va_D (va_A (W_Model cI am M) H.size) (W_Model cI am M') → LWP D cI cS cL cD a am o o2 A0 f f2 q S Z M' H1 := by
  obtain ⟨h1, h2⟩ := h
  obtain ⟨g1, g2, g3⟩ := jCallB (cs := [W_Model cI am M]) (rs := [OL cL o f, W_LS cI a S, W_Rest cI cS (a 13) q Z, OD cD o2 f2]) h1 h2 [0, 1, 2, 4, 3] rfl rfl
  rw [flat1] at g1 g2 g3
  refine ⟨g1, g2, fun H1 M' hk hF hP1 hD1 => ?_⟩
  obtain ⟨k1, k2⟩ := g3 H1 [W_Model cI am M'] hk hF (by rw [flat1]; exact hP1) (by rw [flat1]; exact hD1)
  exact jBlk k1 k2 [0, 1, 2, 4, 3] rfl rfl
theorem LWP.ol (h : LWP D cI cS cL cD a am o o2 A0 f f2 q S Z M H) : va_P D vwCl (OL cL o f) H := jLeftP h.plain.1
theorem LWP.od (h : LWP D cI cS cL cD a am o o2 A0 f f2 q S Z M H) : va_P D vwCl (OD cD o2 f2) H := jLeftP h.plainD.1
end LW
/-- what the law's walk stands on -/
def LCX (p : Program) (l : Launch) (s : State) (m : MethodId) (c : Code) (dC : Nat → ClassId) (dI : Nat → Nat → Nat) (cI cS cL cD : ClassId) (b L : Nat) (xs : Nat → Int32) : Prop :=
  p.tables.exec = Jvm.exec ∧ c.code = code ∧ c.maxLocals = 9 ∧ s.vm.findClass RL = some m.cls ∧ (∀ w ∈ wsL_law, w.before #[Value.ref b] s = true) ∧ va_X b L xs s s.heap ∧ b < s.heap.size ∧ va_K (dC, dI) vwCl [(cI, .int), (cS, .object "LearnedShapes$State"), (cL, .long), (cD, .double)] s ∧ EN s ∧ vx_Zq Bundle.tN "UNASSIGNED_STACK" Bundle.steD (fun q : Nat => s.heap.size ≤ q) s s.heap ∧ vx_Zq Bundle.tN "SUPPRESSED_SENTINEL" Bundle.listD (fun q : Nat => s.heap.size ≤ q) s s.heap ∧ l.stackTraces = false
theorem lg_cmp_self (x : Int64) : lg_cmp x x = 0 := by
  unfold lg_cmp
  rw [if_neg (fun h => by rw [gt_iff_lt, Int64.lt_iff_toInt_lt] at h; omega), if_pos rfl]
