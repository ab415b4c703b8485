/-! ===== the claim out of one walk of the law (begun from the kit's skeleton) ===== -/
/-! THE CLAIM OUT OF ONE WALK OF THE LAW'S BODY. Your part is whole_start (and what it stands on); all else here is the same for every law, but numbers. -/
def R_law : String := "LearnedShapesLaw"
def lw_P (b : Addr) (xs : List Int32) (args : Array Value) (s : State) : Prop := args = #[.ref b] ∧ s.IntsAt b xs ∧ xs.length ≤ 260 ∧ (Jvm.Cond.and given_1 narrow_1).before args s = true
/-- what a walk over the start with the record d0 says of its end, said of the start itself -/
theorem lw_closed {s t : State} {o : Outcome} {d0 : Drawn} {L : List Loc} {k n : Nat} (hd0 : s.drawn.sameBut d0 lw_cs) (hv : ∃ v, o = .returned v) (hW : (s.setDrawn d0).WarmedH t.vm) (hs : (s.setDrawn d0).sameButNew ({ t with vm := s.vm } : State) L k n) : State.butDraws s t lw_cs (fun t1 => Framed s o t1 L k n) := by
  have h2 : t.drawn = d0 := congrArg State.drawn hs.1
  refine ⟨⟨hv, hW, State.sameButNew.setDrawn hs s.drawn⟩, ?_, by decide⟩
  rw [h2]
  exact hd0
def lw_Q (_ : Array Value) (s : State) (o : Outcome) (t : State) : Prop := o = .returned (some (.int 1)) ∧ State.butDraws s t lw_cs (fun t1 => Framed s o t1 [] 600130 7301080)
def lw_Z (below : List Frame) (a : Array Value) (s : State) : State → Prop := fun t => ∃ o, t.status = .running ∧ Ended t below o ∧ lw_Q a s o t
/-- the law's own end, with 1 on the stack, nothing written that was there before, its room as the claim has it; d0: the record of draws at this point (at the entry s.drawn: begin with 'refine W.base ?_' and 'have hd0 := Drawn.sameBut.refl s.drawn lw_cs') -/
theorem lw_ret {p : Program} {l : Launch} {e : Env} {s : State} {m : MethodId} {below : List Frame} {meth : Method} {c : Code} {b : Nat} {d0 : Drawn} (hd0 : s.drawn.sameBut d0 lw_cs) (hx : p.tables.exec = Jvm.exec) (hb : c.code = code) (hr : meth.sig.returnType = ret) (hlocks : meth.locks = false) {pc : Nat} {H : Heap} {ls : Array Slot} (hdg : decode code pc = .ok (.ireturn, 1)) : W p l e room_1 (s.setDrawn d0) m #[Value.ref b] below meth c H [] 600130 7301080 (lw_Z below #[Value.ref b] s) (F0 m pc ls [.int 1]) := by
  intro T hT X
  obtain ⟨fs, hret, hrun, hended, hW, hframe⟩ := X.leave (v := some (.int 1)) (hlocks := hlocks) (fun h => by rw [hr] at h; cases h)
  have hmeth' : T.vm.method? m = some meth := X.method'
  refine ⟨T.setFrames fs, ?_, .returned (some (.int 1)), hrun, hended, rfl, lw_closed hd0 ⟨_, rfl⟩ hW hframe⟩
  jvm_step X.here [X.here.top, hx, hb, hdg, hmeth', hr, ret, narrow_b1]
  (try refine ⟨rfl, ?_⟩); (try refine ⟨rfl, ?_⟩)
  first | (intro acts; rw [hret _ acts rfl rfl rfl]) | rw [hret _ _ rfl rfl rfl]
  exact Steps.refl _
/-- what holds at the law's entry: the machine, the code, the tables' words (any of lw_tbl by 'hts w (by decide +kernel)'), the script of L ints xs at the cell b, what the Statement gives of the start (any of its parts by flat_of_before) -/
def lw_At (p : Program) (s : State) (m : MethodId) (meth : Method) (c : Code) (b L : Nat) (xs : Nat → Int32) : Prop :=
  p.tables.exec = Jvm.exec ∧ c.code = code ∧ meth.sig.returnType = ret ∧ c.maxLocals = 14 ∧ s.vm.findClass R_law = some m.cls ∧ (∀ w ∈ lw_tbl, w.before #[Value.ref b] s = true) ∧ va_X b L xs s s.heap ∧ b < s.heap.size ∧ meth.locks = false ∧ (Jvm.Cond.and given_1 narrow_1).before #[Value.ref b] s = true
/-! ===== the law: its start ===== -/
theorem tbl_in {w : Cond} (i : Nat) (h : tables_1[i]? = some w) : w ∈ lw_tbl := List.mem_append_right _ (List.mem_of_getElem? h)
theorem arrP {args : Array Value} {s : State} {ty : FieldType} (h : (Cond.arrayClass ty).before args s = true) : ∃ cA, ArrOfT s cA ty ∧ s.vm.findClass ("[" ++ ty.toString) = some cA := by
  obtain ⟨cA, kA, comp, h1, h2, h3⟩ := Cond.arrayClass_spec h
  exact ⟨cA, fun n z => ⟨fun k h => (by cases h), kA, h2, comp, h3⟩, h1⟩
theorem arrO {args : Array Value} {s : State} {C : String} (h : (Cond.arrayOver (.object C)).before args s = true) : ∃ cA, ArrOfT s cA (.object C) ∧ va_RA s cA (.object C) := by
  obtain ⟨comp, c, k, h1, h2, h3, h4, h5⟩ := Cond.arrayOver_spec h
  exact ⟨c, fun n z => ⟨fun k h => (by cases h), k, h3, comp, h4⟩, k, comp, h3, h4, h1, h5⟩
theorem nw_in : ∀ w ∈ nwL, w ∈ lw_tbl := by
  intro w hw
  simp only [nwL, List.mem_cons, List.not_mem_nil, or_false] at hw
  rcases hw with rfl | rfl | rfl | rfl | rfl | rfl | rfl | rfl | rfl | rfl | rfl | rfl | rfl | rfl | rfl | rfl | rfl
  · exact tbl_in 49 (by decide +kernel)
  · exact tbl_in 49 (by decide +kernel)
  · exact tbl_in 49 (by decide +kernel)
  · exact tbl_in 49 (by decide +kernel)
  · exact tbl_in 49 (by decide +kernel)
  · exact tbl_in 24 (by decide +kernel)
  · exact tbl_in 73 (by decide +kernel)
  · exact tbl_in 94 (by decide +kernel)
  · exact tbl_in 97 (by decide +kernel)
  · exact tbl_in 30 (by decide +kernel)
  · exact tbl_in 78 (by decide +kernel)
  · exact tbl_in 142 (by decide +kernel)
  · exact tbl_in 253 (by decide +kernel)
  · exact tbl_in 451 (by decide +kernel)
  · exact tbl_in 144 (by decide +kernel)
  · exact tbl_in 146 (by decide +kernel)
  · exact tbl_in 148 (by decide +kernel)
set_option maxHeartbeats 4000000 in
set_option maxRecDepth 100000 in
theorem law_en {s : State} {b : Nat} {c4 : ClassId} (hts : ∀ w ∈ lw_tbl, w.before #[Value.ref b] s = true) (h4 : s.vm.findClass RX4 = some c4) : EN s := by
  have str : ∀ i k tx, tables_1[i]? = some (Cond.stringRef RX4 k tx) → ∃ a : Nat, vk_R RX4 k tx a s := fun i k tx h => by
    have h1 := hts _ (tbl_in i h)
    obtain ⟨_, _, _, a, _, _, _, _, _, h2⟩ := Cond.stringRef_spec h4 h1
    exact ⟨a, vk_R.of h1 h2⟩
  refine ⟨fun w hw => va_Nw.of (nwL_tab w hw) (hts w (nw_in w hw)), ?_, fun q hq => nomatch hq⟩
  intro q hq
  simp only [stL, List.mem_cons, List.not_mem_nil, or_false] at hq
  rcases hq with rfl | rfl | rfl | rfl | rfl | rfl | rfl | rfl | rfl | rfl | rfl | rfl | rfl | rfl | rfl
  · exact str 448 _ _ (by decide +kernel)
  · exact str 458 _ _ (by decide +kernel)
  · exact str 524 _ _ (by decide +kernel)
  · exact str 538 _ _ (by decide +kernel)
  · exact str 290 _ _ (by decide +kernel)
  · exact str 181 _ _ (by decide +kernel)
  · exact str 290 _ _ (by decide +kernel)
  · exact str 299 _ _ (by decide +kernel)
  · exact str 505 _ _ (by decide +kernel)
  · exact str 476 _ _ (by decide +kernel)
  · exact str 477 _ _ (by decide +kernel)
  · exact str 525 _ _ (by decide +kernel)
  · exact str 260 _ _ (by decide +kernel)
  · exact str 275 _ _ (by decide +kernel)
  · exact str 513 _ _ (by decide +kernel)
set_option maxHeartbeats 4000000 in
set_option maxRecDepth 100000 in
theorem law_ctx {p : Program} {s : State} {m : MethodId} {meth : Method} {c : Code} (l : Launch) (hflags : l.flags = flags0) {b L : Nat} {xs : Nat → Int32} (C0 : lw_At p s m meth c b L xs) : ∃ (dC : Nat → ClassId) (dI : Nat → Nat → Nat) (cI cS : ClassId), LCX p l s m c dC dI cI cS b L xs ∧ va_AO "LearnedShapes$State" s := by
  obtain ⟨hx, hb, hr, hml, hown, hts, hX, hbl, hlocks, hgv⟩ := C0
  obtain ⟨c0, i0, k0⟩ := u_known (C := RX0) (T := TX0) (N := 3) (n := 3) hts inX0 (hts (Cond.instantiable RX0 3) (tbl_in 96 (by decide +kernel)))
  obtain ⟨c1, i1, k1⟩ := u_known (C := RX1) (T := TX1) (N := 7) (n := 7) hts inX1 (hts (Cond.instantiable RX1 7) (tbl_in 23 (by decide +kernel)))
  obtain ⟨c2, i2, k2⟩ := u_known (C := RX2) (T := TX2) (N := 3) (n := 3) hts inX2 (hts (Cond.instantiable RX2 3) (tbl_in 72 (by decide +kernel)))
  obtain ⟨c3, i3, k3⟩ := u_known (C := RX3) (T := TX3) (N := 3) (n := 3) hts inX3 (hts (Cond.instantiable RX3 3) (tbl_in 29 (by decide +kernel)))
  obtain ⟨c4, i4, k4⟩ := u_known (C := RX4) (T := TX4) (N := 8) (n := 8) hts inX4 (hts (Cond.instantiable RX4 8) (tbl_in 15 (by decide +kernel)))
  obtain ⟨dC, dI, hKc⟩ : ∃ (dC : Nat → ClassId) (dI : Nat → Nat → Nat), ∀ (k : Nat) (q : vw_C), vwCl[k]? = some q → u_Kn s q.1 q.2.1 q.2.2 (dC k) (dI k) := by
    refine ⟨fun k => if k = 0 then c0 else if k = 1 then c1 else if k = 2 then c2 else if k = 3 then c3 else c4, fun k => if k = 0 then i0 else if k = 1 then i1 else if k = 2 then i2 else if k = 3 then i3 else i4, ?_⟩
    intro k q hq
    match k, hq with
    | 0, hq => cases hq; exact k0
    | 1, hq => cases hq; exact k1
    | 2, hq => cases hq; exact k2
    | 3, hq => cases hq; exact k3
    | 4, hq => cases hq; exact k4
    | k + 5, hq => simp [vwCl] at hq
  obtain ⟨cI, a1, a2⟩ := arrP (hts (Cond.arrayClass .int) (tbl_in 47 (by decide +kernel)))
  have hAO0 := hts (Cond.arrayOver (.object "LearnedShapes$State")) (tbl_in 92 (by decide +kernel))
  obtain ⟨cS, a7, a8⟩ := arrO hAO0
  have hs := flat_of_before _ hgv
  have hfree : ∀ a : Nat, a < s.heap.size → ¬ (fun q : Nat => s.heap.size ≤ q) a := fun a h => Nat.not_le.mpr h
  have hini := hts (Cond.initialized "java/lang/Throwable") (tbl_in 6 (by decide +kernel))
  refine ⟨dC, dI, cI, cS, ⟨hx, hb, hml, hown, fun w h => hts w (wsL_law_in w h), hX, hbl, ⟨hKc, ?_⟩, law_en hts k4.2.1, ?_, ?_, ?_⟩, va_AO.of hAO0⟩
  · intro k q hq
    match k, hq with
    | 0, hq => cases hq; exact ⟨a1, a2⟩
    | 1, hq => cases hq; exact ⟨a7, a8⟩
    | k + 2, hq => simp at hq
  · exact vx_Zqof (hts (Cond.laysStatic "java/lang/Throwable" "UNASSIGNED_STACK" "[Ljava/lang/StackTraceElement;") (tbl_in 167 (by decide +kernel))) hini (hs (Cond.isRef (.static "java/lang/Throwable" "UNASSIGNED_STACK" "[Ljava/lang/StackTraceElement;")) (by decide +kernel)) hfree
  · exact vx_Zqof (hts (Cond.laysStatic "java/lang/Throwable" "SUPPRESSED_SENTINEL" "Ljava/util/List;") (tbl_in 169 (by decide +kernel))) hini (hs (Cond.isRef (.static "java/lang/Throwable" "SUPPRESSED_SENTINEL" "Ljava/util/List;")) (by decide +kernel)) hfree
  · show (!l.flags.contains noTraceFlag) = false
    rw [hflags]
    decide +kernel
set_option maxHeartbeats 4000000 in
set_option maxRecDepth 100000 in
theorem whole_start {p : Program} {e : Env} {s : State} {m : MethodId} {below : List Frame} {meth : Method} {c : Code} (l : Launch) (hflags : l.flags = flags0) {b L : Nat} {xs : Nat → Int32} (hL : L ≤ 260) (C0 : lw_At p s m meth c b L xs) : W p l e room_1 s m #[Value.ref b] below meth c s.heap [] 0 0 (lw_Z below #[Value.ref b] s) (entryFrame m ([Value.ref b] : List Value).toArray 14) := by
  obtain ⟨dC, dI, cI, cS, C1, hAO⟩ := law_ctx l hflags C0
  obtain ⟨hx, hb, hr, hml, -, hts0, -, -, hlocks, -⟩ := C0
  obtain ⟨-, -, -, hown, hts, hX, hbl, hK, hN, hU, hSN, hl0⟩ := id C1
  have hA : ∀ q : Nat, s.heap.size ≤ q → (fun q : Nat => s.heap.size ≤ q) q := fun _ h => h
  have hS : va_S (fun q : Nat => s.heap.size ≤ q) s.heap s.heap [] := va_S.rf
  have hP : va_P (dC, dI) vwCl [] s.heap := fun k q h => by simp at h
  have hD : va_D (fun q : Nat => s.heap.size ≤ q) [] := ⟨fun i j p q h => by simp at h, fun k q h => by simp at h⟩
  have hl := lv_entry ([.ref b]) (n := 14) (Nat.le_of_ble_eq_true rfl)
  rw [lg_entry_eq]
  generalize (lg_sl ([.ref b]) ++ List.replicate (14 - (lg_sl ([.ref b])).length) Slot.unset).toArray = ls at hl ⊢
  have hl : lv_has ls 14 [(0, .ref b)] := hl
  refine va_new (ci := 4) (fs := [.null, .int 0, .null, .null, .null, .int 0, .null, .null]) (C := RX4) (T := TX4) (N := 8) hx hb hts0 inX4 tyX4 tyX4_ok hown (hts0 (Cond.classLink RL 10 RX4) (tbl_in 14 (by decide +kernel))) (hts0 (Cond.instantiable RX4 8) (tbl_in 15 (by decide +kernel))) (hts0 (Cond.initialized RX4) (tbl_in 1 (by decide +kernel))) hK hP hD hS hA rfl (fun j hj => by rcases (show j = 0 ∨ j = 1 ∨ j = 2 ∨ j = 3 ∨ j = 4 ∨ j = 5 ∨ j = 6 ∨ j = 7 by omega) with rfl | rfl | rfl | rfl | rfl | rfl | rfl | rfl <;> rfl) (Nat.le_of_ble_eq_true rfl) (Nat.le_of_ble_eq_true rfl) dL_law_0 (fun q1 H hP hD hS => ?_)
  have hP : va_P (dC, dI) vwCl [(q1, .inr (4, [.null, .int 0, .null, .null, .null, .int 0, .null, .null]))] H := hP
  have hD : va_D (fun q : Nat => s.heap.size ≤ q) [(q1, .inr (4, [.null, .int 0, .null, .null, .null, .int 0, .null, .null]))] := hD
  refine lv_dup hx hb dL_law_3 rfl ?_
  have hFc := jFreeW (ws := [(q1, .inr (4, [.null, .int 0, .null, .null, .null, .int 0, .null, .null]))]) hD hS hA
  refine va_callv (va_runI (As := []) (rest := [.ref q1]) ⟨hx, hb, hml, hown, hts⟩ (c_X4_init l dC dI cI cS q1 H.size) (cwI 0 hts gL_law_X4_init rfl rfl rfl (hts0 (Cond.initialized RX4) (tbl_in 1 (by decide +kernel))) (hts0 (Cond.methodLink RL 58 yX4_init) (tbl_in 16 (by decide +kernel))) (hts0 (Cond.instanceMethod yX4_init) (tbl_in 17 (by decide +kernel))) rfl (by decide +kernel) ⟨Nat.le_of_ble_eq_true rfl, Nat.le_of_ble_eq_true rfl⟩) ⟨fun a U g mk q => by obtain ⟨q0, ⟨q1, qP, qK, qD, qN⟩, q9⟩ := q; exact ⟨q0, ⟨q1, qP, va_K.moved (u := U) (U := U.calling g mk a) (Vm.Alike.refl U.vm) qK, qD, EN.same (u := U) (U := U.calling g mk a) rfl qN⟩, va_AO.moved (u := U) (U := U.calling g mk a) (Vm.Alike.refl U.vm) q9⟩, fun U hU hW => ⟨rfl, ⟨by rw [hU], by rw [hU]; exact hP, va_K.moved hW.alike (hK.sub [0, 1] rfl), hD.weaken (fun _ _ _ _ => trivial), EN.warm hW hN⟩, va_AO.moved hW.alike hAO⟩⟩ rfl rfl hl.1 rfl (lv_room (Nat.le_of_ble_eq_true rfl)) dL_law_4 ⟨Nat.le_of_ble_eq_true rfl, Nat.le_of_ble_eq_true rfl⟩) hS (fun q _ h => hFc q h) hFc (fun u t H1 locs ht hvm hw hB hz1 hk1 hS => ?_)
  obtain ⟨a, q, ha0, hP1, -, hD1⟩ := hB
  subst ha0
  rw [ht] at hP1
  obtain ⟨hP, hD⟩ := jTail (wa := ([] : va_W)) (wc := [(a 0, .inr (4, [.null, .int 0, .null, .null, .null, .int 0, .null, .null]))]) (w1 := W_Full cI cS a q Z_LS (fun _ => Z_State)) hP hD hk1 hFc hP1 hD1
  have hP : va_P (dC, dI) vwCl (W_Full cI cS a q Z_LS (fun _ => Z_State)) H1 := hP
  have hD : va_D (fun q : Nat => s.heap.size ≤ q) (W_Full cI cS a q Z_LS (fun _ => Z_State)) := hD
  refine lv_astore_n (lv' := [(1, .ref (a 0)), (0, .ref b)]) hx hb dL_law_7 rfl hl (by decide) rfl (fun ls hl => ?_)
  refine law_walk C1 (fun H locs n k ls hS hn hk => ?_) Z_LS (fun _ => Z_State) (law_true hL) q H1 locs _ _ (Nat.le_of_ble_eq_true rfl) (Nat.le_of_ble_eq_true rfl) hP hD hS ls hl
  refine va_forget (fun q hq => hS.2.2 q hq) ?_
  refine W.widen (k := 600130) (n := 7301080) hn hk ?_
  refine W.base ?_
  exact lw_ret (Drawn.sameBut.refl s.drawn lw_cs) hx hb hr hlocks dL_law_505
