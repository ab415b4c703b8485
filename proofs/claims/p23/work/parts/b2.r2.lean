/-! ===== pure: the class takes a value ===== -/
def ka (c : Nat) : Int32 := if c = 39 then 4 else if c = 40 then 6 else if c = 91 then 5 else if c = 102 then 1 else if c = 110 then 0 else if c = 116 then 1 else if c = 45 then 2 else if dig c then 2 else -1
theorem ifc {α : Type} {c k : Nat} {K : Int32} (hK : K = nI k) (hc : c < 128) (hk : k < 128) (x y : α) : (if nI c = K then x else y) = if c = k then x else y := by
  by_cases h : c = k
  · rw [if_pos h, if_pos ((c_eq hK hc hk).mpr h)]
  · rw [if_neg h, if_neg (fun z => h ((c_eq hK hc hk).mp z))]
theorem kindAt_ok {c : Nat} (hc : c < 128) : F_X1_kindAt (nI c) = some (ka c) := by
  unfold F_X1_kindAt ka
  rw [ifc (K := (39 : Int32)) (k := 39) rfl hc (by omega), ifc (K := (40 : Int32)) (k := 40) rfl hc (by omega), ifc (K := (91 : Int32)) (k := 91) rfl hc (by omega), ifc (K := (102 : Int32)) (k := 102) rfl hc (by omega), ifc (K := (110 : Int32)) (k := 110) rfl hc (by omega), ifc (K := (116 : Int32)) (k := 116) rfl hc (by omega), ifc (K := (45 : Int32)) (k := 45) rfl hc (by omega), ob1_s (isDigit_ok hc)]
  by_cases h1 : c = 39
  · rw [if_pos h1, if_pos h1]
  · rw [if_neg h1, if_neg h1]
    by_cases h2 : c = 40
    · rw [if_pos h2, if_pos h2]
    · rw [if_neg h2, if_neg h2]
      by_cases h3 : c = 91
      · rw [if_pos h3, if_pos h3]
      · rw [if_neg h3, if_neg h3]
        by_cases h4 : c = 102
        · rw [if_pos h4, if_pos h4]
        · rw [if_neg h4, if_neg h4]
          by_cases h5 : c = 110
          · rw [if_pos h5, if_pos h5]
          · rw [if_neg h5, if_neg h5]
            by_cases h6 : c = 116
            · rw [if_pos h6, if_pos h6]
            · rw [if_neg h6, if_neg h6]
              by_cases h7 : c = 45
              · rw [if_pos h7, if_pos h7]
              · rw [if_neg h7, if_neg h7]
                cases dig c
                · rw [b2i_f, if_pos rfl]; rfl
                · rw [b2i_t, if_neg one_ne0]; rfl
/-- the state in a value -/
def siv (V : S_Tree) (op : Int32) (o : Nat) (k : Int32) (c : Nat) : Int32 := if k = 2 then (if c = 45 then 5 else if c = 48 then 7 else 8) else if k = 4 then 11 else sbv V op o
theorem sbv_new {V V' : S_Tree} {n o : Nat} {k l d b p op : Int32} (h : vnew V V' n k l d b p) (ho : op = -1 ∨ (op = nI o ∧ o < n)) : sbv V' op o = sbv V op o := by
  unfold sbv
  rcases ho with z | ⟨z, z2⟩
  · rw [if_pos z, if_pos z]
  · rw [h.2.1 o 0 (by omega) (by omega)]
theorem take_scalar {V : S_Tree} {fw pl st op le ru : Int32} {n o c : Nat} (hs : g_Tree_size V = nI n) (hn : n < 64) (ho : op = -1 ∨ (op = nI o ∧ o < n)) (hc : c < 128) (hk : ka c = 0 ∨ ka c = 1 ∨ ka c = 2 ∨ ka c = 4) : ∃ V', vnew V V' n (ka c) (lnx V op o le) (dnx V op o) pl op ∧ F_X1_takeValue (rdr V fw pl st op le ru) (nI c) = some (true, rdr V' fw pl (siv V op o (ka c) c) op le (if ka c = 2 then 1 else 0)) := by
  obtain ⟨V', v1, v2⟩ := take41 (fw := fw) (pl := pl) (st := st) (le := le) (ru := ru) hs hn ho (nI c) (ka c) false
  refine ⟨V', v1, ?_⟩
  have n5 : ¬ ka c = 5 := by rcases hk with h | h | h | h <;> rw [h] <;> decide
  have n6 : ¬ ka c = 6 := by rcases hk with h | h | h | h <;> rw [h] <;> decide
  have nm : ¬ ka c = -1 := by rcases hk with h | h | h | h <;> rw [h] <;> decide
  have ho' : op = -1 ∨ (op = nI o ∧ o < n + 1) := ho.imp id (fun h => ⟨h.1, by omega⟩)
  have hsb : ∀ st ru, F_X1_stateBehindValue (rdr V' fw pl st op le ru) = some (sbv V op o) := fun st ru => by
    rw [sbv_ok v1.1 (by omega) ho', sbv_new v1 ho]
  unfold F_X1_takeValue
  rw [ob1_s (kindAt_ok hc), if_neg n5, if_neg n6, if_neg nm, v2]
  unfold F_X1_takeValue_144
  show (if ka c = 2 then (ob1 (F_X1_stateInValue (rdr V' fw pl st op le 1) (ka c) (nI c)) fun r28 => some (true, rdr V' fw pl r28 op le 1)) else (ob1 (F_X1_stateInValue (rdr V' fw pl st op le 0) (ka c) (nI c)) fun r26 => some (true, rdr V' fw pl r26 op le 0))) = _
  unfold F_X1_stateInValue siv
  rcases hk with h | h | h | h
  · rw [h, if_neg (by decide), if_neg (by decide), if_neg (by decide), if_neg (by decide), if_neg (by decide), if_neg (by decide), ob1_s (hsb st 0), ob1_e, if_neg (by decide), if_neg (by decide), if_neg (by decide)]
  · rw [h, if_neg (by decide), if_neg (by decide), if_neg (by decide), if_neg (by decide), if_neg (by decide), if_neg (by decide), ob1_s (hsb st 0), ob1_e, if_neg (by decide), if_neg (by decide), if_neg (by decide)]
  · rw [h, if_pos rfl, if_pos rfl, ifc (K := (45 : Int32)) (k := 45) rfl hc (by omega), ifc (K := (48 : Int32)) (k := 48) rfl hc (by omega), if_pos rfl, if_pos rfl]
    by_cases q : c = 45
    · rw [if_pos q, if_pos q]; rfl
    · rw [if_neg q, if_neg q]
      by_cases q2 : c = 48
      · rw [if_pos q2, if_pos q2]; rfl
      · rw [if_neg q2, if_neg q2]; rfl
  · rw [h, if_neg (by decide), if_neg (by decide), if_neg (by decide), if_pos rfl, ob1_e, if_neg (by decide), if_pos rfl, if_neg (by decide)]
theorem take_holder {V : S_Tree} {fw pl st op le ru : Int32} {n o c : Nat} (hs : g_Tree_size V = nI n) (hn : n < 64) (ho : op = -1 ∨ (op = nI o ∧ o < n)) (hc : c < 128) (hk : ka c = 5 ∨ ka c = 6) (hd : dnx V op o < 4) : ∃ V', vnew V V' n (ka c) (lnx V op o le) (dnx V op o) pl op ∧ F_X1_takeValue (rdr V fw pl st op le ru) (nI c) = some (true, rdr V' fw pl (if ka c = 5 then 3 else 1) (nI n) le 0) := by
  obtain ⟨V', v1, v2⟩ := take41 (fw := fw) (pl := pl) (st := st) (le := le) (ru := ru) hs hn ho (nI c) (ka c) true
  rw [if_pos (show true = true from rfl)] at v2
  refine ⟨V', v1, ?_⟩
  have h16 : F_X1_takeValue (rdr V fw pl st op le ru) (nI c) = F_X1_takeValue_16 (nI c) (rdr V fw pl st op le ru) (ka c) := by
    unfold F_X1_takeValue
    rw [ob1_s (kindAt_ok hc)]
    rcases hk with h | h
    · rw [if_pos h]
    · rw [if_neg (by rw [h]; decide), if_pos h]
  rw [h16]
  unfold F_X1_takeValue_16
  rw [if_neg (by rcases hk with h | h <;> rw [h] <;> decide), ob1_s (dnx_ok hs (by omega) ho), if_pos hd, v2]
  unfold F_X1_takeValue_144 F_X1_stateInValue
  rcases hk with h | h
  · rw [h, if_neg (by decide), if_neg (by decide), if_neg (by decide), if_neg (by decide), if_pos rfl, ob1_e, if_pos rfl]
    rfl
  · rw [h, if_neg (by decide), if_neg (by decide), if_neg (by decide), if_neg (by decide), if_neg (by decide), if_pos rfl, ob1_e, if_neg (by decide)]
    rfl
theorem take_deep {V : S_Tree} {fw pl st op le ru : Int32} {n o c : Nat} (hs : g_Tree_size V = nI n) (hn : n < 64) (ho : op = -1 ∨ (op = nI o ∧ o < n)) (hc : c < 128) (hk : ka c = 5 ∨ ka c = 6) (hd : ¬ dnx V op o < 4) : F_X1_takeValue (rdr V fw pl st op le ru) (nI c) = some (false, rdr V fw pl st op le ru) := by
  have h16 : F_X1_takeValue (rdr V fw pl st op le ru) (nI c) = F_X1_takeValue_16 (nI c) (rdr V fw pl st op le ru) (ka c) := by
    unfold F_X1_takeValue
    rw [ob1_s (kindAt_ok hc)]
    rcases hk with h | h
    · rw [if_pos h]
    · rw [if_neg (by rw [h]; decide), if_pos h]
  rw [h16]
  unfold F_X1_takeValue_16
  rw [if_neg (by rcases hk with h | h <;> rw [h] <;> decide), ob1_s (dnx_ok hs (by omega) ho), if_neg hd]
theorem take_not {R : S_Reader} {c : Nat} (hc : c < 128) (hk : ka c = -1) : F_X1_takeValue R (nI c) = some (false, R) := by
  unfold F_X1_takeValue
  rw [ob1_s (kindAt_ok hc), hk, if_neg (by decide), if_neg (by decide), if_pos rfl]
