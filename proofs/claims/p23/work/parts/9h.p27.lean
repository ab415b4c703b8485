/-! ===== pure: both find the same misfit ===== -/
theorem fits_both {S : S_LS} {S5 : S_Model} {k : Bool} {s : Nat} {A : Mp} {D : Dc} (hD : DW D) (hX : DX D) (hA : Wf A) (hs : s ≤ 1) (hT : TR (g_State_tree k (g_LS_now S)) A 10000) (hO : OP (g_State_tree k (g_LS_now S)) A) (hN : NR (g_Model_now S5) s A) (hV : CV (g_Reader_values (g_LS_reader S)) D) (hV5 : MV S5 D) :
    ∃ m a n p, F_X4_seekMisfit S k = some (s_LS_misfit S (m, a, n)) ∧ F_X5_finds S5 (nI s) = some (mfv S5 m a n p) := by
  have hle := hN.2.1
  unfold F_X4_seekMisfit F_X5_finds
  rw [ob2_s (tell_ok _ _ _ _), hT.size, show (3 : Int32) + nI s = nI (3 + s) from nI_add 3 s, og_t (inb_nI (by omega) (by omega)), nI_clamp (by omega), hN.1, mfv_0]
  rcases root_ix hA with ⟨a1, a2, a3⟩ | ⟨a1, d, a2⟩
  · rw [a1, if_pos (by decide), if_pos (by decide), ob2_s (tell_ok _ _ _ _)]
    refine ⟨1, 0, -1, g_Model_place S5, rfl, ?_⟩
    rw [ob1_s (misfits_ok 1 0 (-1)), if_pos rfl]
  · rw [if_neg (nI_ne0 a1 (by omega)), if_neg (nI_ne0 a1 (by omega))]
    have hn1 := hD.1
    have hn2 := hD.2.1
    obtain ⟨r, mis', t1, t2⟩ := fits_node hD hX hA hV hT hO 8 0 0 d (0, -1, -1) (by omega) (by omega) (fta_0 D A) a2
    obtain ⟨m', a', k', p', u1, u2⟩ := finds_loop hD hX hA hs hN hV5 a2 5000 0 0 (-1) (-1) (g_Model_place S5) (by omega) (by omega) (fun u hu => absurd hu (Nat.not_lt_zero _)) (Or.inl ⟨rfl, rfl, rfl, fun w e hw => absurd hw (Nat.not_lt_zero _)⟩)
    rw [hD.2.2.2.1] at t1
    have t1' : F_X4_fitsNode 8 (0, -1, -1) (g_Reader_values (g_LS_reader S)) (g_State_tree k (g_LS_now S)) 0 0 0 = some (r, mis') := t1
    have u1' : F_X5_finds_36 (nI s) 5000 (mfv S5 0 (-1) (-1) (g_Model_place S5)) 0 = some (mfv S5 m' a' k' p') := u1
    have hall : ∀ w, w < dN D → spn D 0 w := by
      intro w hw
      by_cases z : w = 0
      · exact Or.inl z
      · exact Or.inr ⟨by omega, fun u _ _ => Nat.zero_le _⟩
    rw [ob2_s t1', u1']
    rcases t2 with ⟨b1, b2, b3⟩ | ⟨b1, e, b2, b3⟩
    · rcases u2 with ⟨c1, c2, c3, c4⟩ | ⟨e', ⟨⟨w, c1, c2, c3⟩, -⟩, -⟩
      · refine ⟨0, -1, -1, p', ?_, ?_⟩
        · rw [b2]
        · rw [c1, c2, c3]
      · exact absurd c3 (b3 w e' (hall w c2) c2)
    · rcases u2 with ⟨c1, c2, c3, c4⟩ | ⟨e', c1, c2, c3, c4⟩
      · obtain ⟨⟨w, d1, d2, d3⟩, -⟩ := b2
        exact absurd d3 (c4 w e d2)
      · have hee : e = e' := by
          refine first1_one hD hX (P := fun w => w < dN D) ?_ c1
          obtain ⟨⟨w, d1, d2, d3⟩, d4⟩ := b2
          exact ⟨⟨w, d2, d2, d3⟩, fun w e' hw hwn he => d4 w e' (hall w hwn) hwn he⟩
        rw [← hee] at c2 c3 c4
        refine ⟨nI e.1, nI e.2.1, nI e.2.2, p', ?_, ?_⟩
        · rw [b3]; rfl
        · rw [c2, c3, c4]
