theorem g_row (x : Int32) : (inR x 0 8 ∧ fX4_isNumber x = 1 ∧ fX10_isRow x = 1) ∨ (¬ inR x 0 8 ∧ fX4_isNumber x = 0 ∧ fX10_isRow x = 0) := g_lt (x := x) (y := 8) (T := 8) rfl (by decide)
theorem inv_fo {σx σm : Sto} {c : Int32} (h : Inv σx σm) : Inv (up σx 0 9 c) (up σm 0 3 c) :=
  inv_rows h (fun k h0 _ _ _ => up_k h0) (fun k h0 _ _ _ => up_k h0) (fun j hj => up_j hj) (by unfold iSt; rw [up_i, up_i]) (iRows_fr h.2.2.2.1 (up_k (by decide)) (up_k (by decide)) (fun k _ _ => up_k (by omega)) (up_k (by decide)) (up_k (by decide)) (up_k (by decide)))
theorem op_found {σx σm : Sto} (h : Inv σx σm) (c : Int32) : ∃ qx qm, (un (fX9_found σx c) fun q => some (q.1, q.2)) = some qx ∧ (un (fX10_found σm c) fun q => some (q.1, q.2)) = some qm ∧ qx.2 = qm.2 ∧ Inv qx.1 qm.1 := mk2 rfl rfl rfl (inv_fo h)
theorem miss_X {σx σm : Sto} {i : Nat} (hi : i < 8) (h : iRow σx σm i) : (fX4_isMissing σx (nI i) = some 1 ∧ σx 3 i = -1 ∧ σm 2 i = -1) ∨ (fX4_isMissing σx (nI i) = some 0 ∧ ∃ l s, l ≤ 2 ∧ s ≤ 40 ∧ σx 3 i = nI l ∧ σm 1 i = nI l ∧ σx 4 i = nI s ∧ σm 2 i = nI s) := by
  unfold fX4_isMissing
  rw [vin_t hi (by decide), gd_t, nI_clamp (by omega)]
  rcases h with ⟨a, b⟩ | ⟨l, s, h1, h2, h3, h4, h5, h6⟩
  · exact Or.inl ⟨if_pos a, a, b⟩
  · refine Or.inr ⟨if_neg (fun q => ?_), l, s, h1, h2, h3, h4, h5, h6⟩
    rw [h3] at q
    have : ¬ nI l < 0 := nI_pos (by omega)
    rw [q] at this
    exact this (by decide)
theorem op_drop {σx σm : Sto} (h : Inv σx σm) (a1 : Int32) : ∃ qx qm, fX9_drop σx a1 = some qx ∧ fX10_drop σm a1 = some qm ∧ qx.2 = qm.2 ∧ Inv qx.1 qm.1 := by
  unfold fX9_drop fX10_drop
  rcases g_row a1 with ⟨i1, e1, e2⟩ | ⟨_, e1, e2⟩
  · rw [e1, e2, if_neg one_n0, if_neg one_n0]
    obtain ⟨i, _, hi, rfl⟩ := inR_of i1
    obtain ⟨r1, r2⟩ := h.2.2.2.1 i hi
    rw [vin_t hi (by decide), gd_t, nI_clamp (by omega)]
    rcases miss_X hi r1 with ⟨m, m1, m2⟩ | ⟨m, l, s, h1, h2, h3, h4, h5, h6⟩
    · rw [m, bd_s, if_neg one_n0, m2, if_neg (by decide)]
      exact op_found h 1
    · rw [m, bd_s, if_pos rfl, h6, n32_0, if_pos (nI_le (Nat.zero_le _) (by omega))]
      unfold fX4_lose fX9_unfound fX10_well
      rw [vin_t hi (by decide), gd_t, nI_clamp (by omega)]
      simp only [un, bd_s]
      refine mk2 rfl rfl (by rw [up_k (by decide), h5]) (inv_rows h (fun k z0 z3 z4 z => ?_) (fun k z0 z1 z2 z3 => ?_) (fun j hj => ?_) ?_ (fun q hq => ⟨?_, fun j hj => ?_⟩))
      · rw [up_k z0, up_k z3]
      · rw [up_k z0, up_k z2]
      · rw [up_j hj, up_k (by decide)]
      · unfold iSt
        rw [up_i, up_i]
      · unfold iRow
        rw [up_k (show (3 : Nat) ≠ 0 by decide), up_k (show (2 : Nat) ≠ 0 by decide), up_k (show (1 : Nat) ≠ 0 by decide), up_k (show (4 : Nat) ≠ 0 by decide), up_k (show (1 : Nat) ≠ 2 by decide), up_k (show (4 : Nat) ≠ 3 by decide)]
        by_cases e : q = i
        · subst e
          rw [up_i, up_i]
          exact Or.inl ⟨rfl, rfl⟩
        · rw [up_j e, up_j e]
          exact (h.2.2.2.1 q hq).1
      · rw [up_k (by unfold itV; omega), up_k (by unfold itV; omega), up_k (by decide), up_k (by decide)]
        exact (h.2.2.2.1 q hq).2 j hj
  · rw [e1, e2, if_pos rfl, if_pos rfl]
    exact ⟨_, _, rfl, rfl, rfl, h⟩
