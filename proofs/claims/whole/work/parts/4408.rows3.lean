theorem places_X {σ : Sto} {i s : Nat} {x y : Int32} (hi : i < 8) (h4 : σ 4 i = nI s) (hs : s ≤ 40) : ((0 ≤ x.toInt ∧ 0 ≤ y.toInt ∧ x.toInt + y.toInt ≤ (s : Int)) ∧ fX4_hasPlaces σ (nI i) x y = some 1) ∨ (¬ (0 ≤ x.toInt ∧ 0 ≤ y.toInt ∧ x.toInt + y.toInt ≤ (s : Int)) ∧ fX4_hasPlaces σ (nI i) x y = some 0) := by
  unfold fX4_hasPlaces
  rw [vin_t hi (by decide), gd_t, nI_clamp (by omega), h4, n32_0]
  by_cases c1 : x < nI 0
  · rw [if_pos c1]
    rw [nI_lt' (by decide)] at c1
    exact Or.inr ⟨fun q => by omega, rfl⟩
  · rw [if_neg c1]
    rw [nI_lt' (by decide)] at c1
    by_cases c2 : nI s < x
    · rw [if_pos c2]
      rw [lt_nI (by omega)] at c2
      exact Or.inr ⟨fun q => by omega, rfl⟩
    · rw [if_neg c2]
      rw [lt_nI (by omega)] at c2
      by_cases c3 : y < nI 0
      · rw [if_pos c3]
        rw [nI_lt' (by decide)] at c3
        exact Or.inr ⟨fun q => by omega, rfl⟩
      · rw [if_neg c3]
        rw [nI_lt' (by decide)] at c3
        obtain ⟨p, _, hp, rfl⟩ := inR_of (x := x) (a := 0) (b := s + 1) ⟨by omega, by omega⟩
        rw [nI_toInt (by omega)] at c1 c2 ⊢
        rw [pk_sub (by omega)]
        by_cases c4 : nI (s - p) < y
        · rw [if_pos c4]
          rw [lt_nI (by omega)] at c4
          exact Or.inr ⟨fun q => by omega, rfl⟩
        · rw [if_neg c4]
          rw [lt_nI (by omega)] at c4
          exact Or.inl ⟨⟨by omega, by omega, by omega⟩, rfl⟩
theorem op_set {σx σm : Sto} (h : Inv σx σm) (a1 : Int32) (a2 : Int32) (a3 : Int32) : ∃ qx qm, fX9_set σx a1 a2 a3 = some qx ∧ fX10_set σm a1 a2 a3 = some qm ∧ qx.2 = qm.2 ∧ Inv qx.1 qm.1 := by
  unfold fX9_set fX10_set fX4_findingAt
  rcases g_row a1 with ⟨i1, e1, e2⟩ | ⟨_, e1, e2⟩
  · rw [e1, e2, if_neg one_n0, if_neg one_n0]
    obtain ⟨i, _, hi, rfl⟩ := inR_of i1
    obtain ⟨r1, r2⟩ := h.2.2.2.1 i hi
    rw [vin_t hi (by decide), gd_t, nI_clamp (by omega)]
    rcases miss_X hi r1 with ⟨m, m1, m2⟩ | ⟨m, l, s, h1, h2, h3, h4, h5, h6⟩
    · rw [m, bd_s, if_neg one_n0, bd_s, if_neg one_n0, m2, if_neg (by decide)]
      exact op_found h 1
    · rw [m, bd_s, if_pos rfl, h6, if_pos (show (0 : Int32) ≤ nI s from nI_le (a := 0) (Nat.zero_le _) (by omega))]
      have e1' : (1 : Int32).toInt = 1 := by decide
      rcases g_lt (x := a2) (T := s) rfl (by omega) with ⟨i2, _, f2⟩ | ⟨i2, _, f2⟩
      · rw [f2, if_neg one_n0]
        obtain ⟨p, _, hp, rfl⟩ := inR_of i2
        rcases places_X (x := nI p) (y := 1) hi h5 h2 with ⟨_, pl⟩ | ⟨q, _⟩
        · rw [pl, bd_s, if_neg one_n0, bd_s, if_pos rfl, h4]
          have hcut : ∃ v, fX4_cut (nI l) a3 = v ∧ (if nI l = (0 : Int32) then fX10_set_j89 σm (nI i) (nI p) (((40 : Int32) * nI i) + nI p) a3.toInt8.toInt32 else if nI l = (1 : Int32) then fX10_set_j89 σm (nI i) (nI p) (((40 : Int32) * nI i) + nI p) a3.toInt16.toInt32 else fX10_set_j89 σm (nI i) (nI p) (((40 : Int32) * nI i) + nI p) a3) = fX10_set_j89 σm (nI i) (nI p) (((40 : Int32) * nI i) + nI p) v := by
            refine ⟨_, rfl, ?_⟩
            unfold fX4_cut
            by_cases c0 : nI l = (0 : Int32)
            · rw [if_pos c0, if_pos c0]
            · rw [if_neg c0, if_neg c0]
              by_cases c1 : nI l = (1 : Int32)
              · rw [if_pos c1, if_pos c1]
              · rw [if_neg c1, if_neg c1]
          obtain ⟨v, v1, v2⟩ := hcut
          rw [v2]
          unfold fX4_put fX10_set_j89 fX9_unfound fX10_well
          rw [n32_40, pk_mul, nI_add, vin_t hi (by decide), gd_t, vin_t (show p < 40 by omega) (by decide), gd_t, vin_t (show 40 * i + p < 320 by omega) (by decide), gd_t, nI_clamp (by omega), nI_clamp (by omega), nI_clamp (by omega), h3, v1]
          simp only [un, bd_s, gd_t]
          refine mk2 rfl rfl (by rw [up_i, up_i]) (inv_rows h (fun k z0 z3 z4 z => ?_) (fun k z0 z1 z2 z3 => ?_) (fun j hj => ?_) ?_ (fun q hq => ⟨?_, fun j hj => ?_⟩))
          · rw [up_k z0, up_k (by unfold itV; omega)]
          · rw [up_k z0, up_k z3]
          · rw [up_j hj, up_k (by decide)]
          · unfold iSt
            rw [up_i, up_i]
          · unfold iRow
            rw [up_k (show (3 : Nat) ≠ 0 by decide), up_k (show (2 : Nat) ≠ 0 by decide), up_k (show (1 : Nat) ≠ 0 by decide), up_k (show (4 : Nat) ≠ 0 by decide), up_k (show (1 : Nat) ≠ 3 by decide), up_k (show (2 : Nat) ≠ 3 by decide), up_k (show (4 : Nat) ≠ itV i by unfold itV; omega), up_k (show (3 : Nat) ≠ itV i by unfold itV; omega)]
            exact (h.2.2.2.1 q hq).1
          · rw [up_k (show itV q ≠ 0 by unfold itV; omega), up_k (show (3 : Nat) ≠ 0 by decide)]
            by_cases e : q = i
            · subst e
              by_cases e2 : j = p
              · subst e2
                rw [up_i, up_i]
              · rw [up_j e2, up_j (by omega)]
                exact (h.2.2.2.1 q hq).2 j hj
            · rw [up_k (by unfold itV; omega), up_j (by omega)]
              exact (h.2.2.2.1 q hq).2 j hj
        · rw [nI_toInt (by omega), e1'] at q
          exact absurd ⟨by omega, by omega, by omega⟩ q
      · rw [f2, if_pos rfl]
        rcases places_X (x := a2) (y := 1) hi h5 h2 with ⟨q, _⟩ | ⟨_, pl⟩
        · rw [e1'] at q
          exact absurd ⟨q.1, by omega⟩ i2
        · rw [pl, bd_s, if_pos rfl, bd_s, if_neg (by decide)]
          exact op_found h 2
  · rw [e1, e2, if_pos rfl, if_pos rfl]
    exact ⟨_, _, rfl, rfl, rfl, h⟩
