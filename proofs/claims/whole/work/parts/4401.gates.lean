/-! the gates of the entries -/
theorem g_in {x ax bx : Int32} {A B : Int64} {a b : Nat} (h1 : ax = nI a) (h2 : bx = nI b) (h3 : A.toInt = (a : Int)) (h4 : B.toInt = (b : Int)) (ha : a < 2 ^ 31) (hb : b < 2 ^ 31) : (inR x a (b + 1) ∧ fX9_within x ax bx = 1 ∧ fX10_in x.toInt64 A B = 1) ∨ (¬ inR x a (b + 1) ∧ fX9_within x ax bx = 0 ∧ fX10_in x.toInt64 A B = 0) := by
  subst h1
  subst h2
  by_cases h : inR x a (b + 1)
  · refine Or.inl ⟨h, within_y ha hb h, in_y ?_ ?_⟩
    · rw [i64_nI, h3]
      exact h.1
    · rw [i64_nI, h4]
      have := h.2
      omega
  · refine Or.inr ⟨h, within_n ha hb h, in_n ?_⟩
    rw [i64_nI, h3, h4]
    intro q
    exact h ⟨q.1, by omega⟩
theorem g_lt {x y : Int32} {T : Nat} (hy : y = nI T) (hT : T < 100) : (inR x 0 T ∧ (if x < (0 : Int32) then (0 : Int32) else if y ≤ x then 0 else 1) = 1 ∧ fX10_in x.toInt64 0 ((y - 1).toInt64) = 1) ∨ (¬ inR x 0 T ∧ (if x < (0 : Int32) then (0 : Int32) else if y ≤ x then 0 else 1) = 0 ∧ fX10_in x.toInt64 0 ((y - 1).toInt64) = 0) := by
  subst hy
  have e : ((nI T - 1).toInt64).toInt = (T : Int) - 1 := by
    rw [i64_nI, n32_1, pk_sub_toInt (by omega) (by decide)]
    rfl
  by_cases h : inR x 0 T
  · have h1 := h.1
    have h2 := h.2
    refine Or.inl ⟨h, ?_, in_y ?_ ?_⟩
    · rw [n32_0, if_neg (by rw [nI_lt' (by decide)]; omega), if_neg (by rw [le_nI (by omega)]; omega)]
    · rw [i64_nI]
      exact h1
    · rw [i64_nI, e]
      omega
  · refine Or.inr ⟨h, ?_, in_n ?_⟩
    · by_cases c : x < nI 0
      · rw [n32_0, if_pos c]
      · rw [n32_0, if_neg c, if_pos]
        rw [nI_lt' (by decide)] at c
        rw [le_nI (by omega)]
        apply Classical.byContradiction
        intro q
        exact h ⟨by omega, by omega⟩
    · rw [i64_nI, e]
      intro q
      have q1 := q.1
      exact h ⟨q1, by omega⟩
theorem now_T {σx σm : Sto} {u : Nat → Nat} (hn : iNow σx σm u) : u 0 ≤ 10 ∧ u 1 ≤ 6 := by
  rcases hn.2.2 with h | h
  · exact ⟨h.1.2.1, h.1.2.2.2.1⟩
  · rw [h 0 (by decide), h 1 (by decide)]
    omega
theorem g_thing {σx σm : Sto} {u : Nat → Nat} (hn : iNow σx σm u) (x : Int32) : (inR x 0 (u 1) ∧ okD u ∧ fX9_isThing σx x = 1 ∧ fX10_isThing σm x = 1) ∨ (¬ inR x 0 (u 1) ∧ fX9_isThing σx x = 0 ∧ fX10_isThing σm x = 0) := by
  have hT := now_T hn
  unfold fX9_isThing fX10_isThing
  rw [hn.1.1 1 (by decide), hn.2.1 1 (by decide)]
  rcases g_lt (x := x) (T := u 1) rfl (by omega) with ⟨a, b, c⟩ | h
  · refine Or.inl ⟨a, ?_, b, c⟩
    rcases hn.2.2 with h | h
    · exact h
    · have a1 := a.1
      have a2 := a.2
      rw [h 1 (by decide)] at a2
      omega
  · exact Or.inr h
theorem g_room {σx σm : Sto} {u : Nat → Nat} (hn : iNow σx σm u) (x : Int32) : (inR x 0 (u 0) ∧ okD u ∧ fX9_isRoom σx x = 1 ∧ fX10_isRoom σm x = 1) ∨ (¬ inR x 0 (u 0) ∧ fX9_isRoom σx x = 0 ∧ fX10_isRoom σm x = 0) := by
  have hT := now_T hn
  unfold fX9_isRoom fX10_isRoom
  rw [hn.1.1 0 (by decide), hn.2.1 0 (by decide)]
  rcases g_lt (x := x) (T := u 0) rfl (by omega) with ⟨a, b, c⟩ | h
  · refine Or.inl ⟨a, ?_, b, c⟩
    rcases hn.2.2 with h | h
    · exact h
    · have a1 := a.1
      have a2 := a.2
      rw [h 0 (by decide)] at a2
      omega
  · exact Or.inr h
theorem g_str {σx σm : Sto} {u : Nat → Nat} (hn : iNow σx σm u) : (okD u ∧ fX9_isStreet σx = 1 ∧ fX10_isThere σm = 1) ∨ (fX9_isStreet σx = 0 ∧ fX10_isThere σm = 0) := by
  have hT := now_T hn
  unfold fX9_isStreet fX10_isThere
  rw [hn.1.1 0 (by decide), hn.2.1 0 (by decide)]
  rcases hn.2.2 with h | h
  · have := h.1.1
    refine Or.inl ⟨h, ?_, ?_⟩
    · rw [if_neg (nI_nle (by omega) (by omega))]
    · rw [if_neg (nI_nle (by omega) (by omega))]
  · rw [h 0 (by decide)]
    exact Or.inr ⟨rfl, rfl⟩
theorem one_n0 : ¬ (1 : Int32) = 0 := by decide
theorem inv_sc {σx σm τx : Sto} {w : Nat → Nat} (h : Inv σx σm) (ex : ∀ k, k ≠ 12 → (k < 260 ∨ 268 ≤ k) → τx k = σx k) : Inv τx (SM σm 6 w) :=
  inv_fr h (fun k h1 h2 => ex k (fun q => h2 (by unfold scX; omega)) (Or.inl (by unfold scX at h2; omega))) (by rw [ex 21 (by decide) (by decide)]) (fun k _ _ h6 _ => SM_ne h6) (fun j _ => by rw [SM_ne (by decide)])
theorem inv_sx {σx σm τx : Sto} (h : Inv σx σm) (ex : ∀ k, k ≠ 12 → (k < 260 ∨ 268 ≤ k) → τx k = σx k) : Inv τx σm :=
  inv_fr h (fun k h1 h2 => ex k (fun q => h2 (by unfold scX; omega)) (Or.inl (by unfold scX at h2; omega))) (by rw [ex 21 (by decide) (by decide)]) (fun k _ _ h6 _ => rfl) (fun j _ => rfl)
theorem SM6 {σ : Sto} {u : Nat → Nat} : ∀ j, j < 59 → SM σ 6 u 6 j = nI (u j) := fun j hj => SM_at hj
theorem mo60 {σx σm : Sto} (h : Inv σx σm) : σx 11 0 = nI 60 := h.2.2.2.2.2.2.2.1
theorem op_ahead {σx σm : Sto} (h : Inv σx σm) (a1 : Int32) (a2 : Int32) : ∃ qx qm, fX9_ahead σx a1 a2 = some qx ∧ fX10_ahead σm a1 a2 = some qm ∧ qx.2 = qm.2 ∧ Inv qx.1 qm.1 := by
  obtain ⟨u, hn⟩ := h.1
  unfold fX9_ahead fX10_ahead
  rcases g_thing hn a1 with ⟨i1, ok, e1, e2⟩ | ⟨_, e1, e2⟩
  · rw [e1, e2, if_neg one_n0, if_neg one_n0]
    rcases g_in (x := a2) (a := 0) (b := 60) (ax := 0) (bx := 60) (A := 0) (B := 60) rfl rfl rfl rfl (by decide) (by decide) with ⟨i2, e1, e2⟩ | ⟨_, e1, e2⟩
    · rw [e1, e2, if_neg one_n0, if_neg one_n0]
      obtain ⟨k, _, hk, rfl⟩ := inR_of i1
      obtain ⟨d, _, hd, rfl⟩ := inR_of i2
      have hd4 := ok.2
      have hT := now_T hn
      obtain ⟨τ, t1, t2, t3⟩ := tell_X (f := 11) (v := 36) (d := d) (most := 60) (by decide) (by decide) hn.1 ok.1 (by omega) (mo60 h) (by omega) (by decide) (by decide)
      have hx : VX τ 36 u := VX_fr hn.1 (fun k h1 h2 => t3 k (by omega))
      refine ⟨(τ, nI (whN (dysN d u) k)), (SM σm 6 (dysN d u), nI (whN (dysN d u) k)), ?_, ?_, rfl, inv_sc h (fun k h1 _ => t3 k h1)⟩
      · unfold fX5_placeBehind
        rw [t1, bd_s, vin_t (by omega) (by decide), gd_t, nI_clamp (by omega), (hx.2.2 k hk).2.2.1, behind_X hx ok.1 t2 (by omega) (by omega) (Nat.le_refl _) (by show d * 10 + 10 ≤ 610; omega) (by decide) hk, bd_s, bd_s]
      · rw [laysAside_M hn.2.1 ok.1 (by omega), bd_s, whereOf_M SM6 (by omega) (((ok_dys ok.1 (by omega)).1.2.2.2.2.2.2.2.2.2.2.2 k (by rw [dys_lo (by decide) (by decide)]; exact hk)).2.2.2.2.2), bd_s]
    · rw [e1, e2, if_pos rfl, if_pos rfl]
      exact ⟨_, _, rfl, rfl, rfl, h⟩
  · rw [e1, e2, if_pos rfl, if_pos rfl]
    exact ⟨_, _, rfl, rfl, rfl, h⟩
theorem op_lava {σx σm : Sto} (h : Inv σx σm) (a1 : Int32) (a2 : Int32) : ∃ qx qm, fX9_lava σx a1 a2 = some qx ∧ fX10_lava σm a1 a2 = some qm ∧ qx.2 = qm.2 ∧ Inv qx.1 qm.1 := by
  obtain ⟨u, hn⟩ := h.1
  unfold fX9_lava fX10_lava
  rcases g_room hn a1 with ⟨i1, ok, e1, e2⟩ | ⟨_, e1, e2⟩
  · rw [e1, e2, if_neg one_n0, if_neg one_n0]
    rcases g_in (x := a2) (a := 0) (b := 60) (ax := 0) (bx := 60) (A := 0) (B := 60) rfl rfl rfl rfl (by decide) (by decide) with ⟨i2, e1, e2⟩ | ⟨_, e1, e2⟩
    · rw [e1, e2, if_neg one_n0, if_neg one_n0]
      obtain ⟨k, _, hk, rfl⟩ := inR_of i1
      obtain ⟨d, _, hd, rfl⟩ := inR_of i2
      have hd4 := ok.2
      have hT := now_T hn
      obtain ⟨τ, t1, t2, t3⟩ := tell_X (f := 11) (v := 36) (d := d) (most := 60) (by decide) (by decide) hn.1 ok.1 (by omega) (mo60 h) (by omega) (by decide) (by decide)
      refine ⟨(τ, nI (dysN d u (15 + k))), (SM σm 6 (dysN d u), nI (dysN d u (15 + k))), ?_, ?_, rfl, inv_sc h (fun k h1 _ => t3 k h1)⟩
      · unfold fX5_lavaBehind
        rw [t1, bd_s, lavaIn_X t2 (Nat.le_refl _) hk hT.1 (by omega) (by show d * 10 + 10 ≤ 610; omega) (by decide), bd_s, bd_s]
      · rw [laysAside_M hn.2.1 ok.1 (by omega), bd_s, n32_15, nI_add, vin_t (by omega) (by decide), gd_t, nI_clamp (by omega), SM6 _ (by omega)]
    · rw [e1, e2, if_pos rfl, if_pos rfl]
      exact ⟨_, _, rfl, rfl, rfl, h⟩
  · rw [e1, e2, if_pos rfl, if_pos rfl]
    exact ⟨_, _, rfl, rfl, rfl, h⟩
theorem op_kept {σx σm : Sto} (h : Inv σx σm) (a1 : Int32) (a2 : Int32) : ∃ qx qm, fX9_kept σx a1 a2 = some qx ∧ fX10_kept σm a1 a2 = some qm ∧ qx.2 = qm.2 ∧ Inv qx.1 qm.1 := by
  obtain ⟨u, hn⟩ := h.1
  unfold fX9_kept fX10_kept fX10_isTwo
  rcases g_str hn with ⟨ok, e1, e2⟩ | ⟨e1, e2⟩
  · rw [e1, e2, if_neg one_n0, if_neg one_n0]
    rcases g_in (x := a1) (a := 0) (b := 60) (ax := 0) (bx := 60) (A := 0) (B := 60) rfl rfl rfl rfl (by decide) (by decide) with ⟨i1, e1, e2⟩ | ⟨_, e1, e2⟩
    · rw [e1, e2, if_neg one_n0, if_neg one_n0]
      rcases g_in (x := a2) (a := 0) (b := 1) (ax := 0) (bx := 1) (A := 0) (B := 1) rfl rfl rfl rfl (by decide) (by decide) with ⟨i2, e1, e2⟩ | ⟨_, e1, e2⟩
      · rw [e1, e2, if_neg one_n0, if_neg one_n0]
        obtain ⟨d, _, hd, rfl⟩ := inR_of i1
        have hd4 := ok.2
        have hT := now_T hn
        obtain ⟨b1, b2⟩ := become_X (σ := σx) (v0 := 260) (v1 := 36) (by decide) hn.1 hT.1 hT.2
        obtain ⟨τ, t1, t2, t3⟩ := trial_X (d := d) ok.1 (by omega) b1
        have okd := (ok_dys ok.1 (show u 4 + d ≤ 2000 by omega)).1
        have hinv : Inv τ (SM σm 6 (dysN d u)) := inv_sc h (fun k _ hk => by rw [t3 k hk, b2 k hk])
        rw [laysAside_M hn.2.1 ok.1 (by omega), bd_s]
        unfold fX5_stonesBehind fX5_outsBehind
        simp only [un]
        rw [t1, bd_s, bd_s, stones_X t2 okd, n32_20, out_X t2 okd, n32_2, n32_1, those_M SM6 okd (by decide), those_M SM6 okd (by decide), bd_s, bd_s, bd_s, bd_s]
        by_cases c : a2 = 0
        · rw [if_pos c, if_pos c, bd_s]
          exact ⟨_, _, rfl, rfl, rfl, hinv⟩
        · rw [if_neg c, if_neg c, bd_s]
          exact ⟨_, _, rfl, rfl, rfl, hinv⟩
      · rw [e1, e2, if_pos rfl, if_pos rfl]
        exact ⟨_, _, rfl, rfl, rfl, h⟩
    · rw [e1, e2, if_pos rfl, if_pos rfl]
      exact ⟨_, _, rfl, rfl, rfl, h⟩
  · rw [e1, e2, if_pos rfl, if_pos rfl]
    exact ⟨_, _, rfl, rfl, rfl, h⟩
