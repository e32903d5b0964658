/-! tape and rows -/
theorem inv_tape {σx σm τx τm : Sto} (h : Inv σx σm) (ex : ∀ k, k ≠ 5 → k ≠ 6 → τx k = σx k) (em : ∀ k, k ≠ 0 → k ≠ 10 → τm k = σm k) (e0 : ∀ j, j ≠ 12 → τm 0 j = σm 0 j) (ht : iTape τx τm) : Inv τx τm := by
  obtain ⟨⟨u, h1⟩, ⟨n, o, P, h2⟩, h3, h4, h5, h6, h7, h8⟩ := h
  refine ⟨⟨u, iNow_fr h1 (fun k _ _ => ex k (by omega) (by omega)) (em 4 (by decide) (by decide))⟩, ⟨n, o, P, iPast_fr h2 (fun k _ _ => ex k (by omega) (by omega)) (ex 7 (by decide) (by decide)) (em 7 (by decide) (by decide)) (e0 8 (by decide))⟩, iImg_fr h3 (fun k _ _ => ex k (by omega) (by omega)) (em 8 (by decide) (by decide)) (em 9 (by decide) (by decide)), iRows_fr h4 (ex 3 (by decide) (by decide)) (ex 4 (by decide) (by decide)) (fun k _ _ => ex k (by omega) (by omega)) (em 1 (by decide) (by decide)) (em 2 (by decide) (by decide)) (em 3 (by decide) (by decide)), ht, iTrace_fr h6 (ex 26 (by decide) (by decide)) (ex 27 (by decide) (by decide)) (e0 15 (by decide)) (em 11 (by decide) (by decide)), ?_, iScr_fr h8 (fun k hk => ex k (by omega) (by omega)) (by rw [ex 21 (by decide) (by decide)])⟩
  unfold iSt
  rw [ex 0 (by decide) (by decide), e0 3 (by decide)]
  exact h7
theorem mk2 {α : Type} {fx fm : Option (Sto × α)} {τx τm : Sto} {r s : α} (h1 : fx = some (τx, r)) (h2 : fm = some (τm, s)) (h3 : r = s) (h4 : Inv τx τm) : ∃ qx qm, fx = some qx ∧ fm = some qm ∧ qx.2 = qm.2 ∧ Inv qx.1 qm.1 := ⟨_, _, h1, h2, h3, h4⟩
theorem op_feed {σx σm : Sto} (h : Inv σx σm) (a1 : Int32) : ∃ qx qm, fX9_feed σx a1 = some qx ∧ fX10_feed σm a1 = some qm ∧ qx.2 = qm.2 ∧ Inv qx.1 qm.1 := by
  obtain ⟨⟨s, hs, s1, s2⟩, tt, tf⟩ := id h.2.2.2.2.1
  unfold fX9_feed fX10_feed
  rcases g_in (x := a1) (a := 0) (b := 255) (ax := 0) (bx := 255) (A := 0) (B := 255) rfl rfl rfl rfl (by decide) (by decide) with ⟨i1, e1, e2⟩ | ⟨_, e1, e2⟩
  · rw [e1, e2, if_neg one_n0, if_neg one_n0]
    obtain ⟨b, _, hb, rfl⟩ := inR_of i1
    unfold fX6_takeByte
    rw [s1, s2, n32_90]
    by_cases c : s = 90
    · rw [if_neg (nI_nlt (by omega) (by omega)), if_pos (by rw [c]), bd_s, if_pos rfl]
      exact ⟨_, _, rfl, rfl, rfl, h⟩
    · rw [if_pos (nI_lt (by omega) (by decide)), if_neg (fun q => c ((nI_eq (by omega) (by decide)).mp q)), vin_t (by omega) (by decide), gd_t, gd_t, nI_clamp (by omega)]
      simp only [un]
      rw [up_k (show (5 : Nat) ≠ 6 by decide), up_k (show (0 : Nat) ≠ 10 by decide), s1, s2, n32_1, nI_add, bd_s, if_neg (show ¬ nI 1 = (0 : Int32) by decide)]
      refine mk2 (τx := up (up σx 6 s (nI b)) 5 1 (nI (s + 1))) (τm := up (up σm 10 s (nI b)) 0 12 (nI (s + 1))) rfl rfl ?_ (inv_tape h (fun k h5 h6 => ?_) (fun k h0 h10 => ?_) (fun j hj => ?_) ⟨⟨s + 1, by omega, ?_, ?_⟩, fun j hj => ?_, ?_⟩)
      · rw [up_i]
        show up (up σx 6 s (nI b)) 5 1 (nI (s + 1)) 5 1 = nI (s + 1)
        rw [up_i]
      · rw [up_k h5, up_k h6]
      · rw [up_k h0, up_k h10]
      · rw [up_j hj, up_k (by decide)]
      · rw [up_i]
      · rw [up_i]
      · rw [up_k (show (6 : Nat) ≠ 5 by decide), up_k (show (10 : Nat) ≠ 0 by decide)]
        by_cases e : j = s
        · subst e
          rw [up_i, up_i]
          exact ⟨rfl, b, by omega, rfl⟩
        · rw [up_j e, up_j e]
          exact tt j hj
      · rw [up_j (by decide), up_j (by decide), up_k (by decide), up_k (by decide)]
        exact tf
  · rw [e1, e2, if_pos rfl, if_pos rfl]
    exact ⟨_, _, rfl, rfl, rfl, h⟩
theorem inv_rows {σx σm τx τm : Sto} (h : Inv σx σm) (ex : ∀ k, k ≠ 0 → k ≠ 3 → k ≠ 4 → (k < 28 ∨ 36 ≤ k) → τx k = σx k) (em : ∀ k, k ≠ 0 → k ≠ 1 → k ≠ 2 → k ≠ 3 → τm k = σm k) (e0 : ∀ j, j ≠ 3 → τm 0 j = σm 0 j) (hs : iSt τx τm) (hr : iRows τx τm) : Inv τx τm := by
  obtain ⟨⟨u, h1⟩, ⟨n, o, P, h2⟩, h3, h4, h5, h6, h7, h8⟩ := h
  have ex' : ∀ k, 5 ≤ k ∧ k < 28 ∨ 36 ≤ k → τx k = σx k := fun k hk => ex k (by omega) (by omega) (by omega) (by omega)
  have em' : ∀ k, 4 ≤ k → τm k = σm k := fun k hk => em k (by omega) (by omega) (by omega) (by omega)
  exact ⟨⟨u, iNow_fr h1 (fun k _ _ => ex' k (by omega)) (em' 4 (by decide))⟩, ⟨n, o, P, iPast_fr h2 (fun k _ _ => ex' k (by omega)) (ex' 7 (by decide)) (em' 7 (by decide)) (e0 8 (by decide))⟩, iImg_fr h3 (fun k _ _ => ex' k (by omega)) (em' 8 (by decide)) (em' 9 (by decide)), hr, iTape_fr h5 (by rw [ex' 5 (by decide)]) (by rw [ex' 5 (by decide)]) (ex' 6 (by decide)) (e0 12 (by decide)) (e0 13 (by decide)) (em' 10 (by decide)), iTrace_fr h6 (ex' 26 (by decide)) (ex' 27 (by decide)) (e0 15 (by decide)) (em' 11 (by decide)), hs, iScr_fr h8 (fun k hk => ex' k (by omega)) (by rw [ex' 21 (by decide)])⟩
