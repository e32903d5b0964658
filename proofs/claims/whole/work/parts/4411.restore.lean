theorem inv_np {σx σm τx τm : Sto} (h : Inv σx σm) (ex : ∀ k, (k < 36 ∨ 244 ≤ k) → k ≠ 7 → τx k = σx k) (em : ∀ k, k ≠ 0 → k ≠ 4 → k ≠ 7 → τm k = σm k) (e0 : ∀ j, j ≠ 8 → τm 0 j = σm 0 j) (hn : ∃ u, iNow τx τm u) (hp : ∃ n o P, iPast τx τm n o P) : Inv τx τm := by
  obtain ⟨_, _, h3, h4, h5, h6, h7, h8⟩ := h
  refine ⟨hn, hp, iImg_fr h3 (fun k _ _ => ex k (by omega) (by omega)) (em 8 (by decide) (by decide) (by decide)) (em 9 (by decide) (by decide) (by decide)), iRows_fr h4 (ex 3 (by decide) (by decide)) (ex 4 (by decide) (by decide)) (fun k _ _ => ex k (by omega) (by omega)) (em 1 (by decide) (by decide) (by decide)) (em 2 (by decide) (by decide) (by decide)) (em 3 (by decide) (by decide) (by decide)), iTape_fr h5 (by rw [ex 5 (by decide) (by decide)]) (by rw [ex 5 (by decide) (by decide)]) (ex 6 (by decide) (by decide)) (e0 12 (by decide)) (e0 13 (by decide)) (em 10 (by decide) (by decide) (by decide)), iTrace_fr h6 (ex 26 (by decide) (by decide)) (ex 27 (by decide) (by decide)) (e0 15 (by decide)) (em 11 (by decide) (by decide) (by decide)), ?_, iScr_fr h8 (fun k hk => ex k (by omega) (by omega)) (by rw [ex 21 (by decide) (by decide)])⟩
  unfold iSt
  rw [ex 0 (by decide) (by decide), e0 3 (by decide)]
  exact h7
theorem op_restore {σx σm : Sto} (h : Inv σx σm) (a1 : Int32) : ∃ qx qm, fX9_restore σx a1 = some qx ∧ fX10_restore σm a1 = some qm ∧ qx.2 = qm.2 ∧ Inv qx.1 qm.1 := by
  unfold fX9_restore fX10_restore fX10_isTwo
  rcases g_in (x := a1) (a := 0) (b := 1) (ax := 0) (bx := 1) (A := 0) (B := 1) rfl rfl rfl rfl (by decide) (by decide) with ⟨i1, e1, e2⟩ | ⟨_, e1, e2⟩
  · rw [e1, e2, if_neg one_n0, if_neg one_n0]
    obtain ⟨i, _, hi, rfl⟩ := inR_of i1
    have hb := im_b (show i < 2 by omega)
    rw [vin_t (by omega) (by decide), gd_t, gd_t, nI_clamp (by omega)]
    rcases h.2.2.1 i (by omega) with ⟨a1, a2⟩ | ⟨a1, w, a2, a3, a4⟩
    · rw [a1, a2, if_pos rfl, if_pos rfl]
      exact ⟨_, _, rfl, rfl, rfl, h⟩
    · have w3 := a4.1.1
      have w10 := a4.1.2.1
      obtain ⟨b1, b2⟩ := become_X (σ := σx) (v0 := 36) (v1 := imV i) (Or.inl (by omega)) a2 w10 a4.1.2.2.2.1
      rw [a1, a2.1 0 (by decide), if_neg (nI_n0 (by omega) (by omega)), if_neg one_n0, n32_59, pk_mul, n32_0, copies_M (u := w) a3 (Or.inl (by decide)) (show 59 * i + 59 ≤ 118 by omega) (by decide) (by decide) (by decide), bd_s, SO_SM]
      unfold fX3_forget
      simp only [un]
      refine mk2 (τx := up (up (fX8_become σx 36 (imV i)) 7 0 0) 7 1 0) (τm := up (SM σm 4 w) 0 8 0) rfl rfl rfl (inv_np h (fun k hk h7 => ?_) (fun k h0 h4 h7 => ?_) (fun j hj => ?_) ⟨w, VX_fr b1 (fun k _ _ => ?_), fun j hj => ?_, Or.inl a4⟩ ⟨0, 0, fun _ _ => 0, ?_, ?_, ?_, by decide, by decide, fun k hk => absurd hk (Nat.not_lt_zero k)⟩)
      · rw [up_k h7, up_k h7, b2 k (by omega)]
      · rw [up_k h0, SM_ne h4]
      · rw [up_j hj, SM_ne (by decide)]
      · rw [up_k (by omega), up_k (by omega)]
      · rw [up_k (by decide), SM_at hj]
      · rw [up_j (by decide), up_i]
        rfl
      · rw [up_i]
        rfl
      · rw [up_i]
        rfl
  · rw [e1, e2, if_pos rfl, if_pos rfl]
    exact ⟨_, _, rfl, rfl, rfl, h⟩
