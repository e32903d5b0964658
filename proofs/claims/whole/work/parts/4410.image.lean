theorem inv_img {σx σm τx τm : Sto} (h : Inv σx σm) (ex : ∀ k, k < 244 → τx k = σx k) (em : ∀ k, k ≠ 8 → k ≠ 9 → τm k = σm k) (hi : iImg τx τm) : Inv τx τm := by
  obtain ⟨⟨u, h1⟩, ⟨n, o, P, h2⟩, h3, h4, h5, h6, h7, h8⟩ := h
  have e0 : τm 0 = σm 0 := em 0 (by decide) (by decide)
  refine ⟨⟨u, iNow_fr h1 (fun k _ _ => ex k (by omega)) (em 4 (by decide) (by decide))⟩, ⟨n, o, P, iPast_fr h2 (fun k _ _ => ex k (by omega)) (ex 7 (by decide)) (em 7 (by decide) (by decide)) (by rw [e0])⟩, hi, iRows_fr h4 (ex 3 (by decide)) (ex 4 (by decide)) (fun k _ _ => ex k (by omega)) (em 1 (by decide) (by decide)) (em 2 (by decide) (by decide)) (em 3 (by decide) (by decide)), iTape_fr h5 (by rw [ex 5 (by decide)]) (by rw [ex 5 (by decide)]) (ex 6 (by decide)) (by rw [e0]) (by rw [e0]) (em 10 (by decide) (by decide)), iTrace_fr h6 (ex 26 (by decide)) (ex 27 (by decide)) (by rw [e0]) (em 11 (by decide) (by decide)), ?_, iScr_fr h8 (fun k hk => ex k (by omega)) (by rw [ex 21 (by decide)])⟩
  unfold iSt
  rw [ex 0 (by decide), e0]
  exact h7
theorem op_image {σx σm : Sto} (h : Inv σx σm) (a1 : Int32) : ∃ qx qm, fX9_image σx a1 = some qx ∧ fX10_image σm a1 = some qm ∧ qx.2 = qm.2 ∧ Inv qx.1 qm.1 := by
  obtain ⟨u, hn⟩ := h.1
  unfold fX9_image fX10_image fX10_isTwo
  rcases g_in (x := a1) (a := 0) (b := 1) (ax := 0) (bx := 1) (A := 0) (B := 1) rfl rfl rfl rfl (by decide) (by decide) with ⟨i1, e1, e2⟩ | ⟨_, e1, e2⟩
  · rw [e1, e2, if_neg one_n0, if_neg one_n0]
    rcases g_str hn with ⟨ok, e1, e2⟩ | ⟨e1, e2⟩
    · rw [e1, e2, if_neg one_n0, if_neg one_n0]
      obtain ⟨i, _, hi, rfl⟩ := inR_of i1
      have hT := now_T hn
      have hb := im_b (show i < 2 by omega)
      obtain ⟨b1, b2⟩ := become_X (σ := σx) (v0 := imV i) (v1 := 36) (Or.inr (by omega)) hn.1 hT.1 hT.2
      rw [n32_59, pk_mul, n32_0, copies_M (u := u) (fun j hj => by rw [Nat.zero_add]; exact hn.2.1 j hj) (Or.inl (by decide)) (by decide) (show 59 * i + 59 ≤ 118 by omega) (by decide) (by decide), bd_s, vin_t (by omega) (by decide), gd_t, gd_t, nI_clamp (by omega)]
      simp only [un]
      refine mk2 (τx := fX8_become σx (imV i) 36) (τm := up (SO σm 8 (59 * i) u 59) 9 i (vp_nar .boolean 1)) rfl rfl rfl (inv_img h (fun k hk => b2 k (by omega)) (fun k z8 z9 => by rw [up_k z9, SO_ne z8]) (fun q hq => ?_))
      by_cases e : q = i
      · subst e
        refine Or.inr ⟨by rw [up_i]; rfl, u, b1, fun j hj => ?_, ok⟩
        rw [up_k (by decide), SO_at hj]
      · have hbq := im_b hq
        have hdis : imV q + 8 ≤ imV i ∨ imV i + 8 ≤ imV q := by unfold imV; omega
        rcases h.2.2.1 q hq with ⟨a1, a2⟩ | ⟨a1, w, a2, a3, a4⟩
        · exact Or.inl ⟨by rw [up_j e, SO_ne (by decide)]; exact a1, by rw [b2 _ (by omega)]; exact a2⟩
        · refine Or.inr ⟨by rw [up_j e, SO_ne (by decide)]; exact a1, w, VX_fr a2 (fun k h1 h2 => b2 k (by omega)), fun j hj => ?_, a4⟩
          rw [up_k (by decide), SO_out (by omega)]
          exact a3 j hj
    · rw [e1, e2, if_pos rfl, if_pos rfl]
      exact ⟨_, _, rfl, rfl, rfl, h⟩
  · rw [e1, e2, if_pos rfl, if_pos rfl]
    exact ⟨_, _, rfl, rfl, rfl, h⟩
