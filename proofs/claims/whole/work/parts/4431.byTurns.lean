/-! by turns: the two answers -/
theorem play_L {σ0 : Sto} {u : Nat → Nat} {n m : Nat} (hx : VX σ0 36 u) (h : okV u) (hn : n ≤ 4) (hm : m ≤ 20) (hd : u 4 + m ≤ 2000) (h5 : σ0 21 5 = nI (u 1)) (h20 : σ0 22 0 = nI 20) : ∀ (q a f : Nat) (σ : Sto), a + q = 3 → q < f → (∀ k, k < 268 → k ≠ 23 → k ≠ 24 → σ k = σ0 k) → (∀ a' o' t', a' < 3 → o' < 3 → t' < u 1 → a' < a → σ 24 ((a' * 3 + o') * 6 + t') = nI (b1 (stT u m a' o' t'))) → ∃ σ', fX7_play_L11 36 f σ (nI n) (nI m) (nI a) = (bd (fX7_outcomeR σ' (0 : Int32) (nI n)) fun q_1 => some (q_1.1, q_1.2)) ∧ (∀ k, k < 268 → k ≠ 23 → k ≠ 24 → σ' k = σ0 k) ∧ (∀ a' o' t', a' < 3 → o' < 3 → t' < u 1 → σ' 24 ((a' * 3 + o') * 6 + t') = nI (b1 (stT u m a' o' t'))) := by
  have h0 := h.2.1
  have h1 := h.2.2.2.1
  intro q
  induction q with
  | zero =>
    intro a f σ ha hf hF hT
    obtain ⟨f, rfl⟩ : ∃ z, f = z + 1 := ⟨f - 1, by omega⟩
    refine ⟨σ, ?_, hF, fun a' o' t' x y z => hT a' o' t' x y z (by omega)⟩
    rw [fX7_play_L11, n32_3, if_pos (nI_le (by omega) (by omega)), n32_4, if_neg (nI_nlt (by omega) (by omega))]
  | succ q ih =>
    intro a f σ ha hf hF hT
    obtain ⟨f, rfl⟩ : ∃ z, f = z + 1 := ⟨f - 1, by omega⟩
    have hf2 := h.2.2.2.2.1
    have hxs : VX σ 36 u := VX_fr hx (fun k _ _ => hF k (by omega) (by omega) (by omega))
    obtain ⟨b1', b2⟩ := become_X (σ := σ) (v0 := 268) (v1 := 36) (Or.inr (by decide)) hxs h0 h1
    have e2 : fX8_become σ 268 36 36 2 = nI (u 2) := by rw [b2 36 (by decide)]; exact hxs.1 2 (by decide)
    have hV : VX (up (fX8_become σ 268 36) 268 2 (nI (min 20 (u 2 + 3 * a)))) 268 (vfN u a) := VX_feed b1'
    have o1 : ∀ k, k < 268 → up (fX8_become σ 268 36) 268 2 (nI (min 20 (u 2 + 3 * a))) k = σ k := fun k hk => by rw [up_k (by omega), b2 k (by omega)]
    obtain ⟨σ2, t1, t2, t3⟩ := tell_X (f := 22) (v := 268) (d := m) (most := 20) (by decide) (by decide) hV (vf_ok h) (by rw [vf_o (by decide)]; exact hd) (by rw [o1 22 (by decide), hF 22 (by decide) (by decide) (by decide)]; exact h20) hm (by decide) (by decide)
    have o2 : ∀ k, k < 268 → k ≠ 23 → σ2 k = σ k := fun k hk h23 => by rw [t3 k h23, o1 k hk]
    obtain ⟨σ3, f1, f2, f3⟩ := ftL2 (σ0 := σ2) (u := u) (m := m) (a := a) h (VX_fr hV (fun k _ _ => t3 k (by omega))) t2 (by rw [o2 21 (by decide) (by decide), hF 21 (by decide) (by decide) (by decide)]; exact h5) (by omega) hd hm (u 1) 0 fu σ2 (by omega) (fu_gt (by omega)) ⟨fun _ _ => rfl, fun a' o' t' x y z c => by
      rw [o2 24 (by decide) (by decide)]
      exact hT a' o' t' x y z (by omega)⟩
    have f1 : fX7_followAll σ2 (nI a) (nI m) = some σ3 := f1
    obtain ⟨σ', r1, r2, r3⟩ := ih (a + 1) f σ3 (by omega) (by omega) (fun k hk h23 h24 => by rw [f2 k h24, o2 k hk h23, hF k hk h23 h24]) (fun a' o' t' x y z c => f3 a' o' t' x y z (by omega))
    refine ⟨σ', ?_, r2, r3⟩
    rw [fX7_play_L11, if_neg (show ¬ (3 : Int32) ≤ nI a from nI_ge (b := 3) (by omega) (by decide)), un_e, e2, n32_3, pk_mul, nI_add, n32_20, minX (by decide) (by omega), un_e, t1, bd_s, f1, bd_s, un_e, n32_1, nI_add]
    exact r1
theorem op_byTurns {σx σm : Sto} (h : Inv σx σm) (a1 : Int32) (a2 : Int32) : ∃ qx qm, fX9_byTurns σx a1 a2 = some qx ∧ fX10_byTurns σm a1 a2 = some qm ∧ qx.2 = qm.2 ∧ Inv qx.1 qm.1 := by
  obtain ⟨u, hn⟩ := h.1
  unfold fX9_byTurns fX10_byTurns
  rcases g_str hn with ⟨ok, e1, e2⟩ | ⟨e1, e2⟩
  · rw [e1, e2, if_neg one_n0, if_neg one_n0]
    rcases g_in (x := a1) (a := 0) (b := 4) (ax := 0) (bx := 4) (A := 0) (B := 4) rfl rfl rfl rfl (by decide) (by decide) with ⟨i1, e1, e2⟩ | ⟨_, e1, e2⟩
    · rw [e1, e2, if_neg one_n0, if_neg one_n0]
      rcases g_in (x := a2) (a := 1) (b := 20) (ax := 1) (bx := 20) (A := 1) (B := 20) rfl rfl rfl rfl (by decide) (by decide) with ⟨i2, e1, e2⟩ | ⟨_, e1, e2⟩
      · rw [e1, e2, if_neg one_n0, if_neg one_n0]
        obtain ⟨n, _, hn4, rfl⟩ := inR_of i1
        obtain ⟨m, _, hm, rfl⟩ := inR_of i2
        have hT := now_T hn
        have h4 := ok.2
        have hsc : iScr σx := h.2.2.2.2.2.2.2
        obtain ⟨ρ, m1, m2⟩ := turns_M (n := n) (m := m) hn.2.1 ok.1 (by omega) (by omega)
        rw [m1]
        have hx1 : VX (up σx 21 5 (nI (u 1))) 36 u := VX_fr hn.1 (fun k _ _ => up_k (by omega))
        obtain ⟨τ, t1, t2, t3⟩ := play_L (σ0 := up σx 21 5 (nI (u 1))) (n := n) (m := m) hx1 ok.1 (by omega) (by omega) (by omega) up_i (by rw [up_k (by decide)]; exact hsc.2.2.1) 3 0 fu (up σx 21 5 (nI (u 1))) (by decide) (fu_gt (by decide)) (fun _ _ _ _ => rfl) (fun a' o' t' _ _ _ c => by omega)
        have hO : OS τ τ (u 1) 0 (fun _ => 0) := ⟨fun _ _ _ => rfl, by rw [t2 21 (by decide) (by decide) (by decide), up_i], by rw [t2 21 (by decide) (by decide) (by decide), up_j (by decide), hsc.2.2.2.2.2]; rfl, fun t ht => by rw [t2 25 (by decide) (by decide) (by decide), up_k (by decide), hsc.2.2.2.2.1 t (by omega)]; rfl, fun _ _ => rfl⟩
        obtain ⟨τ', o1, o2⟩ := outc_X (σ0 := τ) (u := u) (m := m) (n := n) hT.2 (by omega) t3 n 0 6 0 (fun _ => 0) τ (by omega) (by omega) (by omega) (fun _ => by omega) hO
        have o1 : fX7_outcomeR τ (0 : Int32) (nI n) = some (τ', nI (gvX (vlN u m) (u 1) n 0 0 (fun _ => 0))) := o1
        rw [o1, bd_s, ← gv_eq ok.1 (show u 4 + m ≤ 2000 by omega) n 0 u 0 (fun _ => 0) (RGw_0 ok.1)] at t1
        unfold fX7_play
        rw [un_e, hn.1.1 1 (by decide), n32_0, t1, bd_s]
        refine mk2 rfl rfl rfl (inv_fr h (fun k h21 hk => ?_) ?_ (fun k h0 h5 h6 h12 => m2 k h6 (by omega) (by omega) (by omega)) (fun j _ => by rw [m2 0 (by decide) (by decide) (by decide) (by decide)]))
        · have hk2 : k < 260 ∧ k ≠ 23 ∧ k ≠ 24 := by
            unfold scX at hk
            omega
          show τ' k = σx k
          by_cases e : k = 25
          · subst e
            funext j
            have g : τ 25 j = σx 25 j := by rw [t2 25 (by decide) (by decide) (by decide), up_k (by decide)]
            by_cases hj : j < u 1
            · rw [o2.2.2.2.1 j hj, hsc.2.2.2.2.1 j (by omega)]
              rfl
            · rw [o2.2.2.2.2 j (by omega), g]
          · rw [o2.1 k h21 e, t2 k (by omega) hk2.2.1 hk2.2.2, up_k h21]
        · show τ' 21 4 = σx 21 4
          rw [o2.2.2.1, hsc.2.2.2.2.2]
          rfl
      · rw [e1, e2, if_pos rfl, if_pos rfl]
        exact ⟨_, _, rfl, rfl, rfl, h⟩
    · rw [e1, e2, if_pos rfl, if_pos rfl]
      exact ⟨_, _, rfl, rfl, rfl, h⟩
  · rw [e1, e2, if_pos rfl, if_pos rfl]
    exact ⟨_, _, rfl, rfl, rfl, h⟩
