/-! the past: both sides keep the street alike; a thing is placed -/
def KP (σx σm τ ρ : Sto) : Prop := (∃ n o P, iPast τ ρ n o P) ∧ (∀ k, (k < 52 ∨ 244 ≤ k) → k ≠ 7 → τ k = σx k) ∧ (∀ k, k ≠ 0 → k ≠ 7 → ρ k = σm k) ∧ (∀ j, j ≠ 8 → ρ 0 j = σm 0 j)
theorem rg_dis {i j : Nat} (h : i ≠ j) : rgV i + 8 ≤ rgV j ∨ rgV j + 8 ≤ rgV i := by
  unfold rgV
  omega
theorem keep_J {σx σm : Sto} {u : Nat → Nat} (h : Inv σx σm) (hx : VX σx 36 u) (hu : ∀ j, j < 59 → σm 4 j = nI (u j)) (ok : okD u) : ∃ τ ρ, fX3_keep σx 36 = some τ ∧ fX10_notes σm = some ρ ∧ KP σx σm τ ρ := by
  obtain ⟨n, o, P, p1, p2, p3, p4, p5, p6⟩ := h.2.1
  have hm : (o + n) % 24 < 24 := Nat.mod_lt _ (by decide)
  have hb := rg_b hm
  obtain ⟨τ, t1, t2, t3, t4, t5⟩ := keep_X p1 p2 p4 p5 hx ok.1.2.1 ok.1.2.2.2.1
  by_cases c : n = 24
  · subst c
    rw [if_pos rfl] at t4 t5
    obtain ⟨ρ, r1, r2, r3, r4⟩ := notes_24 p3 hu
    refine ⟨τ, _, t1, r1, ⟨24, (o + 1) % 24, fun k => if k = 23 then u else P (k + 1), t4, t5, up_i, by decide, by omega, fun k hk => ?_⟩, fun k hk h7 => t3 k h7 (by omega), fun k h0 h7 => ?_, fun j hj => ?_⟩
    · by_cases e : k = 23
      · subst e
        dsimp only
        rw [if_pos rfl]
        refine ⟨?_, fun j hj => ?_, ok⟩
        · rw [show ((o + 1) % 24 + 23) % 24 = (o + 24) % 24 by omega]
          exact t2
        · rw [up_k (by decide), show 59 * 23 + j = 1357 + j by omega, SO_at hj]
      · dsimp only
        rw [if_neg e]
        obtain ⟨a1, a2, a3⟩ := p6 (k + 1) (by omega)
        have hb2 := rg_b (show (o + (k + 1)) % 24 < 24 by omega)
        have hdis := rg_dis (show (o + (k + 1)) % 24 ≠ (o + 24) % 24 by omega)
        refine ⟨?_, fun j hj => ?_, a3⟩
        · rw [show ((o + 1) % 24 + k) % 24 = (o + (k + 1)) % 24 by omega]
          exact VX_fr a1 (fun q h1 h2 => t3 q (by omega) (by omega))
        · rw [up_k (by decide), SO_out (by omega), r4 _ (by omega), show 59 * k + j + 59 = 59 * (k + 1) + j by omega]
          exact a2 j hj
    · rw [up_k h0, SO_ne h7, r2 k h0 h7]
    · rw [up_j hj, SO_ne (by decide), r3 j hj]
  · rw [if_neg c] at t4 t5
    refine ⟨τ, _, t1, notes_lt p3 (by omega) hu, ⟨n + 1, o, fun k => if k = n then u else P k, t4, t5, up_i, by omega, p5, fun k hk => ?_⟩, fun k hk h7 => t3 k h7 (by omega), fun k h0 h7 => ?_, fun j hj => ?_⟩
    · by_cases e : k = n
      · subst e
        dsimp only
        rw [if_pos rfl]
        refine ⟨t2, fun j hj => ?_, ok⟩
        rw [up_k (by decide), SO_at hj]
      · dsimp only
        rw [if_neg e]
        obtain ⟨a1, a2, a3⟩ := p6 k (by omega)
        have hb2 := rg_b (show (o + k) % 24 < 24 by omega)
        have hdis := rg_dis (show (o + k) % 24 ≠ (o + n) % 24 by omega)
        refine ⟨VX_fr a1 (fun q h1 h2 => t3 q (by omega) (by omega)), fun j hj => ?_, a3⟩
        rw [up_k (by decide), SO_out (by omega)]
        exact a2 j hj
    · rw [up_k h0, SO_ne h7]
    · rw [up_j hj, SO_ne (by decide)]
theorem inv_act {σx σm τ ρ τ' ρ' : Sto} (h : Inv σx σm) (hk : KP σx σm τ ρ) (et : ∀ k, (k < 36 ∨ 44 ≤ k) → τ' k = τ k) (er : ∀ k, k ≠ 4 → ρ' k = ρ k) (hn : ∃ u, iNow τ' ρ' u) : Inv τ' ρ' := by
  obtain ⟨⟨n, o, P, hp⟩, k1, k2, k3⟩ := hk
  exact inv_np h (fun k z z7 => by rw [et k (by omega), k1 k (by omega) z7]) (fun k z0 z4 z7 => by rw [er k z4, k2 k z0 z7]) (fun j hj => by rw [er 0 (by decide), k3 j hj]) hn ⟨n, o, P, iPast_fr hp (fun k _ _ => et k (by omega)) (et 7 (by decide)) (er 7 (by decide)) (by rw [er 0 (by decide)])⟩
theorem kp_V {σx σm τ ρ : Sto} {u : Nat → Nat} (hk : KP σx σm τ ρ) (hx : VX σx 36 u) : VX τ 36 u := VX_fr hx (fun k h1 h2 => hk.2.1 k (by omega) (by omega))
theorem kp_M {σx σm τ ρ : Sto} {u : Nat → Nat} (hk : KP σx σm τ ρ) (hu : ∀ j, j < 59 → σm 4 j = nI (u j)) : ∀ j, j < 59 → ρ 4 j = nI (u j) := fun j hj => by rw [hk.2.2.1 4 (by decide) (by decide)]; exact hu j hj
/-- a street in which one thing's room and state differ -/
def plE (u w : Nat → Nat) (k : Nat) : Prop := ∀ j, j ≠ 47 + k → j ≠ 53 + k → w j = u j
theorem okV_pl {u w : Nat → Nat} {k : Nat} (h : okV u) (hk : k < u 1) (e : plE u w k) (h47 : w (47 + k) < u 0) (h53 : w (53 + k) ≤ 2) : okV w := by
  obtain ⟨h0, h1, h2, h3, h4, h5, h6, h7, h8, h9, h10, h11⟩ := h
  have e0 : w 0 = u 0 := e 0 (by omega) (by omega)
  have e1 : w 1 = u 1 := e 1 (by omega) (by omega)
  have e2 : w 2 = u 2 := e 2 (by omega) (by omega)
  have e3 : w 3 = u 3 := e 3 (by omega) (by omega)
  have e4 : w 4 = u 4 := e 4 (by omega) (by omega)
  refine ⟨by omega, by omega, by omega, by omega, by omega, by omega, by omega, fun r hr => ?_, fun r hr => ?_, fun r hr hr2 => ?_, ?_, fun i hi => ?_⟩
  · rw [e _ (by omega) (by omega)]
    exact h7 r hr
  · rw [e _ (by omega) (by omega)]
    exact h8 r hr
  · rw [e _ (by omega) (by omega)]
    exact h9 r (by omega) hr2
  · rw [e0, e4, sm_congr (M := fun r => u (15 + r)) (fun r hr => e _ (by omega) (by omega))]
    exact h10
  · rw [e1] at hi
    rw [e (35 + i) (by omega) (by omega), e (41 + i) (by omega) (by omega), e0]
    obtain ⟨a1, a2, a3, a4, a5, a6⟩ := h11 i hi
    by_cases q : i = k
    · subst q
      exact ⟨a1, a2, a3, a4, h47, h53⟩
    · rw [e (47 + i) (by omega) (by omega), e (53 + i) (by omega) (by omega)]
      exact ⟨a1, a2, a3, a4, a5, a6⟩
theorem VX_pl {σ : Sto} {v k p : Nat} {u w : Nat → Nat} (hx : VX σ v u) (h0 : u 0 ≤ 10) (h1 : u 1 ≤ 6) (hk : k < u 1) (e : plE u w k) (hp : p ≤ 20 ∨ 30 ≤ p) (hp2 : p < 50) (ew : whN w k = p) (el : w (47 + k) = laN p (u (47 + k))) : ∃ σ', fX8_place σ v (nI k) (nI p) = some σ' ∧ VX σ' v w ∧ (∀ a, a ≠ v + 6 → a ≠ v + 7 → σ' a = σ a) := by
  obtain ⟨x1, x2, x3⟩ := hx
  obtain ⟨σ', p1, p2, p3, p4, p5⟩ := place_X (σ := σ) (v := v) (k := k) (p := p) (old := u (47 + k)) (by omega) hp2 (x3 k hk).2.2.2
  have e0 : w 0 = u 0 := e 0 (by omega) (by omega)
  have e1 : w 1 = u 1 := e 1 (by omega) (by omega)
  refine ⟨σ', p1, ⟨fun i hi => ?_, fun r hr => ?_, fun i hi => ?_⟩, p2⟩
  · rw [p2 v (by omega) (by omega), e i (by omega) (by omega)]
    exact x1 i hi
  · rw [e0] at hr
    rw [p2 (v + 1) (by omega) (by omega), p2 (v + 2) (by omega) (by omega), p2 (v + 3) (by omega) (by omega), e (5 + r) (by omega) (by omega), e (15 + r) (by omega) (by omega), e (25 + r) (by omega) (by omega)]
    exact x2 r hr
  · rw [e1] at hi
    rw [p2 (v + 4) (by omega) (by omega), p2 (v + 5) (by omega) (by omega), e (35 + i) (by omega) (by omega), e (41 + i) (by omega) (by omega)]
    by_cases q : i = k
    · subst q
      rw [p3, p4 hp, ew, el]
      exact ⟨(x3 i hi).1, (x3 i hi).2.1, rfl, rfl⟩
    · have ewi : whN w i = whN u i := by
        unfold whN
        rw [e (47 + i) (by omega) (by omega), e (53 + i) (by omega) (by omega)]
      rw [(p5 i q).1, (p5 i q).2, ewi, e (47 + i) (by omega) (by omega)]
      exact x3 i hi
