/-! the past: keeping a street -/
theorem rg_V {i : Nat} (h : i < 24) : isV (rgV i) := ⟨2 + i, by omega, rfl⟩
theorem keep_X {σx : Sto} {n o : Nat} {u : Nat → Nat} (h0 : σx 7 0 = nI n) (h1 : σx 7 1 = nI o) (hn : n ≤ 24) (ho : o < 24) (hx : VX σx 36 u) (hu0 : u 0 ≤ 10) (hu1 : u 1 ≤ 6) : ∃ τ, fX3_keep σx 36 = some τ ∧ VX τ (rgV ((o + n) % 24)) u ∧ (∀ k, k ≠ 7 → (k < rgV ((o + n) % 24) ∨ rgV ((o + n) % 24) + 8 ≤ k) → τ k = σx k) ∧ τ 7 0 = nI (if n = 24 then 24 else n + 1) ∧ τ 7 1 = nI (if n = 24 then (o + 1) % 24 else o) := by
  have hm : (o + n) % 24 < 24 := Nat.mod_lt _ (by decide)
  have hb := rg_b hm
  obtain ⟨b1, b2⟩ := become_X (σ := σx) (v0 := rgV ((o + n) % 24)) (v1 := 36) (Or.inr (by omega)) hx hu0 hu1
  unfold fX3_keep
  rw [h0, h1, n32_24, nI_add, irm_n (by omega) (by decide) (by decide), vin_t hm (by decide), gd_t, nI_clamp (by omega)]
  simp only [un]
  rw [b2 7 (by omega), h0, h1, n32_1, nI_add, nI_add, irm_n (by omega) (by decide) (by decide)]
  by_cases c : n = 24
  · rw [if_pos (nI_le (by omega) (by omega))]
    refine ⟨_, rfl, VX_fr b1 (fun k z1 z2 => up_k (by omega)), fun k z7 z => by rw [up_k z7, b2 k z], ?_, ?_⟩
    · rw [up_j (by decide), b2 7 (by omega), h0, if_pos c, c]
    · rw [up_i, if_pos c]
  · rw [if_neg (nI_ge (by omega) (by omega))]
    refine ⟨_, rfl, VX_fr b1 (fun k z1 z2 => up_k (by omega)), fun k z7 z => by rw [up_k z7, b2 k z], ?_, ?_⟩
    · rw [up_i, if_neg c]
    · rw [up_j (by decide), b2 7 (by omega), h1, if_neg c]
theorem shift_L {σ0 : Sto} (kk : Sto → Option Sto) : ∀ (m j n : Nat) (σ : Sto), j + m = 1357 → m < n → (∀ k, k ≠ 7 → σ k = σ0 k) → (∀ q, q < j → σ 7 q = σ0 7 (q + 59)) → (∀ q, j ≤ q → σ 7 q = σ0 7 q) → ∃ σ', fX10_notes_L11 kk n σ (nI j) = kk σ' ∧ (∀ k, k ≠ 7 → σ' k = σ0 k) ∧ (∀ q, q < 1357 → σ' 7 q = σ0 7 (q + 59)) ∧ (∀ q, 1357 ≤ q → σ' 7 q = σ0 7 q) := by
  intro m
  induction m with
  | zero =>
    intro j n σ hj hn hf h1 h2
    obtain ⟨n, rfl⟩ : ∃ q, n = q + 1 := ⟨n - 1, by omega⟩
    exact ⟨σ, by rw [fX10_notes_L11, n32_1357, if_pos (nI_le (by omega) (by omega))], hf, fun q hq => h1 q (by omega), fun q hq => h2 q (by omega)⟩
  | succ m ih =>
    intro j n σ hj hn hf h1 h2
    obtain ⟨n, rfl⟩ : ∃ q, n = q + 1 := ⟨n - 1, by omega⟩
    obtain ⟨σ', r1, r2, r3, r4⟩ := ih (j + 1) n (up σ 7 j (σ 7 (j + 59))) (by omega) (by omega) (fun k hk => by rw [up_k hk, hf k hk]) (fun q hq => by
      by_cases e : q = j
      · subst e
        rw [up_i, h2 _ (by omega)]
      · rw [up_j e]
        exact h1 q (by omega)) (fun q hq => by rw [up_j (by omega), h2 q (by omega)])
    refine ⟨σ', ?_, r2, r3, r4⟩
    rw [fX10_notes_L11, n32_1357, if_neg (nI_ge (by omega) (by omega)), n32_59, nI_add, vin_t (by omega) (by decide), gd_t, vin_t (by omega) (by decide), gd_t, nI_clamp (by omega), nI_clamp (by omega)]
    simp only [un]
    rw [n32_1, nI_add]
    exact r1
