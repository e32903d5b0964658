theorem note_j {σ : Sto} {n : Nat} {u : Nat → Nat} (h8 : σ 0 8 = nI n) (hn : n < 24) (hu : ∀ j, j < 59 → σ 4 j = nI (u j)) : fX10_notes_j49 σ = some (up (SO σ 7 (59 * n) u 59) 0 8 (nI (n + 1))) := by
  unfold fX10_notes_j49
  rw [h8, n32_59, pk_mul, n32_0, copies_M (u := u) (fun j hj => by rw [Nat.zero_add]; exact hu j hj) (Or.inl (by decide)) (by decide) (show 59 * n + 59 ≤ 1416 by omega) (by decide) (by decide), bd_s]
  simp only [un]
  rw [SO_ne (by decide), h8, n32_1, nI_add]
theorem notes_lt {σm : Sto} {n : Nat} {u : Nat → Nat} (h8 : σm 0 8 = nI n) (hn : n < 24) (hu : ∀ j, j < 59 → σm 4 j = nI (u j)) : fX10_notes σm = some (up (SO σm 7 (59 * n) u 59) 0 8 (nI (n + 1))) := by
  unfold fX10_notes
  rw [h8, n32_24, if_neg (fun q => by have := (nI_eq (by omega) (by decide)).mp q; omega)]
  exact note_j h8 hn hu
theorem notes_24 {σm : Sto} {u : Nat → Nat} (h8 : σm 0 8 = nI 24) (hu : ∀ j, j < 59 → σm 4 j = nI (u j)) : ∃ ρ, fX10_notes σm = some (up (SO ρ 7 1357 u 59) 0 8 (nI 24)) ∧ (∀ k, k ≠ 0 → k ≠ 7 → ρ k = σm k) ∧ (∀ j, j ≠ 8 → ρ 0 j = σm 0 j) ∧ (∀ q, q < 1357 → ρ 7 q = σm 7 (q + 59)) := by
  obtain ⟨σ', r1, r2, r3, r4⟩ := shift_L (σ0 := σm) (fun σ_1 => un (up σ_1 0 8 ((σ_1 0 8) - (1 : Int32))) fun σ_2 => fX10_notes_j49 σ_2) 1357 0 fu σm (by omega) (fu_gt (by decide)) (fun _ _ => rfl) (fun q hq => absurd hq (Nat.not_lt_zero q)) (fun _ _ => rfl)
  refine ⟨up σ' 0 8 (nI 23), ?_, fun k h0 h7 => by rw [up_k h0, r2 k h7], fun j hj => by rw [up_j hj, r2 0 (by decide)], fun q hq => by rw [up_k (by decide)]; exact r3 q hq⟩
  unfold fX10_notes
  rw [h8, if_pos (show nI 24 = (24 : Int32) from rfl)]
  refine Eq.trans r1 ?_
  simp only [un]
  rw [r2 0 (by decide), h8, n32_1, pk_sub (by decide)]
  exact note_j (n := 23) up_i (by decide) (fun j hj => by rw [up_k (by decide), r2 4 (by decide)]; exact hu j hj)
