theorem note_j {σ : Sto} {n : Nat} {u : Nat → Nat} (h8 : σ 0 8 = nI n) (hn : n < 24) (hu : ∀ j, j < 59 → σ 4 j = nI (u j)) : fX10_notes_j49 σ = some (up (SO σ 7 (59 * n) u 59) 0 8 (nI (n + 1))) := by
  unfold fX10_notes_j49
  rw [h8, n32_59, pk_mul, n32_0, copies_M (u := u) (fun j hj => by rw [Nat.zero_add]; exact hu j hj) (Or.inl (by decide)) (by decide) (show 59 * n + 59 ≤ 1416 by omega) (by decide) (by decide), bd_s]
  simp only [un]
  rw [SO_ne (by decide), h8, n32_1, nI_add]
