theorem make_L {σ0 : Sto} {i : Nat} (hi : i < 8) : ∀ (m j n : Nat) (σ : Sto), j + m = 40 → m < n → (∀ k, k ≠ itV i → σ k = σ0 k) → (∀ q, q < j → σ (itV i) q = 0) → ∃ σ', fX4_make_L17 n σ (nI i) (nI j) = some σ' ∧ (∀ k, k ≠ itV i → σ' k = σ0 k) ∧ (∀ q, q < 40 → σ' (itV i) q = 0) := by
  intro m
  induction m with
  | zero =>
    intro j n σ hj hn hf hz
    obtain ⟨n, rfl⟩ : ∃ q, n = q + 1 := ⟨n - 1, by omega⟩
    exact ⟨σ, by rw [fX4_make_L17, n32_40, if_pos (nI_le (by omega) (by omega))], hf, fun q hq => hz q (by omega)⟩
  | succ m ih =>
    intro j n σ hj hn hf hz
    obtain ⟨n, rfl⟩ : ∃ q, n = q + 1 := ⟨n - 1, by omega⟩
    obtain ⟨σ', r1, r2, r3⟩ := ih (j + 1) n (up σ (itV i) j 0) (by omega) (by omega) (fun k hk => by rw [up_k hk, hf k hk]) (fun q hq => by
      by_cases e : q = j
      · subst e
        rw [up_i]
      · rw [up_j e]
        exact hz q (by omega))
    refine ⟨σ', ?_, r2, r3⟩
    rw [fX4_make_L17, n32_40, if_neg (nI_ge (by omega) (by omega)), vin_t hi (by decide), gd_t, vin_t (by omega) (by decide), gd_t, nI_clamp (by omega), nI_clamp (by omega)]
    simp only [un]
    rw [n32_1, nI_add]
    exact r1
theorem row_LM {σ0 : Sto} {i s : Nat} (hi : i < 8) : ∀ (m j n : Nat) (σ : Sto), j + m = 40 → m < n → (∀ k, k ≠ 3 → σ k = σ0 k) → (∀ q, q < 320 → (q < 40 * i ∨ 40 * i + 40 ≤ q) → σ 3 q = σ0 3 q) → (∀ q, q < j → σ 3 (40 * i + q) = 0) → ∃ σ', fX10_row_L55 n σ (nI i) (nI s) (nI j) = some (up σ' 0 3 0, nI s) ∧ (∀ k, k ≠ 3 → σ' k = σ0 k) ∧ (∀ q, q < 320 → (q < 40 * i ∨ 40 * i + 40 ≤ q) → σ' 3 q = σ0 3 q) ∧ (∀ q, q < 40 → σ' 3 (40 * i + q) = 0) := by
  intro m
  induction m with
  | zero =>
    intro j n σ hj hn hf hg hz
    obtain ⟨n, rfl⟩ : ∃ q, n = q + 1 := ⟨n - 1, by omega⟩
    exact ⟨σ, by rw [fX10_row_L55, n32_40, if_pos (nI_le (by omega) (by omega))]; rfl, hf, hg, fun q hq => hz q (by omega)⟩
  | succ m ih =>
    intro j n σ hj hn hf hg hz
    obtain ⟨n, rfl⟩ : ∃ q, n = q + 1 := ⟨n - 1, by omega⟩
    obtain ⟨σ', r1, r2, r3, r4⟩ := ih (j + 1) n (up σ 3 (40 * i + j) 0) (by omega) (by omega) (fun k hk => by rw [up_k hk, hf k hk]) (fun q hq hq2 => by rw [up_j (by omega), hg q hq hq2]) (fun q hq => by
      by_cases e : q = j
      · subst e
        rw [up_i]
      · rw [up_j (by omega)]
        exact hz q (by omega))
    refine ⟨σ', ?_, r2, r3, r4⟩
    rw [fX10_row_L55, n32_40, if_neg (nI_ge (by omega) (by omega)), pk_mul, nI_add, vin_t (by omega) (by decide), gd_t, nI_clamp (by omega)]
    simp only [un]
    rw [n32_1, nI_add]
    exact r1
theorem op_row {σx σm : Sto} (h : Inv σx σm) (a1 : Int32) (a2 : Int32) (a3 : Int32) : ∃ qx qm, fX9_row σx a1 a2 a3 = some qx ∧ fX10_row σm a1 a2 a3 = some qm ∧ qx.2 = qm.2 ∧ Inv qx.1 qm.1 := by
  unfold fX9_row fX10_row
  rcases g_row a1 with ⟨i1, e1, e2⟩ | ⟨_, e1, e2⟩
  · rw [e1, e2, if_neg one_n0, if_neg one_n0]
    rcases g_in (x := a2) (a := 0) (b := 2) (ax := 0) (bx := 2) (A := 0) (B := 2) rfl rfl rfl rfl (by decide) (by decide) with ⟨i2, e1, e2⟩ | ⟨_, e1, e2⟩
    · rw [e1, e2, if_neg one_n0, if_neg one_n0]
      by_cases c40 : a3 ≤ (40 : Int32)
      · rw [if_pos c40, if_pos c40]
        by_cases c0 : (0 : Int32) ≤ a3
        · rw [if_pos c0, if_pos c0]
          obtain ⟨i, _, hi, rfl⟩ := inR_of i1
          obtain ⟨l, _, hl, rfl⟩ := inR_of i2
          obtain ⟨s, _, hs, rfl⟩ := inR_of (x := a3) (a := 0) (b := 41) ⟨by rw [n32_0, le_nI (by decide)] at c0; exact c0, by rw [n32_40, nI_le' (by decide)] at c40; omega⟩
          obtain ⟨τ, t1, t2, t3⟩ := make_L (σ0 := up (up σx 3 i (nI l)) 4 i (nI s)) hi 40 0 fu _ (by omega) (fu_gt (by decide)) (fun _ _ => rfl) (fun q hq => absurd hq (Nat.not_lt_zero q))
          obtain ⟨ρ, r1, r2, r3, r4⟩ := row_LM (σ0 := up (up σm 1 i (nI l)) 2 i (nI s)) (s := s) hi 40 0 fu _ (by omega) (fu_gt (by decide)) (fun _ _ => rfl) (fun _ _ _ => rfl) (fun q hq => absurd hq (Nat.not_lt_zero q))
          have X1 : fX4_make σx (nI i) (nI l) (nI s) = some τ := by
            unfold fX4_make
            rw [vin_t hi (by decide), gd_t, nI_clamp (by omega)]
            exact t1
          rw [X1, bd_s, vin_t hi (by decide), gd_t, nI_clamp (by omega)]
          refine mk2 (τx := up τ 0 9 0) (τm := up ρ 0 3 0) rfl r1 rfl (inv_rows h (fun k z0 z3 z4 z => ?_) (fun k z0 z1 z2 z3 => ?_) (fun j hj => ?_) ?_ (fun q hq => ⟨?_, fun j hj => ?_⟩))
          · rw [up_k z0, t2 k (by unfold itV; omega), up_k z4, up_k z3]
          · rw [up_k z0, r2 k z3, up_k z2, up_k z1]
          · rw [up_j hj, r2 0 (by decide), up_k (by decide), up_k (by decide)]
          · unfold iSt
            rw [up_i, up_i]
          · unfold iRow
            rw [up_k (show (3 : Nat) ≠ 0 by decide), up_k (show (2 : Nat) ≠ 0 by decide), up_k (show (1 : Nat) ≠ 0 by decide), up_k (show (4 : Nat) ≠ 0 by decide), t2 3 (by unfold itV; omega), t2 4 (by unfold itV; omega), r2 1 (by decide), r2 2 (by decide), up_k (show (3 : Nat) ≠ 4 by decide), up_k (show (1 : Nat) ≠ 2 by decide)]
            by_cases e : q = i
            · subst e
              rw [up_i, up_i, up_i, up_i]
              exact Or.inr ⟨l, s, by omega, by omega, rfl, rfl, rfl, rfl⟩
            · rw [up_j e, up_j e, up_j e, up_j e, up_k (by decide), up_k (by decide)]
              exact (h.2.2.2.1 q hq).1
          · rw [up_k (show itV q ≠ 0 by unfold itV; omega), up_k (show (3 : Nat) ≠ 0 by decide)]
            by_cases e : q = i
            · subst e
              rw [t3 j hj, r4 j hj]
            · rw [t2 (itV q) (by unfold itV; omega), r3 _ (by omega) (by omega), up_k (by unfold itV; omega), up_k (by unfold itV; omega), up_k (by decide), up_k (by decide)]
              exact (h.2.2.2.1 q hq).2 j hj
        · rw [if_neg c0, if_neg c0]
          exact op_found h 4
      · rw [if_neg c40, if_neg c40]
        exact ⟨_, _, rfl, rfl, rfl, h⟩
    · rw [e1, e2, if_pos rfl, if_pos rfl]
      exact ⟨_, _, rfl, rfl, rfl, h⟩
  · rw [e1, e2, if_pos rfl, if_pos rfl]
    exact ⟨_, _, rfl, rfl, rfl, h⟩
