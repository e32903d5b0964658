/-! the reference's row of 59 numbers, in natural numbers -/
def SM (σ : Sto) (a : Nat) (u : Nat → Nat) : Sto := fun k j => if k = a ∧ j < 59 then nI (u j) else σ k j
theorem SM_at {σ : Sto} {a : Nat} {u : Nat → Nat} {j : Nat} (h : j < 59) : SM σ a u a j = nI (u j) := if_pos ⟨rfl, h⟩
theorem SM_ne {σ : Sto} {a k : Nat} {u : Nat → Nat} (h : k ≠ a) : SM σ a u k = σ k := by
  funext j
  exact if_neg (fun q => h q.1)
theorem SM_up {σ : Sto} {a : Nat} {u : Nat → Nat} {j x : Nat} (h : j < 59) : up (SM σ a u) a j (nI x) = SM σ a (va_up u j x) := by
  funext k i
  simp only [up, SM, va_up]
  by_cases hk : k = a
  · subst hk
    by_cases hi : i = j
    · subst hi
      simp [h]
    · simp [hi]
  · simp [hk]
theorem SM_SM {σ : Sto} {a : Nat} {u w : Nat → Nat} : SM (SM σ a u) a w = SM σ a w := by
  funext k i
  simp only [SM]
  by_cases h : k = a ∧ i < 59
  · rw [if_pos h, if_pos h]
  · rw [if_neg h, if_neg h, if_neg h]
theorem SM_id {σ : Sto} {a : Nat} {u : Nat → Nat} (h : ∀ j, j < 59 → σ a j = nI (u j)) : SM σ a u = σ := by
  funext k i
  simp only [SM]
  by_cases hk : k = a ∧ i < 59
  · rw [if_pos hk, hk.1, h i hk.2]
  · rw [if_neg hk]
theorem SM_congr {σ : Sto} {a : Nat} {u w : Nat → Nat} (h : ∀ j, j < 59 → u j = w j) : SM σ a u = SM σ a w := by
  funext k i
  simp only [SM]
  by_cases hk : k = a ∧ i < 59
  · rw [if_pos hk, if_pos hk, h i hk.2]
  · rw [if_neg hk, if_neg hk]
theorem lies_M {σ : Sto} {a r k : Nat} {u : Nat → Nat} (hr : r < 10) (hk : k ≤ 2) (hb : ∀ q, q < 10 → u (15 + q) < 2 ^ 30) : fX10_lies (SM σ a u) a (nI r - nI k) = some (nI (if k ≤ r ∧ 0 < u (15 + (r - k)) then 1 else 0)) := by
  unfold fX10_lies
  by_cases h : k ≤ r
  · have e : nI r - nI k = nI (r - k) := pk_sub h
    have hb1 := hb (r - k) (by omega)
    rw [e, if_neg (nI_pos (by omega)), n32_15, nI_add, vin_t (by omega) (by decide), gd_t, nI_clamp (by omega), SM_at (by omega)]
    by_cases h2 : 0 < u (15 + (r - k))
    · rw [if_neg (nI_nle h2 (by omega)), if_pos ⟨h, h2⟩]
      rfl
    · rw [if_pos (by rw [show u (15 + (r - k)) = 0 by omega]; decide), if_neg (fun q => h2 q.2)]
      rfl
  · rw [if_pos (pk_sneg (by omega) (by omega)), if_neg (fun q => h q.1)]
    rfl
theorem nI_sub0 (r : Nat) : nI r - nI 0 = nI r := pk_sub (Nat.zero_le r)
theorem steps_M {σ : Sto} {a k : Nat} {u : Nat → Nat} (hk : k < 6) (hr : u (47 + k) < 10) (hs : 1 ≤ u (35 + k) ∧ u (35 + k) ≤ 5) (hd : u 4 < 2 ^ 30) (hb : ∀ q, q < 10 → u (15 + q) < 2 ^ 30) : fX10_stepsOf (SM σ a u) a (nI k) = some (nI (pcN (u (35 + k)) (u (47 + k)) (fun r => u (15 + r)) (u 4))) := by
  have l0 := lies_M (σ := σ) (a := a) (u := u) hr (show 0 ≤ 2 by decide) hb
  have l1 := lies_M (σ := σ) (a := a) (u := u) hr (show 1 ≤ 2 by decide) hb
  have l2 := lies_M (σ := σ) (a := a) (u := u) hr (show 2 ≤ 2 by decide) hb
  rw [nI_sub0] at l0
  have e35 : SM σ a u a (nI 35 + nI k).toNatClampNeg = nI (u (35 + k)) := by rw [nI_add, nI_clamp (by omega), SM_at (by omega)]
  have e47 : SM σ a u a (nI 47 + nI k).toNatClampNeg = nI (u (47 + k)) := by rw [nI_add, nI_clamp (by omega), SM_at (by omega)]
  have v35 : vin (nI 35 + nI k) 59 = true := by rw [nI_add]; exact vin_t (by omega) (by decide)
  have v47 : vin (nI 47 + nI k) 59 = true := by rw [nI_add]; exact vin_t (by omega) (by decide)
  have e4 : irm (SM σ a u a 4) (nI 2) = nI (u 4 % 2) := by rw [SM_at (by decide), irm_n (by omega) (by decide) (by decide)]
  have m2 : nI (u 4 % 2) = nI 0 ↔ u 4 % 2 = 0 := nI_eq (by omega) (by decide)
  unfold fX10_stepsOf fX10_stepsOf_j27 fX10_stepsOf_j32 fX10_stepsOf_j49 fX10_stepsOf_j54
  simp only [un, n32_0, n32_1, n32_2, n32_3, n32_4, n32_35, n32_47, v35, v47, gd_t, e35, e47, l0, l1, l2, bd_s, e4, m2]
  have z01 : (nI 0 = nI 1) = False := by decide
  unfold pcN
  by_cases p0 : 0 < u (15 + u (47 + k))
  all_goals by_cases p1 : 1 ≤ u (47 + k) ∧ 0 < u (15 + (u (47 + k) - 1))
  all_goals by_cases p2 : 2 ≤ u (47 + k) ∧ 0 < u (15 + (u (47 + k) - 2))
  all_goals rcases (show u (35 + k) = 1 ∨ u (35 + k) = 2 ∨ u (35 + k) = 3 ∨ u (35 + k) = 4 ∨ u (35 + k) = 5 by omega) with h | h | h | h | h
  all_goals simp +decide [p0, p1, p2, h]
  all_goals (try (split <;> rfl))
