theorem nI_n0 {n : Nat} (h : n < 2 ^ 31) (c : n ≠ 0) : ¬ nI n = (0 : Int32) := by
  rw [n32_0]
  exact fun q => c ((nI_eq h (by decide)).mp q)
theorem goes_M {σ : Sto} {a k d : Nat} {u : Nat → Nat} (hk : k < 6) (hr : u (47 + k) < 100) (hd : d < 100) (h0 : u 0 < 100) : fX10_goes (SM σ a u) a (nI k) (nI d) = some (SM σ a (if u (47 + k) + d < u 0 then va_up u (47 + k) (u (47 + k) + d) else va_up u (53 + k) 1)) := by
  have v47 : vin (nI 47 + nI k) 59 = true := by rw [nI_add]; exact vin_t (by omega) (by decide)
  have v53 : vin (nI 53 + nI k) 59 = true := by rw [nI_add]; exact vin_t (by omega) (by decide)
  have e47 : (nI 47 + nI k).toNatClampNeg = 47 + k := by rw [nI_add, nI_clamp (by omega)]
  have e53 : (nI 53 + nI k).toNatClampNeg = 53 + k := by rw [nI_add, nI_clamp (by omega)]
  unfold fX10_goes
  simp only [un, n32_47, n32_53, n32_1, v47, v53, gd_t, e47, e53]
  rw [SM_at (show 47 + k < 59 by omega), SM_at (show 0 < 59 by decide), nI_add]
  by_cases c : u (47 + k) + d < u 0
  · rw [if_pos (nI_lt c (by omega)), if_pos c, SM_up (by omega)]
  · rw [if_neg (nI_nlt (by omega) (by omega)), if_neg c, SM_up (by omega)]
/-- all things below k have gone on; all below k are stone that are to be -/
def p1N (u : Nat → Nat) : Nat → (Nat → Nat)
  | 0 => u
  | k + 1 => if p1N u k (53 + k) = 0 then (if p1N u k (47 + k) + pcN (p1N u k (35 + k)) (p1N u k (47 + k)) (fun r => p1N u k (15 + r)) (p1N u k 4) < p1N u k 0 then va_up (p1N u k) (47 + k) (p1N u k (47 + k) + pcN (p1N u k (35 + k)) (p1N u k (47 + k)) (fun r => p1N u k (15 + r)) (p1N u k 4)) else va_up (p1N u k) (53 + k) 1) else p1N u k
def p2N (u : Nat → Nat) : Nat → (Nat → Nat)
  | 0 => u
  | k + 1 => if p2N u k (53 + k) = 0 ∧ p2N u k (41 + k) ≤ p2N u k (15 + p2N u k (47 + k)) then va_up (p2N u k) (53 + k) 2 else p2N u k
theorem p1_lo {u : Nat → Nat} {j : Nat} (h : j < 47 ∨ 59 ≤ j) : ∀ k, k ≤ 6 → p1N u k j = u j
  | 0, _ => rfl
  | k + 1, hk => by
    have ih := p1_lo (u := u) h k (by omega)
    rw [p1N]
    split
    · split
      · rw [vu_ne (by omega), ih]
      · rw [vu_ne (by omega), ih]
    · exact ih
theorem p1_un {u : Nat → Nat} {i : Nat} (hi : i < 6) : ∀ k, k ≤ i → p1N u k (47 + i) = u (47 + i) ∧ p1N u k (53 + i) = u (53 + i)
  | 0, _ => ⟨rfl, rfl⟩
  | k + 1, hk => by
    obtain ⟨a1, a2⟩ := p1_un (u := u) hi k (by omega)
    rw [p1N]
    split
    · split
      · rw [vu_ne (by omega), vu_ne (by omega)]
        exact ⟨a1, a2⟩
      · rw [vu_ne (by omega), vu_ne (by omega)]
        exact ⟨a1, a2⟩
    · exact ⟨a1, a2⟩
def tgN (u : Nat → Nat) (i : Nat) : Nat := u (47 + i) + pcN (u (35 + i)) (u (47 + i)) (fun r => u (15 + r)) (u 4)
theorem p1_at {u : Nat → Nat} {i : Nat} (hi : i < 6) (h47 : u (47 + i) < 10) : ∀ k, i < k → k ≤ 6 → p1N u k (47 + i) = (if u (53 + i) = 0 ∧ tgN u i < u 0 then tgN u i else u (47 + i)) ∧ p1N u k (53 + i) = (if u (53 + i) = 0 ∧ u 0 ≤ tgN u i then 1 else u (53 + i))
  | 0, h, _ => by omega
  | k + 1, h, hk => by
    by_cases e : i = k
    · subst e
      obtain ⟨a1, a2⟩ := p1_un (u := u) hi i (Nat.le_refl _)
      have c0 := p1_lo (u := u) (j := 0) (by omega) i (by omega)
      have c4 := p1_lo (u := u) (j := 4) (by omega) i (by omega)
      have c35 := p1_lo (u := u) (j := 35 + i) (by omega) i (by omega)
      have hpc : pcN (u (35 + i)) (u (47 + i)) (fun r => p1N u i (15 + r)) (u 4) = pcN (u (35 + i)) (u (47 + i)) (fun r => u (15 + r)) (u 4) := by
        have h1 := h47
        have q0 : p1N u i (15 + u (47 + i)) = u (15 + u (47 + i)) := p1_lo (by omega) i (by omega)
        have q1 : p1N u i (15 + (u (47 + i) - 1)) = u (15 + (u (47 + i) - 1)) := p1_lo (by omega) i (by omega)
        have q2 : p1N u i (15 + (u (47 + i) - 2)) = u (15 + (u (47 + i) - 2)) := p1_lo (by omega) i (by omega)
        unfold pcN
        simp only [q0, q1, q2]
      rw [p1N, a1, a2, c0, c4, c35, hpc]
      show (if u (53 + i) = 0 then (if tgN u i < u 0 then va_up (p1N u i) (47 + i) (tgN u i) else va_up (p1N u i) (53 + i) 1) else p1N u i) (47 + i) = _ ∧ (if u (53 + i) = 0 then (if tgN u i < u 0 then va_up (p1N u i) (47 + i) (tgN u i) else va_up (p1N u i) (53 + i) 1) else p1N u i) (53 + i) = _
      by_cases d1 : u (53 + i) = 0
      · rw [if_pos d1]
        by_cases d2 : tgN u i < u 0
        · rw [if_pos d2, vu_self, vu_ne (by omega), a2, if_pos ⟨d1, d2⟩, if_neg (fun q => by omega)]
          exact ⟨rfl, rfl⟩
        · rw [if_neg d2, vu_self, vu_ne (by omega), a1, if_neg (fun q => d2 q.2), if_pos ⟨d1, by omega⟩]
          exact ⟨rfl, rfl⟩
      · rw [if_neg d1, a1, a2, if_neg (fun q => d1 q.1), if_neg (fun q => d1 q.1)]
        exact ⟨rfl, rfl⟩
    · obtain ⟨a1, a2⟩ := p1_at hi h47 k (by omega) (by omega)
      rw [← a1, ← a2, p1N]
      split
      · split
        · rw [vu_ne (by omega), vu_ne (by omega)]
          exact ⟨rfl, rfl⟩
        · rw [vu_ne (by omega), vu_ne (by omega)]
          exact ⟨rfl, rfl⟩
      · exact ⟨rfl, rfl⟩
theorem p2_lo {u : Nat → Nat} {j : Nat} (h : j < 53 ∨ 59 ≤ j) : ∀ k, k ≤ 6 → p2N u k j = u j
  | 0, _ => rfl
  | k + 1, hk => by
    have ih := p2_lo (u := u) h k (by omega)
    rw [p2N]
    split
    · rw [vu_ne (by omega), ih]
    · exact ih
theorem p2_un {u : Nat → Nat} {i : Nat} (hi : i < 6) : ∀ k, k ≤ i → p2N u k (53 + i) = u (53 + i)
  | 0, _ => rfl
  | k + 1, hk => by
    have ih := p2_un (u := u) hi k (by omega)
    rw [p2N]
    split
    · rw [vu_ne (by omega), ih]
    · exact ih
theorem p2_at {u : Nat → Nat} {i : Nat} (hi : i < 6) (h47 : u (47 + i) < 10) : ∀ k, i < k → k ≤ 6 → p2N u k (53 + i) = (if u (53 + i) = 0 ∧ u (41 + i) ≤ u (15 + u (47 + i)) then 2 else u (53 + i))
  | 0, h, _ => by omega
  | k + 1, h, hk => by
    by_cases e : i = k
    · subst e
      have h1 := h47
      have a2 := p2_un (u := u) hi i (Nat.le_refl _)
      have c41 := p2_lo (u := u) (j := 41 + i) (by omega) i (by omega)
      have c47 := p2_lo (u := u) (j := 47 + i) (by omega) i (by omega)
      have c15 := p2_lo (u := u) (j := 15 + u (47 + i)) (by omega) i (by omega)
      rw [p2N, a2, c41, c47, c15]
      split
      · rw [vu_self]
      · exact a2
    · have a := p2_at hi h47 k (by omega) (by omega)
      rw [← a, p2N]
      split
      · rw [vu_ne (by omega)]
      · rfl
theorem pass1_M {σ : Sto} {a : Nat} {u : Nat → Nat} (kk : Sto → Option Sto) (h1 : u 1 ≤ 6) (h0 : u 0 ≤ 10) (h47 : ∀ k, k < u 1 → u (47 + k) < 10) (h35 : ∀ k, k < u 1 → 1 ≤ u (35 + k) ∧ u (35 + k) ≤ 5) (h53 : ∀ k, k < u 1 → u (53 + k) < 2 ^ 30) (h4 : u 4 < 2 ^ 30) (hb : ∀ q, q < 10 → u (15 + q) < 2 ^ 30) :
    ∀ (m k n : Nat), k + m = u 1 → m < n → fX10_passes_L6 kk a n (SM σ a (p1N u k)) (nI k) = kk (SM σ a (p1N u (u 1))) := by
  intro m
  induction m with
  | zero =>
    intro k n hk hn
    obtain ⟨n, rfl⟩ : ∃ q, n = q + 1 := ⟨n - 1, by omega⟩
    rw [fX10_passes_L6, SM_at (by decide), p1_lo (by omega) k (by omega), if_pos (nI_le (by omega) (by omega)), show k = u 1 by omega]
  | succ m ih =>
    intro k n hk hn
    obtain ⟨n, rfl⟩ : ∃ q, n = q + 1 := ⟨n - 1, by omega⟩
    have hk6 : k < 6 := by omega
    have ih' := ih (k + 1) n (by omega) (by omega)
    obtain ⟨a1, a2⟩ := p1_un (u := u) hk6 k (Nat.le_refl _)
    have q47 := h47 k (by omega)
    have q53 := h53 k (by omega)
    have c35 := p1_lo (u := u) (j := 35 + k) (by omega) k (by omega)
    rw [fX10_passes_L6, SM_at (by decide), p1_lo (by omega) k (by omega), if_neg (nI_ge (by omega) (by omega)), n32_53, nI_add, vin_t (by omega) (by decide), gd_t, nI_clamp (by omega), SM_at (by omega), a2]
    by_cases c : u (53 + k) = 0
    · rw [if_pos (by rw [c]; rfl), steps_M hk6 (by rw [a1]; exact q47) (by rw [c35]; exact h35 k (by omega)) (by rw [p1_lo (by omega) k (by omega)]; exact h4) (fun q hq => by rw [p1_lo (by omega) k (by omega)]; exact hb q hq), bd_s, goes_M hk6 (by rw [a1]; omega) (by have := pc_le (p1N u k (35 + k)) (p1N u k (47 + k)) (fun r => p1N u k (15 + r)) (p1N u k 4); omega) (by rw [p1_lo (by omega) k (by omega)]; omega), bd_s]
      simp only [un]
      rw [n32_1, nI_add]
      have e : p1N u (k + 1) = (if p1N u k (47 + k) + pcN (p1N u k (35 + k)) (p1N u k (47 + k)) (fun r => p1N u k (15 + r)) (p1N u k 4) < p1N u k 0 then va_up (p1N u k) (47 + k) (p1N u k (47 + k) + pcN (p1N u k (35 + k)) (p1N u k (47 + k)) (fun r => p1N u k (15 + r)) (p1N u k 4)) else va_up (p1N u k) (53 + k) 1) := by
        rw [p1N, if_pos (by rw [a2]; exact c)]
      rw [← e]
      exact ih'
    · rw [if_neg (nI_n0 (by omega) c)]
      simp only [un]
      rw [n32_1, nI_add]
      have e : p1N u (k + 1) = p1N u k := by
        rw [p1N, if_neg (by rw [a2]; exact c)]
      rw [← e]
      exact ih'
theorem pass2_M {σ : Sto} {a : Nat} {u : Nat → Nat} (h1 : u 1 ≤ 6) (h47 : ∀ k, k < u 1 → u (47 + k) < 10) (h41 : ∀ k, k < u 1 → u (41 + k) < 2 ^ 30) (h53 : ∀ k, k < u 1 → u (53 + k) < 2 ^ 30) (h4 : u 4 < 2 ^ 30) (hb : ∀ q, q < 10 → u (15 + q) < 2 ^ 30) :
    ∀ (m k n : Nat), k + m = u 1 → m < n → fX10_passes_L40 a n (SM σ a (p2N u k)) (nI k) = some (SM σ a (va_up (p2N u (u 1)) 4 (u 4 + 1))) := by
  intro m
  induction m with
  | zero =>
    intro k n hk hn
    obtain ⟨n, rfl⟩ : ∃ q, n = q + 1 := ⟨n - 1, by omega⟩
    rw [fX10_passes_L40, SM_at (by decide), p2_lo (by omega) k (by omega), if_pos (nI_le (by omega) (by omega)), show k = u 1 by omega]
    simp only [un]
    rw [SM_at (by decide), p2_lo (by omega) (u 1) (by omega), n32_1, nI_add, SM_up (by decide)]
  | succ m ih =>
    intro k n hk hn
    obtain ⟨n, rfl⟩ : ∃ q, n = q + 1 := ⟨n - 1, by omega⟩
    have hk6 : k < 6 := by omega
    have ih' := ih (k + 1) n (by omega) (by omega)
    have a2 := p2_un (u := u) hk6 k (Nat.le_refl _)
    have q47 := h47 k (by omega)
    have q53 := h53 k (by omega)
    have q41 := h41 k (by omega)
    have c47 := p2_lo (u := u) (j := 47 + k) (by omega) k (by omega)
    have c41 := p2_lo (u := u) (j := 41 + k) (by omega) k (by omega)
    have c15 := p2_lo (u := u) (j := 15 + u (47 + k)) (by omega) k (by omega)
    have qb := hb (u (47 + k)) q47
    rw [fX10_passes_L40, SM_at (by decide), p2_lo (by omega) k (by omega), if_neg (nI_ge (by omega) (by omega)), n32_53, nI_add, vin_t (by omega) (by decide), gd_t, nI_clamp (by omega), SM_at (by omega), a2]
    by_cases c : u (53 + k) = 0
    · rw [if_pos (by rw [c]; rfl), n32_47, nI_add, vin_t (by omega) (by decide), gd_t, nI_clamp (by omega), SM_at (by omega), c47, n32_15, nI_add, vin_t (by omega) (by decide), gd_t, n32_41, nI_add, vin_t (by omega) (by decide), gd_t, nI_clamp (by omega), SM_at (by omega), nI_clamp (by omega), SM_at (by omega), c15, c41]
      simp only [un]
      by_cases d : u (41 + k) ≤ u (15 + u (47 + k))
      · rw [if_neg (nI_nlt d (by omega)), n32_2, n32_1, nI_add, SM_up (by omega)]
        have e : p2N u (k + 1) = va_up (p2N u k) (53 + k) 2 := by
          rw [p2N, a2, c41, c47, c15, if_pos ⟨c, d⟩]
        rw [← e]
        exact ih'
      · rw [if_pos (nI_lt (by omega) (by omega)), n32_1, nI_add]
        have e : p2N u (k + 1) = p2N u k := by
          rw [p2N, a2, c41, c47, c15, if_neg (fun q => d q.2)]
        rw [← e]
        exact ih'
    · rw [if_neg (nI_n0 (by omega) c)]
      simp only [un]
      rw [n32_1, nI_add]
      have e : p2N u (k + 1) = p2N u k := by
        rw [p2N, a2, if_neg (fun q => c q.1)]
      rw [← e]
      exact ih'
