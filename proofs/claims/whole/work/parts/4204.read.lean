/-! the reference's readers and copies -/
def SO (σ : Sto) (a o : Nat) (u : Nat → Nat) : Nat → Sto := fun n k j => if k = a ∧ o ≤ j ∧ j < o + n then nI (u (j - o)) else σ k j
theorem SO_at {σ : Sto} {a o n i : Nat} {u : Nat → Nat} (h : i < n) : SO σ a o u n a (o + i) = nI (u i) := by
  unfold SO
  rw [if_pos ⟨rfl, by omega, by omega⟩, Nat.add_sub_cancel_left]
theorem SO_ne {σ : Sto} {a o n k : Nat} {u : Nat → Nat} (h : k ≠ a) : SO σ a o u n k = σ k := by
  funext j
  exact if_neg (fun q => h q.1)
theorem SO_out {σ : Sto} {a o n j : Nat} {u : Nat → Nat} (h : j < o ∨ o + n ≤ j) : SO σ a o u n a j = σ a j := if_neg (fun q => by omega)
theorem SO_SM {σ : Sto} {a : Nat} {u : Nat → Nat} : SO σ a 0 u 59 = SM σ a u := by
  funext k j
  unfold SO SM
  by_cases h : k = a ∧ j < 59
  · rw [if_pos h, if_pos ⟨h.1, by omega, by omega⟩]
    rfl
  · rw [if_neg h, if_neg (fun q => h ⟨q.1, by omega⟩)]
theorem up_i {σ : Sto} {k i : Nat} {x : Int32} : up σ k i x k i = x := by
  simp only [up, if_pos]
theorem up_j {σ : Sto} {k i j : Nat} {x : Int32} (h : j ≠ i) : up σ k i x k j = σ k j := by
  simp only [up, if_pos, if_neg h]
theorem up_k {σ : Sto} {k i a : Nat} {x : Int32} (h : a ≠ k) : up σ k i x a = σ a := by
  funext j
  simp only [up, if_neg h]
theorem SO_succ {σ : Sto} {a o n : Nat} {u : Nat → Nat} : up (SO σ a o u n) a (o + n) (nI (u n)) = SO σ a o u (n + 1) := by
  funext k j
  by_cases hk : k = a
  · subst hk
    by_cases hj : j = o + n
    · subst hj
      rw [up_i, SO_at (by omega)]
    · rw [up_j hj]
      unfold SO
      by_cases h2 : o ≤ j ∧ j < o + n
      · rw [if_pos ⟨rfl, h2.1, h2.2⟩, if_pos ⟨rfl, h2.1, by omega⟩]
      · rw [if_neg (fun q => h2 q.2), if_neg (fun q => by omega)]
  · rw [up_k hk, SO_ne hk, SO_ne hk]
theorem SO_0 {σ : Sto} {a o : Nat} {u : Nat → Nat} : SO σ a o u 0 = σ := by
  funext k j
  exact if_neg (fun q => by omega)
theorem copies_L {σ : Sto} {a0 x1 a2 x3 : Nat} {u : Nat → Nat} (hu : ∀ j, j < 59 → σ a0 (x1 + j) = nI (u j)) (hd : a0 ≠ a2 ∨ x1 + 59 ≤ x3 ∨ x3 + 59 ≤ x1) (h1 : x1 + 59 ≤ aLM a0) (h3 : x3 + 59 ≤ aLM a2) (b0 : aLM a0 < 2 ^ 31) (b2 : aLM a2 < 2 ^ 31) :
    ∀ (m i n : Nat), i + m = 59 → m < n → fX10_copies_L3 a0 a2 n (SO σ a2 x3 u i) (nI x1) (nI x3) (nI i) = some (SO σ a2 x3 u 59) := by
  intro m
  induction m with
  | zero =>
    intro i n hi hn
    obtain ⟨n, rfl⟩ : ∃ q, n = q + 1 := ⟨n - 1, by omega⟩
    rw [fX10_copies_L3, n32_59, if_pos (nI_le (by omega) (by omega)), show i = 59 by omega]
  | succ m ih =>
    intro i n hi hn
    obtain ⟨n, rfl⟩ : ∃ q, n = q + 1 := ⟨n - 1, by omega⟩
    have e : SO σ a2 x3 u i a0 (x1 + i) = nI (u i) := by
      by_cases ha : a0 = a2
      · subst ha
        rw [SO_out (by omega), hu i (by omega)]
      · rw [SO_ne ha, hu i (by omega)]
    rw [fX10_copies_L3, n32_59, if_neg (nI_ge (by omega) (by omega)), nI_add, nI_add, vin_t (by omega) b0, gd_t, vin_t (by omega) b2, gd_t, nI_clamp (by omega), nI_clamp (by omega), e]
    simp only [un]
    rw [SO_succ, n32_1, nI_add]
    exact ih (i + 1) n (by omega) (by omega)
theorem copies_M {σ : Sto} {a0 x1 a2 x3 : Nat} {u : Nat → Nat} (hu : ∀ j, j < 59 → σ a0 (x1 + j) = nI (u j)) (hd : a0 ≠ a2 ∨ x1 + 59 ≤ x3 ∨ x3 + 59 ≤ x1) (h1 : x1 + 59 ≤ aLM a0) (h3 : x3 + 59 ≤ aLM a2) (b0 : aLM a0 < 2 ^ 31) (b2 : aLM a2 < 2 ^ 31) : fX10_copies σ a0 (nI x1) a2 (nI x3) = some (SO σ a2 x3 u 59) := by
  unfold fX10_copies
  rw [n32_0]
  have := copies_L hu hd h1 h3 b0 b2 59 0 fu (by omega) (fu_gt (by omega))
  rw [SO_0] at this
  exact this
theorem laysAside_M {σ : Sto} {u : Nat → Nat} (hu : ∀ j, j < 59 → σ 4 j = nI (u j)) (h : okV u) {d : Nat} (hd : u 4 + d ≤ 2000) : fX10_laysAside σ (nI d) = some (SM σ 6 (dysN d u)) := by
  unfold fX10_laysAside
  rw [n32_0, copies_M (u := u) (fun j hj => by rw [Nat.zero_add]; exact hu j hj) (by decide) (by decide) (by decide) (by decide) (by decide), bd_s, SO_SM, goes_by h hd, bd_s]
theorem aside_0 {σ : Sto} {u : Nat → Nat} (hu : ∀ j, j < 59 → σ 4 j = nI (u j)) (h : okV u) : fX10_laysAside σ (0 : Int32) = some (SM σ 6 u) := laysAside_M hu h (d := 0) (by have := h.2.2.2.2.2.2.1; omega)
theorem whereOf_M {σ : Sto} {a k : Nat} {u : Nat → Nat} (hu : ∀ j, j < 59 → σ a j = nI (u j)) (hk : k < 6) (hs : u (53 + k) ≤ 2) : fX10_whereOf σ a (nI k) = some (nI (whN u k)) := by
  unfold fX10_whereOf whN
  rw [n32_53, n32_47, n32_30, n32_1, n32_2, n32_20]
  simp only [nI_add]
  rw [vin_t (by omega) (by decide), vin_t (by omega) (by decide), gd_t, gd_t, gd_t, nI_clamp (by omega), nI_clamp (by omega), hu _ (by omega), hu _ (by omega), nI_add]
  by_cases e1 : u (53 + k) = 1
  · rw [e1, if_pos rfl, if_pos rfl]
  · rw [if_neg (fun q => e1 ((nI_eq (by omega) (by decide)).mp q)), if_neg e1]
    by_cases e2 : u (53 + k) = 2
    · rw [e2, if_pos rfl, if_pos rfl]
    · rw [if_neg (fun q => e2 ((nI_eq (by omega) (by decide)).mp q)), if_neg e2]
theorem or0 (a : Nat) : nI a ||| (0 : Int32) = nI a := by rw [n32_0, or_n, Nat.or_zero]
theorem those_L {σ : Sto} {a s : Nat} {u : Nat → Nat} (hu : ∀ j, j < 59 → σ a j = nI (u j)) (h1 : u 1 ≤ 6) (h53 : ∀ k, k < u 1 → u (53 + k) ≤ 2) (hs : s ≤ 2) :
    ∀ (m k n : Nat), k + m = u 1 → m < n → fX10_those_L4 a σ n (nI s) (nI (btN (fun k => u (53 + k) == s) k)) (nI k) = some (nI (btN (fun k => u (53 + k) == s) (u 1))) := by
  intro m
  induction m with
  | zero =>
    intro k n hk hn
    obtain ⟨n, rfl⟩ : ∃ q, n = q + 1 := ⟨n - 1, by omega⟩
    rw [fX10_those_L4, hu 1 (by decide), if_pos (nI_le (by omega) (by omega)), show k = u 1 by omega]
  | succ m ih =>
    intro k n hk hn
    obtain ⟨n, rfl⟩ : ∃ q, n = q + 1 := ⟨n - 1, by omega⟩
    have h5 := h53 k (by omega)
    rw [fX10_those_L4, hu 1 (by decide), if_neg (nI_ge (by omega) (by omega)), n32_53, nI_add, vin_t (by omega) (by decide), gd_t, nI_clamp (by omega), hu _ (by omega)]
    simp only [un]
    rw [or0, n32_1, shl1_n (by omega), or_n, nI_add]
    have ih' := ih (k + 1) n (by omega) (by omega)
    by_cases e : u (53 + k) = s
    · rw [if_pos (by rw [e]), bt_or _ k (by simp [e])]
      exact ih'
    · rw [if_neg (fun q => e ((nI_eq (by omega) (by omega)).mp q)), bt_no _ k (by simp [e])]
      exact ih'
theorem those_M {σ : Sto} {a s : Nat} {u : Nat → Nat} (hu : ∀ j, j < 59 → σ a j = nI (u j)) (h : okV u) (hs : s ≤ 2) : fX10_those σ a (nI s) = some (nI (btN (fun k => u (53 + k) == s) (u 1))) := by
  unfold fX10_those
  rw [n32_0]
  exact those_L hu h.2.2.2.1 (fun k hk => (h.2.2.2.2.2.2.2.2.2.2.2 k hk).2.2.2.2.2) hs (u 1) 0 fu (by omega) (fu_gt (by have := h.2.2.2.1; omega))
theorem thoseIn_L {σ : Sto} {r s : Nat} {u : Nat → Nat} (hu : ∀ j, j < 59 → σ 4 j = nI (u j)) (h1 : u 1 ≤ 6) (h53 : ∀ k, k < u 1 → u (53 + k) ≤ 2) (h47 : ∀ k, k < u 1 → u (47 + k) < 10) (hs : s ≤ 2) (hr : r < 10) :
    ∀ (m k n : Nat), k + m = u 1 → m < n → fX10_thoseIn_L5 σ n (nI r) (nI s) (nI (btN (fun k => u (53 + k) == s && u (47 + k) == r) k)) (nI k) = some (nI (btN (fun k => u (53 + k) == s && u (47 + k) == r) (u 1))) := by
  intro m
  induction m with
  | zero =>
    intro k n hk hn
    obtain ⟨n, rfl⟩ : ∃ q, n = q + 1 := ⟨n - 1, by omega⟩
    rw [fX10_thoseIn_L5, hu 1 (by decide), if_pos (nI_le (by omega) (by omega)), show k = u 1 by omega]
  | succ m ih =>
    intro k n hk hn
    obtain ⟨n, rfl⟩ : ∃ q, n = q + 1 := ⟨n - 1, by omega⟩
    have h5 := h53 k (by omega)
    have h4 := h47 k (by omega)
    rw [fX10_thoseIn_L5, hu 1 (by decide), if_neg (nI_ge (by omega) (by omega)), n32_53, n32_47, nI_add, nI_add, vin_t (by omega) (by decide), gd_t, vin_t (by omega) (by decide), gd_t, nI_clamp (by omega), nI_clamp (by omega), hu _ (by omega), hu _ (by omega)]
    simp only [un]
    rw [or0, n32_1, shl1_n (by omega), or_n, nI_add]
    have ih' := ih (k + 1) n (by omega) (by omega)
    by_cases e : u (53 + k) = s
    · rw [if_pos (by rw [e])]
      by_cases e2 : u (47 + k) = r
      · rw [if_pos (by rw [e2]), bt_or _ k (by simp [e, e2])]
        exact ih'
      · rw [if_neg (fun q => e2 ((nI_eq (by omega) (by omega)).mp q)), bt_no _ k (by simp [e, e2])]
        exact ih'
    · rw [if_neg (fun q => e ((nI_eq (by omega) (by omega)).mp q)), bt_no _ k (by simp [e])]
      exact ih'
theorem thoseIn_M {σ : Sto} {r s : Nat} {u : Nat → Nat} (hu : ∀ j, j < 59 → σ 4 j = nI (u j)) (h : okV u) (hs : s ≤ 2) (hr : r < 10) : fX10_thoseIn σ (nI r) (nI s) = some (nI (btN (fun k => u (53 + k) == s && u (47 + k) == r) (u 1))) := by
  unfold fX10_thoseIn
  rw [n32_0]
  have hR := h.2.1
  exact thoseIn_L hu h.2.2.2.1 (fun k hk => (h.2.2.2.2.2.2.2.2.2.2.2 k hk).2.2.2.2.2) (fun k hk => by have := (h.2.2.2.2.2.2.2.2.2.2.2 k hk).2.2.2.2.1; omega) hs hr (u 1) 0 fu (by omega) (fu_gt (by have := h.2.2.2.1; omega))
/-- how many bits -/
def pop6 (n : Nat) : Nat := n % 2 + n / 2 % 2 + n / 4 % 2 + n / 8 % 2 + n / 16 % 2 + n / 32 % 2
theorem bits_dec : ∀ b, b < 64 → fX10_bits_L4 7 (nI 0) (nI b) = some (nI (pop6 b)) := by decide
theorem bits_mono : ∀ (n : Nat) (x y r : Int32), fX10_bits_L4 n x y = some r → fX10_bits_L4 (n + 1) x y = some r
  | 0, _, _, _, h => by cases h
  | n + 1, x, y, r, h => by
    rw [fX10_bits_L4] at h ⊢
    split
    · rename_i c
      rw [if_pos c] at h
      exact h
    · rename_i c
      rw [if_neg c] at h
      exact bits_mono n _ _ _ h
theorem bits_up {n m : Nat} {x y r : Int32} (h : fX10_bits_L4 n x y = some r) (hm : n ≤ m) : fX10_bits_L4 m x y = some r := by
  obtain ⟨k, rfl⟩ : ∃ k, m = n + k := ⟨m - n, by omega⟩
  induction k with
  | zero => exact h
  | succ k ih => exact bits_mono _ _ _ _ (ih (by omega))
theorem bits_M {b : Nat} (h : b < 64) : fX10_bits (nI b) = some (nI (pop6 b)) := by
  unfold fX10_bits
  rw [n32_0]
  exact bits_up (bits_dec b h) (Nat.le_of_lt (fu_gt (by decide)))
theorem bits_X : ∀ b, b < 64 → fJ6_bitCount_0f7a4 (nI b) = nI (pop6 b) := by decide
theorem bt_64 {p : Nat → Bool} {n : Nat} (h : n ≤ 6) : btN p n < 64 := Nat.lt_of_lt_of_le (bt_lt p n) (Nat.pow_le_pow_right (by decide) h)
theorem stones_M {σ : Sto} {a : Nat} {u : Nat → Nat} (hu : ∀ j, j < 59 → σ a j = nI (u j)) (h : okV u) : fX10_stones σ a = some (nI (pop6 (btN (fun k => u (53 + k) == 2) (u 1)))) := by
  unfold fX10_stones
  rw [n32_2, those_M hu h (by decide), bd_s, bits_M (bt_64 h.2.2.2.1), bd_s]
