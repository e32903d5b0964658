/-! becoming, readers, forecasts -/
theorem cpy0 {α : Type} {f g : Nat → α} {n j : Nat} (h : j < n) : va_cpy f g 0 0 n j = f j := by
  unfold va_cpy
  rw [if_pos ⟨Nat.zero_le _, by omega⟩, Nat.zero_add, Nat.sub_zero]
theorem become_X {σ : Sto} {v0 v1 : Nat} {u : Nat → Nat} (hd : v0 + 8 ≤ v1 ∨ v1 + 8 ≤ v0) (hx : VX σ v1 u) (h0 : u 0 ≤ 10) (h1 : u 1 ≤ 6) : VX (fX8_become σ v0 v1) v0 u ∧ ∀ k, (k < v0 ∨ v0 + 8 ≤ k) → fX8_become σ v0 v1 k = σ k := by
  obtain ⟨x1, x2, x3⟩ := hx
  unfold fX8_become
  simp only [un]
  refine ⟨⟨fun i hi => ?_, fun r hr => ⟨?_, ?_, ?_⟩, fun k hk => ⟨?_, ?_, ?_, ?_⟩⟩, fun k hk => ?_⟩
  · have hne : v1 ≠ v0 := by omega
    rw [← x1 i hi]
    repeat rw [cpS_ne (by omega)]
    match i, hi with
    | 0, _ => simp [up, hne]
    | 1, _ => simp [up, hne]
    | 2, _ => simp [up, hne]
    | 3, _ => simp [up, hne]
    | 4, _ => simp [up, hne]
  · rw [← (x2 r hr).1]
    repeat rw [cpS_ne (by omega)]
    rw [cpS_at, cpy0 (by omega)]
    repeat rw [up_k (by omega)]
  · rw [← (x2 r hr).2.1]
    repeat rw [cpS_ne (by omega)]
    rw [cpS_at, cpy0 (by omega)]
    repeat rw [cpS_ne (by omega)]
    repeat rw [up_k (by omega)]
  · rw [← (x2 r hr).2.2]
    repeat rw [cpS_ne (by omega)]
    rw [cpS_at, cpy0 (by omega)]
    repeat rw [cpS_ne (by omega)]
    repeat rw [up_k (by omega)]
  · rw [← (x3 k hk).1]
    repeat rw [cpS_ne (by omega)]
    rw [cpS_at, cpy0 (by omega)]
    repeat rw [cpS_ne (by omega)]
    repeat rw [up_k (by omega)]
  · rw [← (x3 k hk).2.1]
    repeat rw [cpS_ne (by omega)]
    rw [cpS_at, cpy0 (by omega)]
    repeat rw [cpS_ne (by omega)]
    repeat rw [up_k (by omega)]
  · rw [← (x3 k hk).2.2.1]
    repeat rw [cpS_ne (by omega)]
    rw [cpS_at, cpy0 (by omega)]
    repeat rw [cpS_ne (by omega)]
    repeat rw [up_k (by omega)]
  · rw [← (x3 k hk).2.2.2]
    rw [cpS_at, cpy0 (by omega)]
    repeat rw [cpS_ne (by omega)]
    repeat rw [up_k (by omega)]
  · repeat rw [cpS_ne (by omega)]
    repeat rw [up_k (by omega)]
theorem allAt_L {σ : Sto} {v T x : Nat} {W : Nat → Nat} (h1 : σ v 1 = nI T) (hT : T ≤ 6) (hw : ∀ k, k < T → σ (v + 6) k = nI (W k)) (hb : ∀ k, k < T → W k < 50) (hx : x < 50) :
    ∀ (m k n : Nat), k + m = T → m < n → fX8_allAt_L4 v σ n (nI x) (nI (btN (fun k => W k == x) k)) (nI k) = some (nI (btN (fun k => W k == x) T)) := by
  intro m
  induction m with
  | zero =>
    intro k n hk hn
    obtain ⟨n, rfl⟩ : ∃ q, n = q + 1 := ⟨n - 1, by omega⟩
    rw [fX8_allAt_L4, h1, if_pos (nI_le (by omega) (by omega)), show k = T by omega]
  | succ m ih =>
    intro k n hk hn
    obtain ⟨n, rfl⟩ : ∃ q, n = q + 1 := ⟨n - 1, by omega⟩
    have h5 := hb k (by omega)
    rw [fX8_allAt_L4, h1, if_neg (nI_ge (by omega) (by omega)), vin_t (by omega) (by decide), gd_t, nI_clamp (by omega), hw k (by omega)]
    simp only [un]
    rw [n32_1, shl1_n (by omega), or_n, nI_add]
    have ih' := ih (k + 1) n (by omega) (by omega)
    by_cases e : W k = x
    · rw [if_pos (by rw [e]), bt_or _ k (by simp [e])]
      exact ih'
    · rw [if_neg (fun q => e ((nI_eq (by omega) (by omega)).mp q)), bt_no _ k (by simp [e])]
      exact ih'
theorem stones_L {σ : Sto} {v T : Nat} {W : Nat → Nat} (h1 : σ v 1 = nI T) (hT : T ≤ 6) (hw : ∀ k, k < T → σ (v + 6) k = nI (W k)) (hb : ∀ k, k < T → W k < 50) :
    ∀ (m k n : Nat), k + m = T → m < n → fX8_stones_L4 v σ n (nI (btN (fun k => decide (30 ≤ W k)) k)) (nI k) = some (nI (btN (fun k => decide (30 ≤ W k)) T)) := by
  intro m
  induction m with
  | zero =>
    intro k n hk hn
    obtain ⟨n, rfl⟩ : ∃ q, n = q + 1 := ⟨n - 1, by omega⟩
    rw [fX8_stones_L4, h1, if_pos (nI_le (by omega) (by omega)), show k = T by omega]
  | succ m ih =>
    intro k n hk hn
    obtain ⟨n, rfl⟩ : ∃ q, n = q + 1 := ⟨n - 1, by omega⟩
    have h5 := hb k (by omega)
    rw [fX8_stones_L4, h1, if_neg (nI_ge (by omega) (by omega)), vin_t (by omega) (by decide), gd_t, nI_clamp (by omega), hw k (by omega)]
    simp only [un]
    rw [n32_30, n32_1, shl1_n (by omega), or_n, nI_add]
    have ih' := ih (k + 1) n (by omega) (by omega)
    by_cases e : 30 ≤ W k
    · rw [if_neg (nI_nlt e (by omega)), bt_or _ k (by simp [e])]
      exact ih'
    · rw [if_pos (nI_lt (by omega) (by decide)), bt_no _ k (by simp [e])]
      exact ih'
theorem standing_L {σ : Sto} {v T : Nat} {W : Nat → Nat} (h1 : σ v 1 = nI T) (hT : T ≤ 6) (hw : ∀ k, k < T → σ (v + 6) k = nI (W k)) (hb : ∀ k, k < T → W k < 50) :
    ∀ (m k n : Nat), k + m = T → m < n → fX8_standing_L4 v σ n (nI (btN (fun k => decide (W k < 20)) k)) (nI k) = some (nI (btN (fun k => decide (W k < 20)) T)) := by
  intro m
  induction m with
  | zero =>
    intro k n hk hn
    obtain ⟨n, rfl⟩ : ∃ q, n = q + 1 := ⟨n - 1, by omega⟩
    rw [fX8_standing_L4, h1, if_pos (nI_le (by omega) (by omega)), show k = T by omega]
  | succ m ih =>
    intro k n hk hn
    obtain ⟨n, rfl⟩ : ∃ q, n = q + 1 := ⟨n - 1, by omega⟩
    have h5 := hb k (by omega)
    rw [fX8_standing_L4, h1, if_neg (nI_ge (by omega) (by omega)), vin_t (by omega) (by decide), gd_t, nI_clamp (by omega), hw k (by omega)]
    simp only [un]
    rw [n32_20, n32_1, shl1_n (by omega), or_n, nI_add]
    have ih' := ih (k + 1) n (by omega) (by omega)
    by_cases e : W k < 20
    · rw [if_neg (nI_ge e (by omega)), bt_or _ k (by simp [e])]
      exact ih'
    · rw [if_pos (nI_le (by omega) (by omega)), bt_no _ k (by simp [e])]
      exact ih'
theorem wh_is {u : Nat → Nat} {k : Nat} (h : okV u) (hk : k < u 1) : (whN u k = 20 ↔ u (53 + k) = 1) ∧ (30 ≤ whN u k ↔ u (53 + k) = 2) ∧ (whN u k < 20 ↔ u (53 + k) = 0) ∧ (∀ r, r < 10 → (whN u k = r ↔ u (53 + k) = 0 ∧ u (47 + k) = r)) ∧ (∀ r, r < 10 → (whN u k = 30 + r ↔ u (53 + k) = 2 ∧ u (47 + k) = r)) := by
  have h0 := h.2.1
  obtain ⟨a1, a2, a3, a4, a5, a6⟩ := h.2.2.2.2.2.2.2.2.2.2.2 k hk
  unfold whN
  by_cases e1 : u (53 + k) = 1
  · rw [if_pos e1]
    exact ⟨by omega, by omega, by omega, fun r hr => by omega, fun r hr => by omega⟩
  · rw [if_neg e1]
    by_cases e2 : u (53 + k) = 2
    · rw [if_pos e2]
      exact ⟨by omega, by omega, by omega, fun r hr => by omega, fun r hr => by omega⟩
    · rw [if_neg e2]
      exact ⟨by omega, by omega, by omega, fun r hr => by omega, fun r hr => by omega⟩
theorem b_eq {a b c d : Nat} (h : a = b ↔ c = d) : (a == b) = (c == d) := by
  by_cases q : a = b
  · rw [beq_iff_eq.mpr q, beq_iff_eq.mpr (h.mp q)]
  · rw [beq_eq_false_iff_ne.mpr q, beq_eq_false_iff_ne.mpr (fun z => q (h.mpr z))]
theorem out_X {σ : Sto} {v : Nat} {u : Nat → Nat} (hx : VX σ v u) (h : okV u) : fX8_allAt σ v (nI 20) = some (nI (btN (fun k => u (53 + k) == 1) (u 1))) := by
  have h1 := h.2.2.2.1
  unfold fX8_allAt
  rw [n32_0]
  have := allAt_L (x := 20) (hx.1 1 (by decide)) h1 (fun k hk => (hx.2.2 k hk).2.2.1) (fun k hk => (ok_wh h hk).1) (by decide) (u 1) 0 fu (by omega) (fu_gt (by omega))
  rw [bt_congr (n := u 1) (q := fun k => u (53 + k) == 1) (fun k hk => b_eq (wh_is h hk).1)] at this
  exact this
theorem in_X {σ : Sto} {v r : Nat} {u : Nat → Nat} (hx : VX σ v u) (h : okV u) (hr : r < 10) : fX8_allAt σ v (nI r) = some (nI (btN (fun k => u (53 + k) == 0 && u (47 + k) == r) (u 1))) := by
  have h1 := h.2.2.2.1
  unfold fX8_allAt
  rw [n32_0]
  have := allAt_L (x := r) (hx.1 1 (by decide)) h1 (fun k hk => (hx.2.2 k hk).2.2.1) (fun k hk => (ok_wh h hk).1) (by omega) (u 1) 0 fu (by omega) (fu_gt (by omega))
  rw [bt_congr (n := u 1) (q := fun k => u (53 + k) == 0 && u (47 + k) == r) (fun k hk => by
    have := (wh_is h hk).2.2.2.1 r hr
    rw [Bool.eq_iff_iff]
    simp only [beq_iff_eq, Bool.and_eq_true]
    exact this)] at this
  exact this
theorem st_X {σ : Sto} {v r : Nat} {u : Nat → Nat} (hx : VX σ v u) (h : okV u) (hr : r < 10) : fX8_allAt σ v (nI (30 + r)) = some (nI (btN (fun k => u (53 + k) == 2 && u (47 + k) == r) (u 1))) := by
  have h1 := h.2.2.2.1
  unfold fX8_allAt
  rw [n32_0]
  have := allAt_L (x := 30 + r) (hx.1 1 (by decide)) h1 (fun k hk => (hx.2.2 k hk).2.2.1) (fun k hk => (ok_wh h hk).1) (by omega) (u 1) 0 fu (by omega) (fu_gt (by omega))
  rw [bt_congr (n := u 1) (q := fun k => u (53 + k) == 2 && u (47 + k) == r) (fun k hk => by
    have := (wh_is h hk).2.2.2.2 r hr
    rw [Bool.eq_iff_iff]
    simp only [beq_iff_eq, Bool.and_eq_true]
    exact this)] at this
  exact this
theorem stones_X {σ : Sto} {v : Nat} {u : Nat → Nat} (hx : VX σ v u) (h : okV u) : fX8_stones σ v = some (nI (btN (fun k => u (53 + k) == 2) (u 1))) := by
  have h1 := h.2.2.2.1
  unfold fX8_stones
  rw [n32_0]
  have := stones_L (hx.1 1 (by decide)) h1 (fun k hk => (hx.2.2 k hk).2.2.1) (fun k hk => (ok_wh h hk).1) (u 1) 0 fu (by omega) (fu_gt (by omega))
  rw [bt_congr (n := u 1) (q := fun k => u (53 + k) == 2) (fun k hk => by
    have := (wh_is h hk).2.1
    rw [Bool.eq_iff_iff]
    simp only [beq_iff_eq, decide_eq_true_eq]
    exact this)] at this
  exact this
theorem standing_X {σ : Sto} {v : Nat} {u : Nat → Nat} (hx : VX σ v u) (h : okV u) : fX8_standing σ v = some (nI (btN (fun k => u (53 + k) == 0) (u 1))) := by
  have h1 := h.2.2.2.1
  unfold fX8_standing
  rw [n32_0]
  have := standing_L (hx.1 1 (by decide)) h1 (fun k hk => (hx.2.2 k hk).2.2.1) (fun k hk => (ok_wh h hk).1) (u 1) 0 fu (by omega) (fu_gt (by omega))
  rw [bt_congr (n := u 1) (q := fun k => u (53 + k) == 0) (fun k hk => by
    have := (wh_is h hk).2.2.1
    rw [Bool.eq_iff_iff]
    simp only [beq_iff_eq, decide_eq_true_eq]
    exact this)] at this
  exact this
