theorem sub2 (x y z : Int32) : x - y - z = x - (y + z) := by
  apply Int32.toBitVec_inj.mp
  simp only [Int32.toBitVec_sub, Int32.toBitVec_add]
  bv_omega
theorem ov_eq (a b c d : Nat) : nI a + nI b - nI c - nI d = nI (a + b) - nI (c + d) := by rw [sub2, nI_add, nI_add]
theorem ov_lt {a b : Nat} (ha : a < 2 ^ 29) (hb : b < 2 ^ 29) : nI a - nI b < nI 2 ↔ a < b + 2 := by
  rw [Int32.lt_iff_toInt_lt, pk_sub_toInt (by omega) (by omega), nI_toInt (by decide)]
  omega
theorem less_M {a b : Nat} (ha : a < 2 ^ 31) (hb : b < 2 ^ 31) : fX10_less (nI a) (nI b) = nI (min a b) := by
  unfold fX10_less
  by_cases h : b ≤ a
  · rw [if_pos (nI_le h ha), Nat.min_eq_right h]
  · rw [if_neg (nI_ge (by omega) hb), Nat.min_eq_left (by omega)]
def lw (u L : Nat → Nat) : Nat → Nat := fun j => if 15 ≤ j ∧ j < 25 then L (j - 15) else u j
theorem lw_la {u L : Nat → Nat} {r : Nat} (h : r < 10) : lw u L (15 + r) = L r := by
  simp only [lw]
  rw [if_pos (by omega), Nat.add_sub_cancel_left]
theorem lw_o {u L : Nat → Nat} {j : Nat} (h : j < 15 ∨ 25 ≤ j) : lw u L j = u j := if_neg (by omega)
theorem lw_up {u L : Nat → Nat} {r x : Nat} (h : r < 10) : va_up (lw u L) (15 + r) x = lw u (va_up L r x) := by
  funext j
  simp only [lw, va_up]
  by_cases h1 : j = 15 + r
  · subst h1
    rw [if_pos rfl, if_pos (by omega), if_pos (by omega)]
  · rw [if_neg h1]
    by_cases h2 : 15 ≤ j ∧ j < 25
    · rw [if_pos h2, if_pos h2, if_neg (by omega)]
    · rw [if_neg h2, if_neg h2]
theorem vu_id {u : Nat → Nat} {j : Nat} : va_up u j (u j) = u := by
  funext i
  unfold va_up
  by_cases h : i = j
  · rw [if_pos h, h]
  · rw [if_neg h]
theorem nI_p0 (z : Nat) : nI z + nI 0 = nI z := by
  rw [nI_add]
  rfl
theorem flow_body {σ : Sto} {a r : Nat} {u L : Nat → Nat} (kk : Sto → Int32 → Int32 → Option Sto) (hR : u 0 ≤ 10) (hr : r < u 0) (hf : ∀ q, q < 10 → u (5 + q) ≤ 9) (hw : ∀ q, q < 10 → u (25 + q) ≤ 9) (hL : ∀ q, q < 10 → L q < 2 ^ 28) :
    fX10_flows_j57 kk a (SM σ a (lw u L)) (nI (u 0 - 1)) (nI r) (nI (nxN (u 0) (fun q => u (5 + q)) r L)) = kk (SM σ a (lw u (stF (u 0) (fun q => u (5 + q)) (fun q => u (25 + q)) r L))) (nI (u 0 - 1)) (nI (r + 1)) := by
  have hr10 : r < 10 := by omega
  have hfr := hf r hr10
  have hwr := hw r hr10
  have hLr := hL r hr10
  have hnx : nxN (u 0) (fun q => u (5 + q)) r L < 2 ^ 28 + 10 := by
    unfold nxN
    split
    · omega
    · have h1 := hf (r + 1) (by omega)
      have h2 := hL (r + 1) (by omega)
      show u (5 + (r + 1)) + L (r + 1) < _
      omega
  have v5 : vin (nI 5 + nI r) 59 = true := by rw [nI_add]; exact vin_t (by omega) (by decide)
  have v15 : vin (nI 15 + nI r) 59 = true := by rw [nI_add]; exact vin_t (by omega) (by decide)
  have v25 : vin (nI 25 + nI r) 59 = true := by rw [nI_add]; exact vin_t (by omega) (by decide)
  have v16 : vin (nI 15 + nI r + nI 1) 59 = true := by rw [nI_add, nI_add]; exact vin_t (by omega) (by decide)
  have e5 : (nI 5 + nI r).toNatClampNeg = 5 + r := by rw [nI_add, nI_clamp (by omega)]
  have e15 : (nI 15 + nI r).toNatClampNeg = 15 + r := by rw [nI_add, nI_clamp (by omega)]
  have e25 : (nI 25 + nI r).toNatClampNeg = 25 + r := by rw [nI_add, nI_clamp (by omega)]
  have e16 : (nI 15 + nI r + nI 1).toNatClampNeg = 15 + (r + 1) := by rw [nI_add, nI_add, nI_clamp (by omega)]; omega
  unfold fX10_flows_j57
  simp only [un, n32_0, n32_1, n32_2, n32_5, n32_15, n32_25, v5, v15, v25, v16, gd_t, e5, e15, e25, e16]
  rw [SM_at (show 5 + r < 59 by omega), SM_at (show 15 + r < 59 by omega), SM_at (show 25 + r < 59 by omega), lw_o (Or.inl (show 5 + r < 15 by omega)), lw_la hr10, lw_o (Or.inr (show 25 ≤ 25 + r by omega)), ov_eq]
  generalize hN : nxN (u 0) (fun q => u (5 + q)) r L = nx at hnx ⊢
  unfold stF goN
  rw [hN]
  by_cases c1 : u (5 + r) + L r < u (25 + r) + nx + 2
  · rw [if_pos ((ov_lt (by omega) (by omega)).mpr c1), if_pos c1, nI_add]
  · rw [if_neg (fun q => c1 ((ov_lt (by omega) (by omega)).mp q)), if_neg c1, pk_sub (by omega), pk_div (by omega) (by decide) (by decide), less_M (by omega) (by omega)]
    have hgo : min ((u (5 + r) + L r - (u (25 + r) + nx)) / 2) (L r) ≤ L r := Nat.min_le_right _ _
    generalize min ((u (5 + r) + L r - (u (25 + r) + nx)) / 2) (L r) = go at hgo ⊢
    rw [pk_sub hgo, SM_up (show 15 + r < 59 by omega), lw_up hr10, SM_at (show 15 + (r + 1) < 59 by omega)]
    by_cases c2 : r + 1 = u 0
    · rw [if_pos (by rw [show u 0 - 1 = r by omega]), if_pos c2, nI_p0, SM_up (show 15 + (r + 1) < 59 by omega), vu_id, nI_add]
    · rw [if_neg (fun q => c2 (by have := (nI_eq (by omega) (by omega)).mp q; omega)), if_neg c2, lw_la (show r + 1 < 10 by omega), vu_ne (by omega), nI_add, SM_up (show 15 + (r + 1) < 59 by omega), lw_up (show r + 1 < 10 by omega), nI_add]
theorem flow_loop {σ : Sto} {a : Nat} {u L0 : Nat → Nat} (hR : u 0 ≤ 10) (hR1 : 1 ≤ u 0) (hf : ∀ q, q < 10 → u (5 + q) ≤ 9) (hw : ∀ q, q < 10 → u (25 + q) ≤ 9) (hL : smN L0 (u 0) < 2 ^ 27) (hh : ∀ q, u 0 ≤ q → q < 10 → L0 q < 2 ^ 27) :
    ∀ (m r n : Nat), r + m = u 0 → m < n → fX10_flows_L27 a n (SM σ a (lw u (flF (u 0) (fun q => u (5 + q)) (fun q => u (25 + q)) r L0))) (nI (u 0 - 1)) (nI r) = some (SM σ a (lw u (flF (u 0) (fun q => u (5 + q)) (fun q => u (25 + q)) (u 0) L0))) := by
  intro m
  induction m with
  | zero =>
    intro r n hr hn
    obtain ⟨n, rfl⟩ : ∃ k, n = k + 1 := ⟨n - 1, by omega⟩
    rw [fX10_flows_L27, if_pos (nI_lt (by omega) (by omega)), show r = u 0 by omega]
  | succ m ih =>
    intro r n hr hn
    obtain ⟨n, rfl⟩ : ∃ k, n = k + 1 := ⟨n - 1, by omega⟩
    have hL2 : ∀ q, q < 10 → flF (u 0) (fun q => u (5 + q)) (fun q => u (25 + q)) r L0 q < 2 ^ 28 := by
      intro q hq
      by_cases h : u 0 ≤ q
      · rw [flF_hi h (by omega)]
        have := hh q h hq
        omega
      · have h1 := sm_le (L := flF (u 0) (fun q => u (5 + q)) (fun q => u (25 + q)) r L0) (show q < u 0 by omega)
        have h2 := sm_flF (R := u 0) (fl := fun q => u (5 + q)) (wa := fun q => u (25 + q)) (L := L0) (n := r) (by omega)
        omega
    have ih' := ih (r + 1) n (by omega) (by omega)
    have hb := flow_body (σ := σ) (a := a) (r := r) (u := u) (fX10_flows_L27 a n) hR (by omega) hf hw hL2
    rw [fX10_flows_L27, if_neg (fun q => by have := (nI_ltI (by omega) (by omega)).mp q; omega)]
    by_cases c : r = u 0 - 1
    · rw [if_pos (by rw [c])]
      have hn0 : nxN (u 0) (fun q => u (5 + q)) r (flF (u 0) (fun q => u (5 + q)) (fun q => u (25 + q)) r L0) = 0 := by
        unfold nxN
        rw [if_pos (by omega)]
      rw [hn0] at hb
      rw [n32_0, hb]
      exact ih'
    · have hn1 : nxN (u 0) (fun q => u (5 + q)) r (flF (u 0) (fun q => u (5 + q)) (fun q => u (25 + q)) r L0) = u (5 + (r + 1)) + flF (u 0) (fun q => u (5 + q)) (fun q => u (25 + q)) r L0 (r + 1) := by
        unfold nxN
        rw [if_neg (by omega)]
      rw [hn1] at hb
      rw [if_neg (fun q => c ((nI_eq (by omega) (by omega)).mp q)), n32_5, n32_15, n32_1, nI_add, nI_add, nI_add, nI_add, vin_t (by omega) (by decide), vin_t (by omega) (by decide), gd_t, gd_t, nI_clamp (by omega), nI_clamp (by omega), SM_at (by omega), SM_at (by omega), show 5 + r + 1 = 5 + (r + 1) by omega, show 15 + r + 1 = 15 + (r + 1) by omega, lw_o (Or.inl (show 5 + (r + 1) < 15 by omega)), lw_la (by omega), nI_add, hb]
      exact ih'
theorem fu_gt {n : Nat} (h : n < 100000) : n < fu := h
theorem flows_M {σ : Sto} {a : Nat} {u : Nat → Nat} (h : okV u) : fX10_flows (SM σ a u) a = some (SM σ a (lw u (lavN u))) := by
  have hs := sm_fd h
  obtain ⟨h0, h1, h2, h3, h4, h5, h6, h7, h8, h9, h10, h11⟩ := id h
  have hl := ok_la h (r := 0) (by decide)
  have hl : u 15 ≤ 40000 := hl
  have key : fX10_flows_j19 a (SM σ a (lw u (fdN u))) = some (SM σ a (lw u (lavN u))) := by
    unfold fX10_flows_j19
    simp only [un]
    rw [SM_at (by decide), lw_o (Or.inl (by decide)), n32_1, n32_0, pk_sub (by omega)]
    exact flow_loop (L0 := fdN u) h1 (by omega) h7 h8 (by omega) (fun q q1 q2 => by
      unfold fdN
      rw [if_neg (fun z => by omega), h9 q q1 q2]
      decide) (u 0) 0 fu (by omega) (fu_gt (by omega))
  unfold fX10_flows
  rw [SM_at (by decide), SM_at (by decide)]
  by_cases c : u 4 < u 3
  · rw [if_neg (nI_ge c (by omega))]
    simp only [un]
    rw [SM_at (by decide), SM_at (by decide), nI_add, SM_up (by decide)]
    have e : va_up u 15 (u 15 + u 2) = lw u (fdN u) := by
      funext j
      simp only [va_up, lw, fdN]
      by_cases hj : j = 15
      · subst hj
        rw [if_pos rfl, if_pos (by omega), if_pos ⟨rfl, c⟩]
      · rw [if_neg hj]
        by_cases hj2 : 15 ≤ j ∧ j < 25
        · rw [if_pos hj2, if_neg (fun q => by omega), show 15 + (j - 15) = j by omega]
        · rw [if_neg hj2]
    rw [e]
    exact key
  · rw [if_pos (nI_le (by omega) (by omega))]
    have e : u = lw u (fdN u) := by
      funext j
      simp only [lw, fdN]
      by_cases hj2 : 15 ≤ j ∧ j < 25
      · rw [if_pos hj2, if_neg (fun q => c q.2), show 15 + (j - 15) = j by omega]
      · rw [if_neg hj2]
    rw [← e] at key
    exact key
