/-! the program's flow: the lava lies in ten places of an array from o on -/
theorem SO_up {σ : Sto} {a o n r x : Nat} {L : Nat → Nat} (h : r < n) : up (SO σ a o L n) a (o + r) (nI x) = SO σ a o (va_up L r x) n := by
  funext k j
  by_cases hk : k = a
  · subst hk
    by_cases hj : j = o + r
    · subst hj
      rw [up_i, SO_at h, vu_self]
    · rw [up_j hj]
      unfold SO
      by_cases h2 : k = k ∧ o ≤ j ∧ j < o + n
      · rw [if_pos h2, if_pos h2, vu_ne (by omega)]
      · rw [if_neg h2, if_neg h2]
  · rw [up_k hk, SO_ne hk, SO_ne hk]
theorem SO_id {σ : Sto} {a o n : Nat} {L : Nat → Nat} (h : ∀ r, r < n → σ a (o + r) = nI (L r)) : SO σ a o L n = σ := by
  funext k j
  unfold SO
  by_cases h2 : k = a ∧ o ≤ j ∧ j < o + n
  · rw [if_pos h2, h2.1]
    have := h (j - o) (by omega)
    rw [show o + (j - o) = j by omega] at this
    exact this.symm
  · rw [if_neg h2]
theorem SO_congr {σ : Sto} {a o n : Nat} {L M : Nat → Nat} (h : ∀ r, r < n → L r = M r) : SO σ a o L n = SO σ a o M n := by
  funext k j
  unfold SO
  by_cases h2 : k = a ∧ o ≤ j ∧ j < o + n
  · rw [if_pos h2, if_pos h2, h _ (by omega)]
  · rw [if_neg h2, if_neg h2]
def FV (σ : Sto) (v a R : Nat) (fl wa : Nat → Nat) : Prop := σ v 0 = nI R ∧ (∀ r, r < R → σ (v + 1) r = nI (fl r)) ∧ (∀ r, r < R → σ (v + 3) r = nI (wa r)) ∧ v ≠ a ∧ v + 1 ≠ a ∧ v + 3 ≠ a ∧ 1 ≤ R ∧ R ≤ 10 ∧ (∀ r, r < R → fl r ≤ 9) ∧ (∀ r, r < R → wa r ≤ 9)
theorem minX {a b : Nat} (ha : a < 2 ^ 31) (hb : b < 2 ^ 31) : (if nI b < nI a then nI b else nI a) = nI (min a b) := by
  by_cases h : b < a
  · rw [if_pos (nI_lt h ha), Nat.min_eq_right (by omega)]
  · rw [if_neg (nI_nlt (by omega) hb), Nat.min_eq_left (by omega)]
theorem flowX_body {σ : Sto} {v a o R r : Nat} {fl wa L : Nat → Nat} (kk : Sto → Int32 → Int32 → Option Sto) (hF : FV σ v a R fl wa) (hr : r < R) (ho : o + R ≤ aLX a) (ha : aLX a < 2 ^ 28) (hL : ∀ q, q < R → L q < 2 ^ 28) :
    fX8_flow_j75 kk v a (SO σ a o L R) (nI o) (nI r) (nI (if r + 1 = R then 1 else 0)) (nI (nxN R fl r L)) = kk (SO σ a o (stF R fl wa r L) R) (nI o) (nI (r + 1)) := by
  obtain ⟨f0, f1, f3, g0, g1, g3, R1, R10, k1, k3⟩ := hF
  have hfr := k1 r hr
  have hwr := k3 r hr
  have hLr := hL r hr
  have hnx : nxN R fl r L < 2 ^ 28 + 10 := by
    unfold nxN
    split
    · omega
    · have h1 := k1 (r + 1) (by omega)
      have h2 := hL (r + 1) (by omega)
      omega
  have w1 : vin (nI r) 10 = true := vin_t (by omega) (by decide)
  have w2 : vin (nI o + nI r) (aLX a) = true := by rw [nI_add]; exact vin_t (by omega) (by omega)
  have e1 : (nI r).toNatClampNeg = r := nI_clamp (by omega)
  have e2 : (nI o + nI r).toNatClampNeg = o + r := by rw [nI_add, nI_clamp (by omega)]
  unfold fX8_flow_j75
  simp only [un, n32_0, n32_1, n32_2, w1, w2, gd_t, e1, e2]
  rw [SO_ne g1, SO_ne g3, f1 r hr, f3 r hr, SO_at hr, ov_eq]
  generalize hN : nxN R fl r L = nx at hnx ⊢
  unfold stF goN
  rw [hN]
  by_cases c1 : fl r + L r < wa r + nx + 2
  · rw [if_pos ((ov_lt (by omega) (by omega)).mpr c1), if_pos c1, nI_add]
  · rw [if_neg (fun q => c1 ((ov_lt (by omega) (by omega)).mp q)), if_neg c1, pk_sub (by omega), pk_div (by omega) (by decide) (by decide), minX (by omega) (by omega)]
    have hgo : min ((fl r + L r - (wa r + nx)) / 2) (L r) ≤ L r := Nat.min_le_right _ _
    generalize min ((fl r + L r - (wa r + nx)) / 2) (L r) = go at hgo ⊢
    rw [pk_sub hgo, SO_up hr]
    by_cases c2 : r + 1 = R
    · rw [if_pos c2, if_neg (by decide), if_pos c2, nI_add]
    · rw [if_neg c2, if_pos rfl, if_neg c2, nI_add, nI_add, vin_t (by omega) (by omega), gd_t, nI_clamp (by omega), show o + r + 1 = o + (r + 1) by omega, SO_at (by omega), vu_ne (by omega), nI_add, SO_up (by omega), nI_add]
theorem flowX_loop {σ : Sto} {v a o R : Nat} {fl wa L0 : Nat → Nat} (hF : FV σ v a R fl wa) (ho : o + R ≤ aLX a) (ha : aLX a < 2 ^ 28) (hL : smN L0 R < 2 ^ 27) :
    ∀ (m r n : Nat), r + m = R → m < n → fX8_flow_L21 v a n (SO σ a o (flF R fl wa r L0) R) (nI o) (nI r) = some (SO σ a o (flF R fl wa R L0) R) := by
  intro m
  induction m with
  | zero =>
    intro r n hr hn
    obtain ⟨n, rfl⟩ : ∃ k, n = k + 1 := ⟨n - 1, by omega⟩
    have R10 := hF.2.2.2.2.2.2.2.1
    rw [fX8_flow_L21, SO_ne hF.2.2.2.1, hF.1, if_pos (nI_le (by omega) (by omega)), show r = R by omega]
  | succ m ih =>
    intro r n hr hn
    obtain ⟨n, rfl⟩ : ∃ k, n = k + 1 := ⟨n - 1, by omega⟩
    have R10 := hF.2.2.2.2.2.2.2.1
    have hL2 : ∀ q, q < R → flF R fl wa r L0 q < 2 ^ 28 := by
      intro q hq
      have h1 := sm_le (L := flF R fl wa r L0) hq
      have h2 := sm_flF (R := R) (fl := fl) (wa := wa) (L := L0) (n := r) (by omega)
      omega
    have ih' := ih (r + 1) n (by omega) (by omega)
    have hb := flowX_body (σ := σ) (r := r) (o := o) (L := flF R fl wa r L0) (fX8_flow_L21 v a n) hF (by omega) ho ha hL2
    rw [fX8_flow_L21, SO_ne hF.2.2.2.1, hF.1, if_neg (nI_ge (by omega) (by omega)), n32_1, nI_add]
    by_cases c : r + 1 = R
    · rw [if_pos (by rw [c])]
      have hn0 : nxN R fl r (flF R fl wa r L0) = 0 := by
        unfold nxN
        rw [if_pos c]
      rw [hn0, if_pos c] at hb
      unfold fX8_flow_j46
      rw [if_neg (by decide), n32_0, hb]
      exact ih'
    · have hn1 : nxN R fl r (flF R fl wa r L0) = fl (r + 1) + flF R fl wa r L0 (r + 1) := by
        unfold nxN
        rw [if_neg c]
      rw [hn1, if_neg c] at hb
      rw [if_neg (fun q => c ((nI_eq (by omega) (by omega)).mp q))]
      unfold fX8_flow_j46
      rw [if_pos rfl, n32_0, n32_1, nI_add, nI_add, nI_add, vin_t (by omega) (by decide), vin_t (by omega) (by omega), gd_t, gd_t, nI_clamp (by omega), nI_clamp (by omega), SO_ne hF.2.2.2.2.1, hF.2.1 (r + 1) (by omega), show o + r + 1 = o + (r + 1) by omega, SO_at (by omega), nI_add, hb]
      exact ih'
def fdL (f st d : Nat) (L : Nat → Nat) : Nat → Nat := fun r => if r = 0 ∧ d < st then L 0 + f else L r
theorem flow_X {σ : Sto} {v a o R f st d : Nat} {fl wa L : Nat → Nat} (hF : FV σ v a R fl wa) (h2 : σ v 2 = nI f) (h3 : σ v 3 = nI st) (bd : d < 2 ^ 30) (bs : st < 2 ^ 30) (ho : o + R ≤ aLX a) (ha : aLX a < 2 ^ 28) (hL : smN (fdL f st d L) R < 2 ^ 27) :
    fX8_flow (SO σ a o L R) v a (nI o) (nI d) = some (SO σ a o (flF R fl wa R (fdL f st d L)) R) := by
  have R1 := hF.2.2.2.2.2.2.1
  have R10 := hF.2.2.2.2.2.2.2.1
  have key : fX8_flow_j18 v a (SO σ a o (fdL f st d L) R) (nI o) = some (SO σ a o (flF R fl wa R (fdL f st d L)) R) := by
    unfold fX8_flow_j18
    rw [n32_0]
    exact flowX_loop hF ho ha hL R 0 fu (by omega) (fu_gt (by omega))
  unfold fX8_flow
  rw [SO_ne hF.2.2.2.1, h3]
  by_cases c : d < st
  · rw [if_neg (nI_ge c (by omega)), vin_t (by omega) (by omega), gd_t, nI_clamp (by omega)]
    simp only [un]
    have e0 : SO σ a o L R a o = nI (L 0) := SO_at (i := 0) (by omega)
    have e1 : up (SO σ a o L R) a o (nI (L 0 + f)) = SO σ a o (va_up L 0 (L 0 + f)) R := SO_up (r := 0) (by omega)
    rw [e0, h2, nI_add, e1]
    rw [show va_up L 0 (L 0 + f) = fdL f st d L from by
      funext r
      unfold va_up fdL
      by_cases hr : r = 0
      · rw [if_pos hr, if_pos ⟨hr, c⟩]
      · rw [if_neg hr, if_neg (fun q => hr q.1)]]
    exact key
  · rw [if_pos (nI_le (by omega) (by omega))]
    rw [show fdL f st d L = L from by
      funext r
      unfold fdL
      rw [if_neg (fun q => c q.2)]] at key
    rw [show fdL f st d L = L from by
      funext r
      unfold fdL
      rw [if_neg (fun q => c q.2)]]
    exact key
