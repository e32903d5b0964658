/-! sets, share, count -/
theorem bit_n {s k : Nat} (hk : k < 32) (hs : s < 2 ^ 31) : (nI s >>> (nI k &&& (31 : Int32))) &&& (1 : Int32) = nI (s / 2 ^ k % 2) := by
  rw [shr_n hk hs, pk_andN (Nat.lt_of_le_of_lt (Nat.div_le_self _ _) (by omega)) 1 (by decide)]
theorem bt_bit (p : Nat → Bool) : ∀ {n k : Nat}, k < n → btN p n / 2 ^ k % 2 = if p k then 1 else 0
  | 0, k, h => by omega
  | n + 1, k, h => by
    show (btN p n + _) / 2 ^ k % 2 = _
    have hp : 0 < 2 ^ k := Nat.two_pow_pos k
    by_cases e : k = n
    · subst e
      have := bt_lt p k
      by_cases c : p k = true
      · rw [if_pos c, if_pos c, Nat.add_div_right _ hp, Nat.div_eq_of_lt this]
      · rw [if_neg c, if_neg c, Nat.add_zero, Nat.div_eq_of_lt this]
    · have ih := bt_bit p (n := n) (k := k) (by omega)
      by_cases c : p n = true
      · obtain ⟨d, rfl⟩ : ∃ d, n = k + 1 + d := ⟨n - (k + 1), by omega⟩
        rw [if_pos c, show 2 ^ (k + 1 + d) = 2 ^ k * (2 * 2 ^ d) by rw [Nat.pow_add, Nat.pow_succ, Nat.mul_assoc], Nat.add_mul_div_left _ _ hp, ← ih]
        generalize 2 ^ d = z
        omega
      · rw [if_neg c, Nat.add_zero]
        exact ih
theorem has_n {s k : Nat} (hk : k < 32) (hs : s < 2 ^ 31) : fX10_has (nI s) (nI k) = nI (s / 2 ^ k % 2) := by
  unfold fX10_has
  rw [bit_n hk hs, n32_1, n32_0]
  rcases (show s / 2 ^ k % 2 = 0 ∨ s / 2 ^ k % 2 = 1 by omega) with h | h
  · rw [h, if_neg (by decide)]
  · rw [h, if_pos rfl]
def hiN (u : Nat → Nat) (s n : Nat) : Nat := smN (fun i => if s / 2 ^ i % 2 = 1 then u (41 + i) else 0) n
theorem hi_le {u : Nat → Nat} {s : Nat} : ∀ {n : Nat}, (∀ k, k < n → u (41 + k) ≤ 9) → hiN u s n ≤ 9 * n
  | 0, _ => Nat.le_refl _
  | n + 1, h => by
    have ih := hi_le (u := u) (s := s) (n := n) (fun k hk => h k (by omega))
    have := h n (by omega)
    show hiN u s n + (if s / 2 ^ n % 2 = 1 then u (41 + n) else 0) ≤ _
    split <;> omega
theorem high_LX {σ : Sto} {v s : Nat} {u : Nat → Nat} (hx : VX σ v u) (h1 : u 1 ≤ 6) (hs : s < 2 ^ 31) : ∀ (m k n : Nat), k + m = u 1 → m < n → fX5_highOfAll_L4 v σ n (nI s) (nI (hiN u s k)) (nI k) = some (nI (hiN u s (u 1))) := by
  intro m
  induction m with
  | zero =>
    intro k n hk hn
    obtain ⟨n, rfl⟩ : ∃ q, n = q + 1 := ⟨n - 1, by omega⟩
    rw [fX5_highOfAll_L4, hx.1 1 (by decide), if_pos (nI_le (by omega) (by omega)), show k = u 1 by omega]
  | succ m ih =>
    intro k n hk hn
    obtain ⟨n, rfl⟩ : ∃ q, n = q + 1 := ⟨n - 1, by omega⟩
    have ih' := ih (k + 1) n (by omega) (by omega)
    have e : hiN u s (k + 1) = hiN u s k + (if s / 2 ^ k % 2 = 1 then u (41 + k) else 0) := rfl
    rw [fX5_highOfAll_L4, hx.1 1 (by decide), if_neg (nI_ge (by omega) (by omega)), bit_n (by omega) hs, n32_1]
    by_cases c : s / 2 ^ k % 2 = 1
    · rw [if_pos (by rw [c]), vin_t (by omega) (by decide), gd_t, nI_clamp (by omega), (hx.2.2 k (by omega)).2.1]
      simp only [un]
      rw [nI_add, nI_add]
      rw [e, if_pos c] at ih'
      exact ih'
    · rw [if_neg (fun q => c ((nI_eq (by omega) (by decide)).mp q))]
      simp only [un]
      rw [nI_add]
      rw [e, if_neg c, Nat.add_zero] at ih'
      exact ih'
theorem high_X {σ : Sto} {v s : Nat} {u : Nat → Nat} (hx : VX σ v u) (h1 : u 1 ≤ 6) (hs : s < 2 ^ 31) : fX5_highOfAll σ v (nI s) = some (nI (hiN u s (u 1))) := by
  unfold fX5_highOfAll
  exact high_LX hx h1 hs (u 1) 0 fu (by omega) (fu_gt (by omega))
theorem high_LM {σ : Sto} {s : Nat} {u : Nat → Nat} (hu : ∀ j, j < 59 → σ 4 j = nI (u j)) (h1 : u 1 ≤ 6) (hs : s < 2 ^ 31) : ∀ (m k n : Nat), k + m = u 1 → m < n → fX10_highOf_L4 σ n (nI s) (nI (hiN u s k)) (nI k) = some (nI (hiN u s (u 1))) := by
  intro m
  induction m with
  | zero =>
    intro k n hk hn
    obtain ⟨n, rfl⟩ : ∃ q, n = q + 1 := ⟨n - 1, by omega⟩
    rw [fX10_highOf_L4, hu 1 (by decide), if_pos (nI_le (by omega) (by omega)), show k = u 1 by omega]
  | succ m ih =>
    intro k n hk hn
    obtain ⟨n, rfl⟩ : ∃ q, n = q + 1 := ⟨n - 1, by omega⟩
    have ih' := ih (k + 1) n (by omega) (by omega)
    have e : hiN u s (k + 1) = hiN u s k + (if s / 2 ^ k % 2 = 1 then u (41 + k) else 0) := rfl
    rw [fX10_highOf_L4, hu 1 (by decide), if_neg (nI_ge (by omega) (by omega)), has_n (by omega) hs, n32_0, n32_1]
    by_cases c : s / 2 ^ k % 2 = 1
    · rw [if_neg (by rw [c]; decide), n32_41, nI_add, vin_t (by omega) (by decide), gd_t, nI_clamp (by omega), hu _ (by omega)]
      simp only [un]
      rw [nI_add, nI_add]
      rw [e, if_pos c] at ih'
      exact ih'
    · rw [if_pos (by rw [show s / 2 ^ k % 2 = 0 by omega])]
      simp only [un]
      rw [nI_add, nI_add, Nat.add_zero]
      rw [e, if_neg c, Nat.add_zero] at ih'
      exact ih'
theorem high_M {σ : Sto} {s : Nat} {u : Nat → Nat} (hu : ∀ j, j < 59 → σ 4 j = nI (u j)) (h1 : u 1 ≤ 6) (hs : s < 2 ^ 31) : fX10_highOf σ (nI s) = some (nI (hiN u s (u 1))) := by
  unfold fX10_highOf
  exact high_LM hu h1 hs (u 1) 0 fu (by omega) (fu_gt (by omega))
theorem sub_le : ∀ s, s < 64 → ∀ t, t < 64 → nI s &&& (nI t ^^^ (-1 : Int32)) = (0 : Int32) → s ≤ t := by decide +kernel
theorem sets_T {σm : Sto} (kk : Int32 → Int32 → Int32 → Int32 → Option Int32) {st : Nat} {x1 x2 x4 x5 x6 : Int32} (hst : st < 64) : ∀ (m s n : Nat), s + m = 64 → st < s → m < n → fX10_sets_L58 kk σm n x1 x2 (nI st) x4 x5 x6 (nI s) = kk x2 x4 x5 x6 := by
  intro m
  induction m with
  | zero =>
    intro s n hs h2 hn
    obtain ⟨n, rfl⟩ : ∃ q, n = q + 1 := ⟨n - 1, by omega⟩
    rw [fX10_sets_L58, n32_64, if_pos (nI_le (by omega) (by omega))]
  | succ m ih =>
    intro s n hs h2 hn
    obtain ⟨n, rfl⟩ : ∃ q, n = q + 1 := ⟨n - 1, by omega⟩
    rw [fX10_sets_L58, n32_64, if_neg (nI_ge (by omega) (by omega)), if_neg (fun q => by have := sub_le s (by omega) st hst q; omega)]
    simp only [un]
    rw [n32_1, nI_add]
    exact ih (s + 1) n (by omega) (by omega) (by omega)
theorem sets_J {σx σm : Sto} {u : Nat → Nat} (kx km : Int32 → Int32 → Int32 → Int32 → Option Int32) {st : Nat} {x1 x2 : Int32} (hx : VX σx 36 u) (hu : ∀ j, j < 59 → σm 4 j = nI (u j)) (h1 : u 1 ≤ 6) (hst : st < 2 ^ u 1) : ∀ (m s n n' : Nat) (x4 x5 x6 : Int32), s + m = 2 ^ u 1 → m < n → 64 - s < n' → ∃ y4 y5 y6, fX5_setsSoHigh_L19 kx 36 σx n x1 x2 (nI st) x4 x5 x6 (nI s) = kx x2 y4 y5 y6 ∧ fX10_sets_L58 km σm n' x1 x2 (nI st) x4 x5 x6 (nI s) = km x2 y4 y5 y6 := by
  have h64 : 2 ^ u 1 ≤ 64 := Nat.pow_le_pow_right (n := 2) (by decide) h1
  intro m
  induction m with
  | zero =>
    intro s n n' x4 x5 x6 hs hn hn'
    obtain ⟨n, rfl⟩ : ∃ q, n = q + 1 := ⟨n - 1, by omega⟩
    refine ⟨x4, x5, x6, ?_, sets_T km (by omega) (64 - s) s n' (by omega) (by omega) hn'⟩
    rw [fX5_setsSoHigh_L19, hx.1 1 (by decide), n32_1, shl1_n (by omega), if_pos (nI_le (by omega) (by omega))]
  | succ m ih =>
    intro s n n' x4 x5 x6 hs hn hn'
    obtain ⟨n, rfl⟩ : ∃ q, n = q + 1 := ⟨n - 1, by omega⟩
    obtain ⟨n', rfl⟩ : ∃ q, n' = q + 1 := ⟨n' - 1, by omega⟩
    rw [fX5_setsSoHigh_L19, fX10_sets_L58, hx.1 1 (by decide), n32_1, shl1_n (by omega), if_neg (nI_ge (by omega) (by omega)), n32_64, if_neg (nI_ge (by omega) (by omega)), high_X hx h1 (by omega), high_M hu h1 (by omega), bd_s, bd_s]
    simp only [un]
    rw [nI_add]
    by_cases c : nI s &&& (nI st ^^^ (-nI 1)) = (0 : Int32)
    · rw [if_pos c, if_pos c]
      by_cases c2 : nI (hiN u s (u 1)) = x1
      · rw [if_pos c2, if_pos c2]
        exact ih (s + 1) n n' _ _ _ (by omega) (by omega) (by omega)
      · rw [if_neg c2, if_neg c2]
        exact ih (s + 1) n n' _ _ _ (by omega) (by omega) (by omega)
    · rw [if_neg c, if_neg c]
      exact ih (s + 1) n n' _ _ _ (by omega) (by omega) (by omega)
theorem op_sets {σx σm : Sto} (h : Inv σx σm) (a1 : Int32) (a2 : Int32) : ∃ r, fX9_sets σx a1 a2 = some r ∧ fX10_sets σm a1 a2 = some r := by
  obtain ⟨u, hn⟩ := h.1
  unfold fX9_sets fX10_sets
  rcases g_str hn with ⟨ok, e1, e2⟩ | ⟨e1, e2⟩
  · rw [e1, e2, if_neg one_n0, if_neg one_n0]
    rcases g_in (x := a1) (a := 0) (b := 54) (ax := 0) (bx := 54) (A := 0) (B := 54) rfl rfl rfl rfl (by decide) (by decide) with ⟨i1, e1, e2⟩ | ⟨_, e1, e2⟩
    · rw [e1, e2, if_neg one_n0, if_neg one_n0]
      rcases g_in (x := a2) (a := 0) (b := 2) (ax := 0) (bx := 2) (A := 0) (B := 2) rfl rfl rfl rfl (by decide) (by decide) with ⟨i2, e1, e2⟩ | ⟨_, e1, e2⟩
      · rw [e1, e2, if_neg one_n0, if_neg one_n0]
        obtain ⟨z, _, hz, rfl⟩ := inR_of i2
        have hT := now_T hn
        have hst := bt_lt (fun k => u (53 + k) == 0) (u 1)
        unfold fX5_setsSoHigh
        rw [standing_X hn.1 ok.1, bd_s, show fX10_those σm 4 (0 : Int32) = _ from those_M (s := 0) hn.2.1 ok.1 (by decide), bd_s]
        obtain ⟨y4, y5, y6, q1, q2⟩ := sets_J (x1 := a1) (x2 := nI z) (fun z_2 z_3 z_4 z_5 => if z_2 = (0 : Int32) then some z_3 else if z_2 = (1 : Int32) then (if z_3 = (0 : Int32) then some (0 : Int32) else some z_4) else some z_5) (fun z_5 z_6 z_7 z_8 => if z_5 = (0 : Int32) then some z_6 else if z_5 = (2 : Int32) then some z_8 else if z_6 = (0 : Int32) then some (0 : Int32) else some z_7) hn.1 hn.2.1 hT.2 hst (2 ^ u 1) 0 fu fu 0 (nI (btN (fun k => u (53 + k) == 0) (u 1))) 0 (by omega) (fu_gt (by have := Nat.pow_le_pow_right (n := 2) (by decide) hT.2; omega)) (fu_gt (by omega))
        have fin : ∃ r, (if nI z = (0 : Int32) then some y4 else if nI z = (1 : Int32) then (if y4 = (0 : Int32) then some (0 : Int32) else some y5) else some y6) = some r ∧ (if nI z = (0 : Int32) then some y4 else if nI z = (2 : Int32) then some y6 else if y4 = (0 : Int32) then some (0 : Int32) else some y5) = some r := by
          clear q1 q2
          rcases (show z = 0 ∨ z = 1 ∨ z = 2 by omega) with rfl | rfl | rfl
          · exact ⟨y4, by rw [if_pos (by decide)], by rw [if_pos (by decide)]⟩
          · by_cases c : y4 = (0 : Int32)
            · exact ⟨0, by rw [if_neg (by decide), if_pos (by decide), if_pos c], by rw [if_neg (by decide), if_neg (by decide), if_pos c]⟩
            · exact ⟨y5, by rw [if_neg (by decide), if_pos (by decide), if_neg c], by rw [if_neg (by decide), if_neg (by decide), if_neg c]⟩
          · exact ⟨y6, by rw [if_neg (by decide), if_neg (by decide)], by rw [if_neg (by decide), if_pos (by decide)]⟩
        obtain ⟨r, r1, r2⟩ := fin
        have q1 : fX5_setsSoHigh_L19 _ 36 σx fu a1 (nI z) (nI (btN (fun k => u (53 + k) == 0) (u 1))) 0 (nI (btN (fun k => u (53 + k) == 0) (u 1))) 0 0 = _ := q1
        have q2 : fX10_sets_L58 _ σm fu a1 (nI z) (nI (btN (fun k => u (53 + k) == 0) (u 1))) 0 (nI (btN (fun k => u (53 + k) == 0) (u 1))) 0 0 = _ := q2
        refine ⟨r, ?_, q2.trans r2⟩
        rw [q1.trans r1, bd_s]
      · rw [e1, e2, if_pos rfl, if_pos rfl]
        exact ⟨_, rfl, rfl⟩
    · rw [e1, e2, if_pos rfl, if_pos rfl]
      exact ⟨_, rfl, rfl⟩
  · rw [e1, e2, if_pos rfl, if_pos rfl]
    exact ⟨_, rfl, rfl⟩
theorem share_J {σx σm : Sto} {u : Nat → Nat} (kx km : Int32 → Int32 → Int32 → Int32 → Int32 → Option Int32) {s : Nat} {x2 x3 x5 : Int32} (hx : VX σx 36 u) (hu : ∀ j, j < 59 → σm 4 j = nI (u j)) (h1 : u 1 ≤ 6) (hs : s < 2 ^ 31) (hz : nz x5 = true) : ∀ (m k n n' : Nat) (x6 x7 : Int32), k + m = u 1 → m < n → m < n' → ∃ y6 y7, fX5_partOf_L41 kx 36 σx n x2 x3 (nI s) x5 x6 x7 (nI k) = kx x2 x3 x5 y6 y7 ∧ fX10_share_L63 km σm n' x2 x3 (nI s) x5 x6 x7 (nI k) = km x2 x3 x5 y6 y7 := by
  intro m
  induction m with
  | zero =>
    intro k n n' x6 x7 hk hn hn'
    obtain ⟨n, rfl⟩ : ∃ q, n = q + 1 := ⟨n - 1, by omega⟩
    obtain ⟨n', rfl⟩ : ∃ q, n' = q + 1 := ⟨n' - 1, by omega⟩
    refine ⟨x6, x7, ?_, ?_⟩
    · rw [fX5_partOf_L41, hx.1 1 (by decide), if_pos (nI_le (by omega) (by omega))]
    · rw [fX10_share_L63, hu 1 (by decide), if_pos (nI_le (by omega) (by omega))]
  | succ m ih =>
    intro k n n' x6 x7 hk hn hn'
    obtain ⟨n, rfl⟩ : ∃ q, n = q + 1 := ⟨n - 1, by omega⟩
    obtain ⟨n', rfl⟩ : ∃ q, n' = q + 1 := ⟨n' - 1, by omega⟩
    have h5 : σx (36 + 5) k = nI (u (41 + k)) := (hx.2.2 k (by omega)).2.1
    rw [fX5_partOf_L41, fX10_share_L63, hx.1 1 (by decide), hu 1 (by decide), if_neg (nI_ge (by omega) (by omega)), if_neg (nI_ge (by omega) (by omega)), bit_n (by omega) hs, has_n (by omega) hs]
    unfold fX10_share_j104
    simp only [un]
    rw [has_n (by omega) hs, n32_1, nI_add, vin_t (show k < 6 by omega) (by decide), n32_41, nI_add, vin_t (show 41 + k < 59 by omega) (by decide), hz, gd_t, gd_t, gd_t, gd_t, nI_clamp (show k < 2 ^ 31 by omega), nI_clamp (show 41 + k < 2 ^ 31 by omega), h5, hu _ (by omega)]
    by_cases c : s / 2 ^ k % 2 = 1
    · rw [if_pos (show nI (s / 2 ^ k % 2) = nI 1 by rw [c]), if_neg (show ¬ nI (s / 2 ^ k % 2) = (0 : Int32) by rw [c]; decide), if_neg (show ¬ nI (s / 2 ^ k % 2) = (0 : Int32) by rw [c]; decide)]
      by_cases d : x2 ≤ nI k
      · rw [if_pos d, if_pos d]
        exact ih (k + 1) n n' _ _ (by omega) (by omega) (by omega)
      · rw [if_neg d, if_neg d]
        exact ih (k + 1) n n' _ _ (by omega) (by omega) (by omega)
    · have c0 : s / 2 ^ k % 2 = 0 := by omega
      rw [if_neg (show ¬ nI (s / 2 ^ k % 2) = nI 1 by rw [c0]; decide), if_pos (show nI (s / 2 ^ k % 2) = (0 : Int32) by rw [c0]; rfl), if_pos (show nI (s / 2 ^ k % 2) = (0 : Int32) by rw [c0]; rfl), Int32.sub_zero, Int32.add_zero]
      exact ih (k + 1) n n' _ _ (by omega) (by omega) (by omega)
theorem op_share {σx σm : Sto} (h : Inv σx σm) (a1 : Int32) (a2 : Int32) : ∃ r, fX9_share σx a1 a2 = some r ∧ fX10_share σm a1 a2 = some r := by
  obtain ⟨u, hn⟩ := h.1
  unfold fX9_share fX10_share
  rcases g_thing hn a1 with ⟨i1, ok, e1, e2⟩ | ⟨_, e1, e2⟩
  · rw [e1, e2, if_neg one_n0, if_neg one_n0]
    rcases g_in (x := a2) (a := 0) (b := 999) (ax := 0) (bx := 999) (A := 0) (B := 999) rfl rfl rfl rfl (by decide) (by decide) with ⟨i2, e1, e2⟩ | ⟨_, e1, e2⟩
    · rw [e1, e2, if_neg one_n0, if_neg one_n0]
      obtain ⟨k, _, hk, rfl⟩ := inR_of i1
      have hT := now_T hn
      obtain ⟨b1, b2, b3, b4, b5, b6⟩ := ok.1.2.2.2.2.2.2.2.2.2.2.2 k hk
      have h64 := bt_64 (p := fun k => u (53 + k) == 1) hT.2
      have hbit := bt_bit (fun k => u (53 + k) == 1) hk
      have h41 : σx (36 + 5) k = nI (u (41 + k)) := (hn.1.2.2 k hk).2.1
      have hle := hi_le (u := u) (s := btN (fun k => u (53 + k) == 1) (u 1)) (n := u 1) (fun i hi => (ok.1.2.2.2.2.2.2.2.2.2.2.2 i hi).2.2.2.1)
      have hge := sm_le (L := fun i => if btN (fun k => u (53 + k) == 1) (u 1) / 2 ^ i % 2 = 1 then u (41 + i) else 0) hk
      unfold fX5_partOf
      rw [n32_20, out_X hn.1 ok.1, bd_s, high_X hn.1 hT.2 (by omega), bd_s, bit_n (by omega) (by omega), n32_53, nI_add, vin_t (by omega) (by decide), gd_t, nI_clamp (by omega), hn.2.1 _ (by omega)]
      by_cases c : u (53 + k) = 1
      · rw [show (u (53 + k) == 1) = true by rw [c]; rfl, if_pos rfl] at hbit
        rw [if_pos hbit] at hge
        have hpos : 0 < hiN u (btN (fun k => u (53 + k) == 1) (u 1)) (u 1) := by
          unfold hiN
          omega
        rw [hbit, if_neg (by decide), n32_0, if_pos (nI_lt hpos (by omega)), if_pos (show nI (u (53 + k)) = (1 : Int32) by rw [c]; rfl), n32_1, those_M hn.2.1 ok.1 (by decide), bd_s, high_M hn.2.1 hT.2 (by omega), bd_s]
        have hz : nz (nI (hiN u (btN (fun k => u (53 + k) == 1) (u 1)) (u 1))) = true := by
          unfold nz
          exact decide_eq_true (nI_n0 (by omega) (by omega))
        obtain ⟨y6, y7, q1, q2⟩ := share_J (x2 := nI k) (x3 := a2) (fun z_3 z_4 z_5 z_6 z_7 => gd (vin z_3 6) (gd (nz z_5) (if z_6 ≤ z_7 then some (((z_4 * (σx (36 + 5) z_3.toNatClampNeg)) / z_5) + nI 0) else some (((z_4 * (σx (36 + 5) z_3.toNatClampNeg)) / z_5) + nI 1)))) (fun z_6 z_7 z_8 z_9 z_10 => gd (vin ((41 : Int32) + z_6) 59) (gd (nz z_8) (if z_9 ≤ z_10 then some (((z_7 * (σm 4 ((41 : Int32) + z_6).toNatClampNeg)) / z_8) + nI 0) else some (((z_7 * (σm 4 ((41 : Int32) + z_6).toNatClampNeg)) / z_8) + nI 1)))) hn.1 hn.2.1 hT.2 (show btN (fun k => u (53 + k) == 1) (u 1) < 2 ^ 31 by omega) hz (u 1) 0 fu fu a2 (nI 0) (by omega) (fu_gt (by omega)) (fu_gt (by omega))
        have hfin : ∃ r, (if y6 ≤ y7 then some (((a2 * nI (u (41 + k))) / nI (hiN u (btN (fun k => u (53 + k) == 1) (u 1)) (u 1))) + nI 0) else some (((a2 * nI (u (41 + k))) / nI (hiN u (btN (fun k => u (53 + k) == 1) (u 1)) (u 1))) + nI 1)) = some r := by
          split
          · exact ⟨_, rfl⟩
          · exact ⟨_, rfl⟩
        obtain ⟨r, hr⟩ := hfin
        refine ⟨r, ?_, ?_⟩
        · rw [q1, vin_t (by omega) (by decide), gd_t, hz, gd_t, nI_clamp (by omega), h41, hr, bd_s]
        · rw [q2, n32_41, nI_add, vin_t (by omega) (by decide), gd_t, hz, gd_t, nI_clamp (by omega), hn.2.1 _ (by omega)]
          exact hr
      · rw [show (u (53 + k) == 1) = false from beq_eq_false_iff_ne.mpr c, if_neg (by decide)] at hbit
        rw [hbit, if_pos (by rfl), if_neg (show ¬ nI (u (53 + k)) = (1 : Int32) from fun q => c ((nI_eq (by omega) (by decide)).mp q)), bd_s]
        exact ⟨_, rfl, rfl⟩
    · rw [e1, e2, if_pos rfl, if_pos rfl]
      exact ⟨_, rfl, rfl⟩
  · rw [e1, e2, if_pos rfl, if_pos rfl]
    exact ⟨_, rfl, rfl⟩
