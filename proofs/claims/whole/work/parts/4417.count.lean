/-! count, copy -/
theorem zero_now {σx σm : Sto} {u : Nat → Nat} (hn : iNow σx σm u) : ∀ r, u 0 ≤ r → r < 10 → u (15 + r) = 0 := by
  rcases hn.2.2 with h | h
  · exact h.1.2.2.2.2.2.2.2.2.2.1
  · exact fun r _ hr => h _ (by omega)
theorem stones_J {σx σm : Sto} {u : Nat → Nat} (hn : iNow σx σm u) : ∃ b, b < 64 ∧ fX8_stones σx 36 = some (nI b) ∧ fX10_those σm 4 (2 : Int32) = some (nI b) := by
  rcases hn.2.2 with h | h
  · exact ⟨_, bt_64 h.1.2.2.2.1, stones_X hn.1 h.1, those_M (s := 2) hn.2.1 h.1 (by decide)⟩
  · have h1 : u 1 = 0 := h 1 (by decide)
    refine ⟨0, by decide, ?_, ?_⟩
    · unfold fX8_stones
      have := stones_L (σ := σx) (v := 36) (T := u 1) (W := whN u) (hn.1.1 1 (by decide)) (by omega) (fun k hk => by omega) (fun k hk => by omega) 0 0 fu (by omega) (fu_gt (by decide))
      rw [h1] at this
      exact this
    · unfold fX10_those
      have := those_L (s := 2) hn.2.1 (by omega) (fun k hk => by omega) (by decide) 0 0 fu (by omega) (fu_gt (by decide))
      rw [h1] at this
      exact this
theorem outs_J {σx σm : Sto} {u : Nat → Nat} (hn : iNow σx σm u) : ∃ b, b < 64 ∧ fX8_allAt σx 36 (20 : Int32) = some (nI b) ∧ fX10_those σm 4 (1 : Int32) = some (nI b) := by
  rcases hn.2.2 with h | h
  · exact ⟨_, bt_64 h.1.2.2.2.1, out_X hn.1 h.1, those_M (s := 1) hn.2.1 h.1 (by decide)⟩
  · have h1 : u 1 = 0 := h 1 (by decide)
    refine ⟨0, by decide, ?_, ?_⟩
    · unfold fX8_allAt
      have := allAt_L (σ := σx) (v := 36) (T := u 1) (x := 20) (W := whN u) (hn.1.1 1 (by decide)) (by omega) (fun k hk => by omega) (fun k hk => by omega) (by decide) 0 0 fu (by omega) (fu_gt (by decide))
      rw [h1] at this
      exact this
    · unfold fX10_those
      have := those_L (s := 1) hn.2.1 (by omega) (fun k hk => by omega) (by decide) 0 0 fu (by omega) (fu_gt (by decide))
      rw [h1] at this
      exact this
theorem lava_LX {σ : Sto} {u : Nat → Nat} (hx : VX σ 36 u) (h0 : u 0 ≤ 10) : ∀ (m k n : Nat), k + m = u 0 → m < n → fX8_allLava_L4 36 σ n (nI (smN (fun r => u (15 + r)) k)) (nI k) = some (nI (smN (fun r => u (15 + r)) (u 0))) := by
  intro m
  induction m with
  | zero =>
    intro k n hk hn
    obtain ⟨n, rfl⟩ : ∃ q, n = q + 1 := ⟨n - 1, by omega⟩
    rw [fX8_allLava_L4, hx.1 0 (by decide), if_pos (nI_le (by omega) (by omega)), show k = u 0 by omega]
  | succ m ih =>
    intro k n hk hn
    obtain ⟨n, rfl⟩ : ∃ q, n = q + 1 := ⟨n - 1, by omega⟩
    rw [fX8_allLava_L4, hx.1 0 (by decide), if_neg (nI_ge (by omega) (by omega)), vin_t (by omega) (by decide), gd_t, nI_clamp (by omega), (hx.2.1 k (by omega)).2.1]
    simp only [un]
    rw [n32_1, nI_add, nI_add]
    exact ih (k + 1) n (by omega) (by omega)
theorem lava_LM {σ : Sto} {u : Nat → Nat} (kk : Int32 → Int32 → Int32 → Option Int32) {x1 x2 : Int32} (hu : ∀ j, j < 59 → σ 4 j = nI (u j)) : ∀ (m k n : Nat), k + m = 10 → m < n → fX10_count_L41 kk σ n x1 x2 (nI (smN (fun r => u (15 + r)) k)) (nI k) = kk x1 x2 (nI (smN (fun r => u (15 + r)) 10)) := by
  intro m
  induction m with
  | zero =>
    intro k n hk hn
    obtain ⟨n, rfl⟩ : ∃ q, n = q + 1 := ⟨n - 1, by omega⟩
    rw [fX10_count_L41, n32_10, if_pos (nI_le (by omega) (by omega)), show k = 10 by omega]
  | succ m ih =>
    intro k n hk hn
    obtain ⟨n, rfl⟩ : ∃ q, n = q + 1 := ⟨n - 1, by omega⟩
    rw [fX10_count_L41, n32_10, if_neg (nI_ge (by omega) (by omega)), n32_15, nI_add, vin_t (by omega) (by decide), gd_t, nI_clamp (by omega), hu _ (by omega)]
    simp only [un]
    rw [n32_1, nI_add, nI_add]
    exact ih (k + 1) n (by omega) (by omega)
theorem present_J {σx σm : Sto} (kk : Int32 → Int32 → Int32 → Option Int32) {x1 x3 : Int32} (h : iRows σx σm) : ∀ (m k n n' : Nat) (y : Int32), k + m = 8 → m < n → m < n' → ∃ r, fX4_present_L4 σx n y (nI k) = some r ∧ fX10_count_L7 kk σm n' x1 y x3 (nI k) = kk x1 r x3 := by
  intro m
  induction m with
  | zero =>
    intro k n n' y hk hn hn'
    obtain ⟨n, rfl⟩ : ∃ q, n = q + 1 := ⟨n - 1, by omega⟩
    obtain ⟨n', rfl⟩ : ∃ q, n' = q + 1 := ⟨n' - 1, by omega⟩
    exact ⟨y, by rw [fX4_present_L4, n32_8, if_pos (nI_le (by omega) (by omega))], by rw [fX10_count_L7, n32_8, if_pos (nI_le (by omega) (by omega))]⟩
  | succ m ih =>
    intro k n n' y hk hn hn'
    obtain ⟨n, rfl⟩ : ∃ q, n = q + 1 := ⟨n - 1, by omega⟩
    obtain ⟨n', rfl⟩ : ∃ q, n' = q + 1 := ⟨n' - 1, by omega⟩
    rw [fX4_present_L4, fX10_count_L7, n32_8, if_neg (nI_ge (by omega) (by omega)), if_neg (nI_ge (by omega) (by omega)), vin_t (by omega) (by decide), gd_t, nI_clamp (by omega)]
    rcases miss_X (show k < 8 by omega) (h k (by omega)).1 with ⟨q, q1, q2⟩ | ⟨q, l, s, h1, h2, h3, h4, h5, h6⟩
    · rw [q, bd_s, if_neg one_n0, q2, if_neg (by decide)]
      simp only [un]
      rw [n32_1, nI_add, Int32.add_zero]
      exact ih (k + 1) n n' y (by omega) (by omega) (by omega)
    · rw [q, bd_s, if_pos rfl, h6, if_pos (show (0 : Int32) ≤ nI s from nI_pos' (by omega))]
      simp only [un]
      rw [n32_1, nI_add]
      exact ih (k + 1) n n' _ (by omega) (by omega) (by omega)
theorem op_count {σx σm : Sto} (h : Inv σx σm) (a1 : Int32) : ∃ r, fX9_count σx a1 = some r ∧ fX10_count σm a1 = some r := by
  obtain ⟨u, hn⟩ := h.1
  obtain ⟨n, o, P, p1, p2, p3, p4, p5, p6⟩ := h.2.1
  obtain ⟨⟨s, hs, s1, s2⟩, tt, tf⟩ := h.2.2.2.2.1
  have hT := now_T hn
  obtain ⟨b, hb, bx, bm⟩ := stones_J hn
  obtain ⟨o', ho, ox, om⟩ := outs_J hn
  have hlx : fX8_allLava σx 36 = some (nI (smN (fun r => u (15 + r)) (u 0))) := by
    unfold fX8_allLava
    exact lava_LX hn.1 hT.1 (u 0) 0 fu (by omega) (fu_gt (by omega))
  have hsm : smN (fun r => u (15 + r)) 10 = smN (fun r => u (15 + r)) (u 0) := by
    have := sm_more (L := fun r => u (15 + r)) (n := u 0) (m := 10 - u 0) (fun r h1 h2 => zero_now hn r h1 (by omega))
    rw [show u 0 + (10 - u 0) = 10 by omega] at this
    exact this
  unfold fX9_count fX10_count fX4_present fX10_stones
  obtain ⟨pr, q1, q2⟩ := present_J (x1 := a1) (x3 := 0) (fun z_1 z_2 z_3 => fX10_count_L41 (fun z_4 z_5 z_6 =>
    if z_4 = (0 : Int32) then some z_5
    else if z_4 = (1 : Int32) then some (σm 4 1)
    else if z_4 = (2 : Int32) then some (σm 4 0)
    else if z_4 = (3 : Int32) then some (σm 4 4)
    else if z_4 = (4 : Int32) then some z_6
    else if z_4 = (5 : Int32) then (bd (bd (fX10_those σm 4 (2 : Int32)) fun q_1 => bd (fX10_bits q_1) fun q_2 => some q_2) fun q_13 => some q_13)
    else if z_4 = (6 : Int32) then (bd (fX10_those σm 4 (1 : Int32)) fun q_15 => bd (fX10_bits q_15) fun q_16 => some q_16)
    else if z_4 = (7 : Int32) then some (σm 0 8)
    else if z_4 = (8 : Int32) then some (σm 0 12)
    else some (-1000001 : Int32)) σm fu z_1 z_2 z_3 (0 : Int32)) h.2.2.2.1 8 0 fu fu 0 (by omega) (fu_gt (by decide)) (fu_gt (by decide))
  have q1 : fX4_present_L4 σx fu 0 0 = some pr := q1
  have q2 : fX10_count_L7 _ σm fu a1 0 0 0 = _ := q2
  have q3 := lava_LM (x1 := a1) (x2 := pr) (fun z_4 z_5 z_6 =>
    if z_4 = (0 : Int32) then some z_5
    else if z_4 = (1 : Int32) then some (σm 4 1)
    else if z_4 = (2 : Int32) then some (σm 4 0)
    else if z_4 = (3 : Int32) then some (σm 4 4)
    else if z_4 = (4 : Int32) then some z_6
    else if z_4 = (5 : Int32) then (bd (bd (fX10_those σm 4 (2 : Int32)) fun q_1 => bd (fX10_bits q_1) fun q_2 => some q_2) fun q_13 => some q_13)
    else if z_4 = (6 : Int32) then (bd (fX10_those σm 4 (1 : Int32)) fun q_15 => bd (fX10_bits q_15) fun q_16 => some q_16)
    else if z_4 = (7 : Int32) then some (σm 0 8)
    else if z_4 = (8 : Int32) then some (σm 0 12)
    else some (-1000001 : Int32)) hn.2.1 10 0 fu (by omega) (fu_gt (by decide))
  have q4 := q2.trans q3
  have hfin : ∀ (A B C D E F G H I J : Int32), ∃ r, (if a1 = (0 : Int32) then some A else if a1 = (1 : Int32) then some B else if a1 = (2 : Int32) then some C else if a1 = (3 : Int32) then some D else if a1 = (4 : Int32) then some E else if a1 = (5 : Int32) then some F else if a1 = (6 : Int32) then some G else if a1 = (7 : Int32) then some H else if a1 = (8 : Int32) then some I else some J) = some r := by
    intro A B C D E F G H I J
    repeat' split
    all_goals exact ⟨_, rfl⟩
  obtain ⟨r, hr⟩ := hfin pr (nI (u 1)) (nI (u 0)) (nI (u 4)) (nI (smN (fun r => u (15 + r)) (u 0))) (nI (pop6 b)) (nI (pop6 o')) (nI n) (nI s) (-1000001)
  refine ⟨r, ?_, ?_⟩
  · rw [q1, hlx, bx, ox, hn.1.1 1 (by decide), hn.1.1 0 (by decide), hn.1.1 4 (by decide), p1, s1]
    simp only [bd_s]
    rw [bits_X b hb, bits_X o' ho]
    exact hr
  · refine q4.trans ?_
    rw [bm, om, hn.2.1 1 (by decide), hn.2.1 0 (by decide), hn.2.1 4 (by decide), p3, s2, hsm]
    simp only [bd_s]
    rw [bits_M hb, bits_M ho]
    simp only [bd_s]
    exact hr
/-- copies of items -/
def cpM (σ : Sto) (s d lo hi : Nat) : Sto := fun k p => if k = 3 ∧ d + lo ≤ p ∧ p < d + hi then σ 3 (s + (p - d)) else σ k p
theorem cpM_0 {σ : Sto} {s d lo : Nat} : cpM σ s d lo lo = σ := by
  funext k p
  exact if_neg (fun q => by omega)
theorem cpM_ne {σ : Sto} {s d lo hi k : Nat} (h : k ≠ 3) : cpM σ s d lo hi k = σ k := by
  funext p
  exact if_neg (fun q => h q.1)
theorem cpM_out {σ : Sto} {s d lo hi p : Nat} (h : p < d + lo ∨ d + hi ≤ p) : cpM σ s d lo hi 3 p = σ 3 p := if_neg (fun q => by omega)
theorem cpM_in {σ : Sto} {s d lo hi p : Nat} (h : lo ≤ p) (h2 : p < hi) : cpM σ s d lo hi 3 (d + p) = σ 3 (s + p) := by
  unfold cpM
  rw [if_pos ⟨rfl, by omega, by omega⟩, Nat.add_sub_cancel_left]
theorem cpM_up {σ : Sto} {s d lo hi : Nat} (h : lo ≤ hi) : up (cpM σ s d lo hi) 3 (d + hi) (σ 3 (s + hi)) = cpM σ s d lo (hi + 1) := by
  funext k p
  by_cases hk : k = 3
  · subst hk
    by_cases hp : p = d + hi
    · subst hp
      rw [up_i, cpM_in h (by omega)]
    · rw [up_j hp]
      unfold cpM
      by_cases c : d + lo ≤ p ∧ p < d + hi
      · rw [if_pos ⟨rfl, c⟩, if_pos ⟨rfl, c.1, by omega⟩]
      · rw [if_neg (fun q => c q.2), if_neg (fun q => by omega)]
  · rw [up_k hk, cpM_ne hk, cpM_ne hk]
theorem cpM_dn {σ : Sto} {s d lo hi : Nat} (h : lo < hi) : up (cpM σ s d (lo + 1) hi) 3 (d + lo) (σ 3 (s + lo)) = cpM σ s d lo hi := by
  funext k p
  by_cases hk : k = 3
  · subst hk
    by_cases hp : p = d + lo
    · subst hp
      rw [up_i, cpM_in (Nat.le_refl _) h]
    · rw [up_j hp]
      unfold cpM
      by_cases c : d + (lo + 1) ≤ p ∧ p < d + hi
      · rw [if_pos ⟨rfl, c⟩, if_pos ⟨rfl, by omega, c.2⟩]
      · rw [if_neg (fun q => c q.2), if_neg (fun q => by omega)]
  · rw [up_k hk, cpM_ne hk, cpM_ne hk]
theorem copy_LM {σ : Sto} {a i b j c : Nat} (ha : a < 8) (hb : b < 8) (hi : i + c ≤ 40) (hj : j + c ≤ 40) : ∀ (m t n : Nat), t + m = c → m < n → fX10_copy_L120 n (if j ≤ i then cpM σ (40 * a + i) (40 * b + j) 0 t else cpM σ (40 * a + i) (40 * b + j) (c - t) c) (nI a) (nI i) (nI b) (nI j) (nI c) (nI t) = some (up (cpM σ (40 * a + i) (40 * b + j) 0 c) 0 3 0, nI c) := by
  intro m
  induction m with
  | zero =>
    intro t n ht hn
    obtain ⟨n, rfl⟩ : ∃ q, n = q + 1 := ⟨n - 1, by omega⟩
    rw [fX10_copy_L120, if_pos (nI_le (by omega) (by omega)), show t = c by omega, Nat.sub_self]
    unfold fX10_well
    simp only [un]
    split <;> rfl
  | succ m ih =>
    intro t n ht hn
    obtain ⟨n, rfl⟩ : ∃ q, n = q + 1 := ⟨n - 1, by omega⟩
    have ih' := ih (t + 1) n (by omega) (by omega)
    rw [fX10_copy_L120, if_neg (nI_ge (by omega) (by omega))]
    unfold fX10_copy_j145
    simp only [un]
    rw [n32_40, n32_1]
    simp only [pk_mul, nI_add]
    by_cases d : j ≤ i
    · rw [if_pos d] at ih' ⊢
      rw [if_pos (nI_le d (by omega)), vin_t (by omega) (by decide), gd_t, vin_t (by omega) (by decide), gd_t, nI_clamp (by omega), nI_clamp (by omega), cpM_out (by omega), cpM_up (Nat.zero_le _)]
      exact ih'
    · rw [if_neg d] at ih' ⊢
      rw [if_neg (nI_ge (by omega) (by omega)), pk_sub (by omega), pk_sub (by omega), show c - 1 - t = c - (t + 1) by omega]
      simp only [nI_add]
      rw [vin_t (by omega) (by decide), gd_t, vin_t (by omega) (by decide), gd_t, nI_clamp (by omega), nI_clamp (by omega), cpM_out (by omega)]
      have e := cpM_dn (σ := σ) (s := 40 * a + i) (d := 40 * b + j) (lo := c - (t + 1)) (hi := c) (by omega)
      rw [show c - (t + 1) + 1 = c - t by omega] at e
      rw [e]
      exact ih'
theorem l_add (x y : Int32) : (x.toInt64 + y.toInt64).toInt = x.toInt + y.toInt := by
  rw [Int64.toInt_add, i64_nI, i64_nI]
  have h1 := Int32.toInt_lt x
  have h2 := Int32.le_toInt x
  have h3 := Int32.toInt_lt y
  have h4 := Int32.le_toInt y
  exact Int.bmod_eq_of_le (by omega) (by omega)
theorem lcmp_le (x y : Int64) : lg_cmp x y ≤ 0 ↔ x.toInt ≤ y.toInt := by
  have := lcmp_gt x y
  rw [Int32.le_iff_toInt_le]
  rw [Int32.lt_iff_toInt_lt] at this
  omega
theorem op_copy {σx σm : Sto} (h : Inv σx σm) (a1 : Int32) (a2 : Int32) (a3 : Int32) (a4 : Int32) (a5 : Int32) : ∃ qx qm, fX9_copy σx a1 a2 a3 a4 a5 = some qx ∧ fX10_copy σm a1 a2 a3 a4 a5 = some qm ∧ qx.2 = qm.2 ∧ Inv qx.1 qm.1 := by
  unfold fX9_copy fX10_copy fX4_findingBetween
  rcases g_row a1 with ⟨i1, e1, e2⟩ | ⟨_, e1, e2⟩
  · rw [e1, e2, if_neg one_n0, if_neg one_n0]
    rcases g_row a3 with ⟨i3, e1, e2⟩ | ⟨_, e1, e2⟩
    · rw [e1, e2, if_neg one_n0, if_neg one_n0]
      obtain ⟨a, _, ha, rfl⟩ := inR_of i1
      obtain ⟨b, _, hb, rfl⟩ := inR_of i3
      rw [vin_t ha (by decide), vin_t hb (by decide)]
      simp only [gd_t]
      rw [nI_clamp (show a < 2 ^ 31 by omega), nI_clamp (show b < 2 ^ 31 by omega)]
      rcases miss_X ha (h.2.2.2.1 a ha).1 with ⟨q, q1, q2⟩ | ⟨q, l, s, h1, h2, h3, h4, h5, h6⟩
      · rw [q, bd_s, if_neg one_n0, bd_s, if_neg one_n0, q2, if_pos (show (-1 : Int32) < 0 by decide)]
        exact op_found h 1
      · rw [q, bd_s, if_pos rfl, h6, if_neg (nI_pos (by omega))]
        rcases miss_X hb (h.2.2.2.1 b hb).1 with ⟨q', q1, q2⟩ | ⟨q', l', s', h1', h2', h3', h4', h5', h6'⟩
        · rw [q', bd_s, if_neg one_n0, bd_s, if_neg one_n0, q2, if_neg (show ¬ (0 : Int32) ≤ -1 by decide)]
          exact op_found h 1
        · rw [q', bd_s, if_pos rfl, h6', if_pos (show (0 : Int32) ≤ nI s' from nI_pos' (by omega)), h3, h3', h4, h4']
          by_cases cl : nI l = nI l'
          · rw [if_pos cl, if_pos cl]
            have l0 : ∀ x : Int32, x < 0 ↔ x.toInt < 0 := fun x => Int32.lt_iff_toInt_lt
            rcases places_X (x := a2) (y := a5) ha h5 h2 with ⟨p1, pl⟩ | ⟨p1, pl⟩
            · rw [pl, bd_s, if_neg one_n0]
              rcases places_X (x := a4) (y := a5) hb h5' h2' with ⟨p2, pl'⟩ | ⟨p2, pl'⟩
              · rw [pl', bd_s, if_neg one_n0, bd_s, if_pos rfl, if_neg (by rw [l0]; omega), if_neg (by rw [l0]; omega), if_neg (by rw [l0]; omega), if_neg (by rw [lcmp_gt, l_add, i64_nI, nI_toInt (by omega)]; omega), if_pos (by rw [lcmp_le, l_add, i64_nI, nI_toInt (by omega)]; omega)]
                obtain ⟨i, _, hi, rfl⟩ := inR_of (x := a2) (a := 0) (b := 41) ⟨by omega, by omega⟩
                obtain ⟨j, _, hj, rfl⟩ := inR_of (x := a4) (a := 0) (b := 41) ⟨by omega, by omega⟩
                obtain ⟨c, _, hc, rfl⟩ := inR_of (x := a5) (a := 0) (b := 41) ⟨by omega, by omega⟩
                rw [nI_toInt (by omega), nI_toInt (by omega)] at p1 p2
                have cm := copy_LM (σ := σm) ha hb (show i + c ≤ 40 by omega) (show j + c ≤ 40 by omega) c 0 fu (by omega) (fu_gt (by omega))
                rw [Nat.sub_zero, cpM_0, cpM_0] at cm
                have cm : fX10_copy_L120 fu σm (nI a) (nI i) (nI b) (nI j) (nI c) 0 = some (up (cpM σm (40 * a + i) (40 * b + j) 0 c) 0 3 0, nI c) := by
                  have e : (if j ≤ i then σm else σm) = σm := by split <;> rfl
                  rw [e] at cm
                  exact cm
                unfold fX4_move fX9_unfound
                rw [vin_t ha (by decide), vin_t hb (by decide), gd_t, gd_t, cpok_t (by omega) (by omega) (by omega) (by omega) (by omega), gd_t, nI_clamp (by omega), nI_clamp (by omega), nI_clamp (by omega), nI_clamp (by omega), nI_clamp (by omega)]
                simp only [un, bd_s]
                refine mk2 rfl cm rfl (inv_rows h (fun k z0 z3 z4 z => ?_) (fun k z0 z1 z2 z3 => ?_) (fun q hq => ?_) ?_ (fun q hq => ⟨?_, fun p hp => ?_⟩))
                · rw [up_k z0, cpS_ne (by unfold itV; omega)]
                · rw [up_k z0, cpM_ne z3]
                · rw [up_j hq, cpM_ne (by decide)]
                · unfold iSt
                  rw [up_i, up_i]
                · unfold iRow
                  rw [up_k (show (3 : Nat) ≠ 0 by decide), up_k (show (2 : Nat) ≠ 0 by decide), up_k (show (1 : Nat) ≠ 0 by decide), up_k (show (4 : Nat) ≠ 0 by decide), cpM_ne (by decide), cpM_ne (by decide), cpS_ne (by unfold itV; omega), cpS_ne (by unfold itV; omega)]
                  exact (h.2.2.2.1 q hq).1
                · rw [up_k (show itV q ≠ 0 by unfold itV; omega), up_k (show (3 : Nat) ≠ 0 by decide)]
                  by_cases e : q = b
                  · subst e
                    rw [cpS_at]
                    by_cases c2 : j ≤ p ∧ p < j + c
                    · rw [pk_cpy_in c2.1 c2.2, show 40 * q + p = 40 * q + j + (p - j) by omega, cpM_in (Nat.zero_le _) (by omega), (h.2.2.2.1 a ha).2 _ (by omega), Nat.add_assoc]
                    · rw [pk_cpy_out (by omega), cpM_out (by omega)]
                      exact (h.2.2.2.1 q hq).2 p hp
                  · rw [cpS_ne (by unfold itV; omega), cpM_out (by omega)]
                    exact (h.2.2.2.1 q hq).2 p hp
              · rw [pl', bd_s, if_pos rfl, bd_s, if_neg (by decide), if_neg (by rw [l0]; omega)]
                by_cases d4 : a4 < 0
                · rw [if_pos d4]
                  exact op_found h 2
                · rw [if_neg d4, if_neg (by rw [l0]; omega), if_neg (by rw [lcmp_gt, l_add, i64_nI, nI_toInt (by omega)]; omega), if_neg (by rw [l0] at d4; rw [lcmp_le, l_add, i64_nI, nI_toInt (by omega)]; omega)]
                  exact op_found h 2
            · rw [pl, bd_s, if_pos rfl, bd_s, if_neg (by decide)]
              by_cases d2 : a2 < 0
              · rw [if_pos d2]
                exact op_found h 2
              · rw [if_neg d2]
                by_cases d4 : a4 < 0
                · rw [if_pos d4]
                  exact op_found h 2
                · rw [if_neg d4]
                  by_cases d5 : a5 < 0
                  · rw [if_pos d5]
                    exact op_found h 2
                  · rw [if_neg d5, if_pos (by rw [l0] at d2 d5; rw [lcmp_gt, l_add, i64_nI, nI_toInt (by omega)]; omega)]
                    exact op_found h 2
          · rw [if_neg cl, if_neg cl, bd_s, if_neg (by decide)]
            exact op_found h 5
    · rw [e1, e2, if_pos rfl, if_pos rfl]
      exact ⟨_, _, rfl, rfl, rfl, h⟩
  · rw [e1, e2, if_pos rfl, if_pos rfl]
    exact ⟨_, _, rfl, rfl, rfl, h⟩
