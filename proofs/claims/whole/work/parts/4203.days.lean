theorem pc_congr {so ro d : Nat} {L M : Nat → Nat} (hr : ro < 10) (h : ∀ r, r < 10 → L r = M r) : pcN so ro L d = pcN so ro M d := by
  unfold pcN
  rw [h ro hr, h (ro - 1) (by omega), h (ro - 2) (by omega)]
theorem tg_to {u : Nat → Nat} {k : Nat} (hk : k < 6) (hr : u (47 + k) < 10) : tgN (lw u (lavN u)) k = toN u k := by
  unfold tgN toN
  rw [lw_o (by omega), lw_o (by omega), lw_o (by omega)]
  rw [pc_congr hr (fun r h => lw_la h)]
theorem day_eq {u : Nat → Nat} (h : okV u) : ∀ j, j < 59 → va_up (p2N (p1N (lw u (lavN u)) (u 1)) (u 1)) 4 (p1N (lw u (lavN u)) (u 1) 4 + 1) j = dayN u j := by
  have hR := h.2.1
  have h1 := h.2.2.2.1
  have hk' := h.2.2.2.2.2.2.2.2.2.2.2
  intro j hj
  by_cases e4 : j = 4
  · subst e4
    rw [vu_self, day_4, p1_lo (by omega) _ h1, lw_o (by omega)]
  rw [vu_ne e4]
  by_cases e15 : j < 15
  · rw [p2_lo (by omega) _ h1, p1_lo (by omega) _ h1, lw_o (by omega), day_lo e15 e4]
  by_cases e25 : j < 25
  · obtain ⟨r, rfl⟩ : ∃ r, j = 15 + r := ⟨j - 15, by omega⟩
    rw [p2_lo (by omega) _ h1, p1_lo (by omega) _ h1, lw_la (by omega), day_la (by omega)]
  by_cases e47 : j < 47
  · rw [p2_lo (by omega) _ h1, p1_lo (by omega) _ h1, lw_o (by omega), day_mid (by omega) e47]
  by_cases e53 : j < 53
  · obtain ⟨k, rfl⟩ : ∃ k, j = 47 + k := ⟨j - 47, by omega⟩
    have hk6 : k < 6 := by omega
    rw [p2_lo (by omega) _ h1, day_ro hk6]
    unfold roN
    by_cases hk : k < u 1
    · have hr := (hk' k hk).2.2.2.2.1
      rw [(p1_at hk6 (by rw [lw_o (by omega)]; omega) (u 1) hk h1).1, tg_to hk6 (by omega), lw_o (by omega), lw_o (by omega), lw_o (by omega)]
      by_cases d1 : u (53 + k) = 0
      · rw [if_pos (⟨hk, d1⟩ : k < u 1 ∧ u (53 + k) = 0)]
        by_cases d2 : u 0 ≤ toN u k
        · rw [if_pos d2, if_neg (fun q => by omega)]
        · rw [if_neg d2, if_pos ⟨d1, by omega⟩]
      · rw [if_neg (fun q => d1 q.1), if_neg (fun q => d1 q.2)]
    · rw [(p1_un hk6 (u 1) (by omega)).1, lw_o (by omega), if_neg (fun q => hk q.1)]
  · obtain ⟨k, rfl⟩ : ∃ k, j = 53 + k := ⟨j - 53, by omega⟩
    have hk6 : k < 6 := by omega
    rw [day_is hk6]
    unfold isN
    by_cases hk : k < u 1
    · obtain ⟨a1, a2, a3, a4, a5, a6⟩ := hk' k hk
      have hw : lw u (lavN u) (47 + k) < 10 := by rw [lw_o (by omega)]; omega
      obtain ⟨b1, b2⟩ := p1_at (u := lw u (lavN u)) hk6 hw (u 1) hk h1
      rw [tg_to hk6 (by omega), lw_o (j := 53 + k) (by omega), lw_o (j := 47 + k) (by omega), lw_o (j := 0) (by omega)] at b1
      rw [tg_to hk6 (by omega), lw_o (j := 53 + k) (by omega), lw_o (j := 0) (by omega)] at b2
      have b3 : p1N (lw u (lavN u)) (u 1) (47 + k) < 10 := by
        rw [b1]
        split
        · omega
        · omega
      rw [p2_at hk6 b3 (u 1) hk h1]
      have c41 : p1N (lw u (lavN u)) (u 1) (41 + k) = u (41 + k) := by rw [p1_lo (by omega) _ h1, lw_o (by omega)]
      have c15 : p1N (lw u (lavN u)) (u 1) (15 + p1N (lw u (lavN u)) (u 1) (47 + k)) = lavN u (p1N (lw u (lavN u)) (u 1) (47 + k)) := by rw [p1_lo (by omega) _ h1, lw_la b3]
      rw [c41, c15, b1, b2]
      by_cases d1 : u (53 + k) = 0
      · rw [if_pos (⟨hk, d1⟩ : k < u 1 ∧ u (53 + k) = 0)]
        by_cases d2 : u 0 ≤ toN u k
        · rw [if_pos (⟨d1, d2⟩ : u (53 + k) = 0 ∧ u 0 ≤ toN u k), if_pos d2, if_neg (fun q => by omega)]
        · rw [if_neg (show ¬ (u (53 + k) = 0 ∧ u 0 ≤ toN u k) from fun q => d2 q.2), if_neg d2, if_pos (⟨d1, by omega⟩ : u (53 + k) = 0 ∧ toN u k < u 0), d1]
          by_cases d3 : u (41 + k) ≤ lavN u (toN u k)
          · rw [if_pos ⟨rfl, d3⟩, if_pos d3]
          · rw [if_neg (fun q => d3 q.2), if_neg d3]
      · rw [if_neg (show ¬ (u (53 + k) = 0 ∧ u 0 ≤ toN u k) from fun q => d1 q.1), if_neg (show ¬ (k < u 1 ∧ u (53 + k) = 0) from fun q => d1 q.2), if_neg (fun q => d1 q.1)]
    · rw [p2_un hk6 (u 1) (by omega), (p1_un hk6 (u 1) (by omega)).2, lw_o (by omega), if_neg (fun q => hk q.1)]
theorem passes_M {σ : Sto} {a : Nat} {u : Nat → Nat} (h : okV u) : fX10_passes (SM σ a u) a = some (SM σ a (dayN u)) := by
  have hR := h.2.1
  have h1 := h.2.2.2.1
  have h4 := h.2.2.2.2.2.2.1
  have hk' := h.2.2.2.2.2.2.2.2.2.2.2
  have hla : ∀ q, q < 10 → lavN u q < 2 ^ 30 := fun q hq => by
    by_cases hq2 : u 0 ≤ q
    · rw [lav_hi h hq2 hq]
      decide
    · have := sm_le (L := lavN u) (r := q) (n := u 0) (by omega)
      have := sm_lav h
      omega
  have e0 : lw u (lavN u) 0 = u 0 := lw_o (by omega)
  have e1 : lw u (lavN u) 1 = u 1 := lw_o (by omega)
  have f1 : p1N (lw u (lavN u)) (u 1) 1 = u 1 := by rw [p1_lo (by omega) _ h1, e1]
  unfold fX10_passes
  rw [flows_M h, bd_s, n32_0]
  have s1 := pass1_M (σ := σ) (a := a) (u := lw u (lavN u)) (fun σ_2 => fX10_passes_L40 a fu σ_2 (nI 0)) (by rw [e1]; exact h1) (by rw [e0]; exact hR) (fun k hk => by rw [lw_o (by omega)]; rw [e1] at hk; have := (hk' k hk).2.2.2.2.1; omega) (fun k hk => by rw [lw_o (by omega)]; rw [e1] at hk; exact ⟨(hk' k hk).1, (hk' k hk).2.1⟩) (fun k hk => by rw [lw_o (by omega)]; rw [e1] at hk; have := (hk' k hk).2.2.2.2.2; omega) (by rw [lw_o (by omega)]; omega) (fun q hq => by rw [lw_la hq]; exact hla q hq) (u 1) 0 fu (by rw [e1]; omega) (fu_gt (by omega))
  rw [e1] at s1
  refine s1.trans ?_
  have s2 := pass2_M (σ := σ) (a := a) (u := p1N (lw u (lavN u)) (u 1)) (by rw [f1]; exact h1) (fun k hk => by
      rw [f1] at hk
      have := (hk' k hk).2.2.2.2.1
      rw [(p1_at (by omega) (by rw [lw_o (by omega)]; omega) (u 1) hk h1).1, lw_o (j := 0) (by omega), lw_o (j := 47 + k) (by omega)]
      split <;> omega) (fun k hk => by
      rw [f1] at hk
      have := (hk' k hk).2.2.2.1
      rw [p1_lo (by omega) _ h1, lw_o (by omega)]
      omega) (fun k hk => by
      rw [f1] at hk
      have := (hk' k hk).2.2.2.2
      rw [(p1_at (by omega) (by rw [lw_o (by omega)]; omega) (u 1) hk h1).2, lw_o (j := 53 + k) (by omega)]
      split <;> omega) (by rw [p1_lo (by omega) _ h1, lw_o (by omega)]; omega) (fun q hq => by rw [p1_lo (by omega) _ h1, lw_la hq]; exact hla q hq) (u 1) 0 fu (by rw [f1]; omega) (fu_gt (by omega))
  rw [f1] at s2
  refine s2.trans ?_
  rw [SM_congr (day_eq h)]
theorem goesBy_M {σ : Sto} {a : Nat} {u : Nat → Nat} (h : okV u) {d : Nat} (hd : u 4 + d ≤ 2000) : ∀ (m i n : Nat), i + m = d → m < n → fX10_goesBy_L2 a n (SM σ a (dysN i u)) (nI d) (nI i) = some (SM σ a (dysN d u)) := by
  intro m
  induction m with
  | zero =>
    intro i n hi hn
    obtain ⟨n, rfl⟩ : ∃ q, n = q + 1 := ⟨n - 1, by omega⟩
    rw [fX10_goesBy_L2, if_pos (nI_le (by omega) (by omega)), show i = d by omega]
  | succ m ih =>
    intro i n hi hn
    obtain ⟨n, rfl⟩ : ∃ q, n = q + 1 := ⟨n - 1, by omega⟩
    rw [fX10_goesBy_L2, if_neg (nI_ge (by omega) (by omega)), passes_M (ok_dys h (by omega)).1, bd_s]
    simp only [un]
    rw [n32_1, nI_add]
    exact ih (i + 1) n (by omega) (by omega)
theorem goes_by {σ : Sto} {a d : Nat} {u : Nat → Nat} (h : okV u) (hd : u 4 + d ≤ 2000) : fX10_goesBy (SM σ a u) a (nI d) = some (SM σ a (dysN d u)) := by
  unfold fX10_goesBy
  rw [n32_0]
  exact goesBy_M h hd d 0 fu (by omega) (fu_gt (by have := h.2.2.2.2.2.2.1; omega))
