theorem vu_vu {α : Type} {f : Nat → α} {j : Nat} {a b : α} : va_up (va_up f j a) j b = va_up f j b := by
  funext i
  unfold va_up
  by_cases h : i = j
  · rw [if_pos h, if_pos h]
  · rw [if_neg h, if_neg h, if_neg h]
theorem hold_L {σm : Sto} {r s d : Nat} {u : Nat → Nat} (hu : ∀ j, j < 59 → σm 4 j = nI (u j)) (h : okD u) (hr : r < u 0) (hs : s < u 0) (hd : d ≤ 40) : ∀ (m y n n' y0 : Nat) (τ ρ : Sto), y + m = 10 → m < n → m < n' → VX τ 260 (va_up u (25 + s) y0) → τ 11 0 = nI 60 → eM ρ σm → ∃ τ' ρ' z, fX5_leastWall_L11 36 n τ (nI r) (nI s) (nI d) (nI y) = some (τ', z) ∧ fX10_hold_L34 n' ρ (nI r) (nI s) (nI d) (nI y) = some (ρ', z) ∧ (∀ k, k ≠ 12 → (k < 260 ∨ 268 ≤ k) → τ' k = τ k) ∧ eM ρ' σm := by
  have h0 := h.1.2.1
  have h1 := h.1.2.2.2.1
  have h4 := h.2
  intro m
  induction m with
  | zero =>
    intro y n n' y0 τ ρ hy hn hn' hx h60 hE
    obtain ⟨n, rfl⟩ : ∃ q, n = q + 1 := ⟨n - 1, by omega⟩
    obtain ⟨n', rfl⟩ : ∃ q, n' = q + 1 := ⟨n' - 1, by omega⟩
    refine ⟨τ, ρ, -1000000, ?_, ?_, fun _ _ _ => rfl, hE⟩
    · rw [fX5_leastWall_L11, n32_9, if_pos (nI_lt (by omega) (by omega))]
    · rw [fX10_hold_L34, n32_10, if_pos (nI_le (by omega) (by omega))]
  | succ m ih =>
    intro y n n' y0 τ ρ hy hn hn' hx h60 hE
    obtain ⟨n, rfl⟩ : ∃ q, n = q + 1 := ⟨n - 1, by omega⟩
    obtain ⟨n', rfl⟩ : ∃ q, n' = q + 1 := ⟨n' - 1, by omega⟩
    have ok' : okV (va_up u (25 + s) y) := okV_a h.1 (by omega)
    have e4 : va_up u (25 + s) y 4 = u 4 := vu_ne (by omega)
    have e0 : va_up u (25 + s) y 0 = u 0 := vu_ne (by omega)
    have okd := (ok_dys ok' (show va_up u (25 + s) y 4 + d ≤ 2000 by rw [e4]; omega)).1
    have hla := ok_la okd (r := r) (by omega)
    have hx2 : VX (up τ 263 s (nI y)) 260 (va_up u (25 + s) y) := by
      have := VX_wall (x := y) hx (show s < 10 by omega) (by rw [vu_ne (by omega)]; exact h1) (by rw [vu_ne (by omega)]; exact h0)
      rw [vu_vu] at this
      exact this
    obtain ⟨τ1, t1, t2, t3⟩ := tell_X (f := 11) (v := 260) (d := d) (most := 60) (by decide) (by decide) hx2 ok' (by rw [e4]; omega) (by rw [up_k (by decide)]; exact h60) (by omega) (by decide) (by decide)
    have hli := lavaIn_X (i := d) (r := r) t2 (Nat.le_refl _) (by rw [e0]; exact hr) (by rw [e0]; exact h0) (by omega) (by show d * 10 + 10 ≤ 610; omega) (by decide)
    have huρ : ∀ j, j < 59 → ρ 4 j = nI (u j) := fun j hj => by rw [hE 4 (by decide)]; exact hu j hj
    have l0 := lies_M (σ := ρ) (a := 6) (r := r) (k := 0) (u := dysN d (va_up u (25 + s) y)) (by omega) (by decide) (fun q hq => by have := ok_la okd hq; omega)
    rw [nI_sub0, Nat.sub_zero] at l0
    have X1 : fX5_leastWall_L11 36 (n + 1) τ (nI r) (nI s) (nI d) (nI y) = if nI (dysN d (va_up u (25 + s) y) (15 + r)) = (0 : Int32) then some (τ1, nI y) else fX5_leastWall_L11 36 n τ1 (nI r) (nI s) (nI d) (nI (y + 1)) := by
      rw [fX5_leastWall_L11, n32_9, if_neg (nI_nlt (by omega) (by omega)), vin_t (by omega) (by decide), gd_t, nI_clamp (by omega)]
      simp only [un]
      rw [t1, bd_s, hli, bd_s, n32_1, nI_add]
    have M1 : fX10_hold_L34 (n' + 1) ρ (nI r) (nI s) (nI d) (nI y) = if nI (if 0 ≤ r ∧ 0 < dysN d (va_up u (25 + s) y) (15 + r) then 1 else 0) = (0 : Int32) then some (SM ρ 6 (dysN d (va_up u (25 + s) y)), nI y) else fX10_hold_L34 n' (SM ρ 6 (dysN d (va_up u (25 + s) y))) (nI r) (nI s) (nI d) (nI (y + 1)) := by
      rw [fX10_hold_L34, n32_10, if_neg (nI_ge (by omega) (by omega)), aside_0 huρ h.1, bd_s, n32_25, nI_add, vin_t (by omega) (by decide), gd_t, nI_clamp (by omega)]
      simp only [un]
      rw [SM_up (by omega), goes_by ok' (by rw [e4]; omega), bd_s, l0, bd_s, n32_1, nI_add]
    rw [X1, M1]
    by_cases c : dysN d (va_up u (25 + s) y) (15 + r) = 0
    · rw [if_pos (by rw [c]; rfl), if_pos (by rw [if_neg (fun q => by omega)]; rfl)]
      exact ⟨_, _, _, rfl, rfl, fun k hk hk2 => by rw [t3 k hk, up_k (by omega)], eM_SM hE⟩
    · rw [if_neg (nI_n0 (by omega) c), if_neg (by rw [if_pos ⟨Nat.zero_le _, by omega⟩]; decide)]
      obtain ⟨τ', ρ', z, r1, r2, r3, r4⟩ := ih (y + 1) n n' y τ1 (SM ρ 6 (dysN d (va_up u (25 + s) y))) (by omega) (by omega) (by omega) (VX_fr hx2 (fun k h1 h2 => t3 k (by omega))) (by rw [t3 11 (by decide), up_k (by decide)]; exact h60) (eM_SM hE)
      exact ⟨τ', ρ', z, r1, r2, fun k hk hk2 => by rw [r3 k hk hk2, t3 k hk, up_k (by omega)], r4⟩
theorem op_hold {σx σm : Sto} (h : Inv σx σm) (a1 : Int32) (a2 : Int32) (a3 : Int32) : ∃ qx qm, fX9_hold σx a1 a2 a3 = some qx ∧ fX10_hold σm a1 a2 a3 = some qm ∧ qx.2 = qm.2 ∧ Inv qx.1 qm.1 := by
  obtain ⟨u, hn⟩ := h.1
  unfold fX9_hold fX10_hold
  rcases g_room hn a1 with ⟨i1, ok, e1, e2⟩ | ⟨_, e1, e2⟩
  · rw [e1, e2, if_neg one_n0, if_neg one_n0]
    rcases g_room hn a2 with ⟨i2, _, e1, e2⟩ | ⟨_, e1, e2⟩
    · rw [e1, e2, if_neg one_n0, if_neg one_n0]
      rcases g_in (x := a3) (a := 1) (b := 40) (ax := 1) (bx := 40) (A := 1) (B := 40) rfl rfl rfl rfl (by decide) (by decide) with ⟨i3, e1, e2⟩ | ⟨_, e1, e2⟩
      · rw [e1, e2, if_neg one_n0, if_neg one_n0]
        obtain ⟨r, _, hr, rfl⟩ := inR_of i1
        obtain ⟨s, _, hs, rfl⟩ := inR_of i2
        obtain ⟨d, _, hd, rfl⟩ := inR_of i3
        have hT := now_T hn
        obtain ⟨b1, b2⟩ := become_X (σ := σx) (v0 := 260) (v1 := 36) (by decide) hn.1 hT.1 hT.2
        obtain ⟨τ', ρ', z, r1, r2, r3, r4⟩ := hold_L hn.2.1 ok hr hs (show d ≤ 40 by omega) 10 0 fu fu (u (25 + s)) (fX8_become σx 260 36) σm (by omega) (fu_gt (by decide)) (fu_gt (by decide)) (by rw [vu_id]; exact b1) (by rw [b2 11 (by decide)]; exact mo60 h) (fun _ _ => rfl)
        refine ⟨(τ', z), (ρ', z), ?_, ?_, rfl, inv_e h (fun k h1 h2 => (r3 k h1 h2).trans (b2 k h2)) r4⟩
        · unfold fX5_leastWall
          simp only [un]
          rw [n32_0, r1, bd_s]
        · rw [n32_0]
          exact r2
      · rw [e1, e2, if_pos rfl, if_pos rfl]
        exact ⟨_, _, rfl, rfl, rfl, h⟩
    · rw [e1, e2, if_pos rfl, if_pos rfl]
      exact ⟨_, _, rfl, rfl, rfl, h⟩
  · rw [e1, e2, if_pos rfl, if_pos rfl]
    exact ⟨_, _, rfl, rfl, rfl, h⟩
theorem spare_L {σm : Sto} {d : Nat} {u : Nat → Nat} (hu : ∀ j, j < 59 → σm 4 j = nI (u j)) (h : okD u) (hd : d ≤ 40) : ∀ (m n n' : Nat) (σ ρ : Sto), m ≤ 21 → m < n → m < n' → VX σ 36 u → eM ρ σm → ∃ σ' ρ' z, fX5_mostFeed_L3 36 n σ (nI d) (nI m - nI 1) = some (σ', z) ∧ fX10_spare_L28 n' ρ (nI d) (nI m - nI 1) = some (ρ', z) ∧ (∀ k, (k < 260 ∨ 268 ≤ k) → σ' k = σ k) ∧ eM ρ' σm := by
  have h0 := h.1.2.1
  have h1 := h.1.2.2.2.1
  have h4 := h.2
  intro m
  induction m with
  | zero =>
    intro n n' σ ρ hm hn hn' hx hE
    obtain ⟨n, rfl⟩ : ∃ q, n = q + 1 := ⟨n - 1, by omega⟩
    obtain ⟨n', rfl⟩ : ∃ q, n' = q + 1 := ⟨n' - 1, by omega⟩
    refine ⟨σ, ρ, -1000000, ?_, ?_, fun _ _ => rfl, hE⟩
    · rw [fX5_mostFeed_L3, if_pos (by decide)]
    · rw [fX10_spare_L28, if_pos (by decide)]
  | succ m ih =>
    intro n n' σ ρ hm hn hn' hx hE
    obtain ⟨n, rfl⟩ : ∃ q, n = q + 1 := ⟨n - 1, by omega⟩
    obtain ⟨n', rfl⟩ : ∃ q, n' = q + 1 := ⟨n' - 1, by omega⟩
    have ok' : okV (va_up u 2 m) := okV_a h.1 (by omega)
    have e4 : va_up u 2 m 4 = u 4 := vu_ne (by omega)
    have okd := (ok_dys ok' (show va_up u 2 m 4 + d ≤ 2000 by rw [e4]; omega)).1
    obtain ⟨b1, b2⟩ := become_X (σ := σ) (v0 := 260) (v1 := 36) (by decide) hx h0 h1
    have b3 : VX (up (fX8_become σ 260 36) 260 2 (nI m)) 260 (va_up u 2 m) := VX_feed b1
    obtain ⟨τ, t1, t2, t3⟩ := trial_X (d := d) ok' (by rw [e4]; omega) b3
    have fr : ∀ k, (k < 260 ∨ 268 ≤ k) → τ k = σ k := fun k hk => by rw [t3 k hk, up_k (by omega), b2 k hk]
    have hxτ : VX τ 36 u := VX_fr hx (fun k h1 h2 => fr k (by omega))
    have huρ : ∀ j, j < 59 → ρ 4 j = nI (u j) := fun j hj => by rw [hE 4 (by decide)]; exact hu j hj
    have huρ' : ∀ j, j < 59 → SM ρ 6 (dysN d (va_up u 2 m)) 4 j = nI (u j) := fun j hj => by rw [SM_ne (by decide)]; exact huρ j hj
    rw [pk_sub (by omega), Nat.add_sub_cancel]
    have X1 : fX5_mostFeed_L3 36 (n + 1) σ (nI d) (nI m) = if nI (btN (fun k => dysN d (va_up u 2 m) (53 + k) == 2) (dysN d (va_up u 2 m) 1)) = nI (btN (fun k => u (53 + k) == 2) (u 1)) then some (τ, nI m) else fX5_mostFeed_L3 36 n τ (nI d) (nI m - nI 1) := by
      rw [fX5_mostFeed_L3, if_neg (nI_pos (by omega))]
      simp only [un]
      rw [t1, bd_s, stones_X t2 okd, bd_s, stones_X hxτ h.1, bd_s, nI_m1]
    have M1 : fX10_spare_L28 (n' + 1) ρ (nI d) (nI m) = if nI (btN (fun k => dysN d (va_up u 2 m) (53 + k) == 2) (dysN d (va_up u 2 m) 1)) = nI (btN (fun k => u (53 + k) == 2) (u 1)) then some (SM ρ 6 (dysN d (va_up u 2 m)), nI m) else fX10_spare_L28 n' (SM ρ 6 (dysN d (va_up u 2 m))) (nI d) (nI m - nI 1) := by
      rw [fX10_spare_L28, if_neg (nI_pos (by omega)), aside_0 huρ h.1, bd_s]
      simp only [un]
      rw [SM_up (by decide), goes_by ok' (by rw [e4]; omega), bd_s, n32_2, those_M SM6 okd (by decide), bd_s, those_M huρ' h.1 (by decide), bd_s, nI_m1]
    rw [X1, M1]
    by_cases c : nI (btN (fun k => dysN d (va_up u 2 m) (53 + k) == 2) (dysN d (va_up u 2 m) 1)) = nI (btN (fun k => u (53 + k) == 2) (u 1))
    · rw [if_pos c, if_pos c]
      exact ⟨_, _, _, rfl, rfl, fr, eM_SM hE⟩
    · rw [if_neg c, if_neg c]
      obtain ⟨σ', ρ', z, r1, r2, r3, r4⟩ := ih n n' τ (SM ρ 6 (dysN d (va_up u 2 m))) (by omega) (by omega) (by omega) hxτ (eM_SM hE)
      exact ⟨σ', ρ', z, r1, r2, fun k hk => by rw [r3 k hk, fr k hk], r4⟩
theorem op_spare {σx σm : Sto} (h : Inv σx σm) (a1 : Int32) : ∃ qx qm, fX9_spare σx a1 = some qx ∧ fX10_spare σm a1 = some qm ∧ qx.2 = qm.2 ∧ Inv qx.1 qm.1 := by
  obtain ⟨u, hn⟩ := h.1
  unfold fX9_spare fX10_spare
  rcases g_str hn with ⟨ok, e1, e2⟩ | ⟨e1, e2⟩
  · rw [e1, e2, if_neg one_n0, if_neg one_n0]
    rcases g_in (x := a1) (a := 1) (b := 40) (ax := 1) (bx := 40) (A := 1) (B := 40) rfl rfl rfl rfl (by decide) (by decide) with ⟨i1, e1, e2⟩ | ⟨_, e1, e2⟩
    · rw [e1, e2, if_neg one_n0, if_neg one_n0]
      obtain ⟨d, _, hd, rfl⟩ := inR_of i1
      obtain ⟨σ', ρ', z, r1, r2, r3, r4⟩ := spare_L hn.2.1 ok (show d ≤ 40 by omega) 21 fu fu σx σm (by decide) (fu_gt (by decide)) (fu_gt (by decide)) hn.1 (fun _ _ => rfl)
      refine ⟨(σ', z), (ρ', z), ?_, ?_, rfl, inv_e h (fun k _ h2 => r3 k h2) r4⟩
      · unfold fX5_mostFeed
        rw [show fX5_mostFeed_L3 36 fu σx (nI d) (20 : Int32) = some (σ', z) from r1, bd_s]
      · exact r2
    · rw [e1, e2, if_pos rfl, if_pos rfl]
      exact ⟨_, _, rfl, rfl, rfl, h⟩
  · rw [e1, e2, if_pos rfl, if_pos rfl]
    exact ⟨_, _, rfl, rfl, rfl, h⟩
