/-! a street with one number changed: dam, hold, spare -/
theorem okV_a {u : Nat → Nat} {j x : Nat} (h : okV u) (hj : j = 2 ∧ x ≤ 20 ∨ (5 ≤ j ∧ j < 15 ∨ 25 ≤ j ∧ j < 35) ∧ x ≤ 9) : okV (va_up u j x) := by
  obtain ⟨h0, h1, h2, h3, h4, h5, h6, h7, h8, h9, h10, h11⟩ := h
  have e0 : va_up u j x 0 = u 0 := vu_ne (by omega)
  have e1 : va_up u j x 1 = u 1 := vu_ne (by omega)
  have e3 : va_up u j x 3 = u 3 := vu_ne (by omega)
  have e4 : va_up u j x 4 = u 4 := vu_ne (by omega)
  refine ⟨by omega, by omega, by omega, by omega, ?_, by omega, by omega, fun r hr => ?_, fun r hr => ?_, fun r hr hr2 => ?_, ?_, fun k hk => ?_⟩
  · unfold va_up
    split
    · omega
    · exact h4
  · unfold va_up
    split
    · omega
    · exact h7 r hr
  · unfold va_up
    split
    · omega
    · exact h8 r hr
  · rw [e0] at hr
    rw [vu_ne (by omega)]
    exact h9 r hr hr2
  · rw [e0, e4, sm_congr (M := fun r => u (15 + r)) (fun r hr => vu_ne (by omega))]
    exact h10
  · rw [e1] at hk
    rw [vu_ne (by omega), vu_ne (by omega), vu_ne (by omega), vu_ne (by omega), vu_ne (by omega)]
    exact h11 k hk
theorem wh_a {u : Nat → Nat} {j x k : Nat} (hj : j < 47) : whN (va_up u j x) k = whN u k := by
  unfold whN
  rw [vu_ne (by omega), vu_ne (by omega)]
theorem VX_wall {σ : Sto} {v r x : Nat} {u : Nat → Nat} (hx : VX σ v u) (hr : r < 10) (h1 : u 1 ≤ 6) (h0 : u 0 ≤ 10) : VX (up σ (v + 3) r (nI x)) v (va_up u (25 + r) x) := by
  obtain ⟨x1, x2, x3⟩ := hx
  refine ⟨fun i hi => ?_, fun q hq => ?_, fun k hk => ?_⟩
  · rw [up_k (by omega), vu_ne (by omega), x1 i hi]
  · rw [vu_ne (by omega)] at hq
    obtain ⟨y1, y2, y3⟩ := x2 q hq
    refine ⟨by rw [up_k (by omega), vu_ne (by omega)]; exact y1, by rw [up_k (by omega), vu_ne (by omega)]; exact y2, ?_⟩
    by_cases e : q = r
    · subst e
      rw [up_i, vu_self]
    · rw [up_j e, vu_ne (by omega)]
      exact y3
  · rw [vu_ne (by omega)] at hk
    rw [up_k (by omega), up_k (by omega), up_k (by omega), up_k (by omega), vu_ne (by omega), vu_ne (by omega), vu_ne (by omega), wh_a (by omega)]
    exact x3 k hk
theorem VX_feed {σ : Sto} {v x : Nat} {u : Nat → Nat} (hx : VX σ v u) : VX (up σ v 2 (nI x)) v (va_up u 2 x) := by
  obtain ⟨x1, x2, x3⟩ := hx
  refine ⟨fun i hi => ?_, fun q hq => ?_, fun k hk => ?_⟩
  · by_cases e : i = 2
    · subst e
      rw [up_i, vu_self]
    · rw [up_j e, vu_ne e, x1 i hi]
  · rw [vu_ne (by decide)] at hq
    rw [up_k (by omega), up_k (by omega), up_k (by omega), vu_ne (by omega), vu_ne (by omega), vu_ne (by omega)]
    exact x2 q hq
  · rw [vu_ne (by decide)] at hk
    rw [up_k (by omega), up_k (by omega), up_k (by omega), up_k (by omega), vu_ne (by omega), vu_ne (by omega), vu_ne (by omega), wh_a (by omega)]
    exact x3 k hk
def dmN (u : Nat → Nat) (x d r : Nat) : Nat := pop6 (btN (fun k => dysN d (va_up u (25 + r) x) (53 + k) == 2) (u 1))
theorem pop_le (b : Nat) : pop6 b ≤ 6 := by
  unfold pop6
  omega
theorem dam_X {σ : Sto} {r x d : Nat} {u : Nat → Nat} (hx : VX σ 36 u) (h : okD u) (hr : r < u 0) (hh : x ≤ 9) (hd : d ≤ 40) : ∃ σ', fX5_stonesWithDam σ 36 (nI r) (nI x) (nI d) = some (σ', nI (dmN u x d r)) ∧ ∀ k, (k < 260 ∨ 268 ≤ k) → σ' k = σ k := by
  have h0 := h.1.2.1
  have h1 := h.1.2.2.2.1
  have h4 := h.2
  have ok' : okV (va_up u (25 + r) x) := okV_a h.1 (by omega)
  have e4 : va_up u (25 + r) x 4 = u 4 := vu_ne (by omega)
  have e1 : va_up u (25 + r) x 1 = u 1 := vu_ne (by omega)
  obtain ⟨b1, b2⟩ := become_X (σ := σ) (v0 := 260) (v1 := 36) (by decide) hx h0 h1
  have b3 : VX (up (fX8_become σ 260 36) 263 r (nI x)) 260 (va_up u (25 + r) x) := VX_wall b1 (by omega) h1 h0
  obtain ⟨τ, t1, t2, t3⟩ := trial_X (d := d) ok' (by rw [e4]; omega) b3
  have okd := (ok_dys ok' (show va_up u (25 + r) x 4 + d ≤ 2000 by rw [e4]; omega)).1
  refine ⟨τ, ?_, fun k hk => by rw [t3 k hk, up_k (by omega), b2 k hk]⟩
  unfold fX5_stonesWithDam
  simp only [un]
  rw [vin_t (by omega) (by decide), gd_t, nI_clamp (by omega), t1, bd_s, stones_X t2 okd, bd_s, bits_X _ (bt_64 okd.2.2.2.1), dys_lo (j := 1) (by decide) (by decide), e1]
  rfl
/-- the reference's store but for what is laid aside -/
def eM (ρ σm : Sto) : Prop := ∀ k, k ≠ 6 → ρ k = σm k
theorem eM_SM {ρ σm : Sto} {w : Nat → Nat} (h : eM ρ σm) : eM (SM ρ 6 w) σm := fun k hk => by rw [SM_ne hk, h k hk]
theorem inv_e {σx σm τx τm : Sto} (h : Inv σx σm) (ex : ∀ k, k ≠ 12 → (k < 260 ∨ 268 ≤ k) → τx k = σx k) (hm : eM τm σm) : Inv τx τm :=
  inv_fr h (fun k h1 h2 => ex k (fun q => h2 (by unfold scX; omega)) (Or.inl (by unfold scX at h2; omega))) (by rw [ex 21 (by decide) (by decide)]) (fun k _ _ h6 _ => hm k h6) (fun j _ => by rw [hm 0 (by decide)])
theorem dam_M {ρ : Sto} {r x d : Nat} {u : Nat → Nat} {α : Type} (f : Sto → Int32 → Option α) (hu : ∀ j, j < 59 → ρ 4 j = nI (u j)) (h : okD u) (hr : r < u 0) (hh : x ≤ 9) (hd : d ≤ 40) : (bd (fX10_laysAside ρ (0 : Int32)) fun q_1 => gd (vin ((25 : Int32) + nI r) 59) (un (up q_1 6 (((25 : Int32) + nI r).toNatClampNeg) (nI x)) fun σ_3 => bd (fX10_goesBy σ_3 6 (nI d)) fun q_4 => bd (fX10_stones q_4 6) fun q_5 => f q_4 q_5)) = f (SM ρ 6 (dysN d (va_up u (25 + r) x))) (nI (dmN u x d r)) := by
  have h0 := h.1.2.1
  have h4 := h.2
  have ok' : okV (va_up u (25 + r) x) := okV_a h.1 (by omega)
  have e4 : va_up u (25 + r) x 4 = u 4 := vu_ne (by omega)
  have e1 : va_up u (25 + r) x 1 = u 1 := vu_ne (by omega)
  have okd := (ok_dys ok' (show va_up u (25 + r) x 4 + d ≤ 2000 by rw [e4]; omega)).1
  rw [aside_0 (u := u) hu h.1, bd_s, n32_25, nI_add, vin_t (by omega) (by decide), gd_t, nI_clamp (by omega)]
  simp only [un]
  rw [SM_up (by omega), goes_by ok' (by rw [e4]; omega), bd_s, stones_M SM6 okd, bd_s, dys_lo (j := 1) (by decide) (by decide), e1]
  rfl
theorem dam_L {σm : Sto} {x d z : Nat} {u : Nat → Nat} (kk : Sto → Int32 → Int32 → Int32 → Option (Sto × Int32)) (hu : ∀ j, j < 59 → σm 4 j = nI (u j)) (h : okD u) (hh : x ≤ 9) (hd : d ≤ 40) : ∀ (m r n n' b c c' : Nat) (σ ρ : Sto), r + m = u 0 → m < n → m < n' → VX σ 36 u → eM ρ σm → c < 100 → c' < 100 → (r = 0 ∧ 7 ≤ c ∧ 7 ≤ c' ∨ c = dmN u x d b ∧ c' = c ∧ b < u 0) → ∃ σ' b' ρ', b' < u 0 ∧ fX5_bestDam_L10 36 n σ (nI x) (nI d) (nI b) (nI c) (nI r) = some (σ', nI b') ∧ fX10_dam_L54 kk n' ρ (nI x) (nI d) (nI z) (nI c') (nI b) (nI r) = kk ρ' (nI z) (nI (dmN u x d b')) (nI b') ∧ (∀ k, (k < 260 ∨ 268 ≤ k) → σ' k = σ k) ∧ eM ρ' σm := by
  have h0 := h.1.2.1
  have h3 := h.1.1
  intro m
  induction m with
  | zero =>
    intro r n n' b c c' σ ρ hr hn hn' hx hE hc hc' hI
    obtain ⟨n, rfl⟩ : ∃ q, n = q + 1 := ⟨n - 1, by omega⟩
    obtain ⟨n', rfl⟩ : ∃ q, n' = q + 1 := ⟨n' - 1, by omega⟩
    obtain ⟨q1, q2, q3⟩ : c = dmN u x d b ∧ c' = c ∧ b < u 0 := by
      rcases hI with q | q
      · omega
      · exact q
    refine ⟨σ, b, ρ, q3, ?_, ?_, fun _ _ => rfl, hE⟩
    · rw [fX5_bestDam_L10, hx.1 0 (by decide), if_pos (nI_le (by omega) (by omega))]
    · rw [fX10_dam_L54, hE 4 (by decide), hu 0 (by decide), if_pos (nI_le (by omega) (by omega)), q2, q1]
  | succ m ih =>
    intro r n n' b c c' σ ρ hr hn hn' hx hE hc hc' hI
    obtain ⟨n, rfl⟩ : ∃ q, n = q + 1 := ⟨n - 1, by omega⟩
    obtain ⟨n', rfl⟩ : ∃ q, n' = q + 1 := ⟨n' - 1, by omega⟩
    obtain ⟨σ1, d1, d2⟩ := dam_X hx h (show r < u 0 by omega) hh hd
    have p1 := pop_le (btN (fun k => dysN d (va_up u (25 + r) x) (53 + k) == 2) (u 1))
    have p1 : dmN u x d r ≤ 6 := p1
    have hx1 : VX σ1 36 u := VX_fr hx (fun k h1 h2 => d2 k (by omega))
    have huρ : ∀ j, j < 59 → ρ 4 j = nI (u j) := fun j hj => by rw [hE 4 (by decide)]; exact hu j hj
    by_cases cc : c ≤ dmN u x d r
    · obtain ⟨q1, q2, q3⟩ : c = dmN u x d b ∧ c' = c ∧ b < u 0 := by
        rcases hI with q | q
        · omega
        · exact q
      obtain ⟨σ', b', ρ', r1, r2, r3, r4, r5⟩ := ih (r + 1) n n' b c c' σ1 (SM ρ 6 (dysN d (va_up u (25 + r) x))) (by omega) (by omega) (by omega) hx1 (eM_SM hE) hc hc' (Or.inr ⟨q1, q2, q3⟩)
      refine ⟨σ', b', ρ', r1, ?_, ?_, fun k hk => by rw [r4 k hk, d2 k hk], r5⟩
      · rw [fX5_bestDam_L10, hx.1 0 (by decide), if_neg (nI_ge (by omega) (by omega)), d1, bd_s, if_pos (nI_le cc (by omega))]
        simp only [un]
        rw [n32_1, nI_add]
        exact r2
      · rw [fX10_dam_L54, huρ 0 (by decide), if_neg (nI_ge (by omega) (by omega)), dam_M _ huρ h (by omega) hh hd, if_pos (nI_le (by omega) (by omega)), less_M (by omega) (by omega), Nat.min_eq_left (by omega)]
        simp only [un]
        rw [n32_1, nI_add]
        exact r3
    · obtain ⟨σ', b', ρ', r1, r2, r3, r4, r5⟩ := ih (r + 1) n n' r (dmN u x d r) (dmN u x d r) σ1 (SM ρ 6 (dysN d (va_up u (25 + r) x))) (by omega) (by omega) (by omega) hx1 (eM_SM hE) (by omega) (by omega) (Or.inr ⟨rfl, rfl, by omega⟩)
      refine ⟨σ', b', ρ', r1, ?_, ?_, fun k hk => by rw [r4 k hk, d2 k hk], r5⟩
      · rw [fX5_bestDam_L10, hx.1 0 (by decide), if_neg (nI_ge (by omega) (by omega)), d1, bd_s, if_neg (nI_ge (by omega) (by omega))]
        simp only [un]
        rw [n32_1, nI_add]
        exact r2
      · rw [fX10_dam_L54, huρ 0 (by decide), if_neg (nI_ge (by omega) (by omega)), dam_M _ huρ h (by omega) hh hd, if_neg (nI_ge (by omega) (by omega)), less_M (by omega) (by omega), Nat.min_eq_right (by omega)]
        simp only [un]
        rw [n32_1, nI_add]
        exact r3
theorem op_dam {σx σm : Sto} (h : Inv σx σm) (a1 : Int32) (a2 : Int32) (a3 : Int32) : ∃ qx qm, fX9_dam σx a1 a2 a3 = some qx ∧ fX10_dam σm a1 a2 a3 = some qm ∧ qx.2 = qm.2 ∧ Inv qx.1 qm.1 := by
  obtain ⟨u, hn⟩ := h.1
  unfold fX9_dam fX10_dam fX10_isTwo
  rcases g_str hn with ⟨ok, e1, e2⟩ | ⟨e1, e2⟩
  · rw [e1, e2, if_neg one_n0, if_neg one_n0]
    rcases g_in (x := a1) (a := 1) (b := 9) (ax := 1) (bx := 9) (A := 1) (B := 9) rfl rfl rfl rfl (by decide) (by decide) with ⟨i1, e1, e2⟩ | ⟨_, e1, e2⟩
    · rw [e1, e2, if_neg one_n0, if_neg one_n0]
      rcases g_in (x := a2) (a := 1) (b := 40) (ax := 1) (bx := 40) (A := 1) (B := 40) rfl rfl rfl rfl (by decide) (by decide) with ⟨i2, e1, e2⟩ | ⟨_, e1, e2⟩
      · rw [e1, e2, if_neg one_n0, if_neg one_n0]
        rcases g_in (x := a3) (a := 0) (b := 1) (ax := 0) (bx := 1) (A := 0) (B := 1) rfl rfl rfl rfl (by decide) (by decide) with ⟨i3, e1, e2⟩ | ⟨_, e1, e2⟩
        · rw [e1, e2, if_neg one_n0, if_neg one_n0]
          obtain ⟨x, _, hxx, rfl⟩ := inR_of i1
          obtain ⟨d, _, hd, rfl⟩ := inR_of i2
          obtain ⟨z, _, hz, rfl⟩ := inR_of i3
          have hT := now_T hn
          have hh : x ≤ 9 := by omega
          have hdd : d ≤ 40 := by omega
          obtain ⟨σ', b', ρ', r1, r2, r3, r4, r5⟩ := dam_L (z := z) (fun σ_5 z_6 z_7 z_8 => if z_6 = (0 : Int32) then some (σ_5, z_8) else some (σ_5, z_7)) hn.2.1 ok hh hdd (u 0) 0 fu fu 0 7 99 σx σm (by omega) (fu_gt (by omega)) (fu_gt (by omega)) hn.1 (fun _ _ => rfl) (by decide) (by decide) (Or.inl ⟨rfl, by decide, by decide⟩)
          have hx' : VX σ' 36 u := VX_fr hn.1 (fun k h1 h2 => r4 k (by omega))
          obtain ⟨σ2, f1, f2⟩ := dam_X (r := b') hx' ok r1 hh hdd
          unfold fX5_bestDam
          rw [show fX5_bestDam_L10 36 fu σx (nI x) (nI d) 0 7 0 = some (σ', nI b') from r2, bd_s]
          refine ⟨if nI z = 0 then (σ', nI b') else (σ2, nI (dmN u x d b')), if nI z = 0 then (ρ', nI b') else (ρ', nI (dmN u x d b')), ?_, ?_, ?_, ?_⟩
          · by_cases c : nI z = 0
            · rw [if_pos c, if_pos c]
            · rw [if_neg c, if_neg c, f1, bd_s]
          · refine Eq.trans r3 ?_
            by_cases c : nI z = 0
            · rw [if_pos c, if_pos c]
            · rw [if_neg c, if_neg c]
          · by_cases c : nI z = 0
            · rw [if_pos c, if_pos c]
            · rw [if_neg c, if_neg c]
          · by_cases c : nI z = 0
            · rw [if_pos c, if_pos c]
              exact inv_e h (fun k _ hk => r4 k hk) r5
            · rw [if_neg c, if_neg c]
              exact inv_e h (fun k _ hk => (f2 k hk).trans (r4 k hk)) r5
        · rw [e1, e2, if_pos rfl, if_pos rfl]
          exact ⟨_, _, rfl, rfl, rfl, h⟩
      · rw [e1, e2, if_pos rfl, if_pos rfl]
        exact ⟨_, _, rfl, rfl, rfl, h⟩
    · rw [e1, e2, if_pos rfl, if_pos rfl]
      exact ⟨_, _, rfl, rfl, rfl, h⟩
  · rw [e1, e2, if_pos rfl, if_pos rfl]
    exact ⟨_, _, rfl, rfl, rfl, h⟩
