/-! forecasts: the lava of the days to come -/
def TL (σ : Sto) (f : Nat) (u : Nat → Nat) (d : Nat) : Prop := ∀ i, i ≤ d → ∀ r, r < u 0 → σ (f + 1) (i * 10 + r) = nI (dysN i u (15 + r))
theorem cpok_t {sp dp n n0 n1 : Nat} (h1 : sp < 2 ^ 31) (h2 : dp < 2 ^ 31) (h3 : n < 2 ^ 31) (h4 : sp + n ≤ n0) (h5 : dp + n ≤ n1) : cpok (nI sp) (nI dp) (nI n) n0 n1 = true := by
  unfold cpok
  rw [nI_clamp h1, nI_clamp h2, nI_clamp h3]
  simp only [Bool.and_eq_true, decide_eq_true_eq]
  exact ⟨nI_pos h1, nI_pos h2, nI_pos h3, h4, h5⟩
theorem FV_dys {σ : Sto} {v a i : Nat} {u : Nat → Nat} (hx : VX σ v u) (h : okV u) (ha : v ≠ a ∧ v + 1 ≠ a ∧ v + 3 ≠ a) : FV σ v a (u 0) (fun r => dysN i u (5 + r)) (fun r => dysN i u (25 + r)) := by
  have hR := h.2.1
  refine ⟨hx.1 0 (by decide), fun r hr => ?_, fun r hr => ?_, ha.1, ha.2.1, ha.2.2, by have := h.1; omega, hR, fun r hr => ?_, fun r hr => ?_⟩
  · show _ = nI (dysN i u (5 + r))
    rw [dys_lo (by omega) (by omega)]
    exact (hx.2.1 r hr).1
  · show _ = nI (dysN i u (25 + r))
    rw [dys_mid (by omega) (by omega)]
    exact (hx.2.1 r hr).2.2
  · show dysN i u (5 + r) ≤ 9
    rw [dys_lo (by omega) (by omega)]
    exact h.2.2.2.2.2.2.2.1 r (by omega)
  · show dysN i u (25 + r) ≤ 9
    rw [dys_mid (by omega) (by omega)]
    exact h.2.2.2.2.2.2.2.2.1 r (by omega)
theorem lav_dys {u : Nat → Nat} {i : Nat} (h : okV u) (hi : u 4 + i ≤ 2000) : flF (u 0) (fun r => dysN i u (5 + r)) (fun r => dysN i u (25 + r)) (u 0) (fdL (u 2) (u 3) (u 4 + i) (fun r => dysN i u (15 + r))) = lavN (dysN i u) := by
  unfold lavN
  rw [← fd_eq (dysN i u), dys_lo (j := 0) (by decide) (by decide), dys_lo (j := 2) (by decide) (by decide), dys_lo (j := 3) (by decide) (by decide), (ok_dys h hi).2]
theorem sm_dys {u : Nat → Nat} {i : Nat} (h : okV u) (hi : u 4 + i ≤ 2000) : smN (fdL (u 2) (u 3) (u 4 + i) (fun r => dysN i u (15 + r))) (u 0) < 2 ^ 27 := by
  have := sm_fd (ok_dys h hi).1
  rw [← fd_eq (dysN i u), dys_lo (j := 0) (by decide) (by decide), dys_lo (j := 2) (by decide) (by decide), dys_lo (j := 3) (by decide) (by decide), (ok_dys h hi).2] at this
  omega
theorem dys_la {u : Nat → Nat} {i r : Nat} (hr : r < 10) : dysN (i + 1) u (15 + r) = lavN (dysN i u) r := day_la hr
theorem tell_L {σ0 : Sto} {f v d most : Nat} {u : Nat → Nat} (hf : f + 1 < 36) (hv : 36 ≤ v) (hx : VX σ0 v u) (h : okV u) (hd : u 4 + d ≤ 2000) (hm : σ0 f 0 = nI most) (hmd : d ≤ most) (hmo : most ≤ 60) (ha : aLX (f + 1) = 10 * most + 10) :
    ∀ (m i n : Nat) (σ : Sto), i + m = d → m < n → (∀ k, k ≠ f + 1 → σ k = σ0 k) → TL σ f u i → ∃ σ', fX2_tell_L17 f v n σ (nI d) (nI i) = some σ' ∧ TL σ' f u d ∧ ∀ k, k ≠ f + 1 → σ' k = σ0 k := by
  have hR := h.2.1
  intro m
  induction m with
  | zero =>
    intro i n σ hi hn hfr ht
    obtain ⟨n, rfl⟩ : ∃ q, n = q + 1 := ⟨n - 1, by omega⟩
    refine ⟨σ, ?_, by rw [show d = i by omega]; exact ht, hfr⟩
    rw [fX2_tell_L17, if_pos (nI_le (by omega) (by omega))]
  | succ m ih =>
    intro i n σ hi hn hfr ht
    obtain ⟨n, rfl⟩ : ∃ q, n = q + 1 := ⟨n - 1, by omega⟩
    have hxs : VX (cpS σ (f + 1) (i * 10) (f + 1) (i * 10 + 10) 10) v u := VX_fr hx (fun k h1 h2 => by rw [cpS_ne (by omega), hfr k (by omega)])
    have e4 : cpS σ (f + 1) (i * 10) (f + 1) (i * 10 + 10) 10 v 4 = nI (u 4) := hxs.1 4 (by decide)
    have hst := h.2.2.2.2.2.1
    have cp : ∀ j, cpS σ (f + 1) (i * 10) (f + 1) (i * 10 + 10) 10 (f + 1) j = if i * 10 + 10 ≤ j ∧ j < i * 10 + 10 + 10 then σ (f + 1) (i * 10 + (j - (i * 10 + 10))) else σ (f + 1) j := fun j => by
      rw [cpS_at]
      rfl
    have hfl := flow_X (σ := cpS σ (f + 1) (i * 10) (f + 1) (i * 10 + 10) 10) (v := v) (a := f + 1) (o := i * 10 + 10) (R := u 0) (f := u 2) (st := u 3) (d := u 4 + i) (L := fun r => dysN i u (15 + r)) (FV_dys (i := i) hxs h (by omega)) (hxs.1 2 (by decide)) (hxs.1 3 (by decide)) (by omega) (by omega) (by omega) (by omega) (sm_dys h (by omega))
    rw [SO_id (fun r hr => by
      rw [cp, if_pos ⟨by omega, by omega⟩, show i * 10 + (i * 10 + 10 + r - (i * 10 + 10)) = i * 10 + r by omega]
      exact ht i (Nat.le_refl _) r hr), lav_dys h (by omega)] at hfl
    obtain ⟨σ', r1, r2, r3⟩ := ih (i + 1) n (SO (cpS σ (f + 1) (i * 10) (f + 1) (i * 10 + 10) 10) (f + 1) (i * 10 + 10) (lavN (dysN i u)) (u 0)) (by omega) (by omega) (fun k hk => by rw [SO_ne hk, cpS_ne hk, hfr k hk]) (fun j hj r hr => by
      by_cases e : j = i + 1
      · subst e
        rw [show (i + 1) * 10 + r = i * 10 + 10 + r by omega, SO_at hr, dys_la (by omega)]
      · rw [SO_out (Or.inl (by omega)), cp, if_neg (fun q => by omega)]
        exact ht j (by omega) r hr)
    refine ⟨σ', ?_, r2, r3⟩
    rw [fX2_tell_L17, if_neg (nI_ge (by omega) (by omega)), hfr f (by omega), hm, if_neg (nI_ge (by omega) (by omega))]
    simp only [un]
    rw [n32_10, pk_mul, nI_add, cpok_t (by omega) (by omega) (by decide) (by omega) (by omega), gd_t, nI_clamp (by omega), nI_clamp (by omega), e4, nI_add, hfl, bd_s, n32_1, nI_add]
    exact r1
theorem tell_X {σ : Sto} {f v d most : Nat} {u : Nat → Nat} (hf : f + 1 < 36) (hv : 36 ≤ v) (hx : VX σ v u) (h : okV u) (hd : u 4 + d ≤ 2000) (hm : σ f 0 = nI most) (hmd : d ≤ most) (hmo : most ≤ 60) (ha : aLX (f + 1) = 10 * most + 10) : ∃ σ', fX2_tell σ f v (nI d) = some σ' ∧ TL σ' f u d ∧ ∀ k, k ≠ f + 1 → σ' k = σ k := by
  have hR := h.2.1
  unfold fX2_tell
  rw [n32_0, n32_10, cpok_t (by omega) (by omega) (by decide) (by omega) (by omega), gd_t]
  simp only [un]
  have hxs : VX (cpS σ (v + 2) 0 (f + 1) 0 10) v u := VX_fr hx (fun k h1 h2 => cpS_ne (by omega))
  obtain ⟨σ', r1, r2, r3⟩ := tell_L hf hv hxs h hd (by rw [cpS_ne (by omega)]; exact hm) hmd hmo ha d 0 fu (cpS σ (v + 2) 0 (f + 1) 0 10) (by omega) (fu_gt (by omega)) (fun _ _ => rfl) (fun i hi r hr => by
    have : i = 0 := by omega
    subst this
    rw [Nat.zero_mul, Nat.zero_add, cpS_at, cpy0 (by omega)]
    exact (hx.2.1 r hr).2.1)
  exact ⟨σ', r1, r2, fun k hk => by rw [r3 k hk, cpS_ne hk]⟩
theorem lavaIn_X {σ : Sto} {f r i d : Nat} {u : Nat → Nat} (ht : TL σ f u d) (hi : i ≤ d) (hr : r < u 0) (hR : u 0 ≤ 10) (hd : d ≤ 60) (ha : d * 10 + 10 ≤ aLX (f + 1)) (hb : aLX (f + 1) < 2 ^ 28) : fX2_lavaIn σ f (nI r) (nI i) = some (nI (dysN i u (15 + r))) := by
  unfold fX2_lavaIn
  rw [n32_10, pk_mul, nI_add, vin_t (by omega) (by omega), gd_t, nI_clamp (by omega), ht i hi r hr]
theorem wh_dys {u : Nat → Nat} {i k : Nat} (h : okV u) (hi : u 4 + i ≤ 2000) (hk : k < u 1) : whN (dysN (i + 1) u) k = plN (u 0) (lavN (dysN i u)) (u 4 + i) (u (35 + k)) (u (41 + k)) (whN (dysN i u) k) := by
  have h1 := h.2.2.2.1
  have := wh_day (ok_dys h hi).1 (k := k) (by rw [dys_lo (by decide) (by decide)]; exact hk)
  rw [dys_lo (j := 0) (by decide) (by decide), (ok_dys h hi).2, dys_mid (j := 35 + k) (by omega) (by omega), dys_mid (j := 41 + k) (by omega) (by omega)] at this
  exact this
theorem lav_b {u : Nat → Nat} {i r : Nat} (h : okV u) (hi : u 4 + i ≤ 2000) (hr : r < u 0) : lavN (dysN i u) r < 2 ^ 30 := by
  have h1 := sm_lav (ok_dys h hi).1
  have h2 := sm_le (L := lavN (dysN i u)) (r := r) (n := dysN i u 0) (by rw [dys_lo (by decide) (by decide)]; exact hr)
  have := (ok_dys h hi).2
  omega
/-- the place of a thing after the (i+1)st day, from its place p after i days, whatever p is -/
theorem pafter_X {σ : Sto} {f v i d k p : Nat} {u : Nat → Nat} (hx : VX σ v u) (h : okV u) (ht : TL σ f u d) (hi : i < d) (hd : u 4 + d ≤ 2000) (hd6 : d ≤ 60) (ha : d * 10 + 10 ≤ aLX (f + 1)) (hb : aLX (f + 1) < 2 ^ 28) (hk : k < u 1) (hp : p < 50) (hp2 : p < 20 → p < u 0) : fX2_placeAfter σ f v (nI k) (nI p) (nI i) = some (nI (plN (u 0) (lavN (dysN i u)) (u 4 + i) (u (35 + k)) (u (41 + k)) p)) := by
  have hR := h.2.1
  have h1 := h.2.2.2.1
  obtain ⟨a1, a2, a3, a4, a5, a6⟩ := h.2.2.2.2.2.2.2.2.2.2.2 k hk
  unfold fX2_placeAfter
  rw [vin_t (by omega) (by decide), gd_t, nI_clamp (by omega), (hx.2.2 k hk).1, (hx.2.2 k hk).2.1, hx.1 4 (by decide), n32_1, n32_10, nI_add, pk_mul, nI_add]
  rw [after_X (R := u 0) (L := lavN (dysN i u)) (hx.1 0 (by decide)) hR (fun r hr => by rw [ht (i + 1) (by omega) r hr, dys_la (by omega)]) (fun r hr => lav_b h (by omega) hr) (by omega) hb (by omega) (by omega) (by omega) hp2 (by omega), bd_s]
theorem ok_whd {u : Nat → Nat} {i k : Nat} (h : okV u) (hi : u 4 + i ≤ 2000) (hk : k < u 1) : whN (dysN i u) k < 50 ∧ (whN (dysN i u) k < 20 → whN (dysN i u) k < u 0) ∧ (whN (dysN i u) k ≤ 20 ∨ 30 ≤ whN (dysN i u) k) := by
  have := ok_wh (ok_dys h hi).1 (k := k) (by rw [dys_lo (by decide) (by decide)]; exact hk)
  rw [dys_lo (j := 0) (by decide) (by decide)] at this
  exact this
theorem wh_stay {u : Nat → Nat} {i k : Nat} (h : okV u) (hk : k < u 1) (hw : 20 ≤ whN (dysN i u) k) : ∀ m, u 4 + (i + m) ≤ 2000 → whN (dysN (i + m) u) k = whN (dysN i u) k
  | 0, _ => rfl
  | m + 1, hm => by
    have ih := wh_stay h hk hw m (by omega)
    rw [← Nat.add_assoc, wh_dys h (by omega) hk, ih]
    unfold plN
    rw [if_pos hw]
theorem behind_L {σ : Sto} {f v d k e : Nat} {u : Nat → Nat} (hx : VX σ v u) (h : okV u) (ht : TL σ f u d) (hd : u 4 + d ≤ 2000) (hd6 : d ≤ 60) (he : e ≤ d) (ha : d * 10 + 10 ≤ aLX (f + 1)) (hb : aLX (f + 1) < 2 ^ 28) (hk : k < u 1) :
    ∀ (m i n : Nat), i + m = e → m < n → fX2_placeBehind_L6 f v σ n (nI k) (nI e) (nI (whN (dysN i u) k)) (nI i) = some (nI (whN (dysN e u) k)) := by
  intro m
  induction m with
  | zero =>
    intro i n hi hn
    obtain ⟨n, rfl⟩ : ∃ q, n = q + 1 := ⟨n - 1, by omega⟩
    rw [fX2_placeBehind_L6, if_pos (nI_le (by omega) (by omega)), show i = e by omega]
  | succ m ih =>
    intro i n hi hn
    obtain ⟨n, rfl⟩ : ∃ q, n = q + 1 := ⟨n - 1, by omega⟩
    obtain ⟨c1, c2, c3⟩ := ok_whd (i := i) h (by omega) hk
    rw [fX2_placeBehind_L6, if_neg (nI_ge (by omega) (by omega)), n32_20]
    by_cases c : 20 ≤ whN (dysN i u) k
    · have := wh_stay h hk c (m + 1) (by omega)
      rw [hi] at this
      rw [if_pos (nI_le c (by omega)), this]
    · rw [if_neg (nI_ge (by omega) (by omega)), pafter_X hx h ht (by omega) hd hd6 ha hb hk c1 c2, ← wh_dys h (by omega) hk, bd_s]
      simp only [un]
      rw [n32_1, nI_add]
      exact ih (i + 1) n (by omega) (by omega)
theorem behind_X {σ : Sto} {f v d k e : Nat} {u : Nat → Nat} (hx : VX σ v u) (h : okV u) (ht : TL σ f u d) (hd : u 4 + d ≤ 2000) (hd6 : d ≤ 60) (he : e ≤ d) (ha : d * 10 + 10 ≤ aLX (f + 1)) (hb : aLX (f + 1) < 2 ^ 28) (hk : k < u 1) : fX2_placeBehind σ f v (nI k) (nI (whN u k)) (nI e) = some (nI (whN (dysN e u) k)) := by
  unfold fX2_placeBehind
  rw [n32_0]
  exact behind_L hx h ht hd hd6 he ha hb hk e 0 fu (by omega) (fu_gt (by omega))
theorem trial_L {v : Nat} (hv : v = 260) {u : Nat → Nat} {d : Nat} (h : okV u) (hd : u 4 + d ≤ 2000) : ∀ (m i n : Nat) (σ : Sto), i + m = d → m < n → VX σ v (dysN i u) → ∃ σ', fX5_passTrial_L2 n σ (nI d) (nI i) = some σ' ∧ VX σ' v (dysN d u) ∧ ∀ k, (k < v ∨ v + 8 ≤ k) → σ' k = σ k := by
  intro m
  induction m with
  | zero =>
    intro i n σ hi hn hx
    obtain ⟨n, rfl⟩ : ∃ q, n = q + 1 := ⟨n - 1, by omega⟩
    refine ⟨σ, ?_, by rw [show d = i by omega]; exact hx, fun _ _ => rfl⟩
    rw [fX5_passTrial_L2, if_pos (nI_le (by omega) (by omega))]
  | succ m ih =>
    intro i n σ hi hn hx
    obtain ⟨n, rfl⟩ : ∃ q, n = q + 1 := ⟨n - 1, by omega⟩
    obtain ⟨σ1, p1, p2, p3⟩ := pass_X (v := v) ⟨28, by decide, by omega⟩ hx (ok_dys h (by omega)).1 (by rw [(ok_dys h (by omega)).2]; omega)
    obtain ⟨σ', r1, r2, r3⟩ := ih (i + 1) n σ1 (by omega) (by omega) p2
    refine ⟨σ', ?_, r2, fun k hk => by rw [r3 k hk, p3 k hk]⟩
    rw [hv] at p1
    rw [fX5_passTrial_L2, if_neg (nI_ge (by omega) (by omega)), p1, bd_s]
    simp only [un]
    rw [n32_1, nI_add]
    exact r1
theorem trial_X {u : Nat → Nat} {d : Nat} {σ : Sto} (h : okV u) (hd : u 4 + d ≤ 2000) (hx : VX σ 260 u) : ∃ σ', fX5_passTrial σ (nI d) = some σ' ∧ VX σ' 260 (dysN d u) ∧ ∀ k, (k < 260 ∨ 268 ≤ k) → σ' k = σ k := by
  unfold fX5_passTrial
  rw [n32_0]
  exact trial_L rfl h hd d 0 fu σ (by omega) (fu_gt (by omega)) hx
