/-! the acts: wall, feeding, carry, dig, undo, days -/
theorem okD_a {u : Nat → Nat} {j x : Nat} (h : okD u) (hj : j = 2 ∧ x ≤ 20 ∨ (5 ≤ j ∧ j < 15 ∨ 25 ≤ j ∧ j < 35) ∧ x ≤ 9) : okD (va_up u j x) := ⟨okV_a h.1 hj, by rw [vu_ne (by omega)]; exact h.2⟩
theorem op_wall {σx σm : Sto} (h : Inv σx σm) (a1 : Int32) (a2 : Int32) : ∃ qx qm, fX9_wall σx a1 a2 = some qx ∧ fX10_wall σm a1 a2 = some qm ∧ qx.2 = qm.2 ∧ Inv qx.1 qm.1 := by
  obtain ⟨u, hn⟩ := h.1
  unfold fX9_wall fX10_wall
  rcases g_room hn a1 with ⟨i1, ok, e1, e2⟩ | ⟨_, e1, e2⟩
  · rw [e1, e2, if_neg one_n0, if_neg one_n0]
    rcases g_in (x := a2) (a := 0) (b := 9) (ax := 0) (bx := 9) (A := 0) (B := 9) rfl rfl rfl rfl (by decide) (by decide) with ⟨i2, e1, e2⟩ | ⟨_, e1, e2⟩
    · rw [e1, e2, if_neg one_n0, if_neg one_n0]
      obtain ⟨r, _, hr, rfl⟩ := inR_of i1
      obtain ⟨x, _, hx, rfl⟩ := inR_of i2
      have hT := now_T hn
      obtain ⟨τ, ρ, t1, t2, kp⟩ := keep_J h hn.1 hn.2.1 ok
      have hV := kp_V kp hn.1
      have hM := kp_M kp hn.2.1
      have hw : σx 39 r = nI (u (25 + r)) := (hn.1.2.1 r hr).2.2
      rw [t1, t2, vin_t (show r < 10 by omega) (by decide), gd_t]
      simp only [un, bd_s]
      rw [n32_25, nI_add, vin_t (show 25 + r < 59 by omega) (by decide), gd_t, nI_clamp (show r < 2 ^ 31 by omega), nI_clamp (show 25 + r < 2 ^ 31 by omega), hw]
      refine mk2 rfl rfl (by rw [hM _ (by omega)]) (inv_act h kp (fun k hk => up_k (by omega)) (fun k hk => up_k hk) ⟨va_up u (25 + r) x, VX_wall hV (by omega) hT.2 hT.1, fun j hj => ?_, Or.inl (okD_a ok (by omega))⟩)
      by_cases e : j = 25 + r
      · subst e
        rw [up_i, vu_self]
      · rw [up_j e, vu_ne e, hM j hj]
    · rw [e1, e2, if_pos rfl, if_pos rfl]
      exact ⟨_, _, rfl, rfl, rfl, h⟩
  · rw [e1, e2, if_pos rfl, if_pos rfl]
    exact ⟨_, _, rfl, rfl, rfl, h⟩
theorem op_feeding {σx σm : Sto} (h : Inv σx σm) (a1 : Int32) : ∃ qx qm, fX9_feeding σx a1 = some qx ∧ fX10_feeding σm a1 = some qm ∧ qx.2 = qm.2 ∧ Inv qx.1 qm.1 := by
  obtain ⟨u, hn⟩ := h.1
  unfold fX9_feeding fX10_feeding
  rcases g_str hn with ⟨ok, e1, e2⟩ | ⟨e1, e2⟩
  · rw [e1, e2, if_neg one_n0, if_neg one_n0]
    rcases g_in (x := a1) (a := 0) (b := 20) (ax := 0) (bx := 20) (A := 0) (B := 20) rfl rfl rfl rfl (by decide) (by decide) with ⟨i2, e1, e2⟩ | ⟨_, e1, e2⟩
    · rw [e1, e2, if_neg one_n0, if_neg one_n0]
      obtain ⟨x, _, hx, rfl⟩ := inR_of i2
      obtain ⟨τ, ρ, t1, t2, kp⟩ := keep_J h hn.1 hn.2.1 ok
      have hV := kp_V kp hn.1
      have hM := kp_M kp hn.2.1
      simp only [un]
      rw [t1, t2, bd_s, bd_s, hn.1.1 2 (by decide)]
      refine mk2 rfl rfl (by rw [hM _ (by omega)]) (inv_act h kp (fun k hk => up_k (by omega)) (fun k hk => up_k hk) ⟨va_up u 2 x, VX_feed hV, fun j hj => ?_, Or.inl (okD_a ok (by omega))⟩)
      by_cases e : j = 2
      · subst e
        rw [up_i, vu_self]
      · rw [up_j e, vu_ne e, hM j hj]
    · rw [e1, e2, if_pos rfl, if_pos rfl]
      exact ⟨_, _, rfl, rfl, rfl, h⟩
  · rw [e1, e2, if_pos rfl, if_pos rfl]
    exact ⟨_, _, rfl, rfl, rfl, h⟩
/-- a thing carried on -/
def caN (u : Nat → Nat) (k : Nat) : Nat → Nat := if u (47 + k) + 1 < u 0 then va_up u (47 + k) (u (47 + k) + 1) else va_up u (53 + k) 1
theorem ca_E (u : Nat → Nat) (k : Nat) : plE u (caN u k) k := fun j h1 h2 => by
  unfold caN
  split
  · rw [vu_ne h1]
  · rw [vu_ne h2]
theorem ca_ok {u : Nat → Nat} {k : Nat} (h : okV u) (hk : k < u 1) : okV (caN u k) := by
  obtain ⟨a1, a2, a3, a4, a5, a6⟩ := h.2.2.2.2.2.2.2.2.2.2.2 k hk
  refine okV_pl h hk (ca_E u k) ?_ ?_
  · unfold caN
    split
    · rw [vu_self]
      omega
    · rw [vu_ne (by omega)]
      exact a5
  · unfold caN
    split
    · rw [vu_ne (by omega)]
      exact a6
    · rw [vu_self]
      omega
theorem ca_wh {u : Nat → Nat} {k : Nat} (h0 : u (53 + k) = 0) : whN (caN u k) k = (if u 0 ≤ u (47 + k) + 1 then 20 else u (47 + k) + 1) := by
  unfold whN caN
  by_cases c : u (47 + k) + 1 < u 0
  · rw [if_pos c, if_neg (show ¬ u 0 ≤ u (47 + k) + 1 by omega), vu_ne (show 53 + k ≠ 47 + k by omega), vu_self, h0, if_neg (by decide), if_neg (by decide)]
  · rw [if_neg c, if_pos (show u 0 ≤ u (47 + k) + 1 by omega), vu_self, if_pos rfl]
theorem wh_0 {u : Nat → Nat} {k : Nat} (h : u (53 + k) = 0) : whN u k = u (47 + k) := by
  unfold whN
  rw [h, if_neg (by decide), if_neg (by decide)]
/-- the program's carrying of a place -/
theorem carried_X {σ : Sto} {v R p : Nat} (h0 : σ v 0 = nI R) (hR : R < 100) (hp : p < 50) : fX8_carried σ v (nI p) = nI (if 20 ≤ p then p else if R ≤ p + 1 then 20 else p + 1) := by
  unfold fX8_carried
  rw [n32_20]
  by_cases c : 20 ≤ p
  · rw [if_pos (nI_le c (by omega)), if_pos c]
  · rw [if_neg (nI_ge (by omega) (by omega)), if_neg c, n32_1, gone_X h0 hR (by omega)]
theorem stands_X {σ : Sto} {v k : Nat} {u : Nat → Nat} (hx : VX σ v u) (h : okV u) (hk : k < u 1) : fX8_stands σ v (nI k) = some (nI (if u (53 + k) = 0 then 1 else 0)) := by
  have h1 := h.2.2.2.1
  have hw := (wh_is h hk).2.2.1
  have hb := (ok_wh h hk).1
  unfold fX8_stands
  rw [vin_t (by omega) (by decide), gd_t, nI_clamp (by omega), (hx.2.2 k hk).2.2.1, n32_20]
  by_cases c : u (53 + k) = 0
  · rw [if_neg (nI_ge (hw.mpr c) (by decide)), if_pos c]
    rfl
  · rw [if_pos (nI_le (Nat.le_of_not_lt (fun q => c (hw.mp q))) (by omega)), if_neg c]
    rfl
theorem op_carry {σx σm : Sto} (h : Inv σx σm) (a1 : Int32) : ∃ qx qm, fX9_carry σx a1 = some qx ∧ fX10_carry σm a1 = some qm ∧ qx.2 = qm.2 ∧ Inv qx.1 qm.1 := by
  obtain ⟨u, hn⟩ := h.1
  unfold fX9_carry fX10_carry
  rcases g_thing hn a1 with ⟨i1, ok, e1, e2⟩ | ⟨_, e1, e2⟩
  · rw [e1, e2, if_neg one_n0, if_neg one_n0]
    obtain ⟨k, _, hk, rfl⟩ := inR_of i1
    have hT := now_T hn
    obtain ⟨b1, b2, b3, b4, b5, b6⟩ := ok.1.2.2.2.2.2.2.2.2.2.2.2 k hk
    rw [stands_X hn.1 ok.1 hk, bd_s, n32_53, nI_add, vin_t (show 53 + k < 59 by omega) (by decide), gd_t, nI_clamp (show 53 + k < 2 ^ 31 by omega), hn.2.1 _ (by omega)]
    by_cases c : u (53 + k) = 0
    · rw [if_pos c, if_neg (show ¬ nI 1 = (0 : Int32) by decide), if_pos (show nI (u (53 + k)) = (0 : Int32) by rw [c]; rfl)]
      obtain ⟨τ, ρ, t1, t2, kp⟩ := keep_J h hn.1 hn.2.1 ok
      have hV := kp_V kp hn.1
      have hM := kp_M kp hn.2.1
      have hw : τ 42 k = nI (u (47 + k)) := by
        have := (hV.2.2 k hk).2.2.1
        rw [wh_0 c] at this
        exact this
      have hg := goes_M (σ := ρ) (a := 4) (k := k) (d := 1) (u := u) (by omega) (by omega) (by omega) (by omega)
      rw [SM_id hM] at hg
      have hg : fX10_goes ρ 4 (nI k) (nI 1) = some (SM ρ 4 (caN u k)) := hg
      have okc := ca_ok ok.1 hk
      have hpl : (if u 0 ≤ u (47 + k) + 1 then 20 else u (47 + k) + 1) ≤ 20 := by
        split <;> omega
      obtain ⟨σ', s1, s2, s3⟩ := VX_pl (w := caN u k) (p := if u 0 ≤ u (47 + k) + 1 then 20 else u (47 + k) + 1) hV hT.1 hT.2 hk (ca_E u k) (Or.inl hpl) (by omega) (ca_wh c) (by
        unfold laN caN
        by_cases d : u (47 + k) + 1 < u 0
        · rw [if_pos d, if_neg (show ¬ u 0 ≤ u (47 + k) + 1 by omega), vu_self, if_neg (by omega), if_pos (by omega)]
        · rw [if_neg d, if_pos (show u 0 ≤ u (47 + k) + 1 by omega), vu_ne (by omega), if_pos rfl])
      have hwh : (caN u k) (53 + k) ≤ 2 := by
        have := okc.2.2.2.2.2.2.2.2.2.2.2 k (by rw [ca_E u k 1 (by omega) (by omega)]; exact hk)
        exact this.2.2.2.2.2
      rw [t1, t2, bd_s, bd_s, n32_1, hg, bd_s, whereOf_M (u := caN u k) (fun j hj => SM_at hj) (by omega) hwh, bd_s, vin_t (by omega) (by decide), gd_t, nI_clamp (by omega), hw, carried_X (hV.1 0 (by decide)) (by omega) (by omega), if_neg (show ¬ 20 ≤ u (47 + k) by omega), s1, bd_s]
      have hs6 : σ' 42 k = nI (whN (caN u k) k) := (s2.2.2 k (by rw [ca_E u k 1 (by omega) (by omega)]; exact hk)).2.2.1
      refine mk2 rfl rfl hs6 (inv_act h kp (fun q hq => s3 q (by omega) (by omega)) (fun q hq => SM_ne hq) ⟨caN u k, s2, fun j hj => SM_at hj, Or.inl ⟨okc, ?_⟩⟩)
      rw [ca_E u k 4 (by omega) (by omega)]
      exact ok.2
    · rw [if_neg c, if_pos (show nI 0 = (0 : Int32) by decide), if_neg (nI_n0 (by omega) c)]
      exact ⟨_, _, rfl, rfl, rfl, h⟩
  · rw [e1, e2, if_pos rfl, if_pos rfl]
    exact ⟨_, _, rfl, rfl, rfl, h⟩
theorem op_dig {σx σm : Sto} (h : Inv σx σm) (a1 : Int32) : ∃ qx qm, fX9_dig σx a1 = some qx ∧ fX10_dig σm a1 = some qm ∧ qx.2 = qm.2 ∧ Inv qx.1 qm.1 := by
  obtain ⟨u, hn⟩ := h.1
  unfold fX9_dig fX10_dig
  rcases g_thing hn a1 with ⟨i1, ok, e1, e2⟩ | ⟨_, e1, e2⟩
  · rw [e1, e2, if_neg one_n0, if_neg one_n0]
    obtain ⟨k, _, hk, rfl⟩ := inR_of i1
    have hT := now_T hn
    obtain ⟨b1, b2, b3, b4, b5, b6⟩ := ok.1.2.2.2.2.2.2.2.2.2.2.2 k hk
    have hw := (wh_is ok.1 hk).2.1
    have hwb := (ok_wh ok.1 hk).1
    have hx42 : σx 42 k = nI (whN u k) := (hn.1.2.2 k hk).2.2.1
    rw [vin_t (by omega) (by decide), gd_t, nI_clamp (by omega), hx42, n32_53, nI_add, vin_t (by omega) (by decide), gd_t, nI_clamp (by omega), hn.2.1 _ (by omega), n32_30]
    by_cases c : u (53 + k) = 2
    · rw [if_pos (nI_le (hw.mpr c) (by omega)), if_pos (show nI (u (53 + k)) = (2 : Int32) by rw [c]; rfl)]
      obtain ⟨τ, ρ, t1, t2, kp⟩ := keep_J h hn.1 hn.2.1 ok
      have hV := kp_V kp hn.1
      have hM := kp_M kp hn.2.1
      have hE : plE u (va_up u (53 + k) 1) k := fun j _ h2 => vu_ne h2
      have okw : okV (va_up u (53 + k) 1) := okV_pl ok.1 hk hE (by rw [vu_ne (by omega)]; exact b5) (by rw [vu_self]; omega)
      obtain ⟨σ', s1, s2, s3⟩ := VX_pl (w := va_up u (53 + k) 1) (p := 20) hV hT.1 hT.2 hk hE (Or.inl (by decide)) (by decide) (by
        unfold whN
        rw [vu_self, if_pos rfl]) (by
        unfold laN
        rw [vu_ne (by omega), if_pos rfl])
      have hM2 : ∀ j, j < 59 → up ρ 4 (53 + k) (1 : Int32) 4 j = nI (va_up u (53 + k) 1 j) := fun j hj => by
        by_cases e : j = 53 + k
        · subst e
          rw [up_i, vu_self]
          rfl
        · rw [up_j e, vu_ne e, hM j hj]
      rw [t1, t2, bd_s, bd_s, n32_20, s1, bd_s, stones_X s2 okw, bd_s]
      simp only [un]
      rw [n32_2, those_M hM2 okw (by decide), bd_s]
      refine mk2 rfl rfl rfl (inv_act h kp (fun q hq => s3 q (by omega) (by omega)) (fun q hq => up_k hq) ⟨va_up u (53 + k) 1, s2, hM2, Or.inl ⟨okw, ?_⟩⟩)
      rw [vu_ne (by omega)]
      exact ok.2
    · rw [if_neg (nI_ge (Nat.lt_of_not_le (fun q => c (hw.mp q))) (by decide)), if_neg (show ¬ nI (u (53 + k)) = (2 : Int32) from fun q => c ((nI_eq (by omega) (by decide)).mp q))]
      exact ⟨_, _, rfl, rfl, rfl, h⟩
  · rw [e1, e2, if_pos rfl, if_pos rfl]
    exact ⟨_, _, rfl, rfl, rfl, h⟩
theorem op_undo {σx σm : Sto} (h : Inv σx σm) : ∃ qx qm, fX9_undo σx = some qx ∧ fX10_undo σm = some qm ∧ qx.2 = qm.2 ∧ Inv qx.1 qm.1 := by
  obtain ⟨n, o, P, p1, p2, p3, p4, p5, p6⟩ := h.2.1
  unfold fX9_undo fX10_undo fX3_goBack
  rw [p1, p3]
  by_cases c : n = 0
  · rw [if_pos (show nI n = (0 : Int32) by rw [c]; rfl), if_pos (show nI n = (0 : Int32) by rw [c]; rfl), bd_s, if_pos rfl]
    exact ⟨_, _, rfl, rfl, rfl, h⟩
  · obtain ⟨m, rfl⟩ : ∃ m, n = m + 1 := ⟨n - 1, by omega⟩
    rw [if_neg (nI_n0 (by omega) c), if_neg (nI_n0 (by omega) c), n32_1, pk_sub (by omega), Nat.add_sub_cancel]
    simp only [un]
    obtain ⟨a1, a2, a3⟩ := p6 m (by omega)
    have hb := rg_b (show (o + m) % 24 < 24 from Nat.mod_lt _ (by decide))
    have ex1 : up σx 7 0 (nI m) 7 1 = nI o := by rw [up_j (by decide)]; exact p2
    have ex0 : up σx 7 0 (nI m) 7 0 = nI m := up_i
    have em8 : up σm 0 8 (nI m) 0 8 = nI m := up_i
    have hV : VX (up σx 7 0 (nI m)) (rgV ((o + m) % 24)) (P m) := VX_fr a1 (fun q h1 h2 => up_k (by omega))
    obtain ⟨d1, d2⟩ := become_X (σ := up σx 7 0 (nI m)) (v0 := 36) (v1 := rgV ((o + m) % 24)) (Or.inl (by omega)) hV a3.1.2.1 a3.1.2.2.2.1
    rw [ex1, ex0, em8, n32_24, nI_add, irm_n (by omega) (by decide) (by decide), vin_t (by omega) (by decide), gd_t, nI_clamp (by omega), bd_s, n32_59, pk_mul, n32_0, copies_M (u := P m) (fun j hj => by rw [up_k (by decide)]; exact a2 j hj) (Or.inl (by decide)) (show 59 * m + 59 ≤ 1416 by omega) (by decide) (by decide) (by decide), bd_s, SO_SM, if_neg (show ¬ nI 1 = nI 0 by decide)]
    have f7 : fX8_become (up σx 7 0 (nI m)) 36 (rgV ((o + m) % 24)) 7 = up σx 7 0 (nI m) 7 := d2 7 (by decide)
    have f0 : SM (up σm 0 8 (nI m)) 4 (P m) 0 = up σm 0 8 (nI m) 0 := SM_ne (by decide)
    refine mk2 (τx := fX8_become (up σx 7 0 (nI m)) 36 (rgV ((o + m) % 24))) (τm := SM (up σm 0 8 (nI m)) 4 (P m)) (r := fX8_become (up σx 7 0 (nI m)) 36 (rgV ((o + m) % 24)) 7 0) rfl rfl (by rw [f7, f0, ex0, em8]) (inv_np h (fun k hk h7 => by rw [d2 k (by omega), up_k h7]) (fun k h0 h4 h7 => by rw [SM_ne h4, up_k h0]) (fun j hj => by rw [f0, up_j hj]) ⟨P m, d1, fun j hj => SM_at hj, Or.inl a3⟩ ⟨m, o, P, by rw [f7, ex0], by rw [f7, ex1], by rw [f0, em8], by omega, p5, fun k hk => ?_⟩)
    obtain ⟨c1, c2, c3⟩ := p6 k (by omega)
    have hb2 := rg_b (show (o + k) % 24 < 24 from Nat.mod_lt _ (by decide))
    exact ⟨VX_fr c1 (fun q h1 h2 => by rw [d2 q (by omega), up_k (by omega)]), fun j hj => by rw [SM_ne (by decide), up_k (by decide)]; exact c2 j hj, c3⟩
theorem days_L {d : Nat} : ∀ (m i n n' : Nat) (σ ρ : Sto) (u : Nat → Nat), i + m = d → d ≤ 24 → m < n → m < n' → Inv σ ρ → VX σ 36 u → (∀ j, j < 59 → ρ 4 j = nI (u j)) → okD u → u 4 + m ≤ 999 → ∃ qx qm, fX9_days_L43 n σ (nI d) (nI i) = some qx ∧ fX10_days_L44 n' ρ (nI d) (nI i) = some qm ∧ qx.2 = qm.2 ∧ Inv qx.1 qm.1 := by
  intro m
  induction m with
  | zero =>
    intro i n n' σ ρ u hi hd hn hn' h hx hu ok h9
    obtain ⟨n, rfl⟩ : ∃ q, n = q + 1 := ⟨n - 1, by omega⟩
    obtain ⟨n', rfl⟩ : ∃ q, n' = q + 1 := ⟨n' - 1, by omega⟩
    rw [fX9_days_L43, fX10_days_L44, if_pos (nI_le (by omega) (by omega)), if_pos (nI_le (by omega) (by omega)), stones_X hx ok.1, n32_2, those_M hu ok.1 (by decide), bd_s, bd_s]
    exact mk2 rfl rfl rfl h
  | succ m ih =>
    intro i n n' σ ρ u hi hd hn hn' h hx hu ok h9
    obtain ⟨n, rfl⟩ : ∃ q, n = q + 1 := ⟨n - 1, by omega⟩
    obtain ⟨n', rfl⟩ : ∃ q, n' = q + 1 := ⟨n' - 1, by omega⟩
    obtain ⟨τ, ρ1, t1, t2, kp⟩ := keep_J h hx hu ok
    have hV := kp_V kp hx
    have hM := kp_M kp hu
    obtain ⟨σ', s1, s2, s3⟩ := pass_X iv_36 hV ok.1 (by omega)
    have hp := passes_M (σ := ρ1) (a := 4) ok.1
    rw [SM_id hM] at hp
    have okd : okD (dayN u) := ⟨ok_day ok.1 (by omega), by rw [day_4]; omega⟩
    have h' : Inv σ' (SM ρ1 4 (dayN u)) := inv_act h kp (fun k hk => s3 k (by omega)) (fun k hk => SM_ne hk) ⟨dayN u, s2, fun j hj => SM_at hj, Or.inl okd⟩
    rw [fX9_days_L43, fX10_days_L44, if_neg (nI_ge (by omega) (by omega)), if_neg (nI_ge (by omega) (by omega)), t1, t2, bd_s, bd_s, s1, hp, bd_s, bd_s]
    simp only [un]
    rw [n32_1, nI_add]
    exact ih (i + 1) n n' σ' (SM ρ1 4 (dayN u)) (dayN u) (by omega) hd (by omega) (by omega) h' s2 (fun j hj => SM_at hj) okd (by rw [day_4]; omega)
theorem op_days {σx σm : Sto} (h : Inv σx σm) (a1 : Int32) : ∃ qx qm, fX9_days σx a1 = some qx ∧ fX10_days σm a1 = some qm ∧ qx.2 = qm.2 ∧ Inv qx.1 qm.1 := by
  obtain ⟨u, hn⟩ := h.1
  unfold fX9_days fX10_days
  rcases g_str hn with ⟨ok, e1, e2⟩ | ⟨e1, e2⟩
  · rw [e1, e2, if_neg one_n0, if_neg one_n0]
    rcases g_in (x := a1) (a := 1) (b := 24) (ax := 1) (bx := 24) (A := 1) (B := 24) rfl rfl rfl rfl (by decide) (by decide) with ⟨i2, e1, e2⟩ | ⟨_, e1, e2⟩
    · rw [e1, e2, if_neg one_n0, if_neg one_n0]
      obtain ⟨d, _, hd, rfl⟩ := inR_of i2
      have h4 := ok.2
      rw [hn.1.1 4 (by decide), hn.2.1 4 (by decide), nI_add, n32_999]
      by_cases c : u 4 + d ≤ 999
      · rw [if_pos (nI_le c (by decide)), if_pos (nI_le c (by decide))]
        exact days_L d 0 fu fu σx σm u (by omega) (by omega) (fu_gt (by omega)) (fu_gt (by omega)) h hn.1 hn.2.1 ok c
      · rw [if_neg (nI_ge (by omega) (by omega)), if_neg (nI_ge (by omega) (by omega))]
        exact ⟨_, _, rfl, rfl, rfl, h⟩
    · rw [e1, e2, if_pos rfl, if_pos rfl]
      exact ⟨_, _, rfl, rfl, rfl, h⟩
  · rw [e1, e2, if_pos rfl, if_pos rfl]
    exact ⟨_, _, rfl, rfl, rfl, h⟩
