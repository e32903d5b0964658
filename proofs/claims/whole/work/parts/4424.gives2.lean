/-! is it spared: the program's way -/
theorem gw_wh {u : Nat → Nat} {gone k i : Nat} (hk : k ≤ 10) : whN (gwN u gone k) i = whN u i := by
  unfold whN
  rw [gw_o (by omega) hk, gw_o (by omega) hk]
theorem sparedW_L {u : Nat → Nat} {gone : Nat} {x2 x3 : Int32} (kk : Sto → Int32 → Int32 → Option (Sto × Int32)) (h : okV u) (hg : gone < 2 ^ 31) {σ0 : Sto} (hx36 : VX σ0 36 u) : ∀ (m k n : Nat) (τ : Sto), k + m = u 0 → m < n → VX τ 260 (gwN u gone k) → (∀ q, (q < 260 ∨ 268 ≤ q) → τ q = σ0 q) → ∃ τ', fX5_isSpared_L11 kk 36 n τ x2 x3 (nI gone) (nI k) = kk τ' x2 x3 ∧ VX τ' 260 (gwN u gone (u 0)) ∧ (∀ q, (q < 260 ∨ 268 ≤ q) → τ' q = σ0 q) := by
  have h0 := h.2.1
  have h1 := h.2.2.2.1
  intro m
  induction m with
  | zero =>
    intro k n τ hk hn hV hf
    obtain ⟨n, rfl⟩ : ∃ q, n = q + 1 := ⟨n - 1, by omega⟩
    refine ⟨τ, ?_, by rw [show u 0 = k by omega]; exact hV, hf⟩
    rw [fX5_isSpared_L11, hf 36 (by decide), hx36.1 0 (by decide), if_pos (nI_le (by omega) (by omega))]
  | succ m ih =>
    intro k n τ hk hn hV hf
    obtain ⟨n, rfl⟩ : ∃ q, n = q + 1 := ⟨n - 1, by omega⟩
    have eg : gwN u gone (k + 1) = if gone / 2 ^ k % 2 = 1 then va_up (gwN u gone k) (25 + k) 0 else gwN u gone k := rfl
    rw [fX5_isSpared_L11, hf 36 (by decide), hx36.1 0 (by decide), if_neg (nI_ge (by omega) (by omega)), bit_n (by omega) hg, n32_1]
    by_cases c : gone / 2 ^ k % 2 = 1
    · rw [if_pos (show nI (gone / 2 ^ k % 2) = nI 1 by rw [c]), vin_t (by omega) (by decide), gd_t, nI_clamp (by omega), un_e, un_e, nI_add]
      refine ih (k + 1) n (up τ 263 k 0) (by omega) (by omega) ?_ (fun q hq => by rw [up_k (by omega), hf q hq])
      rw [eg, if_pos c]
      exact VX_wall (x := 0) hV (show k < 10 by omega) (by rw [gw_o (by omega) (by omega)]; exact h1) (by rw [gw_o (by omega) (by omega)]; exact h0)
    · rw [if_neg (fun q => c ((nI_eq (by omega) (by decide)).mp q)), un_e, nI_add]
      refine ih (k + 1) n τ (by omega) (by omega) ?_ hf
      rw [eg, if_neg c]
      exact hV
theorem sparedD_L {w : Nat → Nat} {k nd : Nat} (kk : Sto → Int32 → Option (Sto × Int32)) (h : okV w) (hk : k < w 1) (hd : w 4 + nd ≤ 2000) {τ0 : Sto} (hV : VX τ0 260 w) (h4 : τ0 36 4 = nI (w 4)) (h35 : τ0 40 k = nI (w (35 + k))) (h41 : τ0 41 k = nI (w (41 + k))) : ∀ (m d n : Nat), d + m = nd → m < n → ∃ τ', fX5_isSpared_L59 kk 36 n (SO τ0 262 0 (fun r => dysN d w (15 + r)) (w 0)) (nI k) (nI nd) (nI (whN (dysN d w) k)) (nI d) = kk τ' (nI (whN (dysN nd w) k)) ∧ ∀ q, q ≠ 262 → τ' q = τ0 q := by
  have h0 := h.2.1
  have h1 := h.2.2.2.1
  have hst := h.2.2.2.2.2.1
  intro m
  induction m with
  | zero =>
    intro d n hd2 hn
    obtain ⟨n, rfl⟩ : ∃ q, n = q + 1 := ⟨n - 1, by omega⟩
    refine ⟨SO τ0 262 0 (fun r => dysN d w (15 + r)) (w 0), ?_, fun q hq => SO_ne hq⟩
    rw [fX5_isSpared_L59, if_pos (nI_le (by omega) (by omega)), show d = nd by omega]
  | succ m ih =>
    intro d n hd2 hn
    obtain ⟨n, rfl⟩ : ∃ q, n = q + 1 := ⟨n - 1, by omega⟩
    obtain ⟨c1, c2, c3⟩ := ok_whd (i := d) h (by omega) hk
    by_cases c : 20 ≤ whN (dysN d w) k
    · have hs := wh_stay h hk c (m + 1) (by omega)
      rw [hd2] at hs
      refine ⟨SO τ0 262 0 (fun r => dysN d w (15 + r)) (w 0), ?_, fun q hq => SO_ne hq⟩
      rw [fX5_isSpared_L59, if_neg (nI_ge (by omega) (by omega)), n32_20, if_pos (nI_le c (by omega)), hs]
    · obtain ⟨τ', r1, r2⟩ := ih (d + 1) n (by omega) (by omega)
      refine ⟨τ', ?_, r2⟩
      obtain ⟨a1, a2, a3, a4, a5, a6⟩ := h.2.2.2.2.2.2.2.2.2.2.2 k hk
      have hfl := flow_X (σ := τ0) (v := 260) (a := 262) (o := 0) (R := w 0) (f := w 2) (st := w 3) (d := w 4 + d) (L := fun r => dysN d w (15 + r)) (FV_dys (i := d) hV h (by decide)) (hV.1 2 (by decide)) (hV.1 3 (by decide)) (by omega) (by omega) (by show 0 + w 0 ≤ 10; omega) (by decide) (sm_dys h (by omega))
      rw [lav_dys h (by omega)] at hfl
      have eS : SO τ0 262 0 (fun r => dysN (d + 1) w (15 + r)) (w 0) = SO τ0 262 0 (lavN (dysN d w)) (w 0) := SO_congr (fun r hr => dys_la (by omega))
      rw [eS] at r1
      have haf := after_X (σ := SO τ0 262 0 (lavN (dysN d w)) (w 0)) (v := 260) (a := 262) (o := 0) (R := w 0) (so := w (35 + k)) (hi := w (41 + k)) (d := w 4 + d) (p := whN (dysN d w) k) (L := lavN (dysN d w)) (by rw [SO_ne (by decide)]; exact hV.1 0 (by decide)) h0 (fun r hr => by have := SO_at (σ := τ0) (a := 262) (o := 0) (u := lavN (dysN d w)) hr; exact this) (fun r hr => lav_b h (by omega) hr) (by show 0 + w 0 ≤ 10; omega) (by decide) (by omega) (by omega) (by omega) c2 (by omega)
      rw [← wh_dys h (by omega) hk] at haf
      rw [fX5_isSpared_L59, if_neg (nI_ge (by omega) (by omega)), n32_20, if_neg (nI_ge (by omega) (by omega)), SO_ne (show (36 : Nat) ≠ 262 by decide), h4, nI_add, n32_0, hfl, bd_s, vin_t (by omega) (by decide), gd_t, nI_clamp (by omega), SO_ne (show (36 + 4 : Nat) ≠ 262 by decide), SO_ne (show (36 + 5 : Nat) ≠ 262 by decide), show τ0 (36 + 4) k = _ from h35, show τ0 (36 + 5) k = _ from h41, SO_ne (show (36 : Nat) ≠ 262 by decide), h4, nI_add, haf, bd_s, un_e, n32_1, nI_add]
      exact r1
theorem spared_X {σ : Sto} {u : Nat → Nat} {k nd gone : Nat} (hx : VX σ 36 u) (h : okV u) (hk : k < u 1) (hd : u 4 + nd ≤ 2000) (hg : gone < 2 ^ 31) : ∃ σ', fX5_isSpared σ 36 (nI k) (nI nd) (nI gone) = some (σ', nI (if dysN nd (gwN u gone (u 0)) (53 + k) = 2 then 0 else 1)) ∧ ∀ q, (q < 260 ∨ 268 ≤ q) → σ' q = σ q := by
  have h0 := h.2.1
  have h1 := h.2.2.2.1
  obtain ⟨d1, d2⟩ := become_X (σ := σ) (v0 := 260) (v1 := 36) (by decide) hx h0 h1
  obtain ⟨τ1, t1, t2, t3⟩ := sparedW_L (u := u) (gone := gone) (x2 := nI k) (x3 := nI nd) (fun σ_2 z_3 z_4 => gd (vin z_3 6) (un (σ_2 (36 + 6) z_3.toNatClampNeg) fun x_6 => fX5_isSpared_L59 (fX5_isSpared_j138 36) 36 fu σ_2 z_3 z_4 x_6 (0 : Int32))) h hg hx (u 0) 0 fu (fX8_become σ 260 36) (by omega) (fu_gt (by omega)) d1 d2
  have okw : okV (gwN u gone (u 0)) := gw_ok h h0
  have ew : ∀ j, j < 25 ∨ 35 ≤ j → gwN u gone (u 0) j = u j := fun j hj => gw_o hj h0
  have hV36 : VX τ1 36 u := VX_fr hx (fun q _ _ => t3 q (by omega))
  have hkw : k < gwN u gone (u 0) 1 := by rw [ew 1 (by omega)]; exact hk
  obtain ⟨τ2, s1, s2⟩ := sparedD_L (w := gwN u gone (u 0)) (k := k) (nd := nd) (fX5_isSpared_j138 36) okw hkw (by rw [ew 4 (by omega)]; exact hd) t2 (by rw [ew 4 (by omega)]; exact hV36.1 4 (by decide)) (by rw [ew _ (by omega)]; exact (hV36.2.2 k hk).1) (by rw [ew _ (by omega)]; exact (hV36.2.2 k hk).2.1) nd 0 fu (by omega) (fu_gt (by have := h.2.2.2.2.2.2.1; omega))
  rw [SO_id (fun r hr => by rw [Nat.zero_add]; exact (t2.2.1 r hr).2.1), show whN (dysN 0 (gwN u gone (u 0))) k = whN u k from gw_wh h0] at s1
  refine ⟨τ2, ?_, fun q hq => by rw [s2 q (by omega), t3 q hq]⟩
  have okd := (ok_dys okw (show gwN u gone (u 0) 4 + nd ≤ 2000 by rw [ew 4 (by omega)]; exact hd)).1
  have hw2 := (wh_is okd (k := k) (by rw [dys_lo (by decide) (by decide)]; exact hkw)).2.1
  have hw3 := (ok_wh okd (k := k) (by rw [dys_lo (by decide) (by decide)]; exact hkw)).1
  unfold fX5_isSpared
  rw [un_e, show (0 : Int32) = nI 0 from rfl]
  refine Eq.trans t1 ?_
  rw [vin_t (by omega) (by decide), gd_t, un_e, nI_clamp (by omega), show τ1 (36 + 6) k = nI (whN u k) from (hV36.2.2 k hk).2.2.1]
  refine Eq.trans s1 ?_
  unfold fX5_isSpared_j138
  rw [n32_30]
  by_cases c : dysN nd (gwN u gone (u 0)) (53 + k) = 2
  · rw [if_pos (nI_le (hw2.mpr c) (by omega)), if_pos c]
    rfl
  · rw [if_neg (nI_ge (Nat.lt_of_not_le (fun q => c (hw2.mp q))) (by decide)), if_neg c]
    rfl
/-! the two loops over what gives way -/
theorem gone_J {σx σm : Sto} {u : Nat → Nat} {k nd p walls all z : Nat} (kx km : Sto → Int32 → Int64 → Int64 → Option (Sto × Int64)) (hu : ∀ j, j < 59 → σm 4 j = nI (u j)) (h : okV u) (hk : k < u 1) (hd : u 4 + nd ≤ 2000) (hp : p ≤ 10) (hw : walls < 2 ^ u 0) : ∀ (m g n n' s : Nat) (τ ρ : Sto), g + m = 2 ^ u 0 → m < n → m < n' → s ≤ g * 10 ^ 10 → VX τ 36 u → (∀ q, (q < 260 ∨ 268 ≤ q) → τ q = σx q) → eM ρ σm → ∃ τ' ρ' s', s' < 2 ^ 44 ∧ fX5_likelySpared_L42 kx 36 n τ (nI k) (nI nd) (nI p) (nI z) (nI walls) (lN all) (lN s) (nI g) = kx τ' (nI z) (lN all) (lN s') ∧ fX10_gives_L127 km n' ρ (nI k) (nI nd) (nI p) (nI z) (nI walls) (lN all) (lN s) (nI g) = km ρ' (nI z) (lN all) (lN s') ∧ (∀ q, (q < 260 ∨ 268 ≤ q) → τ' q = σx q) ∧ eM ρ' σm := by
  have h0 := h.2.1
  have h1 := h.2.2.2.1
  have hR : 2 ^ u 0 ≤ 2 ^ 10 := Nat.pow_le_pow_right (by decide) h0
  have hw31 : walls < 2 ^ 31 := by omega
  intro m
  induction m with
  | zero =>
    intro g n n' s τ ρ hg hn hn' hs hV hf hE
    obtain ⟨n, rfl⟩ : ∃ q, n = q + 1 := ⟨n - 1, by omega⟩
    obtain ⟨n', rfl⟩ : ∃ q, n' = q + 1 := ⟨n' - 1, by omega⟩
    refine ⟨τ, ρ, s, by omega, ?_, ?_, hf, hE⟩
    · rw [fX5_likelySpared_L42, hV.1 0 (by decide), n32_1, shl1_n (by omega), if_pos (nI_le (by omega) (by omega))]
    · rw [fX10_gives_L127, hE 4 (by decide), hu 0 (by decide), n32_1, shl1_n (by omega), if_pos (nI_le (by omega) (by omega))]
  | succ m ih =>
    intro g n n' s τ ρ hg hn hn' hs hV hf hE
    obtain ⟨n, rfl⟩ : ∃ q, n = q + 1 := ⟨n - 1, by omega⟩
    obtain ⟨n', rfl⟩ : ∃ q, n' = q + 1 := ⟨n' - 1, by omega⟩
    have huρ : ∀ j, j < 59 → ρ 4 j = nI (u j) := fun j hj => by rw [hE 4 (by decide)]; exact hu j hj
    have hc := cs_le (walls := walls) (gone := g) hp (u 0)
    have hc2 : 10 ^ u 0 ≤ 10 ^ 10 := Nat.pow_le_pow_right (by decide) h0
    have hs1 : s ≤ (g + 1) * 10 ^ 10 := Nat.le_trans hs (Nat.mul_le_mul_right _ (Nat.le_succ g))
    have hs2 : s + csN p walls g (u 0) ≤ (g + 1) * 10 ^ 10 := by
      rw [Nat.add_mul, Nat.one_mul]
      exact Nat.add_le_add hs (Nat.le_trans hc hc2)
    have hcb : csN p walls g (u 0) < 2 ^ 63 := by omega
    have hg1 : g + 1 + m = 2 ^ u 0 := by omega
    have hn1 : m < n := by omega
    have hn1' : m < n' := by omega
    have hg31 : g < 2 ^ 31 := by omega
    have hk6 : k < 6 := by omega
    have hcx : fX5_casesOf (nI walls) (nI g) (nI p) = some (lN (csN p walls g (u 0))) := by
      have e := cs_more (p := p) (gone := g) hw (10 - u 0)
      rw [show u 0 + (10 - u 0) = 10 by omega] at e
      rw [← e]
      unfold fX5_casesOf
      exact cases_LX hp hw31 (by omega) 10 0 fu (by omega) (fu_gt (by decide))
    have X0 : fX5_likelySpared_L42 kx 36 (n + 1) τ (nI k) (nI nd) (nI p) (nI z) (nI walls) (lN all) (lN s) (nI g) = (if (nI g &&& (nI walls ^^^ (-1 : Int32))) = (0 : Int32) then fX5_likelySpared_j76 (fX5_likelySpared_L42 kx 36 n) 36 τ (nI k) (nI nd) (nI p) (nI z) (nI walls) (lN all) (lN s) (nI g) (lN (csN p walls g (u 0))) else fX5_likelySpared_j76 (fX5_likelySpared_L42 kx 36 n) 36 τ (nI k) (nI nd) (nI p) (nI z) (nI walls) (lN all) (lN s) (nI g) (0 : Int64)) := by
      rw [fX5_likelySpared_L42, hV.1 0 (by decide), show (1 : Int32) <<< (nI (u 0) &&& (31 : Int32)) = nI (2 ^ u 0) from shl1_n (by omega), if_neg (nI_ge (by omega) (by omega)), hcx, bd_s]
    rw [X0, fX10_gives_L127, hE 4 (by decide), hu 0 (by decide), show (1 : Int32) <<< (nI (u 0) &&& (31 : Int32)) = nI (2 ^ u 0) from shl1_n (by omega), if_neg (nI_ge (by omega) (by omega))]
    unfold fX5_likelySpared_j76
    by_cases c : (nI g &&& (nI walls ^^^ (-1 : Int32))) = (0 : Int32)
    · rw [if_pos c, if_pos c, aside_0 huρ h, bd_s]
      have hM := L164_M (ρ := ρ) (u := u) (p := p) (walls := walls) (gone := g) (x1 := nI k) (x2 := nI nd) (x4 := nI z) (x6 := lN all) (x8 := lN s) (fun σ_2 z_3 z_4 z_5 z_6 z_7 z_8 z_9 z_10 z_11 => if (lg_cmp z_11 (0 : Int64)) ≤ (0 : Int32) then (un (z_10 + (1 : Int32)) fun x_12 => fX10_gives_L127 km n' σ_2 z_3 z_4 z_5 z_6 z_7 z_8 z_9 x_12) else (bd (fX10_goesBy σ_2 6 z_4) fun q_13 => gd (vin ((53 : Int32) + z_3) 59) (if (q_13 6 ((53 : Int32) + z_3).toNatClampNeg) = (2 : Int32) then (un (z_9 + (0 : Int64)) fun x_15 => un (z_10 + (1 : Int32)) fun x_16 => fX10_gives_L127 km n' q_13 z_3 z_4 z_5 z_6 z_7 z_8 x_15 x_16) else (un (z_9 + z_11) fun x_17 => un (z_10 + (1 : Int32)) fun x_18 => fX10_gives_L127 km n' q_13 z_3 z_4 z_5 z_6 z_7 z_8 x_17 x_18)))) (huρ 0 (by decide)) h hp hw31 (show g < 2 ^ 31 by omega) (u 0) 0 fu (by omega) (fu_gt (by omega))
      have hM : fX10_gives_L164 _ fu (SM ρ 6 u) (nI k) (nI nd) (nI p) (nI z) (nI walls) (lN all) (lN s) (nI g) (1 : Int64) (0 : Int32) = _ := hM
      rw [hM]
      have okw : okV (gwN u g (u 0)) := gw_ok h h0
      have ew : ∀ j, j < 25 ∨ 35 ≤ j → gwN u g (u 0) j = u j := fun j hj => gw_o hj h0
      have okd := (ok_dys okw (show gwN u g (u 0) 4 + nd ≤ 2000 by rw [ew 4 (by omega)]; exact hd)).1
      have h53 : dysN nd (gwN u g (u 0)) (53 + k) ≤ 2 := (okd.2.2.2.2.2.2.2.2.2.2.2 k (by rw [dys_lo (by decide) (by decide), ew 1 (by omega)]; exact hk)).2.2.2.2.2
      by_cases c0 : csN p walls g (u 0) = 0
      · rw [if_pos ((lcmp_0le hcb).mpr c0), if_pos ((lcmp_0le hcb).mpr c0), un_e, un_e, n32_1, nI_add]
        exact ih (g + 1) n n' s τ _ hg1 hn1 hn1' hs1 hV hf (eM_SM hE)
      · obtain ⟨τ2, s1, s2⟩ := spared_X (k := k) (nd := nd) (gone := g) hV h hk hd hg31
        rw [if_neg (fun q => c0 ((lcmp_0le hcb).mp q)), if_neg (fun q => c0 ((lcmp_0le hcb).mp q)), s1, bd_s, goes_by okw (by rw [ew 4 (by omega)]; exact hd), bd_s, n32_53, nI_add, vin_t (by omega) (by decide), gd_t, nI_clamp (by omega), SM_at (by omega)]
        dsimp only
        by_cases c2 : dysN nd (gwN u g (u 0)) (53 + k) = 2
        · rw [if_pos c2, if_pos (show nI 0 = (0 : Int32) from rfl), if_pos (show nI (dysN nd (gwN u g (u 0)) (53 + k)) = (2 : Int32) by rw [c2]; rfl), un_e, un_e, un_e, n32_1, nI_add, Int64.add_zero]
          exact ih (g + 1) n n' s τ2 _ hg1 hn1 hn1' hs1 (VX_fr hV (fun q _ _ => s2 q (by omega))) (fun q hq => by rw [s2 q hq, hf q hq]) (eM_SM hE)
        · rw [if_neg c2, if_neg (show ¬ nI 1 = (0 : Int32) by decide), if_neg (show ¬ nI (dysN nd (gwN u g (u 0)) (53 + k)) = (2 : Int32) from fun q => c2 ((nI_eq (by omega) (by decide)).mp q)), un_e, un_e, un_e, un_e, n32_1, nI_add, lN_add]
          exact ih (g + 1) n n' (s + csN p walls g (u 0)) τ2 _ hg1 hn1 hn1' hs2 (VX_fr hV (fun q _ _ => s2 q (by omega))) (fun q hq => by rw [s2 q hq, hf q hq]) (eM_SM hE)
    · rw [if_neg c, if_neg c, if_pos (show lg_cmp (0 : Int64) (0 : Int64) ≤ (0 : Int32) by decide), un_e, un_e, n32_1, nI_add]
      exact ih (g + 1) n n' s τ ρ hg1 hn1 hn1' hs1 hV hf hE
def kgX : Sto → Int32 → Int64 → Int64 → Option (Sto × Int64) := fun σ_9 z_10 z_11 z_12 => bd (fX5_greatestDivisor z_11 z_12) fun q_13 => if (0 : Int32) < (lg_cmp q_13 (0 : Int64)) then (if z_10 = (0 : Int32) then gd (nzL q_13) (some (σ_9, (z_12 / q_13))) else gd (nzL q_13) (some (σ_9, (z_11 / q_13)))) else some (σ_9, (0 : Int64))
def kgM : Sto → Int32 → Int64 → Int64 → Option (Sto × Int64) := fun σ_12 z_13 z_14 z_15 => if z_13 = (0 : Int32) then (bd (fX10_divisor z_15 z_14) fun q_18 => gd (nzL q_18) (some (σ_12, (z_15 / q_18)))) else (bd (fX10_divisor z_15 z_14) fun q_16 => gd (nzL q_16) (some (σ_12, (z_14 / q_16))))
theorem kg_J {τ ρ : Sto} {z all s : Nat} (hz : z ≤ 1) (h0 : 0 < all) (ha : all < 2 ^ 44) (hs : s < 2 ^ 44) : ∃ r, kgX τ (nI z) (lN all) (lN s) = some (τ, r) ∧ kgM ρ (nI z) (lN all) (lN s) = some (ρ, r) := by
  have hg0 : 0 < Nat.gcd all s := Nat.gcd_pos_of_pos_left s h0
  have hg1 : Nat.gcd all s ≤ all := Nat.gcd_le_left s h0
  unfold kgX kgM
  rw [gd_X ha hs, gd_M hs ha, bd_s, bd_s, bd_s]
  generalize Nat.gcd all s = g at hg0 hg1 ⊢
  rw [if_pos (by rw [lcmp_gt, pk_lT (by omega), show (0 : Int64).toInt = 0 by decide]; omega), nzL_n (by omega) hg0, gd_t, gd_t]
  rcases (show z = 0 ∨ z = 1 by omega) with rfl | rfl
  · exact ⟨_, if_pos (by decide), if_pos (by decide)⟩
  · exact ⟨_, if_neg (by decide), if_neg (by decide)⟩
theorem like_X {σ τ' : Sto} {u : Nat → Nat} {k nd p z s : Nat} (hx : VX σ 36 u) (h : okV u) (hs : fX5_likelySpared_L42 kgX 36 fu σ (nI k) (nI nd) (nI p) (nI z) (nI (btN (wpN u) (u 0))) (lN (10 ^ cnN (wpN u) (u 0))) (lN 0) (nI 0) = kgX τ' (nI z) (lN (10 ^ cnN (wpN u) (u 0))) (lN s)) : fX5_likelySpared σ 36 (nI k) (nI nd) (nI p) (nI z) = kgX τ' (nI z) (lN (10 ^ cnN (wpN u) (u 0))) (lN s) := by
  have h0 := h.2.1
  have hwl := bt_lt (wpN u) (u 0)
  have hR : 2 ^ u 0 ≤ 2 ^ 10 := Nat.pow_le_pow_right (by decide) h0
  have hcn := cn_le (wpN u) (u 0)
  have hbc : fJ6_bitCount_0f7a4 (nI (btN (wpN u) (u 0))) = nI (cnN (wpN u) (u 0)) := by
    rw [bits24_X (by omega), pw_bt (wpN u) (by omega)]
  have hwx : fX5_wallsThatStand σ 36 = some (nI (btN (wpN u) (u 0))) := by
    unfold fX5_wallsThatStand
    exact wallsX_L hx h (u 0) 0 fu (by omega) (fu_gt (by omega))
  have hl := L12_X (σ := σ) (x2 := nI k) (x3 := nI nd) (x4 := nI p) (x5 := nI z) (fun σ_2 z_3 z_4 z_5 z_6 z_7 z_8 => fX5_likelySpared_L42 kgX 36 fu σ_2 z_3 z_4 z_5 z_6 z_7 z_8 (0 : Int64) (0 : Int32)) hbc (by omega) (cnN (wpN u) (u 0)) 0 fu (by omega) (fu_gt (by omega))
  unfold fX5_likelySpared
  rw [hwx, bd_s]
  exact Eq.trans hl hs
theorem like_M {σ ρ' : Sto} {u : Nat → Nat} {k nd p z s : Nat} (hu : ∀ j, j < 59 → σ 4 j = nI (u j)) (h : okV u) (hs : fX10_gives_L127 kgM fu σ (nI k) (nI nd) (nI p) (nI z) (nI (btN (wpN u) (u 0))) (lN (10 ^ cnN (wpN u) (u 0))) (lN 0) (nI 0) = kgM ρ' (nI z) (lN (10 ^ cnN (wpN u) (u 0))) (lN s)) : fX10_gives_L53 (fun σ_5 z_6 z_7 z_8 z_9 z_10 z_11 => fX10_gives_L127 kgM fu σ_5 z_6 z_7 z_8 z_9 z_10 z_11 (0 : Int64) (0 : Int32)) fu σ (nI k) (nI nd) (nI p) (nI z) (0 : Int32) (1 : Int64) (0 : Int32) = kgM ρ' (nI z) (lN (10 ^ cnN (wpN u) (u 0))) (lN s) := by
  have h0 := h.2.1
  have hl := L53_M (x1 := nI k) (x2 := nI nd) (x3 := nI p) (x4 := nI z) (fun σ_5 z_6 z_7 z_8 z_9 z_10 z_11 => fX10_gives_L127 kgM fu σ_5 z_6 z_7 z_8 z_9 z_10 z_11 (0 : Int64) (0 : Int32)) hu h (u 0) 0 fu (by omega) (fu_gt (by omega))
  exact Eq.trans hl hs
theorem op_gives {σx σm : Sto} (h : Inv σx σm) (a1 : Int32) (a2 : Int32) (a3 : Int32) (a4 : Int32) : ∃ qx qm, fX9_gives σx a1 a2 a3 a4 = some qx ∧ fX10_gives σm a1 a2 a3 a4 = some qm ∧ qx.2 = qm.2 ∧ Inv qx.1 qm.1 := by
  obtain ⟨u, hn⟩ := h.1
  unfold fX9_gives fX10_gives fX10_isTwo
  rcases g_thing hn a1 with ⟨i1, ok, e1, e2⟩ | ⟨_, e1, e2⟩
  · rw [e1, e2, if_neg one_n0, if_neg one_n0]
    rcases g_in (x := a2) (a := 0) (b := 40) (ax := 0) (bx := 40) (A := 0) (B := 40) rfl rfl rfl rfl (by decide) (by decide) with ⟨i2, e1, e2⟩ | ⟨_, e1, e2⟩
    · rw [e1, e2, if_neg one_n0, if_neg one_n0]
      rcases g_in (x := a3) (a := 0) (b := 10) (ax := 0) (bx := 10) (A := 0) (B := 10) rfl rfl rfl rfl (by decide) (by decide) with ⟨i3, e1, e2⟩ | ⟨_, e1, e2⟩
      · rw [e1, e2, if_neg one_n0, if_neg one_n0]
        rcases g_in (x := a4) (a := 0) (b := 1) (ax := 0) (bx := 1) (A := 0) (B := 1) rfl rfl rfl rfl (by decide) (by decide) with ⟨i4, e1, e2⟩ | ⟨_, e1, e2⟩
        · rw [e1, e2, if_neg one_n0, if_neg one_n0]
          obtain ⟨k, _, hk, rfl⟩ := inR_of i1
          obtain ⟨nd, _, hnd, rfl⟩ := inR_of i2
          obtain ⟨p, _, hp, rfl⟩ := inR_of i3
          obtain ⟨z, _, hz, rfl⟩ := inR_of i4
          have hT := now_T hn
          have h4 := ok.2
          have hwl := bt_lt (wpN u) (u 0)
          have hR : 2 ^ u 0 ≤ 2 ^ 10 := Nat.pow_le_pow_right (by decide) hT.1
          have hcn := cn_le (wpN u) (u 0)
          have hall : 10 ^ cnN (wpN u) (u 0) ≤ 10 ^ 10 := Nat.pow_le_pow_right (by decide) (by omega)
          have hall0 : 0 < 10 ^ cnN (wpN u) (u 0) := Nat.pow_pos (by decide)
          obtain ⟨τ', ρ', s, s1, s2, s3, s4, s5⟩ := gone_J (σx := σx) (σm := σm) (z := z) (p := p) (all := 10 ^ cnN (wpN u) (u 0)) kgX kgM hn.2.1 ok.1 hk (show u 4 + nd ≤ 2000 by omega) (by omega) hwl (2 ^ u 0) 0 fu fu 0 σx σm (by omega) (fu_gt (by omega)) (fu_gt (by omega)) (Nat.zero_le _) hn.1 (fun _ _ => rfl) (fun _ _ => rfl)
          have X := like_X hn.1 ok.1 s2
          have M := like_M hn.2.1 ok.1 s3
          obtain ⟨r, r1, r2⟩ := kg_J (τ := τ') (ρ := ρ') (z := z) (s := s) (by omega) hall0 (Nat.lt_of_le_of_lt hall (by decide)) s1
          rw [X, r1, bd_s]
          refine mk2 rfl ?_ rfl (inv_e h (fun q _ hq => s4 q hq) s5)
          exact Eq.trans M r2
        · rw [e1, e2, if_pos rfl, if_pos rfl]
          exact ⟨_, _, rfl, rfl, rfl, h⟩
      · rw [e1, e2, if_pos rfl, if_pos rfl]
        exact ⟨_, _, rfl, rfl, rfl, h⟩
    · rw [e1, e2, if_pos rfl, if_pos rfl]
      exact ⟨_, _, rfl, rfl, rfl, h⟩
  · rw [e1, e2, if_pos rfl, if_pos rfl]
    exact ⟨_, _, rfl, rfl, rfl, h⟩
