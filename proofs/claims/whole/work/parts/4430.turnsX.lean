/-! an aunt and a dresser by turns: the program -/
def crI (R : Nat) : Nat → Nat → Nat
  | 0, p => p
  | o + 1, p => crN R (crI R o p)
theorem crN_b {R p : Nat} (hR : R ≤ 10) (h1 : p < 50) (h2 : p < 20 → p < R) : crN R p < 50 ∧ (crN R p < 20 → crN R p < R) := by
  unfold crN
  split
  · exact ⟨h1, h2⟩
  · split
    · omega
    · omega
theorem crI_b {R p : Nat} (hR : R ≤ 10) (h1 : p < 50) (h2 : p < 20 → p < R) : ∀ o, crI R o p < 50 ∧ (crI R o p < 20 → crI R o p < R)
  | 0 => ⟨h1, h2⟩
  | o + 1 => by
    obtain ⟨a, b⟩ := crI_b hR h1 h2 o
    exact crN_b hR a b
theorem plQ_stay {u : Nat → Nat} {k p d : Nat} (h : 20 ≤ plQ u k p d) : ∀ m, plQ u k p (d + m) = plQ u k p d
  | 0 => rfl
  | m + 1 => by
    have ih := plQ_stay h m
    show plN _ _ _ _ _ (plQ u k p (d + m)) = _
    rw [ih]
    unfold plN
    rw [if_pos h]
theorem pbT_L {σ : Sto} {v : Nat → Nat} {t p e : Nat} (hx : VX σ 268 v) (h : okV v) (ht : TL σ 22 v e) (hk : t < v 1) (hd : v 4 + e ≤ 2000) (he : e ≤ 20) (hp : p < 50) (hp2 : p < 20 → p < v 0) : ∀ (m d f : Nat), d + m = e → m < f → fX2_placeBehind_L6 22 268 σ f (nI t) (nI e) (nI (plQ v t p d)) (nI d) = some (nI (plQ v t p e)) := by
  intro m
  induction m with
  | zero =>
    intro d f hd2 hf
    obtain ⟨f, rfl⟩ : ∃ z, f = z + 1 := ⟨f - 1, by omega⟩
    rw [fX2_placeBehind_L6, if_pos (nI_le (by omega) (by omega)), show d = e by omega]
  | succ m ih =>
    intro d f hd2 hf
    obtain ⟨f, rfl⟩ : ∃ z, f = z + 1 := ⟨f - 1, by omega⟩
    obtain ⟨c1, c2⟩ := plQ_b (k := t) h.2.1 hp hp2 d
    rw [fX2_placeBehind_L6, if_neg (nI_ge (by omega) (by omega)), n32_20]
    by_cases c : 20 ≤ plQ v t p d
    · have := plQ_stay c (m + 1)
      rw [hd2] at this
      rw [if_pos (nI_le c (by omega)), this]
    · rw [if_neg (nI_ge (by omega) (by omega)), pafter_X hx h ht (by omega) hd (by omega) (by show e * 10 + 10 ≤ 210; omega) (by decide) hk c1 c2, bd_s, un_e, n32_1, nI_add]
      exact ih (d + 1) f (by omega) (by omega)
theorem pbT_X {σ : Sto} {v : Nat → Nat} {t p e : Nat} (hx : VX σ 268 v) (h : okV v) (ht : TL σ 22 v e) (hk : t < v 1) (hd : v 4 + e ≤ 2000) (he : e ≤ 20) (hp : p < 50) (hp2 : p < 20 → p < v 0) : fX2_placeBehind σ 22 268 (nI t) (nI p) (nI e) = some (nI (plQ v t p e)) := by
  unfold fX2_placeBehind
  rw [n32_0]
  exact pbT_L hx h ht hk hd he hp hp2 e 0 fu (by omega) (fu_gt (by omega))
def vfN (u : Nat → Nat) (a : Nat) : Nat → Nat := va_up u 2 (min 20 (u 2 + 3 * a))
theorem vf_ok {u : Nat → Nat} {a : Nat} (h : okV u) : okV (vfN u a) := okV_a h (Or.inl ⟨rfl, Nat.min_le_left _ _⟩)
theorem vf_o {u : Nat → Nat} {a j : Nat} (h : j ≠ 2) : vfN u a j = u j := vu_ne h
def stT (u : Nat → Nat) (m a o t : Nat) : Bool := decide (30 ≤ plQ (vfN u a) t (crI (u 0) o (whN u t)) m)
def FT (σ σ0 : Sto) (u : Nat → Nat) (m a t o : Nat) : Prop := (∀ q, q ≠ 24 → σ q = σ0 q) ∧ ∀ a' o' t', a' < 3 → o' < 3 → t' < u 1 → (a' < a ∨ a' = a ∧ (t' < t ∨ t' = t ∧ o' < o)) → σ 24 ((a' * 3 + o') * 6 + t') = nI (b1 (stT u m a' o' t'))
theorem cell_n (a o t : Nat) : fX7_cell (nI a) (nI o) (nI t) = nI ((a * 3 + o) * 6 + t) := by
  unfold fX7_cell
  rw [n32_3, n32_6, pk_mul, nI_add, pk_mul, nI_add]
theorem ftL24 {σ0 : Sto} {u : Nat → Nat} {m a t : Nat} (kk : Sto → Int32 → Int32 → Int32 → Option Sto) (h : okV u) (hx : VX σ0 268 (vfN u a)) (ht : TL σ0 22 (vfN u a) m) (hk : t < u 1) (ha : a < 3) (hd : u 4 + m ≤ 2000) (hm : m ≤ 20) : ∀ (q o f : Nat) (σ : Sto), o + q = 3 → q < f → FT σ σ0 u m a t o → ∃ σ', fX7_followAll_L24 kk f σ (nI a) (nI m) (nI t) (nI (crI (u 0) o (whN u t))) (nI o) = kk σ' (nI a) (nI m) (nI t) ∧ FT σ' σ0 u m a t 3 := by
  have h0 := h.2.1
  have h1 := h.2.2.2.1
  obtain ⟨w1, w2, w3⟩ := ok_wh h hk
  intro q
  induction q with
  | zero =>
    intro o f σ ho hf hF
    obtain ⟨f, rfl⟩ : ∃ z, f = z + 1 := ⟨f - 1, by omega⟩
    refine ⟨σ, ?_, by rw [show 3 = o by omega]; exact hF⟩
    rw [fX7_followAll_L24, n32_3, if_pos (nI_le (by omega) (by omega))]
  | succ q ih =>
    intro o f σ ho hf hF
    obtain ⟨f, rfl⟩ : ∃ z, f = z + 1 := ⟨f - 1, by omega⟩
    obtain ⟨c1, c2⟩ := crI_b h0 w1 w2 o
    have hxs : VX σ 268 (vfN u a) := VX_fr hx (fun q _ _ => hF.1 q (by omega))
    have hts : TL σ 22 (vfN u a) m := TL_fr ht (hF.1 23 (by decide))
    obtain ⟨p1, p2⟩ := plQ_b (u := vfN u a) (k := t) (p := crI (u 0) o (whN u t)) (by rw [vf_o (by decide)]; exact h0) c1 (by rw [vf_o (by decide)]; exact c2) m
    obtain ⟨σ', r1, r2⟩ := ih (o + 1) f (up σ 24 ((a * 3 + o) * 6 + t) (nI (b1 (stT u m a o t)))) (by omega) (by omega) ⟨fun q hq => by rw [up_k hq, hF.1 q hq], fun a' o' t' ha' ho' ht' hc => by
      by_cases e : (a' * 3 + o') * 6 + t' = (a * 3 + o) * 6 + t
      · have e1 : t' = t := by omega
        have e2 : o' = o := by omega
        have e3 : a' = a := by omega
        subst e1
        subst e2
        subst e3
        rw [up_i]
      · rw [up_j e]
        exact hF.2 a' o' t' ha' ho' ht' (by omega)⟩
    refine ⟨σ', ?_, r2⟩
    have hj : ∀ y : Nat, y ≤ 1 → fX7_followAll_j66 (fX7_followAll_L24 kk f) σ (nI a) (nI m) (nI t) (nI (crI (u 0) o (whN u t))) (nI o) (fX7_cell (nI a) (nI o) (nI t)) (nI y) = fX7_followAll_L24 kk f (up σ 24 ((a * 3 + o) * 6 + t) (nI y)) (nI a) (nI m) (nI t) (nI (crI (u 0) (o + 1) (whN u t))) (nI (o + 1)) := by
      intro y hy
      have ey : vp_nar .boolean (nI y) = nI y := by
        rcases (show y = 0 ∨ y = 1 by omega) with rfl | rfl <;> rfl
      unfold fX7_followAll_j66
      rw [cell_n, vin_t (by omega) (by decide), gd_t, nI_clamp (by omega), ey, un_e, un_e, un_e, crN_X (R := u 0) (by rw [up_k (by decide)]; have := hxs.1 0 (by decide); rw [vf_o (by decide)] at this; exact this) (by omega) c1, n32_1, nI_add]
      rfl
    rw [fX7_followAll_L24, n32_3, if_neg (nI_ge (by omega) (by omega)), pbT_X hxs (vf_ok h) hts (by rw [vf_o (by decide)]; exact hk) (by rw [vf_o (by decide)]; exact hd) hm c1 (by rw [vf_o (by decide)]; exact c2), bd_s, n32_30, n32_0, n32_1, hj 0 (by decide), hj 1 (by decide), ← r1]
    unfold stT
    by_cases c : 30 ≤ plQ (vfN u a) t (crI (u 0) o (whN u t)) m
    · rw [if_neg (nI_nlt c (by omega)), decide_eq_true c]
      rfl
    · rw [if_pos (nI_lt (by omega) (by omega)), decide_eq_false c]
      rfl
theorem ftL2 {σ0 : Sto} {u : Nat → Nat} {m a : Nat} (h : okV u) (hx : VX σ0 268 (vfN u a)) (ht : TL σ0 22 (vfN u a) m) (h5 : σ0 21 5 = nI (u 1)) (ha : a < 3) (hd : u 4 + m ≤ 2000) (hm : m ≤ 20) : ∀ (q t f : Nat) (σ : Sto), t + q = u 1 → q < f → FT σ σ0 u m a t 0 → ∃ σ', fX7_followAll_L2 f σ (nI a) (nI m) (nI t) = some σ' ∧ FT σ' σ0 u m a (u 1) 0 := by
  have h1 := h.2.2.2.1
  intro q
  induction q with
  | zero =>
    intro t f σ hs hf hF
    obtain ⟨f, rfl⟩ : ∃ z, f = z + 1 := ⟨f - 1, by omega⟩
    refine ⟨σ, ?_, by rw [show u 1 = t by omega]; exact hF⟩
    rw [fX7_followAll_L2, hF.1 21 (by decide), h5, if_pos (nI_le (by omega) (by omega))]
  | succ q ih =>
    intro t f σ hs hf hF
    obtain ⟨f, rfl⟩ : ∃ z, f = z + 1 := ⟨f - 1, by omega⟩
    obtain ⟨σ1, s1, s2⟩ := ftL24 (t := t) (fun σ_3 z_4 z_5 z_6 => un (z_6 + (1 : Int32)) fun x_7 => fX7_followAll_L2 f σ_3 z_4 z_5 x_7) h hx ht (show t < u 1 by omega) ha hd hm 3 0 fu σ (by decide) (fu_gt (by decide)) hF
    obtain ⟨σ', r1, r2⟩ := ih (t + 1) f σ1 (by omega) (by omega) ⟨s2.1, fun a' o' t' ha' ho' ht' hc => s2.2 a' o' t' ha' ho' ht' (by omega)⟩
    refine ⟨σ', ?_, r2⟩
    have h274 : σ 274 t = nI (whN u t) := by
      rw [hF.1 274 (by decide)]
      have := (hx.2.2 t (by rw [vf_o (by decide)]; omega)).2.2.1
      rw [show whN (vfN u a) t = whN u t from wh_a (by decide)] at this
      exact this
    rw [fX7_followAll_L2, hF.1 21 (by decide), h5, if_neg (nI_ge (by omega) (by omega)), vin_t (by omega) (by decide), gd_t, nI_clamp (by omega), un_e, h274]
    refine Eq.trans s1 ?_
    rw [un_e, n32_1, nI_add]
    exact r1
/-! the game by counts -/
def gvX (V : Nat → (Nat → Nat) → Nat) (T : Nat) : Nat → Nat → Nat → (Nat → Nat) → Nat
  | 0, _, a, c => V a c
  | r + 1, p, a, c => if p % 2 = 0 then leF (fun t => gvX V T r (p + 1) a (va_up c t (c t + 1))) (gvX V T r (p + 1) a c) T else max (gvX V T r (p + 1) a c) (gvX V T r (p + 1) (a + 1) c)
def vlN (u : Nat → Nat) (m : Nat) (a : Nat) (c : Nat → Nat) : Nat := cnN (fun t => stT u m a (c t) t) (u 1)
def RGw (u w : Nat → Nat) (a : Nat) (c : Nat → Nat) : Prop := okV w ∧ (∀ j, j < 35 → w j = vfN u a j) ∧ (∀ j, 35 ≤ j → j < 47 → w j = u j) ∧ ∀ t, t < u 1 → whN w t = crI (u 0) (c t) (whN u t)
theorem RGw_0 {u : Nat → Nat} (h : okV u) : RGw u u 0 (fun _ => 0) := by
  refine ⟨h, fun j hj => ?_, fun _ _ _ => rfl, fun _ _ => rfl⟩
  unfold vfN
  by_cases e : j = 2
  · subst e
    rw [vu_self, Nat.mul_zero, Nat.add_zero, Nat.min_eq_right h.2.2.2.2.1]
  · rw [vu_ne e]
theorem RGw_cy {u w : Nat → Nat} {a t : Nat} {c : Nat → Nat} (h : RGw u w a c) : RGw u (cyN w t) a (va_up c t (c t + 1)) := by
  obtain ⟨h1, h2, h3, h4⟩ := h
  have e0 : w 0 = u 0 := by rw [h2 0 (by decide), vf_o (by decide)]
  have e1 : w 1 = u 1 := by rw [h2 1 (by decide), vf_o (by decide)]
  refine ⟨cy_ok h1, fun j hj => by rw [cy_lo _ _ j (by omega), h2 j hj], fun j ha hb => by rw [cy_lo _ _ j hb, h3 j ha hb], fun k hk => ?_⟩
  rw [cy_wh h1 (by rw [e1]; exact hk), e0, h4 k hk]
  by_cases e : t = k
  · subst e
    rw [if_pos rfl, vu_self]
    rfl
  · rw [if_neg e, vu_ne (Ne.symm e)]
theorem RGw_rs {u w : Nat → Nat} {a : Nat} {c : Nat → Nat} (h : RGw u w a c) : RGw u (rsN w) (a + 1) c := by
  obtain ⟨h1, h2, h3, h4⟩ := h
  refine ⟨rs_ok h1, fun j hj => ?_, fun j ha hb => by unfold rsN; rw [vu_ne (by omega), h3 j ha hb], fun k hk => ?_⟩
  · unfold rsN vfN
    by_cases e : j = 2
    · subst e
      have := h2 2 (by decide)
      unfold vfN at this
      rw [vu_self] at this
      rw [vu_self, vu_self, this]
      omega
    · rw [vu_ne e, vu_ne e, h2 j hj, vf_o e]
  · unfold rsN
    rw [wh_a (by decide)]
    exact h4 k hk
theorem gv_eq {u : Nat → Nat} {m : Nat} (h : okV u) (hd : u 4 + m ≤ 2000) : ∀ (r p : Nat) (w : Nat → Nat) (a : Nat) (c : Nat → Nat), RGw u w a c → gvN m r p w = gvX (vlN u m) (u 1) r p a c
  | 0, p, w, a, c, hR => by
    obtain ⟨h1, h2, h3, h4⟩ := hR
    have hu1 := h.2.2.2.1
    have hu0 := h.2.1
    have e0 : w 0 = u 0 := by rw [h2 0 (by decide), vf_o (by decide)]
    have e1 : w 1 = u 1 := by rw [h2 1 (by decide), vf_o (by decide)]
    have e4 : w 4 = u 4 := by rw [h2 4 (by decide), vf_o (by decide)]
    have okm := (ok_dys h1 (n := m) (by omega)).1
    show pop6 (btN (fun t => dysN m w (53 + t) == 2) (w 1)) = vlN u m a c
    rw [e1, pop_pw _ (bt_64 hu1), pw_bt _ (by omega)]
    unfold vlN cnN
    refine sm_congr (fun t ht => ?_)
    have hi := (wh_is okm (k := t) (by rw [dys_lo (by decide) (by decide), e1]; exact ht)).2.1
    obtain ⟨w1, w2, w3⟩ := ok_wh h1 (k := t) (by rw [e1]; exact ht)
    have hpl : whN (dysN m w) t = plQ (vfN u a) t (crI (u 0) (c t) (whN u t)) m := by
      rw [wh_plQ h1 (by rw [e1]; exact ht) m (by omega), h4 t ht]
      rw [h4 t ht] at w1 w2
      exact plQ_agree (u := w) (w := vfN u a) (p := crI (u 0) (c t) (whN u t)) h2 (by rw [h3 _ (by omega) (by omega), vf_o (by omega)]) (by rw [h3 _ (by omega) (by omega), vf_o (by omega)]) (by omega) w1 w2 m
    have e : (dysN m w (53 + t) == 2) = stT u m a (c t) t := by
      unfold stT
      rw [← hpl, Bool.eq_iff_iff]
      simp only [decide_eq_true_eq, beq_iff_eq]
      exact hi.symm
    exact congrArg (fun b : Bool => if b then 1 else 0) e
  | r + 1, p, w, a, c, hR => by
    have e1 : w 1 = u 1 := by rw [hR.2.1 1 (by decide), vf_o (by decide)]
    have i0 := gv_eq h hd r (p + 1) w a c hR
    rw [gvN, gvX]
    by_cases q : p % 2 = 0
    · rw [if_pos q, if_pos q, e1, i0]
      exact leF_congr (fun t _ => gv_eq h hd r (p + 1) _ a _ (RGw_cy hR))
    · rw [if_neg q, if_neg q, i0, gv_eq h hd r (p + 1) _ (a + 1) c (RGw_rs hR)]
theorem cn_T (p : Nat → Bool) {n : Nat} (h : n ≤ 6) : cnN p n ≤ 6 := Nat.le_trans (cn_le p n) h
theorem gvX_le {u : Nat → Nat} {m : Nat} (h1 : u 1 ≤ 6) : ∀ (r p a : Nat) (c : Nat → Nat), gvX (vlN u m) (u 1) r p a c ≤ 6
  | 0, _, _, _ => cn_T _ h1
  | r + 1, p, a, c => by
    have i0 := gvX_le (m := m) h1 r (p + 1) a c
    have i1 := gvX_le (m := m) h1 r (p + 1) (a + 1) c
    rw [gvX]
    split
    · exact Nat.le_trans (leF_le _ _ _) i0
    · exact Nat.max_le.mpr ⟨i0, i1⟩
/-! the program's game -/
def OS (σ σ0 : Sto) (T a : Nat) (c : Nat → Nat) : Prop := (∀ q, q ≠ 21 → q ≠ 25 → σ q = σ0 q) ∧ σ 21 5 = nI T ∧ σ 21 4 = nI a ∧ (∀ t, t < T → σ 25 t = nI (c t)) ∧ ∀ j, T ≤ j → σ 25 j = σ0 25 j
theorem snow_L {σ σ0 : Sto} {u : Nat → Nat} {m a : Nat} {c : Nat → Nat} (h1 : u 1 ≤ 6) (hO : OS σ σ0 (u 1) a c) (ha : a < 3) (hc : ∀ t, c t < 3) (h24 : ∀ a' o' t', a' < 3 → o' < 3 → t' < u 1 → σ0 24 ((a' * 3 + o') * 6 + t') = nI (b1 (stT u m a' o' t'))) : ∀ (q t f : Nat), t + q = u 1 → q < f → fX7_stonesNow_L4 σ f (nI (cnN (fun t => stT u m a (c t) t) t)) (nI t) = some (nI (vlN u m a c)) := by
  intro q
  induction q with
  | zero =>
    intro t f ht hf
    obtain ⟨f, rfl⟩ : ∃ z, f = z + 1 := ⟨f - 1, by omega⟩
    rw [fX7_stonesNow_L4, hO.2.1, if_pos (nI_le (by omega) (by omega)), show t = u 1 by omega]
    rfl
  | succ q ih =>
    intro t f ht hf
    obtain ⟨f, rfl⟩ : ∃ z, f = z + 1 := ⟨f - 1, by omega⟩
    have ih' := ih (t + 1) f (by omega) (by omega)
    have hct := hc t
    have e1 : cnN (fun t => stT u m a (c t) t) (t + 1) = cnN (fun t => stT u m a (c t) t) t + (if stT u m a (c t) t then 1 else 0) := rfl
    rw [fX7_stonesNow_L4, hO.2.1, if_neg (nI_ge (by omega) (by omega)), vin_t (show t < 6 by omega) (by decide), gd_t, nI_clamp (show t < 2 ^ 31 by omega), hO.2.2.1, hO.2.2.2.1 t (by omega), cell_n, vin_t (by omega) (by decide), gd_t, nI_clamp (by omega), hO.1 24 (by decide) (by decide), h24 a (c t) t ha hct (by omega), un_e, un_e, un_e, un_e, n32_1, nI_add, nI_add, Int32.add_zero]
    rw [e1] at ih'
    cases hb : stT u m a (c t) t with
    | false =>
      rw [hb, if_neg (by decide), Nat.add_zero] at ih'
      rw [if_pos (show nI (b1 false) = (0 : Int32) by decide)]
      exact ih'
    | true =>
      rw [hb, if_pos rfl] at ih'
      rw [if_neg (show ¬ nI (b1 true) = (0 : Int32) by decide)]
      exact ih'
theorem maxX {a b : Nat} (ha : a < 2 ^ 31) (hb : b < 2 ^ 31) : (if nI a < nI b then nI b else nI a) = nI (max a b) := by
  by_cases h : a < b
  · rw [if_pos (nI_lt h hb), Nat.max_eq_right (by omega)]
  · rw [if_neg (nI_nlt (by omega) ha), Nat.max_eq_left (by omega)]
theorem aunt_L {σ0 : Sto} {u : Nat → Nat} {m n r p a v0 : Nat} {c : Nat → Nat} (rc : Sto → Int32 → Int32 → Option (Sto × Int32)) (h1 : u 1 ≤ 6) (hv0 : v0 ≤ 6) (hrc : ∀ (c' : Nat → Nat) (σ : Sto), OS σ σ0 (u 1) a c' → (∀ t, c' t ≤ c t + 1) → ∃ σ', rc σ (nI (p + 1)) (nI n) = some (σ', nI (gvX (vlN u m) (u 1) r (p + 1) a c')) ∧ OS σ' σ0 (u 1) a c') : ∀ (q t f : Nat) (σ : Sto), t + q = u 1 → q < f → OS σ σ0 (u 1) a c → ∃ σ', fX7_auntTurn_L12 rc f σ (nI p) (nI n) (nI (leF (fun t => gvX (vlN u m) (u 1) r (p + 1) a (va_up c t (c t + 1))) v0 t)) (nI t) = some (σ', nI (leF (fun t => gvX (vlN u m) (u 1) r (p + 1) a (va_up c t (c t + 1))) v0 (u 1))) ∧ OS σ' σ0 (u 1) a c := by
  intro q
  induction q with
  | zero =>
    intro t f σ ht hf hO
    obtain ⟨f, rfl⟩ : ∃ z, f = z + 1 := ⟨f - 1, by omega⟩
    exact ⟨σ, by rw [fX7_auntTurn_L12, hO.2.1, if_pos (nI_le (by omega) (by omega)), show t = u 1 by omega], hO⟩
  | succ q ih =>
    intro t f σ ht hf hO
    obtain ⟨f, rfl⟩ : ∃ z, f = z + 1 := ⟨f - 1, by omega⟩
    have hle := leF_le (fun t => gvX (vlN u m) (u 1) r (p + 1) a (va_up c t (c t + 1))) v0 t
    have hg := gvX_le (u := u) (m := m) h1 r (p + 1) a (va_up c t (c t + 1))
    have hO1 : OS (up σ 25 t (nI (c t + 1))) σ0 (u 1) a (va_up c t (c t + 1)) := ⟨fun q h21 h25 => by rw [up_k h25, hO.1 q h21 h25], by rw [up_k (by decide)]; exact hO.2.1, by rw [up_k (by decide)]; exact hO.2.2.1, fun k hk => by
      by_cases e : k = t
      · subst e
        rw [up_i, vu_self]
      · rw [up_j e, vu_ne e]
        exact hO.2.2.2.1 k hk, fun j hj => by rw [up_j (by omega)]; exact hO.2.2.2.2 j hj⟩
    obtain ⟨σ1, s1, s2⟩ := hrc _ _ hO1 (fun k => by
      unfold va_up
      split
      · rename_i e
        rw [e]
        omega
      · omega)
    have h25 : σ1 25 t = nI (c t + 1) := by
      have := s2.2.2.2.1 t (by omega)
      rw [vu_self] at this
      exact this
    have hO2 : OS (up σ1 25 t (nI (c t))) σ0 (u 1) a c := ⟨fun q h21 h25 => by rw [up_k h25, s2.1 q h21 h25], by rw [up_k (by decide)]; exact s2.2.1, by rw [up_k (by decide)]; exact s2.2.2.1, fun k hk => by
      by_cases e : k = t
      · subst e
        rw [up_i]
      · rw [up_j e]
        have := s2.2.2.2.1 k hk
        rw [vu_ne e] at this
        exact this, fun j hj => by rw [up_j (by omega)]; exact s2.2.2.2.2 j hj⟩
    obtain ⟨σ', r1, r2⟩ := ih (t + 1) f _ (by omega) (by omega) hO2
    refine ⟨σ', ?_, r2⟩
    rw [fX7_auntTurn_L12, hO.2.1, if_neg (nI_ge (by omega) (by omega)), vin_t (by omega) (by decide), gd_t, nI_clamp (by omega), hO.2.2.2.1 t (by omega), n32_1, nI_add, un_e, nI_add, s1, bd_s]
    dsimp only
    rw [un_e, un_e, un_e, h25, pk_sub (by omega), Nat.add_sub_cancel, minX (by omega) (by omega), nI_add]
    exact r1
theorem outc_X {σ0 : Sto} {u : Nat → Nat} {m n : Nat} (h1 : u 1 ≤ 6) (hn : n ≤ 4) (h24 : ∀ a' o' t', a' < 3 → o' < 3 → t' < u 1 → σ0 24 ((a' * 3 + o') * 6 + t') = nI (b1 (stT u m a' o' t'))) : ∀ (r p d a : Nat) (c : Nat → Nat) (σ : Sto), p + r = n → r < d → a ≤ p / 2 → (∀ t, c t ≤ (p + 1) / 2) → OS σ σ0 (u 1) a c → ∃ σ', fX7_outcomeD d σ (nI p) (nI n) = some (σ', nI (gvX (vlN u m) (u 1) r p a c)) ∧ OS σ' σ0 (u 1) a c := by
  intro r
  induction r with
  | zero =>
    intro p d a c σ hp hd ha hc hO
    obtain ⟨d, rfl⟩ : ∃ z, d = z + 1 := ⟨d - 1, by omega⟩
    refine ⟨σ, ?_, hO⟩
    have hs : fX7_stonesNow σ = some (nI (vlN u m a c)) := by
      unfold fX7_stonesNow
      exact snow_L h1 hO (by omega) (fun t => by have := hc t; omega) h24 (u 1) 0 fu (by omega) (fu_gt (by omega))
    show fX7_outcome (fX7_outcomeD d) σ (nI p) (nI n) = _
    unfold fX7_outcome
    rw [if_neg (nI_nlt (by omega) (by omega)), hs, bd_s]
    rfl
  | succ r ih =>
    intro p d a c σ hp hd ha hc hO
    obtain ⟨d, rfl⟩ : ∃ z, d = z + 1 := ⟨d - 1, by omega⟩
    have hg := gvX_le (u := u) (m := m) h1 r (p + 1) a c
    show ∃ σ', fX7_outcome (fX7_outcomeD d) σ (nI p) (nI n) = _ ∧ _
    unfold fX7_outcome
    rw [if_pos (nI_lt (by omega) (by omega)), irm2 (by omega), gvX]
    obtain ⟨σ1, s1, s2⟩ := ih (p + 1) d a c σ (by omega) (by omega) (by omega) (fun t => by have := hc t; omega) hO
    by_cases q : p % 2 = 0
    · rw [q, if_pos (show nI 0 = (0 : Int32) from rfl), if_pos rfl]
      unfold fX7_auntTurn
      rw [n32_1, nI_add, s1, bd_s]
      dsimp only
      obtain ⟨σ2, t1, t2⟩ := aunt_L (r := r) (p := p) (n := n) (m := m) (c := c) (fX7_outcomeD d) h1 hg (fun c' σ hO' hc' => ih (p + 1) d a c' σ (by omega) (by omega) (by omega) (fun t => by have := hc t; have := hc' t; omega) hO') (u 1) 0 fu σ1 (by omega) (fu_gt (by omega)) s2
      have t1 : fX7_auntTurn_L12 (fX7_outcomeD d) fu σ1 (nI p) (nI n) (nI (gvX (vlN u m) (u 1) r (p + 1) a c)) (0 : Int32) = _ := t1
      rw [t1, bd_s]
      exact ⟨σ2, rfl, t2⟩
    · have hg2 := gvX_le (u := u) (m := m) h1 r (p + 1) (a + 1) c
      rw [show p % 2 = 1 by omega, if_neg (show ¬ nI 1 = (0 : Int32) by decide), if_neg (by decide)]
      unfold fX7_dresserTurn
      have hO1 : OS (up σ1 21 4 (nI (a + 1))) σ0 (u 1) (a + 1) c := ⟨fun q h21 h25 => by rw [up_k h21, s2.1 q h21 h25], by rw [up_j (by decide)]; exact s2.2.1, up_i, fun k hk => by rw [up_k (by decide)]; exact s2.2.2.2.1 k hk, fun j hj => by rw [up_k (by decide)]; exact s2.2.2.2.2 j hj⟩
      obtain ⟨σ2, t1, t2⟩ := ih (p + 1) d (a + 1) c _ (by omega) (by omega) (by omega) (fun t => by have := hc t; omega) hO1
      rw [n32_1, nI_add, s1, bd_s]
      dsimp only
      rw [s2.2.2.1, nI_add, un_e, t1, bd_s]
      dsimp only
      rw [un_e, t2.2.2.1, pk_sub (by omega), Nat.add_sub_cancel, maxX (by omega) (by omega), bd_s]
      exact ⟨up σ2 21 4 (nI a), rfl, fun q h21 h25 => by rw [up_k h21, t2.1 q h21 h25], by rw [up_j (by decide)]; exact t2.2.1, up_i, fun k hk => by rw [up_k (by decide)]; exact t2.2.2.2.1 k hk, fun j hj => by rw [up_k (by decide)]; exact t2.2.2.2.2 j hj⟩
