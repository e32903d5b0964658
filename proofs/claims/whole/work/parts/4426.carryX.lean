/-! what to carry day by day: the program -/
theorem crN_X {σ : Sto} {v R p : Nat} (h0 : σ v 0 = nI R) (hR : R < 100) (hp : p < 50) : fX8_carried σ v (nI p) = nI (crN R p) := carried_X h0 hR hp
theorem pbC_L {σ : Sto} {u : Nat → Nat} {t n s e : Nat} (hx : VX σ 36 u) (h : okV u) (ht : TL σ 15 u e) (hk : t < u 1) (hd : u 4 + e ≤ 2000) (he : e ≤ 24) (h7 : σ 14 7 = nI n) (hn : n ≤ 4) (hs : s < 2 ^ 31) : ∀ (m d f : Nat), d + m = e → m < f → fX1_placeBehind_L11 36 σ f (nI t) (nI s) (nI e) (nI (pcq u t n s d)) (nI d) = some (nI (pcq u t n s e)) := by
  have h0 := h.2.1
  intro m
  induction m with
  | zero =>
    intro d f hd2 hf
    obtain ⟨f, rfl⟩ : ∃ z, f = z + 1 := ⟨f - 1, by omega⟩
    rw [fX1_placeBehind_L11, if_pos (nI_le (by omega) (by omega)), show d = e by omega]
  | succ m ih =>
    intro d f hd2 hf
    obtain ⟨f, rfl⟩ : ∃ z, f = z + 1 := ⟨f - 1, by omega⟩
    have ih' := ih (d + 1) f (by omega) (by omega)
    obtain ⟨b1', b2⟩ := pcq_b (n := n) (s := s) h hk d
    have e1 : pcq u t n s (d + 1) = plN (u 0) (lavN (dysN d u)) (u 4 + d) (u (35 + t)) (u (41 + t)) (if d < n ∧ s / 2 ^ d % 2 = 1 then crN (u 0) (pcq u t n s d) else pcq u t n s d) := rfl
    have hcr : crN (u 0) (pcq u t n s d) < 50 ∧ (crN (u 0) (pcq u t n s d) < 20 → crN (u 0) (pcq u t n s d) < u 0) := by
      unfold crN
      split
      · exact ⟨b1', b2⟩
      · split
        · omega
        · omega
    have hpa : ∀ p, p < 50 → (p < 20 → p < u 0) → fX1_placeBehind_j45 (fX1_placeBehind_L11 36 σ f) 36 σ (nI t) (nI s) (nI e) (nI p) (nI d) = fX1_placeBehind_L11 36 σ f (nI t) (nI s) (nI e) (nI (plN (u 0) (lavN (dysN d u)) (u 4 + d) (u (35 + t)) (u (41 + t)) p)) (nI (d + 1)) := by
      intro p hp hp2
      unfold fX1_placeBehind_j45
      rw [pafter_X hx h ht (by omega) hd (by omega) (by show e * 10 + 10 ≤ 250; omega) (by decide) hk hp hp2, bd_s, un_e, n32_1, nI_add]
    rw [fX1_placeBehind_L11, if_neg (nI_ge (by omega) (by omega)), h7, bit_n (by omega) hs, crN_X (hx.1 0 (by decide)) (by omega) b1', un_e, hpa _ b1' b2, hpa _ hcr.1 hcr.2]
    rw [e1] at ih'
    by_cases c : d < n
    · rw [if_neg (nI_ge c (by omega))]
      by_cases q : s / 2 ^ d % 2 = 1
      · rw [if_pos (show nI (s / 2 ^ d % 2) = (1 : Int32) by rw [q]; rfl)]
        rw [if_pos ⟨c, q⟩] at ih'
        exact ih'
      · rw [if_neg (show ¬ nI (s / 2 ^ d % 2) = (1 : Int32) from fun z => q ((nI_eq (by omega) (by decide)).mp z))]
        rw [if_neg (fun z => q z.2)] at ih'
        exact ih'
    · rw [if_pos (nI_le (by omega) (by omega))]
      rw [if_neg (fun z => c z.1)] at ih'
      exact ih'
theorem pbC_X {σ : Sto} {u : Nat → Nat} {t n s e : Nat} (hx : VX σ 36 u) (h : okV u) (ht : TL σ 15 u e) (hk : t < u 1) (hd : u 4 + e ≤ 2000) (he : e ≤ 24) (h7 : σ 14 7 = nI n) (hn : n ≤ 4) (hs : s < 2 ^ 31) : fX1_placeBehind σ 36 (nI t) (nI s) (nI e) = some (nI (pcq u t n s e)) := by
  have h1 := h.2.2.2.1
  unfold fX1_placeBehind
  rw [vin_t (by omega) (by decide), gd_t, nI_clamp (by omega), un_e, show σ (36 + 6) t = nI (whN u t) from (hx.2.2 t hk).2.2.1]
  exact pbC_L hx h ht hk hd he h7 hn hs e 0 fu (by omega) (fu_gt (by omega))
/-- is thing t stone, carried on the days of s -/
def stC (u : Nat → Nat) (n e t s : Nat) : Bool := decide (30 ≤ pcq u t n s e)
def FA (σ σ0 : Sto) (u : Nat → Nat) (n e t k : Nat) : Prop := (∀ q, q ≠ 17 → σ q = σ0 q) ∧ ∀ t' s, t' < u 1 → s < 2 ^ n → (t' < t ∨ t' = t ∧ s < k) → σ 17 (t' * 16 + s) = nI (b1 (stC u n e t' s))
theorem faL13 {σ0 : Sto} {u : Nat → Nat} {n e t : Nat} (kk : Sto → Int32 → Int32 → Option Sto) (hx : VX σ0 36 u) (h : okV u) (ht : TL σ0 15 u e) (hk : t < u 1) (hd : u 4 + e ≤ 2000) (he : e ≤ 24) (h7 : σ0 14 7 = nI n) (hn : n ≤ 4) : ∀ (m s f : Nat) (σ : Sto), s + m = 2 ^ n → m < f → FA σ σ0 u n e t s → ∃ σ', fX1_followAll_L13 kk 36 f σ (nI e) (nI t) (nI s) = kk σ' (nI e) (nI t) ∧ FA σ' σ0 u n e t (2 ^ n) := by
  have h1 := h.2.2.2.1
  have hn16 : 2 ^ n ≤ 2 ^ 4 := Nat.pow_le_pow_right (by decide) hn
  intro m
  induction m with
  | zero =>
    intro s f σ hs hf hF
    obtain ⟨f, rfl⟩ : ∃ z, f = z + 1 := ⟨f - 1, by omega⟩
    refine ⟨σ, ?_, by rw [show 2 ^ n = s by omega]; exact hF⟩
    rw [fX1_followAll_L13, hF.1 14 (by decide), h7, show (1 : Int32) <<< (nI n &&& (31 : Int32)) = nI (2 ^ n) from shl1_n (by omega), if_pos (nI_le (by omega) (by omega))]
  | succ m ih =>
    intro s f σ hs hf hF
    obtain ⟨f, rfl⟩ : ∃ z, f = z + 1 := ⟨f - 1, by omega⟩
    have hxs : VX σ 36 u := VX_fr hx (fun q _ _ => hF.1 q (by omega))
    have hts : TL σ 15 u e := TL_fr ht (hF.1 16 (by decide))
    have hp := pcq_b (n := n) (s := s) h hk e
    obtain ⟨σ', r1, r2⟩ := ih (s + 1) f (up σ 17 (t * 16 + s) (nI (b1 (stC u n e t s)))) (by omega) (by omega) ⟨fun q hq => by rw [up_k hq, hF.1 q hq], fun t' s' ht' hs' hc => by
      by_cases e1 : t' * 16 + s' = t * 16 + s
      · have e2 : t' = t := by omega
        have e3 : s' = s := by omega
        subst e2
        subst e3
        rw [up_i]
      · rw [up_j e1]
        exact hF.2 t' s' ht' hs' (by omega)⟩
    refine ⟨σ', ?_, r2⟩
    rw [fX1_followAll_L13, hF.1 14 (by decide), h7, show (1 : Int32) <<< (nI n &&& (31 : Int32)) = nI (2 ^ n) from shl1_n (by omega), if_neg (nI_ge (by omega) (by omega)), pbC_X hxs h hts hk hd he (by rw [hF.1 14 (by decide)]; exact h7) hn (by omega), bd_s, n32_16, pk_mul, nI_add, vin_t (by omega) (by decide), gd_t, gd_t, nI_clamp (by omega), un_e, un_e, un_e, un_e, n32_1, nI_add, n32_30, ← r1]
    unfold stC
    by_cases c : 30 ≤ pcq u t n s e
    · rw [if_neg (nI_nlt c (by omega)), decide_eq_true c]
      rfl
    · rw [if_pos (nI_lt (by omega) (by omega)), decide_eq_false c]
      rfl
theorem faL2 {σ0 : Sto} {u : Nat → Nat} {n e : Nat} (hx : VX σ0 36 u) (h : okV u) (ht : TL σ0 15 u e) (hd : u 4 + e ≤ 2000) (he : e ≤ 24) (h6 : σ0 14 6 = nI (u 1)) (h7 : σ0 14 7 = nI n) (hn : n ≤ 4) : ∀ (m t f : Nat) (σ : Sto), t + m = u 1 → m < f → FA σ σ0 u n e t 0 → ∃ σ', fX1_followAll_L2 36 f σ (nI e) (nI t) = some σ' ∧ FA σ' σ0 u n e (u 1) 0 := by
  have h1 := h.2.2.2.1
  have hn16 : 2 ^ n ≤ 2 ^ 4 := Nat.pow_le_pow_right (by decide) hn
  intro m
  induction m with
  | zero =>
    intro t f σ hs hf hF
    obtain ⟨f, rfl⟩ : ∃ z, f = z + 1 := ⟨f - 1, by omega⟩
    refine ⟨σ, ?_, by rw [show u 1 = t by omega] ; exact hF⟩
    rw [fX1_followAll_L2, hF.1 14 (by decide), h6, if_pos (nI_le (by omega) (by omega))]
  | succ m ih =>
    intro t f σ hs hf hF
    obtain ⟨f, rfl⟩ : ∃ z, f = z + 1 := ⟨f - 1, by omega⟩
    obtain ⟨σ1, s1, s2⟩ := faL13 (fun σ_1 z_2 z_3 => un (z_3 + (1 : Int32)) fun x_4 => fX1_followAll_L2 36 f σ_1 z_2 x_4) hx h ht (show t < u 1 by omega) hd he h7 hn (2 ^ n) 0 fu σ (by omega) (fu_gt (by omega)) hF
    obtain ⟨σ', r1, r2⟩ := ih (t + 1) f σ1 (by omega) (by omega) ⟨s2.1, fun t' s' ht' hs' hc => s2.2 t' s' ht' hs' (by omega)⟩
    refine ⟨σ', ?_, r2⟩
    rw [fX1_followAll_L2, hF.1 14 (by decide), h6, if_neg (nI_ge (by omega) (by omega))]
    refine Eq.trans s1 ?_
    rw [un_e, n32_1, nI_add]
    exact r1
/-! the search -/
def wgN (u : Nat → Nat) (n e : Nat) (D : Nat → Nat) : Nat := cnN (fun t => stC u n e t (btN (fun i => D i == t) n)) (u 1)
theorem pop_pw : ∀ b, b < 64 → pop6 b = pw 24 b := by decide +kernel
theorem wg_sg {u : Nat → Nat} {n m c : Nat} (h : okV u) (hd : u 4 + (n + m) ≤ 2000) : wgN u n (n + m) (dg (u 1 + 1) n c) = sgN u n m c := by
  have h1 := h.2.2.2.1
  unfold wgN sgN
  rw [pop_pw _ (bt_64 h1), pw_bt _ (by omega)]
  unfold cnN
  refine sm_congr (fun t ht => ?_)
  have hs : ∀ d, d < n → (btN (fun i => dg (u 1 + 1) n c i == t) n / 2 ^ d % 2 = 1 ↔ dg (u 1 + 1) n c d = t) := fun d hd => by
    rw [bt_bit _ hd]
    by_cases q : dg (u 1 + 1) n c d = t
    · rw [if_pos (by rw [beq_iff_eq]; exact q)]
      exact ⟨fun _ => q, fun _ => rfl⟩
    · rw [if_neg (by rw [beq_iff_eq]; exact q)]
      exact ⟨fun z => absurd z (by decide), fun z => absurd z q⟩
  have hw := swd_wh (D := dg (u 1 + 1) n c) h ht hs m hd
  obtain ⟨a, b, cc, d⟩ := sw_ok (D := dg (u 1 + 1) n c) h (i := n) (by omega)
  have okm := (ok_dys a (n := m) (by omega)).1
  have hi := (wh_is okm (k := t) (by rw [dys_lo (by decide) (by decide), cc]; exact ht)).2.1
  have e : stC u n (n + m) t (btN (fun i => dg (u 1 + 1) n c i == t) n) = (dysN m (swN u (dg (u 1 + 1) n c) n) (53 + t) == 2) := by
    unfold stC
    rw [← hw, Bool.eq_iff_iff]
    simp only [decide_eq_true_eq, beq_iff_eq]
    exact hi
  exact congrArg (fun b : Bool => if b then 1 else 0) e
/-- where the search is: k days are chosen, by the code P; fewest f, by the code b -/
def TF (σ σ0 : Sto) (u : Nat → Nat) (n e k P : Nat) (A : Nat × Nat) : Prop := (∀ q, q ≠ 14 → q ≠ 18 → q ≠ 19 → q ≠ 20 → σ q = σ0 q) ∧ (σ 14 6 = nI (u 1) ∧ σ 14 7 = nI n ∧ σ 14 0 = nI A.1) ∧ (A.1 < 7 → ∀ i, i < n → σ 19 i = nI (dg (u 1 + 1) n A.2 i)) ∧ (∀ i, i < k → σ 18 i = nI (dg (u 1 + 1) k P i)) ∧ (∀ t, t < u 1 → σ 20 t = nI (btN (fun i => dg (u 1 + 1) k P i == t) k)) ∧ (∀ j, u 1 ≤ j → σ 20 j = σ0 20 j)
theorem weigh_L {σ : Sto} {u : Nat → Nat} {n e k : Nat} {D : Nat → Nat} (kk : Sto → Int32 → Option Sto) (h1 : u 1 ≤ 6) (hn : n ≤ 4) (h6 : σ 14 6 = nI (u 1)) (h20 : ∀ t, t < u 1 → σ 20 t = nI (btN (fun i => D i == t) n)) (h17 : ∀ t s, t < u 1 → s < 2 ^ n → σ 17 (t * 16 + s) = nI (b1 (stC u n e t s))) : ∀ (m t f : Nat), t + m = u 1 → m < f → fX1_weigh_L4 kk f σ (nI (cnN (fun t => stC u n e t (btN (fun i => D i == t) n)) t)) (nI t) = kk σ (nI (wgN u n e D)) := by
  have hn16 : 2 ^ n ≤ 2 ^ 4 := Nat.pow_le_pow_right (by decide) hn
  intro m
  induction m with
  | zero =>
    intro t f ht hf
    obtain ⟨f, rfl⟩ : ∃ z, f = z + 1 := ⟨f - 1, by omega⟩
    rw [fX1_weigh_L4, h6, if_pos (nI_le (by omega) (by omega)), show t = u 1 by omega]
    rfl
  | succ m ih =>
    intro t f ht hf
    obtain ⟨f, rfl⟩ : ∃ z, f = z + 1 := ⟨f - 1, by omega⟩
    have ih' := ih (t + 1) f (by omega) (by omega)
    have hbl := bt_lt (fun i => D i == t) n
    have e1 : cnN (fun t => stC u n e t (btN (fun i => D i == t) n)) (t + 1) = cnN (fun t => stC u n e t (btN (fun i => D i == t) n)) t + (if stC u n e t (btN (fun i => D i == t) n) then 1 else 0) := rfl
    rw [fX1_weigh_L4, h6, if_neg (nI_ge (by omega) (by omega)), vin_t (show t < 6 by omega) (by decide), gd_t, nI_clamp (show t < 2 ^ 31 by omega), h20 t (by omega), n32_16, pk_mul, nI_add, vin_t (by omega) (by decide), gd_t, nI_clamp (by omega), h17 t _ (by omega) hbl, un_e, un_e, un_e, un_e, n32_1, nI_add, nI_add, Int32.add_zero]
    rw [e1] at ih'
    cases hb : stC u n e t (btN (fun i => D i == t) n) with
    | false =>
      rw [hb, if_neg (by decide), Nat.add_zero] at ih'
      rw [if_pos (show nI (b1 false) = (0 : Int32) by decide)]
      exact ih'
    | true =>
      rw [hb, if_pos rfl] at ih'
      rw [if_neg (show ¬ nI (b1 true) = (0 : Int32) by decide)]
      exact ih'
theorem weigh_X {σ σ0 : Sto} {u : Nat → Nat} {n m P : Nat} {A : Nat × Nat} (h : okV u) (hn : n ≤ 4) (hd : u 4 + (n + m) ≤ 2000) (hA : A.1 ≤ 7) (h17 : ∀ t s, t < u 1 → s < 2 ^ n → σ0 17 (t * 16 + s) = nI (b1 (stC u n (n + m) t s))) (hT : TF σ σ0 u n (n + m) n P A) : ∃ σ', fX1_weigh σ = some σ' ∧ TF σ' σ0 u n (n + m) n P (stp (sgN u n m) P A) := by
  have h1 := h.2.2.2.1
  obtain ⟨t1, ⟨t6, t7, t0⟩, t2, t3, t4, t5⟩ := hT
  have hs := sg_le u n m P
  have hw := weigh_L (σ := σ) (u := u) (n := n) (e := n + m) (k := n) (D := dg (u 1 + 1) n P) (fun σ_1 z_2 => if (σ_1 14 0) ≤ z_2 then some σ_1 else un (up σ_1 14 0 z_2) fun σ_3 => gd (cpok (0 : Int32) (0 : Int32) (σ_3 14 7) 4 4) (un (cpS σ_3 18 0 19 0 ((σ_3 14 7).toNatClampNeg)) fun σ_5 => some σ_5)) h1 hn t6 t4 (fun t s ht hs => by rw [t1 17 (by decide) (by decide) (by decide) (by decide)]; exact h17 t s ht hs) (u 1) 0 fu (by omega) (fu_gt (by omega))
  rw [wg_sg h hd, t0] at hw
  have hw : fX1_weigh σ = _ := hw
  rw [hw, un_e]
  have e7 : up σ 14 0 (nI (sgN u n m P)) 14 7 = nI n := by rw [up_j (by decide)]; exact t7
  rw [e7, un_e, show cpok (0 : Int32) (0 : Int32) (nI n) 4 4 = true from cpok_t (sp := 0) (dp := 0) (by decide) (by decide) (by omega) (by omega) (by omega), gd_t, nI_clamp (by omega)]
  unfold stp
  by_cases c : A.1 ≤ sgN u n m P
  · rw [if_pos (nI_le c (by omega)), if_pos c]
    exact ⟨σ, rfl, t1, ⟨t6, t7, t0⟩, t2, t3, t4, t5⟩
  · rw [if_neg (nI_ge (by omega) (by omega)), if_neg c]
    refine ⟨_, rfl, fun q q14 q18 q19 q20 => by rw [cpS_ne q19, up_k q14, t1 q q14 q18 q19 q20], ⟨by rw [cpS_ne (by decide), up_j (by decide)]; exact t6, by rw [cpS_ne (by decide)]; exact e7, by rw [cpS_ne (by decide), up_i]⟩, fun _ i hi => ?_, fun i hi => ?_, fun t ht => ?_, fun j hj => ?_⟩
    · rw [cpS_at, cpy0 hi, up_k (by decide)]
      exact t3 i hi
    · rw [cpS_ne (by decide), up_k (by decide)]
      exact t3 i hi
    · rw [cpS_ne (by decide), up_k (by decide)]
      exact t4 t ht
    · rw [cpS_ne (by decide), up_k (by decide)]
      exact t5 j hj
theorem clr_k : ∀ k, k < 4 → ∀ x, x < 2 ^ k → nI (x + 2 ^ k) &&& (nI (2 ^ k) ^^^ (-1 : Int32)) = nI x := by decide +kernel
/-- one more day chosen -/
theorem TF_in {σ σ0 : Sto} {u : Nat → Nat} {n e k P t : Nat} {A : Nat × Nat} (h1 : u 1 ≤ 6) (hk : k < 4) (ht : t < u 1) (hT : TF σ σ0 u n e k P A) : TF (up (up σ 18 k (nI t)) 20 t (nI (btN (fun i => dg (u 1 + 1) k P i == t) k ||| 2 ^ k))) σ0 u n e (k + 1) (P * (u 1 + 1) + t) A := by
  obtain ⟨t1, ⟨t6, t7, t0⟩, t2, t3, t4, t5⟩ := hT
  have hlo : ∀ i, i < k → dg (u 1 + 1) (k + 1) (P * (u 1 + 1) + t) i = dg (u 1 + 1) k P i := fun i hi => dg_lo (by omega) (by omega) hi
  have hhi : dg (u 1 + 1) (k + 1) (P * (u 1 + 1) + t) k = t := dg_hi (by omega)
  have hbt : ∀ t', btN (fun i => dg (u 1 + 1) (k + 1) (P * (u 1 + 1) + t) i == t') k = btN (fun i => dg (u 1 + 1) k P i == t') k := fun t' => bt_congr (fun i hi => by rw [hlo i hi])
  refine ⟨fun q q14 q18 q19 q20 => by rw [up_k q20, up_k q18, t1 q q14 q18 q19 q20], ⟨by rw [up_k (by decide), up_k (by decide)]; exact t6, by rw [up_k (by decide), up_k (by decide)]; exact t7, by rw [up_k (by decide), up_k (by decide)]; exact t0⟩, fun hA i hi => by rw [up_k (by decide), up_k (by decide)]; exact t2 hA i hi, fun i hi => ?_, fun t' ht' => ?_, fun j hj => ?_⟩
  · rw [up_k (by decide)]
    by_cases c : i = k
    · subst c
      rw [up_i, hhi]
    · rw [up_j c, hlo i (by omega)]
      exact t3 i (by omega)
  · by_cases c : t' = t
    · subst c
      rw [up_i, ← bt_or _ k (by rw [hhi]; exact beq_self_eq_true t'), hbt]
    · rw [up_j c, up_k (by decide), ← bt_no _ k (by rw [hhi]; exact beq_eq_false_iff_ne.mpr (Ne.symm c)), hbt]
      exact t4 t' ht'
  · rw [up_j (by omega), up_k (by decide)]
    exact t5 j hj
theorem TF_none {σ σ0 : Sto} {u : Nat → Nat} {n e k P : Nat} {A : Nat × Nat} (h1 : u 1 ≤ 6) (hk : k < 4) (hT : TF σ σ0 u n e k P A) : TF (up σ 18 k (nI (u 1))) σ0 u n e (k + 1) (P * (u 1 + 1) + u 1) A := by
  obtain ⟨t1, ⟨t6, t7, t0⟩, t2, t3, t4, t5⟩ := hT
  have hlo : ∀ i, i < k → dg (u 1 + 1) (k + 1) (P * (u 1 + 1) + u 1) i = dg (u 1 + 1) k P i := fun i hi => dg_lo (by omega) (by omega) hi
  have hhi : dg (u 1 + 1) (k + 1) (P * (u 1 + 1) + u 1) k = u 1 := dg_hi (by omega)
  have hbt : ∀ t', btN (fun i => dg (u 1 + 1) (k + 1) (P * (u 1 + 1) + u 1) i == t') k = btN (fun i => dg (u 1 + 1) k P i == t') k := fun t' => bt_congr (fun i hi => by rw [hlo i hi])
  refine ⟨fun q q14 q18 q19 q20 => by rw [up_k q18, t1 q q14 q18 q19 q20], ⟨by rw [up_k (by decide)]; exact t6, by rw [up_k (by decide)]; exact t7, by rw [up_k (by decide)]; exact t0⟩, fun hA i hi => by rw [up_k (by decide)]; exact t2 hA i hi, fun i hi => ?_, fun t' ht' => ?_, fun j hj => ?_⟩
  · by_cases c : i = k
    · subst c
      rw [up_i, hhi]
    · rw [up_j c, hlo i (by omega)]
      exact t3 i (by omega)
  · rw [up_k (by decide), ← bt_no _ k (by rw [hhi]; exact beq_eq_false_iff_ne.mpr (by omega)), hbt]
    exact t4 t' ht'
  · rw [up_k (by decide)]
    exact t5 j hj
/-- .. and taken back -/
theorem TF_out {σ σ0 : Sto} {u : Nat → Nat} {n e k P t : Nat} {A : Nat × Nat} (h1 : u 1 ≤ 6) (hk : k < 4) (ht : t < u 1) (hT : TF σ σ0 u n e (k + 1) (P * (u 1 + 1) + t) A) : TF (up σ 20 t ((σ 20 t) &&& (nI (2 ^ k) ^^^ (-1 : Int32)))) σ0 u n e k P A := by
  obtain ⟨t1, ⟨t6, t7, t0⟩, t2, t3, t4, t5⟩ := hT
  have hlo : ∀ i, i < k → dg (u 1 + 1) (k + 1) (P * (u 1 + 1) + t) i = dg (u 1 + 1) k P i := fun i hi => dg_lo (by omega) (by omega) hi
  have hhi : dg (u 1 + 1) (k + 1) (P * (u 1 + 1) + t) k = t := dg_hi (by omega)
  have hbt : ∀ t', btN (fun i => dg (u 1 + 1) (k + 1) (P * (u 1 + 1) + t) i == t') k = btN (fun i => dg (u 1 + 1) k P i == t') k := fun t' => bt_congr (fun i hi => by rw [hlo i hi])
  have h20 : σ 20 t = nI (btN (fun i => dg (u 1 + 1) k P i == t) k + 2 ^ k) := by
    rw [t4 t ht]
    show nI (btN (fun i => dg (u 1 + 1) (k + 1) (P * (u 1 + 1) + t) i == t) k + (if (dg (u 1 + 1) (k + 1) (P * (u 1 + 1) + t) k == t) then 2 ^ k else 0)) = _
    rw [hhi, if_pos (beq_self_eq_true t), hbt]
  refine ⟨fun q q14 q18 q19 q20 => by rw [up_k q20, t1 q q14 q18 q19 q20], ⟨by rw [up_k (by decide)]; exact t6, by rw [up_k (by decide)]; exact t7, by rw [up_k (by decide)]; exact t0⟩, fun hA i hi => by rw [up_k (by decide)]; exact t2 hA i hi, fun i hi => ?_, fun t' ht' => ?_, fun j hj => ?_⟩
  · rw [up_k (by decide), ← hlo i hi]
    exact t3 i (by omega)
  · by_cases c : t' = t
    · subst c
      rw [up_i, h20, clr_k k hk _ (bt_lt _ k)]
    · rw [up_j c, t4 t' ht', ← hbt t', bt_no _ k (by rw [hhi]; exact beq_eq_false_iff_ne.mpr (Ne.symm c))]
  · rw [up_j (by omega)]
    exact t5 j hj
